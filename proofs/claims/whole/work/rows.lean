section
-- ===== PART A: goes FIRST, ahead of the names: the tables' words, and 'selects' of the private methods out of them =====
/-- a private method of a class that the tables say can be made, by its rows of tables_1 -/
def lw_okq (q : MethodName × Nat) : Prop := (q.1.cls ≠ "java/lang/invoke/MethodHandle" ∧ q.1.cls ≠ "java/lang/invoke/VarHandle") ∧ Cond.instantiable q.1.cls q.2 ∈ tables_1 ∧ Cond.privateMethod q.1 ∈ tables_1 ∧ Cond.instanceMethod q.1 ∈ tables_1
theorem lw_p0 : lw_okq (⟨"PuzzleRegistry", "rateTeams", "()V"⟩, 12) := ⟨⟨by decide +kernel, by decide +kernel⟩, List.mem_of_getElem? (i := 19) (by decide +kernel), List.mem_of_getElem? (i := 198) (by decide +kernel), List.mem_of_getElem? (i := 199) (by decide +kernel)⟩
theorem lw_p1 : lw_okq (⟨"PuzzleRegistry", "countingSet", "(LPuzzleRegistry$Records;I)I"⟩, 12) := ⟨⟨by decide +kernel, by decide +kernel⟩, List.mem_of_getElem? (i := 19) (by decide +kernel), List.mem_of_getElem? (i := 202) (by decide +kernel), List.mem_of_getElem? (i := 203) (by decide +kernel)⟩
theorem lw_p2 : lw_okq (⟨"PuzzleRegistry", "voidSet", "(LPuzzleRegistry$Records;I)I"⟩, 12) := ⟨⟨by decide +kernel, by decide +kernel⟩, List.mem_of_getElem? (i := 19) (by decide +kernel), List.mem_of_getElem? (i := 206) (by decide +kernel), List.mem_of_getElem? (i := 207) (by decide +kernel)⟩
theorem lw_p3 : lw_okq (⟨"PuzzleRegistry", "cheatedSet", "(LPuzzleRegistry$Records;I)I"⟩, 12) := ⟨⟨by decide +kernel, by decide +kernel⟩, List.mem_of_getElem? (i := 19) (by decide +kernel), List.mem_of_getElem? (i := 210) (by decide +kernel), List.mem_of_getElem? (i := 211) (by decide +kernel)⟩
theorem lw_p4 : lw_okq (⟨"PuzzleRegistry$Judge", "links", "(III)Z"⟩, 3) := ⟨⟨by decide +kernel, by decide +kernel⟩, List.mem_of_getElem? (i := 104) (by decide +kernel), List.mem_of_getElem? (i := 217) (by decide +kernel), List.mem_of_getElem? (i := 218) (by decide +kernel)⟩
theorem lw_p5 : lw_okq (⟨"PuzzleRegistry$Riddles", "spread", "(I)I"⟩, 7) := ⟨⟨by decide +kernel, by decide +kernel⟩, List.mem_of_getElem? (i := 27) (by decide +kernel), List.mem_of_getElem? (i := 224) (by decide +kernel), List.mem_of_getElem? (i := 225) (by decide +kernel)⟩
theorem lw_p6 : lw_okq (⟨"PuzzleRegistry", "freeSet", "(LPuzzleRegistry$Records;)I"⟩, 12) := ⟨⟨by decide +kernel, by decide +kernel⟩, List.mem_of_getElem? (i := 19) (by decide +kernel), List.mem_of_getElem? (i := 231) (by decide +kernel), List.mem_of_getElem? (i := 232) (by decide +kernel)⟩
theorem lw_p7 : lw_okq (⟨"PuzzleRegistry", "sumUp", "(LPuzzleRegistry$Records;II)I"⟩, 12) := ⟨⟨by decide +kernel, by decide +kernel⟩, List.mem_of_getElem? (i := 19) (by decide +kernel), List.mem_of_getElem? (i := 235) (by decide +kernel), List.mem_of_getElem? (i := 236) (by decide +kernel)⟩
theorem lw_p8 : lw_okq (⟨"PuzzleRegistry$Records", "lastSolveMinute", "(II)I"⟩, 6) := ⟨⟨by decide +kernel, by decide +kernel⟩, List.mem_of_getElem? (i := 122) (by decide +kernel), List.mem_of_getElem? (i := 243) (by decide +kernel), List.mem_of_getElem? (i := 244) (by decide +kernel)⟩
theorem lw_p9 : lw_okq (⟨"PuzzleRegistry", "countBetter", "(I)I"⟩, 12) := ⟨⟨by decide +kernel, by decide +kernel⟩, List.mem_of_getElem? (i := 19) (by decide +kernel), List.mem_of_getElem? (i := 252) (by decide +kernel), List.mem_of_getElem? (i := 253) (by decide +kernel)⟩
theorem lw_p10 : lw_okq (⟨"PuzzleRegistry", "countAlike", "(II)I"⟩, 12) := ⟨⟨by decide +kernel, by decide +kernel⟩, List.mem_of_getElem? (i := 19) (by decide +kernel), List.mem_of_getElem? (i := 256) (by decide +kernel), List.mem_of_getElem? (i := 257) (by decide +kernel)⟩
theorem lw_p11 : lw_okq (⟨"java/lang/Throwable", "fillInStackTrace", "(I)Ljava/lang/Throwable;"⟩, 6) := ⟨⟨by decide +kernel, by decide +kernel⟩, List.mem_of_getElem? (i := 311) (by decide +kernel), List.mem_of_getElem? (i := 309) (by decide +kernel), List.mem_of_getElem? (i := 310) (by decide +kernel)⟩
theorem lw_p12 : lw_okq (⟨"PuzzleRegistry$Riddles", "append", "(IIII)I"⟩, 7) := ⟨⟨by decide +kernel, by decide +kernel⟩, List.mem_of_getElem? (i := 27) (by decide +kernel), List.mem_of_getElem? (i := 365) (by decide +kernel), List.mem_of_getElem? (i := 366) (by decide +kernel)⟩
theorem lw_p13 : lw_okq (⟨"PuzzleRegistry", "requireRiddle", "(I)V"⟩, 12) := ⟨⟨by decide +kernel, by decide +kernel⟩, List.mem_of_getElem? (i := 19) (by decide +kernel), List.mem_of_getElem? (i := 377) (by decide +kernel), List.mem_of_getElem? (i := 378) (by decide +kernel)⟩
theorem lw_p14 : lw_okq (⟨"PuzzleRegistry", "requireTeam", "(I)V"⟩, 12) := ⟨⟨by decide +kernel, by decide +kernel⟩, List.mem_of_getElem? (i := 19) (by decide +kernel), List.mem_of_getElem? (i := 429) (by decide +kernel), List.mem_of_getElem? (i := 430) (by decide +kernel)⟩
theorem lw_p15 : lw_okq (⟨"PuzzleRegistry", "isUnderWay", "(II)Z"⟩, 12) := ⟨⟨by decide +kernel, by decide +kernel⟩, List.mem_of_getElem? (i := 19) (by decide +kernel), List.mem_of_getElem? (i := 434) (by decide +kernel), List.mem_of_getElem? (i := 435) (by decide +kernel)⟩
def lw_privs_1 : List (MethodName × Nat) := [(⟨"PuzzleRegistry", "rateTeams", "()V"⟩, 12), (⟨"PuzzleRegistry", "countingSet", "(LPuzzleRegistry$Records;I)I"⟩, 12), (⟨"PuzzleRegistry", "voidSet", "(LPuzzleRegistry$Records;I)I"⟩, 12), (⟨"PuzzleRegistry", "cheatedSet", "(LPuzzleRegistry$Records;I)I"⟩, 12), (⟨"PuzzleRegistry$Judge", "links", "(III)Z"⟩, 3), (⟨"PuzzleRegistry$Riddles", "spread", "(I)I"⟩, 7), (⟨"PuzzleRegistry", "freeSet", "(LPuzzleRegistry$Records;)I"⟩, 12), (⟨"PuzzleRegistry", "sumUp", "(LPuzzleRegistry$Records;II)I"⟩, 12), (⟨"PuzzleRegistry$Records", "lastSolveMinute", "(II)I"⟩, 6), (⟨"PuzzleRegistry", "countBetter", "(I)I"⟩, 12), (⟨"PuzzleRegistry", "countAlike", "(II)I"⟩, 12), (⟨"java/lang/Throwable", "fillInStackTrace", "(I)Ljava/lang/Throwable;"⟩, 6), (⟨"PuzzleRegistry$Riddles", "append", "(IIII)I"⟩, 7), (⟨"PuzzleRegistry", "requireRiddle", "(I)V"⟩, 12), (⟨"PuzzleRegistry", "requireTeam", "(I)V"⟩, 12), (⟨"PuzzleRegistry", "isUnderWay", "(II)Z"⟩, 12)]
theorem lw_r1 : ∀ q ∈ lw_privs_1, lw_okq q := List.forall_mem_cons.mpr ⟨lw_p0, List.forall_mem_cons.mpr ⟨lw_p1, List.forall_mem_cons.mpr ⟨lw_p2, List.forall_mem_cons.mpr ⟨lw_p3, List.forall_mem_cons.mpr ⟨lw_p4, List.forall_mem_cons.mpr ⟨lw_p5, List.forall_mem_cons.mpr ⟨lw_p6, List.forall_mem_cons.mpr ⟨lw_p7, List.forall_mem_cons.mpr ⟨lw_p8, List.forall_mem_cons.mpr ⟨lw_p9, List.forall_mem_cons.mpr ⟨lw_p10, List.forall_mem_cons.mpr ⟨lw_p11, List.forall_mem_cons.mpr ⟨lw_p12, List.forall_mem_cons.mpr ⟨lw_p13, List.forall_mem_cons.mpr ⟨lw_p14, List.forall_mem_cons.mpr ⟨lw_p15, fun _ h => absurd h List.not_mem_nil⟩⟩⟩⟩⟩⟩⟩⟩⟩⟩⟩⟩⟩⟩⟩⟩
theorem lw_p16 : lw_okq (⟨"PuzzleRegistry", "openMinute", "(LPuzzleRegistry$Records;II)I"⟩, 12) := ⟨⟨by decide +kernel, by decide +kernel⟩, List.mem_of_getElem? (i := 19) (by decide +kernel), List.mem_of_getElem? (i := 438) (by decide +kernel), List.mem_of_getElem? (i := 439) (by decide +kernel)⟩
theorem lw_p17 : lw_okq (⟨"PuzzleRegistry", "noteSolved", "(LPuzzleRegistry$Records;III)V"⟩, 12) := ⟨⟨by decide +kernel, by decide +kernel⟩, List.mem_of_getElem? (i := 19) (by decide +kernel), List.mem_of_getElem? (i := 443) (by decide +kernel), List.mem_of_getElem? (i := 444) (by decide +kernel)⟩
theorem lw_p18 : lw_okq (⟨"PuzzleRegistry$Records", "solve", "(IIIZ)V"⟩, 6) := ⟨⟨by decide +kernel, by decide +kernel⟩, List.mem_of_getElem? (i := 122) (by decide +kernel), List.mem_of_getElem? (i := 447) (by decide +kernel), List.mem_of_getElem? (i := 448) (by decide +kernel)⟩
theorem lw_p19 : lw_okq (⟨"PuzzleRegistry", "noteWrong", "(III)V"⟩, 12) := ⟨⟨by decide +kernel, by decide +kernel⟩, List.mem_of_getElem? (i := 19) (by decide +kernel), List.mem_of_getElem? (i := 452) (by decide +kernel), List.mem_of_getElem? (i := 453) (by decide +kernel)⟩
theorem lw_p20 : lw_okq (⟨"PuzzleRegistry$Answers", "giversOf", "(II)I"⟩, 5) := ⟨⟨by decide +kernel, by decide +kernel⟩, List.mem_of_getElem? (i := 62) (by decide +kernel), List.mem_of_getElem? (i := 456) (by decide +kernel), List.mem_of_getElem? (i := 457) (by decide +kernel)⟩
theorem lw_p21 : lw_okq (⟨"PuzzleRegistry$Records", "noteCommon", "(III)V"⟩, 6) := ⟨⟨by decide +kernel, by decide +kernel⟩, List.mem_of_getElem? (i := 122) (by decide +kernel), List.mem_of_getElem? (i := 461) (by decide +kernel), List.mem_of_getElem? (i := 462) (by decide +kernel)⟩
theorem lw_p22 : lw_okq (⟨"PuzzleRegistry$Answers", "append", "(IIII)V"⟩, 5) := ⟨⟨by decide +kernel, by decide +kernel⟩, List.mem_of_getElem? (i := 62) (by decide +kernel), List.mem_of_getElem? (i := 466) (by decide +kernel), List.mem_of_getElem? (i := 467) (by decide +kernel)⟩
theorem lw_p23 : lw_okq (⟨"PuzzleRegistry", "hasHintsLeft", "(II)Z"⟩, 12) := ⟨⟨by decide +kernel, by decide +kernel⟩, List.mem_of_getElem? (i := 19) (by decide +kernel), List.mem_of_getElem? (i := 477) (by decide +kernel), List.mem_of_getElem? (i := 478) (by decide +kernel)⟩
theorem lw_p24 : lw_okq (⟨"PuzzleRegistry", "nextPrice", "(II)I"⟩, 12) := ⟨⟨by decide +kernel, by decide +kernel⟩, List.mem_of_getElem? (i := 19) (by decide +kernel), List.mem_of_getElem? (i := 482) (by decide +kernel), List.mem_of_getElem? (i := 483) (by decide +kernel)⟩
theorem lw_p25 : lw_okq (⟨"PuzzleRegistry$Sales", "countBuyers", "(II)I"⟩, 2) := ⟨⟨by decide +kernel, by decide +kernel⟩, List.mem_of_getElem? (i := 89) (by decide +kernel), List.mem_of_getElem? (i := 486) (by decide +kernel), List.mem_of_getElem? (i := 487) (by decide +kernel)⟩
theorem lw_p26 : lw_okq (⟨"PuzzleRegistry$Sales", "append", "(III)V"⟩, 2) := ⟨⟨by decide +kernel, by decide +kernel⟩, List.mem_of_getElem? (i := 89) (by decide +kernel), List.mem_of_getElem? (i := 492) (by decide +kernel), List.mem_of_getElem? (i := 493) (by decide +kernel)⟩
theorem lw_p27 : lw_okq (⟨"PuzzleRegistry$Records", "pay", "(III)V"⟩, 6) := ⟨⟨by decide +kernel, by decide +kernel⟩, List.mem_of_getElem? (i := 122) (by decide +kernel), List.mem_of_getElem? (i := 499) (by decide +kernel), List.mem_of_getElem? (i := 500) (by decide +kernel)⟩
theorem lw_p28 : lw_okq (⟨"PuzzleRegistry$Judge", "switchPardon", "(II)Z"⟩, 3) := ⟨⟨by decide +kernel, by decide +kernel⟩, List.mem_of_getElem? (i := 104) (by decide +kernel), List.mem_of_getElem? (i := 557) (by decide +kernel), List.mem_of_getElem? (i := 558) (by decide +kernel)⟩
theorem lw_p29 : lw_okq (⟨"PuzzleRegistry$Riddles", "hangingOn", "(I)I"⟩, 7) := ⟨⟨by decide +kernel, by decide +kernel⟩, List.mem_of_getElem? (i := 27) (by decide +kernel), List.mem_of_getElem? (i := 611) (by decide +kernel), List.mem_of_getElem? (i := 612) (by decide +kernel)⟩
theorem lw_p30 : lw_okq (⟨"PuzzleRegistry$Records", "wipe", "()V"⟩, 6) := ⟨⟨by decide +kernel, by decide +kernel⟩, List.mem_of_getElem? (i := 122) (by decide +kernel), List.mem_of_getElem? (i := 630) (by decide +kernel), List.mem_of_getElem? (i := 631) (by decide +kernel)⟩
theorem lw_p31 : lw_okq (⟨"PuzzleRegistry", "replaySolutions", "()V"⟩, 12) := ⟨⟨by decide +kernel, by decide +kernel⟩, List.mem_of_getElem? (i := 19) (by decide +kernel), List.mem_of_getElem? (i := 637) (by decide +kernel), List.mem_of_getElem? (i := 638) (by decide +kernel)⟩
def lw_privs_2 : List (MethodName × Nat) := [(⟨"PuzzleRegistry", "openMinute", "(LPuzzleRegistry$Records;II)I"⟩, 12), (⟨"PuzzleRegistry", "noteSolved", "(LPuzzleRegistry$Records;III)V"⟩, 12), (⟨"PuzzleRegistry$Records", "solve", "(IIIZ)V"⟩, 6), (⟨"PuzzleRegistry", "noteWrong", "(III)V"⟩, 12), (⟨"PuzzleRegistry$Answers", "giversOf", "(II)I"⟩, 5), (⟨"PuzzleRegistry$Records", "noteCommon", "(III)V"⟩, 6), (⟨"PuzzleRegistry$Answers", "append", "(IIII)V"⟩, 5), (⟨"PuzzleRegistry", "hasHintsLeft", "(II)Z"⟩, 12), (⟨"PuzzleRegistry", "nextPrice", "(II)I"⟩, 12), (⟨"PuzzleRegistry$Sales", "countBuyers", "(II)I"⟩, 2), (⟨"PuzzleRegistry$Sales", "append", "(III)V"⟩, 2), (⟨"PuzzleRegistry$Records", "pay", "(III)V"⟩, 6), (⟨"PuzzleRegistry$Judge", "switchPardon", "(II)Z"⟩, 3), (⟨"PuzzleRegistry$Riddles", "hangingOn", "(I)I"⟩, 7), (⟨"PuzzleRegistry$Records", "wipe", "()V"⟩, 6), (⟨"PuzzleRegistry", "replaySolutions", "()V"⟩, 12)]
theorem lw_r2 : ∀ q ∈ lw_privs_2, lw_okq q := List.forall_mem_cons.mpr ⟨lw_p16, List.forall_mem_cons.mpr ⟨lw_p17, List.forall_mem_cons.mpr ⟨lw_p18, List.forall_mem_cons.mpr ⟨lw_p19, List.forall_mem_cons.mpr ⟨lw_p20, List.forall_mem_cons.mpr ⟨lw_p21, List.forall_mem_cons.mpr ⟨lw_p22, List.forall_mem_cons.mpr ⟨lw_p23, List.forall_mem_cons.mpr ⟨lw_p24, List.forall_mem_cons.mpr ⟨lw_p25, List.forall_mem_cons.mpr ⟨lw_p26, List.forall_mem_cons.mpr ⟨lw_p27, List.forall_mem_cons.mpr ⟨lw_p28, List.forall_mem_cons.mpr ⟨lw_p29, List.forall_mem_cons.mpr ⟨lw_p30, List.forall_mem_cons.mpr ⟨lw_p31, fun _ h => absurd h List.not_mem_nil⟩⟩⟩⟩⟩⟩⟩⟩⟩⟩⟩⟩⟩⟩⟩⟩
theorem lw_p32 : lw_okq (⟨"PuzzleRegistry", "isRight", "(I)Z"⟩, 12) := ⟨⟨by decide +kernel, by decide +kernel⟩, List.mem_of_getElem? (i := 19) (by decide +kernel), List.mem_of_getElem? (i := 641) (by decide +kernel), List.mem_of_getElem? (i := 642) (by decide +kernel)⟩
theorem lw_p33 : lw_okq (⟨"PuzzleRegistry", "comparePairs", "(I)V"⟩, 12) := ⟨⟨by decide +kernel, by decide +kernel⟩, List.mem_of_getElem? (i := 19) (by decide +kernel), List.mem_of_getElem? (i := 645) (by decide +kernel), List.mem_of_getElem? (i := 646) (by decide +kernel)⟩
theorem lw_p34 : lw_okq (⟨"PuzzleRegistry$Answers", "isRepeated", "(I)Z"⟩, 5) := ⟨⟨by decide +kernel, by decide +kernel⟩, List.mem_of_getElem? (i := 62) (by decide +kernel), List.mem_of_getElem? (i := 649) (by decide +kernel), List.mem_of_getElem? (i := 650) (by decide +kernel)⟩
theorem lw_p35 : lw_okq (⟨"PuzzleRegistry$Answers", "areSame", "(II)Z"⟩, 5) := ⟨⟨by decide +kernel, by decide +kernel⟩, List.mem_of_getElem? (i := 62) (by decide +kernel), List.mem_of_getElem? (i := 653) (by decide +kernel), List.mem_of_getElem? (i := 654) (by decide +kernel)⟩
theorem lw_p36 : lw_okq (⟨"PuzzleRegistry", "compareWithOthers", "(I)V"⟩, 12) := ⟨⟨by decide +kernel, by decide +kernel⟩, List.mem_of_getElem? (i := 19) (by decide +kernel), List.mem_of_getElem? (i := 657) (by decide +kernel), List.mem_of_getElem? (i := 658) (by decide +kernel)⟩
theorem lw_p37 : lw_okq (⟨"PuzzleRegistry", "replaySales", "(I)V"⟩, 12) := ⟨⟨by decide +kernel, by decide +kernel⟩, List.mem_of_getElem? (i := 19) (by decide +kernel), List.mem_of_getElem? (i := 662) (by decide +kernel), List.mem_of_getElem? (i := 663) (by decide +kernel)⟩
theorem lw_p38 : lw_okq (⟨"PuzzleRegistry", "sumPrizes", "(II)I"⟩, 12) := ⟨⟨by decide +kernel, by decide +kernel⟩, List.mem_of_getElem? (i := 19) (by decide +kernel), List.mem_of_getElem? (i := 689) (by decide +kernel), List.mem_of_getElem? (i := 690) (by decide +kernel)⟩
theorem lw_p39 : lw_okq (⟨"PuzzleRegistryModel", "goes", "(I)Z"⟩, 22) := ⟨⟨by decide +kernel, by decide +kernel⟩, List.mem_of_getElem? (i := 693) (by decide +kernel), List.mem_of_getElem? (i := 778) (by decide +kernel), List.mem_of_getElem? (i := 779) (by decide +kernel)⟩
theorem lw_p40 : lw_okq (⟨"PuzzleRegistryModel", "isRiddle", "(I)Z"⟩, 22) := ⟨⟨by decide +kernel, by decide +kernel⟩, List.mem_of_getElem? (i := 693) (by decide +kernel), List.mem_of_getElem? (i := 794) (by decide +kernel), List.mem_of_getElem? (i := 795) (by decide +kernel)⟩
theorem lw_p41 : lw_okq (⟨"PuzzleRegistryModel", "doesNeed", "(II)Z"⟩, 22) := ⟨⟨by decide +kernel, by decide +kernel⟩, List.mem_of_getElem? (i := 693) (by decide +kernel), List.mem_of_getElem? (i := 798) (by decide +kernel), List.mem_of_getElem? (i := 799) (by decide +kernel)⟩
theorem lw_p42 : lw_okq (⟨"PuzzleRegistryModel", "isTouched", "(I)Z"⟩, 22) := ⟨⟨by decide +kernel, by decide +kernel⟩, List.mem_of_getElem? (i := 693) (by decide +kernel), List.mem_of_getElem? (i := 802) (by decide +kernel), List.mem_of_getElem? (i := 803) (by decide +kernel)⟩
theorem lw_p43 : lw_okq (⟨"PuzzleRegistryModel", "isOpenToAll", "(I)Z"⟩, 22) := ⟨⟨by decide +kernel, by decide +kernel⟩, List.mem_of_getElem? (i := 693) (by decide +kernel), List.mem_of_getElem? (i := 820) (by decide +kernel), List.mem_of_getElem? (i := 821) (by decide +kernel)⟩
theorem lw_p44 : lw_okq (⟨"PuzzleRegistryModel", "wrong", "(II)I"⟩, 22) := ⟨⟨by decide +kernel, by decide +kernel⟩, List.mem_of_getElem? (i := 693) (by decide +kernel), List.mem_of_getElem? (i := 828) (by decide +kernel), List.mem_of_getElem? (i := 829) (by decide +kernel)⟩
theorem lw_p45 : lw_okq (⟨"PuzzleRegistryModel", "isTeam", "(I)Z"⟩, 22) := ⟨⟨by decide +kernel, by decide +kernel⟩, List.mem_of_getElem? (i := 693) (by decide +kernel), List.mem_of_getElem? (i := 832) (by decide +kernel), List.mem_of_getElem? (i := 833) (by decide +kernel)⟩
theorem lw_p46 : lw_okq (⟨"PuzzleRegistryModel", "isDone", "(II)Z"⟩, 22) := ⟨⟨by decide +kernel, by decide +kernel⟩, List.mem_of_getElem? (i := 693) (by decide +kernel), List.mem_of_getElem? (i := 836) (by decide +kernel), List.mem_of_getElem? (i := 837) (by decide +kernel)⟩
theorem lw_p47 : lw_okq (⟨"PuzzleRegistryModel", "opened", "(II)I"⟩, 22) := ⟨⟨by decide +kernel, by decide +kernel⟩, List.mem_of_getElem? (i := 693) (by decide +kernel), List.mem_of_getElem? (i := 840) (by decide +kernel), List.mem_of_getElem? (i := 841) (by decide +kernel)⟩
def lw_privs_3 : List (MethodName × Nat) := [(⟨"PuzzleRegistry", "isRight", "(I)Z"⟩, 12), (⟨"PuzzleRegistry", "comparePairs", "(I)V"⟩, 12), (⟨"PuzzleRegistry$Answers", "isRepeated", "(I)Z"⟩, 5), (⟨"PuzzleRegistry$Answers", "areSame", "(II)Z"⟩, 5), (⟨"PuzzleRegistry", "compareWithOthers", "(I)V"⟩, 12), (⟨"PuzzleRegistry", "replaySales", "(I)V"⟩, 12), (⟨"PuzzleRegistry", "sumPrizes", "(II)I"⟩, 12), (⟨"PuzzleRegistryModel", "goes", "(I)Z"⟩, 22), (⟨"PuzzleRegistryModel", "isRiddle", "(I)Z"⟩, 22), (⟨"PuzzleRegistryModel", "doesNeed", "(II)Z"⟩, 22), (⟨"PuzzleRegistryModel", "isTouched", "(I)Z"⟩, 22), (⟨"PuzzleRegistryModel", "isOpenToAll", "(I)Z"⟩, 22), (⟨"PuzzleRegistryModel", "wrong", "(II)I"⟩, 22), (⟨"PuzzleRegistryModel", "isTeam", "(I)Z"⟩, 22), (⟨"PuzzleRegistryModel", "isDone", "(II)Z"⟩, 22), (⟨"PuzzleRegistryModel", "opened", "(II)I"⟩, 22)]
theorem lw_r3 : ∀ q ∈ lw_privs_3, lw_okq q := List.forall_mem_cons.mpr ⟨lw_p32, List.forall_mem_cons.mpr ⟨lw_p33, List.forall_mem_cons.mpr ⟨lw_p34, List.forall_mem_cons.mpr ⟨lw_p35, List.forall_mem_cons.mpr ⟨lw_p36, List.forall_mem_cons.mpr ⟨lw_p37, List.forall_mem_cons.mpr ⟨lw_p38, List.forall_mem_cons.mpr ⟨lw_p39, List.forall_mem_cons.mpr ⟨lw_p40, List.forall_mem_cons.mpr ⟨lw_p41, List.forall_mem_cons.mpr ⟨lw_p42, List.forall_mem_cons.mpr ⟨lw_p43, List.forall_mem_cons.mpr ⟨lw_p44, List.forall_mem_cons.mpr ⟨lw_p45, List.forall_mem_cons.mpr ⟨lw_p46, List.forall_mem_cons.mpr ⟨lw_p47, fun _ h => absurd h List.not_mem_nil⟩⟩⟩⟩⟩⟩⟩⟩⟩⟩⟩⟩⟩⟩⟩⟩
theorem lw_p48 : lw_okq (⟨"PuzzleRegistryModel", "priceOf", "(II)I"⟩, 22) := ⟨⟨by decide +kernel, by decide +kernel⟩, List.mem_of_getElem? (i := 693) (by decide +kernel), List.mem_of_getElem? (i := 848) (by decide +kernel), List.mem_of_getElem? (i := 849) (by decide +kernel)⟩
theorem lw_p49 : lw_okq (⟨"PuzzleRegistryModel", "likenessOf", "(II)I"⟩, 22) := ⟨⟨by decide +kernel, by decide +kernel⟩, List.mem_of_getElem? (i := 693) (by decide +kernel), List.mem_of_getElem? (i := 884) (by decide +kernel), List.mem_of_getElem? (i := 885) (by decide +kernel)⟩
theorem lw_p50 : lw_okq (⟨"PuzzleRegistryModel", "isCommon", "(II)Z"⟩, 22) := ⟨⟨by decide +kernel, by decide +kernel⟩, List.mem_of_getElem? (i := 693) (by decide +kernel), List.mem_of_getElem? (i := 888) (by decide +kernel), List.mem_of_getElem? (i := 889) (by decide +kernel)⟩
theorem lw_p51 : lw_okq (⟨"PuzzleRegistryModel", "gave", "(IIII)Z"⟩, 22) := ⟨⟨by decide +kernel, by decide +kernel⟩, List.mem_of_getElem? (i := 693) (by decide +kernel), List.mem_of_getElem? (i := 892) (by decide +kernel), List.mem_of_getElem? (i := 893) (by decide +kernel)⟩
theorem lw_p52 : lw_okq (⟨"PuzzleRegistryModel", "are", "(II)Z"⟩, 22) := ⟨⟨by decide +kernel, by decide +kernel⟩, List.mem_of_getElem? (i := 693) (by decide +kernel), List.mem_of_getElem? (i := 900) (by decide +kernel), List.mem_of_getElem? (i := 901) (by decide +kernel)⟩
theorem lw_p53 : lw_okq (⟨"PuzzleRegistryModel", "cheated", "(I)I"⟩, 22) := ⟨⟨by decide +kernel, by decide +kernel⟩, List.mem_of_getElem? (i := 693) (by decide +kernel), List.mem_of_getElem? (i := 908) (by decide +kernel), List.mem_of_getElem? (i := 909) (by decide +kernel)⟩
theorem lw_p54 : lw_okq (⟨"PuzzleRegistryModel", "voids", "(I)I"⟩, 22) := ⟨⟨by decide +kernel, by decide +kernel⟩, List.mem_of_getElem? (i := 693) (by decide +kernel), List.mem_of_getElem? (i := 916) (by decide +kernel), List.mem_of_getElem? (i := 917) (by decide +kernel)⟩
theorem lw_p55 : lw_okq (⟨"PuzzleRegistryModel", "scored", "(I)I"⟩, 22) := ⟨⟨by decide +kernel, by decide +kernel⟩, List.mem_of_getElem? (i := 693) (by decide +kernel), List.mem_of_getElem? (i := 928) (by decide +kernel), List.mem_of_getElem? (i := 929) (by decide +kernel)⟩
theorem lw_p56 : lw_okq (⟨"PuzzleRegistryModel", "scoreOf", "(I)I"⟩, 22) := ⟨⟨by decide +kernel, by decide +kernel⟩, List.mem_of_getElem? (i := 693) (by decide +kernel), List.mem_of_getElem? (i := 932) (by decide +kernel), List.mem_of_getElem? (i := 933) (by decide +kernel)⟩
theorem lw_p57 : lw_okq (⟨"PuzzleRegistryModel", "counting", "(I)I"⟩, 22) := ⟨⟨by decide +kernel, by decide +kernel⟩, List.mem_of_getElem? (i := 693) (by decide +kernel), List.mem_of_getElem? (i := 936) (by decide +kernel), List.mem_of_getElem? (i := 937) (by decide +kernel)⟩
theorem lw_p58 : lw_okq (⟨"PuzzleRegistryModel", "ahead", "(IZ)I"⟩, 22) := ⟨⟨by decide +kernel, by decide +kernel⟩, List.mem_of_getElem? (i := 693) (by decide +kernel), List.mem_of_getElem? (i := 948) (by decide +kernel), List.mem_of_getElem? (i := 949) (by decide +kernel)⟩
theorem lw_p59 : lw_okq (⟨"PuzzleRegistryModel", "lastOf", "(I)I"⟩, 22) := ⟨⟨by decide +kernel, by decide +kernel⟩, List.mem_of_getElem? (i := 693) (by decide +kernel), List.mem_of_getElem? (i := 952) (by decide +kernel), List.mem_of_getElem? (i := 953) (by decide +kernel)⟩
def lw_privs_4 : List (MethodName × Nat) := [(⟨"PuzzleRegistryModel", "priceOf", "(II)I"⟩, 22), (⟨"PuzzleRegistryModel", "likenessOf", "(II)I"⟩, 22), (⟨"PuzzleRegistryModel", "isCommon", "(II)Z"⟩, 22), (⟨"PuzzleRegistryModel", "gave", "(IIII)Z"⟩, 22), (⟨"PuzzleRegistryModel", "are", "(II)Z"⟩, 22), (⟨"PuzzleRegistryModel", "cheated", "(I)I"⟩, 22), (⟨"PuzzleRegistryModel", "voids", "(I)I"⟩, 22), (⟨"PuzzleRegistryModel", "scored", "(I)I"⟩, 22), (⟨"PuzzleRegistryModel", "scoreOf", "(I)I"⟩, 22), (⟨"PuzzleRegistryModel", "counting", "(I)I"⟩, 22), (⟨"PuzzleRegistryModel", "ahead", "(IZ)I"⟩, 22), (⟨"PuzzleRegistryModel", "lastOf", "(I)I"⟩, 22)]
theorem lw_r4 : ∀ q ∈ lw_privs_4, lw_okq q := List.forall_mem_cons.mpr ⟨lw_p48, List.forall_mem_cons.mpr ⟨lw_p49, List.forall_mem_cons.mpr ⟨lw_p50, List.forall_mem_cons.mpr ⟨lw_p51, List.forall_mem_cons.mpr ⟨lw_p52, List.forall_mem_cons.mpr ⟨lw_p53, List.forall_mem_cons.mpr ⟨lw_p54, List.forall_mem_cons.mpr ⟨lw_p55, List.forall_mem_cons.mpr ⟨lw_p56, List.forall_mem_cons.mpr ⟨lw_p57, List.forall_mem_cons.mpr ⟨lw_p58, List.forall_mem_cons.mpr ⟨lw_p59, fun _ h => absurd h List.not_mem_nil⟩⟩⟩⟩⟩⟩⟩⟩⟩⟩⟩⟩
def lw_privs : List (MethodName × Nat) := lw_privs_1 ++ (lw_privs_2 ++ (lw_privs_3 ++ (lw_privs_4)))
def lw_tbl : List Cond := k2_sels lw_privs ++ tables_1
theorem lw_privs_ok : ∀ q ∈ lw_privs, lw_okq q := by
  show ∀ q ∈ lw_privs_1 ++ (lw_privs_2 ++ (lw_privs_3 ++ (lw_privs_4))), lw_okq q
  exact List.forall_mem_append.mpr ⟨lw_r1, List.forall_mem_append.mpr ⟨lw_r2, List.forall_mem_append.mpr ⟨lw_r3, lw_r4⟩⟩⟩
-- ===== end of PART A; then your names; then what follows =====
end
section
/-! ===== BEGIN words of one list among another's, by their places ===== -/
theorem goodIn_r {big : List Cond} (ws : List Cond) (ps : List Nat) (hp : ws = ps.filterMap (fun i => big[i]?)) (h : ws.all goodWord = true) : GoodIn big ws := by
  intro w hw
  have h1 := List.all_eq_true.mp h w hw
  rw [hp] at hw
  obtain ⟨i, -, hi⟩ := List.mem_filterMap.mp hw
  have hm : w ∈ big := by first | exact List.mem_of_getElem? hi | exact List.getElem?_mem hi
  exact ⟨hm, good_of_word h1⟩
theorem goodIn_app {big a b : List Cond} (ha : GoodIn big a) (hb : GoodIn big b) : GoodIn big (a ++ b) := fun w h => (List.mem_append.mp h).elim (ha w) (hb w)
theorem goodIn_ca {big a b : List Cond} {c : Cond} (ha : GoodIn big (c :: a)) (hb : GoodIn big b) : GoodIn big (c :: (a ++ b)) := fun w h => (List.mem_cons.mp h).elim (fun e => ha w (List.mem_cons.mpr (Or.inl e))) (fun h => (List.mem_append.mp h).elim (fun h => ha w (List.mem_cons.mpr (Or.inr h))) (hb w))
theorem goodIn_sub {big ws : List Cond} (hm : ∀ w ∈ ws, w ∈ big) (h : ws.all goodWord = true) : GoodIn big ws := fun w hw => ⟨hm w hw, good_of_word (List.all_eq_true.mp h w hw)⟩
/-! ===== END ===== -/

/-! ===== BEGIN exceptions that leave a method, and their catching by the caller (launches without stack traces) ===== -/
section VXA
/-! The laws vx_back, vx_callV, vx_callS, vx_callSW, vx_throw0, vx_throwS follow proofs of the library, with one case more: JvmDerived/Free/Laws.lean (Back.of_free), Shelf42/LK1.lean (callV, callS), Shelf/KitTraced.lean (throwNew0V, throwNewS). -/
/-- where a method has thrown q: the class by its name, the cell, what was written, the world -/
def vx_T (XC : String → State → State → Prop) (st : State) (q : Addr) (t : State) (mc ms : Nat) (free : Addr → Prop) : Prop :=
  ∃ (E : String) (ce : Cell) (L : List Loc), XC E st t ∧ t.heap[q]? = some ce ∧ ce.vm = .none ∧ st.vm.findClass E = some ce.cls ∧ st.WarmedH t.vm ∧ st.sameButNew ({ t with vm := st.vm } : State) L mc ms ∧ ∀ z ∈ L, free z.base
def vx_Q (Qc : Array Value → State → Outcome → State → Prop) (XC : String → State → State → Prop) (mc ms : Nat) (free : Addr → Prop) : Array Value → State → Outcome → State → Prop := fun a st o t =>
  (Qc a st o t ∧ ∃ L, FrameEnd st o t L mc ms ∧ ∀ q ∈ L, free q.base) ∨ ∃ q, o = .threw q ∧ vx_T XC st q t mc ms free
/-- a callee that returns or throws -/
def vx_Met (l : Launch) (y : MethodName) (ws : List Cond) (rm : Room) (Pc : Array Value → State → Prop) (Qc : Array Value → State → Outcome → State → Prop) (XC : String → State → State → Prop) (mc ms : Nat) (free : Addr → Prop) : Prop :=
  MetFree l y (headSpec ws rm) Pc (fun _ _ _ _ _ => True) (vx_Q Qc XC mc ms free)
def vx_Post (XC : String → State → State → Prop) (mc ms : Nat) (free : Addr → Prop) : Pt → Array Value → Addr → Pt → Prop := fun A a q B =>
  ∃ (g : JFrame) (mk : MethodId) (t : State) (L : List Loc) (E : String) (ce : Cell), B.U.heap = t.heap ∧ B.U.vm = t.vm ∧ XC E (A.U.calling g mk a) t ∧ t.heap[q]? = some ce ∧ ce.vm = .none ∧ A.U.vm.findClass E = some ce.cls ∧ B.locs = A.locs ++ L ∧ (∀ z ∈ L, free z.base) ∧ B.cells = A.cells + mc ∧ B.slots = A.slots + ms
def vx_Back (l : Launch) (R : Room) (p : Program) (e : Env) (below : List Frame) (s : State) (sargs : Array Value) (y : MethodName) (len W9 : Nat)
    (Pre : Pt → Array Value → Prop) (Post : Pt → Array Value → Option Value → Pt → Prop) (PostX : Pt → Array Value → Addr → Pt → Prop) : Prop :=
  ∀ (m : MethodId) (meth : Method) (c : Code) (A : Pt) (g : JFrame) (ig : Instr) (mk : MethodId) (a : Array Value),
    Stand p l e R s m sargs below meth c A.U A.locs A.cells A.slots → g.method = m → g.locals.size = c.maxLocals → decode c.code g.pc = .ok (ig, len) →
    2 * g.monitorRoom + (g.stack.map fun v => v.category).sum ≤ W9 → A.U.methodNamed? y = some mk → Pre A a →
    (∃ (v : Option Value) (B : Pt), Stand p l e R s m sargs below meth c B.U B.locs B.cells B.slots ∧ Post A a v B ∧
      Steps p.tables e below (doInvoke e (A.U.setTop g) [] mk a).1 (B.U.setTop { g with pc := g.pc + len, stack := v.toList ++ g.stack })) ∨
    (∃ (q : Addr) (B : Pt), Stand p l e R s m sargs below meth c B.U B.locs B.cells B.slots ∧ PostX A a q B ∧
      Steps p.tables e below (doInvoke e (A.U.setTop g) [] mk a).1 ((B.U.setTop g).pushFrame (.throwing q)))
section Payer
variable {l : Launch} {R : Room} {p : Program} {e : Env} {below : List Frame} {s : State} {sargs : Array Value} {y : MethodName} {len W9 : Nat}
theorem vx_back {ws : List Cond} {rm : Room} {Pc : Array Value → State → Prop} {Qc : Array Value → State → Outcome → State → Prop} {XC : String → State → State → Prop} {mc ms : Nat} {free : Addr → Prop} {bytes : ByteArray} {maxL : Nat} {ret : Option FieldType}
    (hM : vx_Met l y ws rm Pc Qc XC mc ms free) (hblind : FrameBlind Pc) (hrc : rm.cells = mc) (hrs : rm.slots = ms)
    (hframes : rm.frames + 1 ≤ R.frames) (hlocals : W9 + (maxL + 11) + rm.locals ≤ R.locals)
    (hws : ∀ w ∈ ws, ∀ a' U, s.WarmedH U.vm → w.before a' U = true) (hcode : Cond.code y bytes maxL ret ∈ ws) (hinit : ∀ a' U, s.WarmedH U.vm → (Cond.initialized y.cls).before a' U = true) :
    vx_Back l R p e below s sargs y len W9 (PreOf R mc ms Pc) (PostOf Qc mc ms free) (vx_Post XC mc ms free) := by
  intro m meth c A g ig mk a X hg hsize hdg hW hn hp
  have h1 : (headSpec ws rm).pre.before a A.U = true := atoms_intro fun w hw => hws w hw _ _ X.warmed
  have h2 : (Cond.code y bytes maxL ret).before a A.U = true := hws _ hcode _ _ X.warmed
  have h3 : (Cond.initialized y.cls).before a A.U = true := hinit _ _ X.warmed
  have h4 : A.cells + (headSpec ws rm).room.cells ≤ R.cells := by rw [show (headSpec ws rm).room.cells = mc from hrc]; exact hp.1
  have h5 : A.slots + (headSpec ws rm).room.slots ≤ R.slots := by rw [show (headSpec ws rm).room.slots = ms from hrs]; exact hp.2.1
  have hPc : Pc a (A.U.calling g mk a) := hblind _ _ _ _ hp.2.2
  obtain ⟨U, Ls, c0, s0⟩ := A
  dsimp only [Pt.U, Pt.locs, Pt.cells, Pt.slots] at h1 h2 h3 h4 h5 X hn hPc ⊢
  obtain ⟨methY, cY, hmY, hcY, -, hlY, -, -, -, -⟩ := Cond.code_spec hn h2
  obtain ⟨kY, hkY, -⟩ := className_of_methodNamed hn
  have hinitY : kY.init = .initialized := Cond.initialized_spec (findClass_of_methodNamed hn) hkY h3
  have h : At U g.method c below := by rw [hg]; exact X.here
  have hlocals9 : W9 + (maxL + 11) + (headSpec ws rm).room.locals ≤ R.locals := hlocals
  have happ : (headSpec ws rm).appliesLoose y e.platform (U.calling g mk a) = true :=
    Spec.appliesLoose_calling (g := g) h hdg hn hkY hinitY
      (X.room_calling (g := g) (R' := (headSpec ws rm).room) hsize hmY hcY hframes (by rw [hlY]; omega) h4 h5) h1
  obtain ⟨mid, hmid⟩ := h.above
  have hfr : (U.setTop g).frames = (.java g :: mid) ++ below := by rw [State.frames_setTop' g h.top, hmid]; rfl
  obtain ⟨o, s₂, hsteps, -, hend, hq⟩ := Steps.callFree hM p X.admits X.cas X.clock (acts := []) hfr happ hPc trivial
  have hq' : vx_Q Qc XC mc ms free a (U.calling g mk a) o s₂ := hq
  rw [State.frames_setTop' g h.top] at hend
  obtain ⟨g₀, hg0⟩ := Option.isSome_iff_exists.mp h.top
  obtain ⟨r, hr⟩ := State.topJava?_eq_some.mp hg0
  have hr' : (({ U with heap := s₂.heap, slotsUsed := s₂.slotsUsed } : State).setVm s₂.vm).frames = .java g₀ :: r := hr
  rcases hq' with ⟨hqc, L, hfe, hL⟩ | ⟨q, rfl, E, ce, L, hx, hce, hcv, hcl, hW₂, hsm, hL⟩
  · obtain ⟨⟨v, rfl⟩, hW₂, e2, q2, q3, q4, q5, q6⟩ := id hfe
    have e3 : s₂ = ({ (U.calling g mk a).setFrames s₂.frames with heap := s₂.heap, slotsUsed := s₂.slotsUsed } : State).setVm s₂.vm := by
      have : s₂ = ({ s₂ with vm := (U.calling g mk a).vm } : State).setVm s₂.vm := rfl
      rw [e2] at this
      exact this
    obtain ⟨c₂, i₂, len₂, hc₂, hd₂, hf₂⟩ := hend
    have hW' : U.WarmedH s₂.vm := hW₂
    have hcc : c₂ = c := by
      have h1 : s₂.code? g.method = U.code? g.method := by
        rw [State.code?_eq, State.code?_eq, hW'.alike.method?]
      exact Option.some.inj (hc₂.symm.trans (h1.trans h.code))
    subst hcc
    have hlen : len₂ = len := by rw [hdg] at hd₂; cases hd₂; rfl
    subst hlen
    have hs₂ : s₂ = (({ U with heap := s₂.heap, slotsUsed := s₂.slotsUsed } : State).setVm s₂.vm).setTop { g with pc := g.pc + len₂, stack := v.toList ++ g.stack } := by
      refine e3.trans ?_
      rw [hf₂, State.calling_eq h.top, State.setFrames_setFrames, State.setTop_of_frames _ hr', hr]
      rfl
    have hsame : U.sameButNew ({ U with heap := s₂.heap, slotsUsed := s₂.slotsUsed } : State) L mc ms := by
      refine ⟨?_, q2, q3, q4, q5, q6⟩
      obtain ⟨t, ht, -⟩ := State.frames_cons hr
      show ({ U with heap := s₂.heap, slotsUsed := s₂.slotsUsed } : State) = { U.setFrames U.frames with heap := s₂.heap, slotsUsed := s₂.slotsUsed }
      rw [State.setFrames_self ht]
    subst hg
    refine Or.inl ⟨v, ⟨(({ U with heap := s₂.heap, slotsUsed := s₂.slotsUsed } : State).setVm s₂.vm), Ls ++ L, c0 + mc, s0 + ms⟩,
      ⟨X.admits, X.cas, X.clock, X.frames, X.room, X.hears, X.method, X.code, (X.here.setHeapUsed s₂.heap s₂.slotsUsed).setVm hW'.alike, X.tail, State.WarmedH.trans X.warmed hW', X.limits, X.bytes, X.same.trans (hsame.setVm s.vm)⟩,
      ⟨g, mk, s₂, L, rfl, rfl, hqc, rfl, hL, rfl, rfl⟩, ?_⟩
    show Steps p.tables e below _ ((({ U with heap := s₂.heap, slotsUsed := s₂.slotsUsed } : State).setVm s₂.vm).setTop { g with pc := g.pc + len₂, stack := v.toList ++ g.stack })
    rw [← hs₂]
    exact hsteps
  · obtain ⟨e2, q2, q3, q4, q5, q6⟩ := id hsm
    have e3 : s₂ = ({ (U.calling g mk a).setFrames s₂.frames with heap := s₂.heap, slotsUsed := s₂.slotsUsed } : State).setVm s₂.vm := by
      have : s₂ = ({ s₂ with vm := (U.calling g mk a).vm } : State).setVm s₂.vm := rfl
      rw [e2] at this
      exact this
    have hf₂ : s₂.frames = .throwing q :: .java g :: U.frames.tail := hend
    have hW' : U.WarmedH s₂.vm := hW₂
    have hs₂ : s₂ = ((({ U with heap := s₂.heap, slotsUsed := s₂.slotsUsed } : State).setVm s₂.vm).setTop g).pushFrame (.throwing q) := by
      refine e3.trans ?_
      rw [hf₂, State.calling_eq h.top, State.setFrames_setFrames, State.pushFrame, State.frames_setTop _ hr', State.setTop_of_frames _ hr', State.setFrames_setFrames, hr]
      rfl
    have hsame : U.sameButNew ({ U with heap := s₂.heap, slotsUsed := s₂.slotsUsed } : State) L mc ms := by
      refine ⟨?_, q2, q3, q4, q5, q6⟩
      obtain ⟨t, ht, -⟩ := State.frames_cons hr
      show ({ U with heap := s₂.heap, slotsUsed := s₂.slotsUsed } : State) = { U.setFrames U.frames with heap := s₂.heap, slotsUsed := s₂.slotsUsed }
      rw [State.setFrames_self ht]
    subst hg
    refine Or.inr ⟨q, ⟨(({ U with heap := s₂.heap, slotsUsed := s₂.slotsUsed } : State).setVm s₂.vm), Ls ++ L, c0 + mc, s0 + ms⟩,
      ⟨X.admits, X.cas, X.clock, X.frames, X.room, X.hears, X.method, X.code, (X.here.setHeapUsed s₂.heap s₂.slotsUsed).setVm hW'.alike, X.tail, State.WarmedH.trans X.warmed hW', X.limits, X.bytes, X.same.trans (hsame.setVm s.vm)⟩,
      ⟨g, mk, s₂, L, E, ce, rfl, rfl, hx, hce, hcv, hcl, rfl, hL, rfl, rfl⟩, ?_⟩
    show Steps p.tables e below _ (((({ U with heap := s₂.heap, slotsUsed := s₂.slotsUsed } : State).setVm s₂.vm).setTop g).pushFrame (.throwing q))
    rw [← hs₂]
    exact hsteps
end Payer
section Calls
variable {p : Program} {l : Launch} {e : Env} {R : Room} {s : State} {m : MethodId} {args : Array Value} {below : List Frame} {meth : Method} {c : Code} {T : State} {locs : List Loc} {cells slots : Nat}
theorem vx_callV (X : Stand p l e R s m args below meth c T locs cells slots) (hexec : p.tables.exec = Jvm.exec) {own C : String} {index : Nat} {y : MethodName} {bytes : ByteArray} {maxL : Nat} {ret : Option FieldType}
    (hown : s.vm.findClass own = some m.cls) (hlink : (Cond.methodLink own index y).before args s = true) (hinst : (Cond.instanceMethod y).before args s = true) (hsel : (Cond.selects C y y).before args s = true)
    (hcode : (Cond.code y bytes maxL ret).before args s = true) (hy : y.cls ≠ "java/lang/invoke/MethodHandle" ∧ y.cls ≠ "java/lang/invoke/VarHandle")
    {W9 : Nat} {Pre : Pt → Array Value → Prop} {Post : Pt → Array Value → Option Value → Pt → Prop} {PostX : Pt → Array Value → Addr → Pt → Prop} (hK : vx_Back l R p e below s args y 3 W9 Pre Post PostX)
    {b : Addr} {cellB : Cell} (hcell : T.heap[b]? = some cellB) (hobj : cellB.vm.isStatics = false) (hcls : s.vm.findClass C = some cellB.cls)
    {g : JFrame} (hg : g.method = m) (hsize : g.locals.size = c.maxLocals) {argsL rest : List Value} (hlen : ∀ sig, parseMethodDescriptor y.desc = some sig → argsL.length = sig.parameters.length)
    (hstack : g.stack = argsL.reverse ++ .ref b :: rest) (hW : 2 * g.monitorRoom + (rest.map fun v => v.category).sum ≤ W9) (hdg : decode c.code g.pc = .ok (.invokevirtual index, 3))
    (hpre : ∀ vm₁, s.WarmedH vm₁ → Pre ⟨T.setVm vm₁, locs, cells, slots⟩ (Value.ref b :: argsL).toArray) :
    (∃ (v : Option Value) (vm₁ : Vm) (B : Pt), s.WarmedH vm₁ ∧ Stand p l e R s m args below meth c B.U B.locs B.cells B.slots ∧ Post ⟨T.setVm vm₁, locs, cells, slots⟩ (Value.ref b :: argsL).toArray v B ∧
      ∀ target, Steps p.tables e below (B.U.setTop { g with pc := g.pc + 3, stack := v.toList ++ rest }) target → Steps p.tables e below (T.setTop g) target) ∨
    (∃ (q : Addr) (vm₁ : Vm) (B : Pt), s.WarmedH vm₁ ∧ Stand p l e R s m args below meth c B.U B.locs B.cells B.slots ∧ PostX ⟨T.setVm vm₁, locs, cells, slots⟩ (Value.ref b :: argsL).toArray q B ∧
      Steps p.tables e below (T.setTop g) ((B.U.setTop { g with stack := rest }).pushFrame (.throwing q))) := by
  obtain ⟨mk, methM, hnamed, hmethM, hstM, habM⟩ := Cond.instanceMethod_spec hinst
  obtain ⟨methM', cM, hmethM', -, -, -, -, -, -, hsigM⟩ := Cond.code_spec hnamed hcode
  cases hmethM.symm.trans hmethM'
  obtain ⟨c2, r2, m2, q1, q2, q3, q4, kP, hkP, hkPi⟩ := Cond.selects_spec hsel
  cases hcls.symm.trans q1
  cases (State.methodFound?_of_named hnamed hy).symm.trans q2
  cases hnamed.symm.trans q3
  have hselP : selectMethod e.platform s.vm cellB.cls mk = .method mk := by rw [Launch.admits_selectMethod X.admits]; exact q4
  obtain ⟨vm₁, X₁, hstep₁⟩ := X.invokevirtual hexec hown hlink hnamed hmethM hstM hkP hkPi hy (a := b) (cell := cellB) hcell
    (fun z h => by rw [h] at hobj; cases hobj) hselP hmethM habM hkP hkPi (g := g) hg (argsL := argsL) (rest := rest) (hlen _ hsigM) hstack hdg
  rcases hK m meth c ⟨T.setVm vm₁, locs, cells, slots⟩ { g with stack := rest } (.invokevirtual index) mk (Value.ref b :: argsL).toArray X₁ hg hsize hdg hW (X₁.named hnamed) (hpre vm₁ X₁.warmed) with ⟨v, B, X', hpost, hsteps⟩ | ⟨q, B, X', hpost, hsteps⟩
  · exact Or.inl ⟨v, vm₁, B, X₁.warmed, X', hpost, fun target h => hstep₁ _ fun acts => by rw [doInvoke_state]; exact hsteps.trans h⟩
  · exact Or.inr ⟨q, vm₁, B, X₁.warmed, X', hpost, hstep₁ _ fun acts => by rw [doInvoke_state]; exact hsteps⟩
theorem vx_callS (X : Stand p l e R s m args below meth c T locs cells slots) (hexec : p.tables.exec = Jvm.exec) {own : String} {index : Nat} {y : MethodName} {bytes : ByteArray} {maxL : Nat} {ret : Option FieldType}
    (hown : s.vm.findClass own = some m.cls) (hlink : (Cond.methodLink own index y).before args s = true) (hstat : (Cond.static y).before args s = true) (hinit : (Cond.initialized y.cls).before args s = true)
    (hcode : (Cond.code y bytes maxL ret).before args s = true) (hy : y.cls ≠ "java/lang/invoke/MethodHandle" ∧ y.cls ≠ "java/lang/invoke/VarHandle")
    {W9 : Nat} {Pre : Pt → Array Value → Prop} {Post : Pt → Array Value → Option Value → Pt → Prop} {PostX : Pt → Array Value → Addr → Pt → Prop} (hK : vx_Back l R p e below s args y 3 W9 Pre Post PostX)
    {g : JFrame} (hg : g.method = m) (hsize : g.locals.size = c.maxLocals) {argsL rest : List Value} (hlen : ∀ sig, parseMethodDescriptor y.desc = some sig → argsL.length = sig.parameters.length)
    (hstack : g.stack = argsL.reverse ++ rest) (hW : 2 * g.monitorRoom + (rest.map fun v => v.category).sum ≤ W9) (hdg : decode c.code g.pc = .ok (.invokestatic index, 3))
    (hpre : ∀ vm₁, s.WarmedH vm₁ → Pre ⟨T.setVm vm₁, locs, cells, slots⟩ argsL.toArray) :
    (∃ (v : Option Value) (vm₁ : Vm) (B : Pt), s.WarmedH vm₁ ∧ Stand p l e R s m args below meth c B.U B.locs B.cells B.slots ∧ Post ⟨T.setVm vm₁, locs, cells, slots⟩ argsL.toArray v B ∧
      ∀ target, Steps p.tables e below (B.U.setTop { g with pc := g.pc + 3, stack := v.toList ++ rest }) target → Steps p.tables e below (T.setTop g) target) ∨
    (∃ (q : Addr) (vm₁ : Vm) (B : Pt), s.WarmedH vm₁ ∧ Stand p l e R s m args below meth c B.U B.locs B.cells B.slots ∧ PostX ⟨T.setVm vm₁, locs, cells, slots⟩ argsL.toArray q B ∧
      Steps p.tables e below (T.setTop g) ((B.U.setTop { g with stack := rest }).pushFrame (.throwing q))) := by
  obtain ⟨mk, hnamed⟩ := Cond.code_named hcode
  obtain ⟨methM, cM, hmethM, -, -, -, -, -, -, hsigM⟩ := Cond.code_spec hnamed hcode
  have hstatic : methM.isStatic = true := Cond.static_spec hnamed hmethM hstat
  obtain ⟨kP, hkP, -⟩ := className_of_methodNamed hnamed
  have hinitP : kP.init = .initialized := Cond.initialized_spec (findClass_of_methodNamed hnamed) hkP hinit
  obtain ⟨vm₁, X₁, hstep₁⟩ := X.invokestatic hexec hown hlink hnamed hmethM hstatic hkP hinitP hy (g := g) hg (argsL := argsL) (rest := rest) (hlen _ hsigM) hstack hdg
  rcases hK m meth c ⟨T.setVm vm₁, locs, cells, slots⟩ { g with stack := rest } (.invokestatic index) mk argsL.toArray X₁ hg hsize hdg hW (X₁.named hnamed) (hpre vm₁ X₁.warmed) with ⟨v, B, X', hpost, hsteps⟩ | ⟨q, B, X', hpost, hsteps⟩
  · exact Or.inl ⟨v, vm₁, B, X₁.warmed, X', hpost, fun target h => hstep₁ _ fun acts => by rw [doInvoke_state]; exact hsteps.trans h⟩
  · exact Or.inr ⟨q, vm₁, B, X₁.warmed, X', hpost, hstep₁ _ fun acts => by rw [doInvoke_state]; exact hsteps⟩
end Calls
theorem vx_cls {s : State} {T : State} {vm₁ : Vm} {E : String} {k : ClassId} (hW : s.WarmedH vm₁) (h : (T.setVm vm₁).vm.findClass E = some k) : s.vm.findClass E = some k := by
  have h1 : vm₁.findClass E = some k := h
  rw [hW.alike.findClass] at h1
  exact h1
/-- the method's frame g, with q thrown over it -/
def vx_W (p : Program) (l : Launch) (e : Env) (R : Room) (s : State) (m : MethodId) (args : Array Value) (below : List Frame) (meth : Method) (c : Code) (H : Heap) (locs : List Loc) (cells slots : Nat) (Q : State → Prop) (g : JFrame) (q : Addr) : Prop :=
  ∀ T : State, T.heap = H → Stand p l e R s m args below meth c T locs cells slots → ∃ t, Steps p.tables e below ((T.setTop g).pushFrame (.throwing q)) t ∧ Q t
def vx_Run (p : Program) (l : Launch) (e : Env) (R : Room) (s : State) (m : MethodId) (args : Array Value) (below : List Frame) (meth : Method) (c : Code) (H : Heap) (locs : List Loc) (cells slots mc ms : Nat) (g : JFrame) (rest : List Value) (Qa : State → Outcome → State → Prop) (XC : String → State → State → Prop) (free : Addr → Prop) : Prop :=
  ∀ T : State, T.heap = H → Stand p l e R s m args below meth c T locs cells slots →
    (∃ (v : Option Value) (st₀ t T' : State) (L : List Loc), st₀.heap = H ∧ Stand p l e R s m args below meth c T' (locs ++ L) (cells + mc) (slots + ms) ∧ (∀ q ∈ L, free q.base) ∧ T'.heap = t.heap ∧ T'.vm = t.vm ∧ Qa st₀ (.returned v) t ∧
      Goes p e below T g T' { g with pc := g.pc + 3, stack := v.toList ++ rest }) ∨
    (∃ (q : Addr) (st₀ t T' : State) (L : List Loc) (E : String) (ce : Cell), st₀.heap = H ∧ Stand p l e R s m args below meth c T' (locs ++ L) (cells + mc) (slots + ms) ∧ (∀ z ∈ L, free z.base) ∧ T'.heap = t.heap ∧ T'.vm = t.vm ∧ XC E st₀ t ∧ t.heap[q]? = some ce ∧ ce.vm = .none ∧ s.vm.findClass E = some ce.cls ∧
      Steps p.tables e below (T.setTop g) ((T'.setTop { g with stack := rest }).pushFrame (.throwing q)))
def vx_X {S : Type} (px : S → Prop) (B : String → S → State → Prop) (A : Nat → Prop) : String → State → State → Prop := fun E st t => ∃ u : S, px u ∧ B E u t ∧ va_F A st t
section Runs
variable {p : Program} {l : Launch} {e : Env} {R : Room} {s : State} {m : MethodId} {args : Array Value} {below : List Frame} {meth : Method} {c : Code} {H : Heap} {locs : List Loc} {cells slots : Nat}
variable {y : MethodName} {bytes cc : ByteArray} {maxL nL mc ms n index : Nat} {ret : Option FieldType} {ws : List Cond} {rm : Room} {Pc : Array Value → State → Prop} {Qc : Array Value → State → Outcome → State → Prop} {XC : String → State → State → Prop} {free : Addr → Prop} {Ts : List Cond} {own C : String} {b : Addr} {As rest : List Value} {g : JFrame}
theorem vx_callBack (cb : CallB R s args own index y bytes maxL ret ws rm mc ms n) (hM : vx_Met l y ws rm Pc Qc XC mc ms free) (hbl : FrameBlind Pc) : vx_Back l R p e below s args y 3 8 (PreOf R mc ms Pc) (PostOf Qc mc ms free) (vx_Post XC mc ms free) := by
  obtain ⟨hrc, hrs, hfr, hlo, hws, hcw, -, hini, -⟩ := cb
  exact vx_back (bytes := bytes) (maxL := maxL) (ret := ret) hM hbl hrc hrs hfr hlo hws hcw (fun a' U hW => word_at hW (Or.inl (by first | rfl | simp [Cond.onTables, Cond.keeps, Cond.steady])) hini)
theorem vx_runV (S : CallFix p m c cc nL s args Ts own) (hM : vx_Met l y ws rm Pc Qc XC mc ms free) (cw : CallW R s args own C index y bytes maxL ret ws rm mc ms n) (hp : PreV s H C b Pc As)
    (hg : g.method = m) (hn : As.length = n) (hsize : g.locals.size = nL) (hstack : g.stack = As.reverse ++ .ref b :: rest) (hW : 2 * g.monitorRoom + (rest.map fun v => v.category).sum ≤ 8) (hdg : decode cc g.pc = .ok (.invokevirtual index, 3)) (hf : cells + mc ≤ R.cells ∧ slots + ms ≤ R.slots) :
    vx_Run p l e R s m args below meth c H locs cells slots mc ms g rest (Qc (Value.ref b :: As).toArray) XC free := by
  have hK : vx_Back l R p e below s args y 3 8 (PreOf R mc ms Pc) (PostOf Qc mc ms free) (vx_Post XC mc ms free) := vx_callBack cw.1 hM hp.1
  obtain ⟨⟨-, -, -, -, -, -, hcode, -, hy, hlen, hl⟩, hin, hse⟩ := cw
  obtain ⟨hx, hb, hml, ho, -⟩ := S
  obtain ⟨-, ⟨cellB, hcB, hoB, hclB⟩, hPc⟩ := hp
  intro T hT X
  rcases vx_callV X hx (C := C) (bytes := bytes) (maxL := maxL) (ret := ret) ho hl hin hse hcode hy hK (by rw [hT]; exact hcB) hoB hclB hg (hsize.trans hml.symm) (argsL := As) (rest := rest) (fun sig h => hn.trans (hlen sig h)) hstack hW (by rw [hb]; exact hdg)
    (fun vm₁ hW₁ => ⟨hf.1, hf.2, hPc (T.setVm vm₁) hT hW₁⟩) with ⟨v, vm₁, ⟨U', l2, c2, s2⟩, hW₁, X', ⟨g', mk, t, L, e1, e2, hq, h1, hL, h2, h3⟩, st⟩ | ⟨q, vm₁, ⟨U', l2, c2, s2⟩, hW₁, X', ⟨g', mk, t, L, E, ce, e1, e2, hq, hce, hcv, hcl, h1, hL, h2, h3⟩, st⟩
  · dsimp only [Pt.U, Pt.locs, Pt.cells, Pt.slots] at X' e1 e2 h1 h2 h3 st
    subst h1; subst h2; subst h3
    exact Or.inl ⟨v, (T.setVm vm₁).calling g' mk (Value.ref b :: As).toArray, t, U', L, hT, X', hL, e1, e2, hq, st⟩
  · dsimp only [Pt.U, Pt.locs, Pt.cells, Pt.slots] at X' e1 e2 h1 h2 h3 st hcl
    subst h1; subst h2; subst h3
    exact Or.inr ⟨q, (T.setVm vm₁).calling g' mk (Value.ref b :: As).toArray, t, U', L, E, ce, hT, X', hL, e1, e2, hq, hce, hcv, vx_cls hW₁ hcl, st⟩
theorem vx_runS (S : CallFix p m c cc nL s args Ts own) (hM : vx_Met l y ws rm Pc Qc XC mc ms free) (cw : CallB R s args own index y bytes maxL ret ws rm mc ms n ∧ (Cond.static y).before args s = true) (hp : PreS s H Pc As)
    (hg : g.method = m) (hn : As.length = n) (hsize : g.locals.size = nL) (hstack : g.stack = As.reverse ++ rest) (hW : 2 * g.monitorRoom + (rest.map fun v => v.category).sum ≤ 8) (hdg : decode cc g.pc = .ok (.invokestatic index, 3)) (hf : cells + mc ≤ R.cells ∧ slots + ms ≤ R.slots) :
    vx_Run p l e R s m args below meth c H locs cells slots mc ms g rest (Qc As.toArray) XC free := by
  have hK : vx_Back l R p e below s args y 3 8 (PreOf R mc ms Pc) (PostOf Qc mc ms free) (vx_Post XC mc ms free) := vx_callBack cw.1 hM hp.1
  obtain ⟨⟨-, -, -, -, -, -, hcode, hini, hy, hlen, hl⟩, hstt⟩ := cw
  obtain ⟨hx, hb, hml, ho, -⟩ := S
  intro T hT X
  rcases vx_callS X hx (bytes := bytes) (maxL := maxL) (ret := ret) ho hl hstt hini hcode hy hK hg (hsize.trans hml.symm) (argsL := As) (rest := rest) (fun sig h => hn.trans (hlen sig h)) hstack hW (by rw [hb]; exact hdg)
    (fun vm₁ hW₁ => ⟨hf.1, hf.2, hp.2 (T.setVm vm₁) hT hW₁⟩) with ⟨v, vm₁, ⟨U', l2, c2, s2⟩, hW₁, X', ⟨g', mk, t, L, e1, e2, hq, h1, hL, h2, h3⟩, st⟩ | ⟨q, vm₁, ⟨U', l2, c2, s2⟩, hW₁, X', ⟨g', mk, t, L, E, ce, e1, e2, hq, hce, hcv, hcl, h1, hL, h2, h3⟩, st⟩
  · dsimp only [Pt.U, Pt.locs, Pt.cells, Pt.slots] at X' e1 e2 h1 h2 h3 st
    subst h1; subst h2; subst h3
    exact Or.inl ⟨v, (T.setVm vm₁).calling g' mk As.toArray, t, U', L, hT, X', hL, e1, e2, hq, st⟩
  · dsimp only [Pt.U, Pt.locs, Pt.cells, Pt.slots] at X' e1 e2 h1 h2 h3 st hcl
    subst h1; subst h2; subst h3
    exact Or.inr ⟨q, (T.setVm vm₁).calling g' mk As.toArray, t, U', L, E, ce, hT, X', hL, e1, e2, hq, hce, hcv, vx_cls hW₁ hcl, st⟩
end Runs
section Rows
variable {p : Program} {l : Launch} {e : Env} {R : Room} {s : State} {m : MethodId} {args : Array Value} {below : List Frame} {meth : Method} {c : Code} {H : Heap} {locs : List Loc} {cells slots : Nat} {Q : State → Prop}
variable {mc ms : Nat} {free : Addr → Prop} {A0 A1 : Nat → Prop} {H0 : Heap} {a : Array Value} {pc : Nat} {ls : Array Slot} {st0 rest : List Value}
theorem vx_keep {st₀ t T' : State} {L : List Loc} (h0 : st₀.heap = H) (e1 : T'.heap = t.heap) (hS : va_S A0 H0 H locs) (hA : ∀ q, q < H.size → A1 q → A0 q) (hf : ∀ q, free q → A0 q) (hL : ∀ q ∈ L, free q.base) (hF : va_F A1 st₀ t) :
    H.size ≤ T'.heap.size ∧ (∀ q : Nat, q < H.size → ¬ A1 q → T'.heap[q]? = H[q]?) ∧ va_S A0 H0 T'.heap (locs ++ L) := by
  obtain ⟨hz, hk⟩ := hF
  rw [h0] at hz hk
  exact ⟨by rw [e1]; exact hz, fun q h1 h2 => by rw [e1]; exact hk q h1 h2,
    ⟨Nat.le_trans hS.1 (by rw [e1]; exact hz), fun q h1 h2 => by rw [e1, hk q (Nat.lt_of_lt_of_le h1 hS.1) (fun z => h2 (hA q (Nat.lt_of_lt_of_le h1 hS.1) z))]; exact hS.2.1 q h1 h2, fun q hq => by
      rcases List.mem_append.mp hq with h | h
      · exact hS.2.2 q h
      · exact hf _ (hL q h)⟩⟩
theorem vx_calli {S SX : Type} {post : Int32 → S → Prop} {px : SX → Prop} {B : S → State → Prop} {BX : String → SX → State → Prop} {AX : Nat → Prop} (hr : vx_Run p l e R s m args below meth c H locs cells slots mc ms (F0 m pc ls st0) rest (va_Qi post B A1 a) (vx_X px BX AX) free) (hS : va_S A0 H0 H locs) (hA : ∀ q, q < H.size → A1 q → A0 q) (hf : ∀ q, free q → A0 q) (hAX : ∀ q, q < H.size → AX q → A0 q)
    (kx : ∀ (E : String) (ce : Cell) (q9 : Addr) (u : SX) (t : State) (H1 : Heap) (locs1 : List Loc), t.heap = H1 → s.vm.Alike t.vm → px u → BX E u t → H.size ≤ H1.size → (∀ q : Nat, q < H.size → ¬ AX q → H1[q]? = H[q]?) → va_S A0 H0 H1 locs1 → H1[q9]? = some ce → ce.vm = .none → s.vm.findClass E = some ce.cls → vx_W p l e R s m args below meth c H1 locs1 (cells + mc) (slots + ms) Q (F0 m pc ls rest) q9)
    (kk : ∀ (r : Int32) (u : S) (t : State) (H1 : Heap) (locs1 : List Loc), t.heap = H1 → s.vm.Alike t.vm → post r u → B u t → H.size ≤ H1.size → (∀ q : Nat, q < H.size → ¬ A1 q → H1[q]? = H[q]?) → va_S A0 H0 H1 locs1 → W p l e R s m args below meth c H1 locs1 (cells + mc) (slots + ms) Q (F0 m (pc + 3) ls (.int r :: rest))) : W p l e R s m args below meth c H locs cells slots Q (F0 m pc ls st0) := by
  intro T hT X
  rcases hr T hT X with ⟨v, st₀, t, T', L, h0, X', hL, e1, e2, ⟨⟨r, u, hv, hp, hb⟩, hF⟩, st⟩ | ⟨q, st₀, t, T', L, E, ce, h0, X', hL, e1, e2, ⟨u, hp, hb, hF⟩, hce, hcv, hcl, st⟩
  · cases hv
    obtain ⟨k1, k2, k3⟩ := vx_keep h0 e1 hS hA hf hL hF
    obtain ⟨t2, a1, b1⟩ := kk r u t T'.heap (locs ++ L) e1.symm (by rw [← e2]; exact X'.warmed.alike) hp hb k1 k2 k3 T' rfl X'
    exact ⟨t2, st t2 a1, b1⟩
  · obtain ⟨k1, k2, k3⟩ := vx_keep h0 e1 hS hAX hf hL hF
    obtain ⟨t2, a1, b1⟩ := kx E ce q u t T'.heap (locs ++ L) e1.symm (by rw [← e2]; exact X'.warmed.alike) hp hb k1 k2 k3 (by rw [e1]; exact hce) hcv hcl T' rfl X'
    exact ⟨t2, st.trans a1, b1⟩
theorem vx_calll {S SX : Type} {post : Int64 → S → Prop} {px : SX → Prop} {B : S → State → Prop} {BX : String → SX → State → Prop} {AX : Nat → Prop} (hr : vx_Run p l e R s m args below meth c H locs cells slots mc ms (F0 m pc ls st0) rest (va_Ql post B A1 a) (vx_X px BX AX) free) (hS : va_S A0 H0 H locs) (hA : ∀ q, q < H.size → A1 q → A0 q) (hf : ∀ q, free q → A0 q) (hAX : ∀ q, q < H.size → AX q → A0 q)
    (kx : ∀ (E : String) (ce : Cell) (q9 : Addr) (u : SX) (t : State) (H1 : Heap) (locs1 : List Loc), t.heap = H1 → s.vm.Alike t.vm → px u → BX E u t → H.size ≤ H1.size → (∀ q : Nat, q < H.size → ¬ AX q → H1[q]? = H[q]?) → va_S A0 H0 H1 locs1 → H1[q9]? = some ce → ce.vm = .none → s.vm.findClass E = some ce.cls → vx_W p l e R s m args below meth c H1 locs1 (cells + mc) (slots + ms) Q (F0 m pc ls rest) q9)
    (kk : ∀ (r : Int64) (u : S) (t : State) (H1 : Heap) (locs1 : List Loc), t.heap = H1 → s.vm.Alike t.vm → post r u → B u t → H.size ≤ H1.size → (∀ q : Nat, q < H.size → ¬ A1 q → H1[q]? = H[q]?) → va_S A0 H0 H1 locs1 → W p l e R s m args below meth c H1 locs1 (cells + mc) (slots + ms) Q (F0 m (pc + 3) ls (.long r :: rest))) : W p l e R s m args below meth c H locs cells slots Q (F0 m pc ls st0) := by
  intro T hT X
  rcases hr T hT X with ⟨v, st₀, t, T', L, h0, X', hL, e1, e2, ⟨⟨r, u, hv, hp, hb⟩, hF⟩, st⟩ | ⟨q, st₀, t, T', L, E, ce, h0, X', hL, e1, e2, ⟨u, hp, hb, hF⟩, hce, hcv, hcl, st⟩
  · cases hv
    obtain ⟨k1, k2, k3⟩ := vx_keep h0 e1 hS hA hf hL hF
    obtain ⟨t2, a1, b1⟩ := kk r u t T'.heap (locs ++ L) e1.symm (by rw [← e2]; exact X'.warmed.alike) hp hb k1 k2 k3 T' rfl X'
    exact ⟨t2, st t2 a1, b1⟩
  · obtain ⟨k1, k2, k3⟩ := vx_keep h0 e1 hS hAX hf hL hF
    obtain ⟨t2, a1, b1⟩ := kx E ce q u t T'.heap (locs ++ L) e1.symm (by rw [← e2]; exact X'.warmed.alike) hp hb k1 k2 k3 (by rw [e1]; exact hce) hcv hcl T' rfl X'
    exact ⟨t2, st.trans a1, b1⟩
theorem vx_callf {S SX : Type} {post : UInt32 → S → Prop} {px : SX → Prop} {B : S → State → Prop} {BX : String → SX → State → Prop} {AX : Nat → Prop} (hr : vx_Run p l e R s m args below meth c H locs cells slots mc ms (F0 m pc ls st0) rest (va_Qf post B A1 a) (vx_X px BX AX) free) (hS : va_S A0 H0 H locs) (hA : ∀ q, q < H.size → A1 q → A0 q) (hf : ∀ q, free q → A0 q) (hAX : ∀ q, q < H.size → AX q → A0 q)
    (kx : ∀ (E : String) (ce : Cell) (q9 : Addr) (u : SX) (t : State) (H1 : Heap) (locs1 : List Loc), t.heap = H1 → s.vm.Alike t.vm → px u → BX E u t → H.size ≤ H1.size → (∀ q : Nat, q < H.size → ¬ AX q → H1[q]? = H[q]?) → va_S A0 H0 H1 locs1 → H1[q9]? = some ce → ce.vm = .none → s.vm.findClass E = some ce.cls → vx_W p l e R s m args below meth c H1 locs1 (cells + mc) (slots + ms) Q (F0 m pc ls rest) q9)
    (kk : ∀ (r : UInt32) (u : S) (t : State) (H1 : Heap) (locs1 : List Loc), t.heap = H1 → s.vm.Alike t.vm → post r u → B u t → H.size ≤ H1.size → (∀ q : Nat, q < H.size → ¬ A1 q → H1[q]? = H[q]?) → va_S A0 H0 H1 locs1 → W p l e R s m args below meth c H1 locs1 (cells + mc) (slots + ms) Q (F0 m (pc + 3) ls (.float r :: rest))) : W p l e R s m args below meth c H locs cells slots Q (F0 m pc ls st0) := by
  intro T hT X
  rcases hr T hT X with ⟨v, st₀, t, T', L, h0, X', hL, e1, e2, ⟨⟨r, u, hv, hp, hb⟩, hF⟩, st⟩ | ⟨q, st₀, t, T', L, E, ce, h0, X', hL, e1, e2, ⟨u, hp, hb, hF⟩, hce, hcv, hcl, st⟩
  · cases hv
    obtain ⟨k1, k2, k3⟩ := vx_keep h0 e1 hS hA hf hL hF
    obtain ⟨t2, a1, b1⟩ := kk r u t T'.heap (locs ++ L) e1.symm (by rw [← e2]; exact X'.warmed.alike) hp hb k1 k2 k3 T' rfl X'
    exact ⟨t2, st t2 a1, b1⟩
  · obtain ⟨k1, k2, k3⟩ := vx_keep h0 e1 hS hAX hf hL hF
    obtain ⟨t2, a1, b1⟩ := kx E ce q u t T'.heap (locs ++ L) e1.symm (by rw [← e2]; exact X'.warmed.alike) hp hb k1 k2 k3 (by rw [e1]; exact hce) hcv hcl T' rfl X'
    exact ⟨t2, st.trans a1, b1⟩
theorem vx_calld {S SX : Type} {post : UInt64 → S → Prop} {px : SX → Prop} {B : S → State → Prop} {BX : String → SX → State → Prop} {AX : Nat → Prop} (hr : vx_Run p l e R s m args below meth c H locs cells slots mc ms (F0 m pc ls st0) rest (va_Qd post B A1 a) (vx_X px BX AX) free) (hS : va_S A0 H0 H locs) (hA : ∀ q, q < H.size → A1 q → A0 q) (hf : ∀ q, free q → A0 q) (hAX : ∀ q, q < H.size → AX q → A0 q)
    (kx : ∀ (E : String) (ce : Cell) (q9 : Addr) (u : SX) (t : State) (H1 : Heap) (locs1 : List Loc), t.heap = H1 → s.vm.Alike t.vm → px u → BX E u t → H.size ≤ H1.size → (∀ q : Nat, q < H.size → ¬ AX q → H1[q]? = H[q]?) → va_S A0 H0 H1 locs1 → H1[q9]? = some ce → ce.vm = .none → s.vm.findClass E = some ce.cls → vx_W p l e R s m args below meth c H1 locs1 (cells + mc) (slots + ms) Q (F0 m pc ls rest) q9)
    (kk : ∀ (r : UInt64) (u : S) (t : State) (H1 : Heap) (locs1 : List Loc), t.heap = H1 → s.vm.Alike t.vm → post r u → B u t → H.size ≤ H1.size → (∀ q : Nat, q < H.size → ¬ A1 q → H1[q]? = H[q]?) → va_S A0 H0 H1 locs1 → W p l e R s m args below meth c H1 locs1 (cells + mc) (slots + ms) Q (F0 m (pc + 3) ls (.double r :: rest))) : W p l e R s m args below meth c H locs cells slots Q (F0 m pc ls st0) := by
  intro T hT X
  rcases hr T hT X with ⟨v, st₀, t, T', L, h0, X', hL, e1, e2, ⟨⟨r, u, hv, hp, hb⟩, hF⟩, st⟩ | ⟨q, st₀, t, T', L, E, ce, h0, X', hL, e1, e2, ⟨u, hp, hb, hF⟩, hce, hcv, hcl, st⟩
  · cases hv
    obtain ⟨k1, k2, k3⟩ := vx_keep h0 e1 hS hA hf hL hF
    obtain ⟨t2, a1, b1⟩ := kk r u t T'.heap (locs ++ L) e1.symm (by rw [← e2]; exact X'.warmed.alike) hp hb k1 k2 k3 T' rfl X'
    exact ⟨t2, st t2 a1, b1⟩
  · obtain ⟨k1, k2, k3⟩ := vx_keep h0 e1 hS hAX hf hL hF
    obtain ⟨t2, a1, b1⟩ := kx E ce q u t T'.heap (locs ++ L) e1.symm (by rw [← e2]; exact X'.warmed.alike) hp hb k1 k2 k3 (by rw [e1]; exact hce) hcv hcl T' rfl X'
    exact ⟨t2, st.trans a1, b1⟩
theorem vx_callv {S SX : Type} {post : S → Prop} {px : SX → Prop} {B : S → State → Prop} {BX : String → SX → State → Prop} {AX : Nat → Prop} (hr : vx_Run p l e R s m args below meth c H locs cells slots mc ms (F0 m pc ls st0) rest (va_Qv post B A1 a) (vx_X px BX AX) free) (hS : va_S A0 H0 H locs) (hA : ∀ q, q < H.size → A1 q → A0 q) (hf : ∀ q, free q → A0 q) (hAX : ∀ q, q < H.size → AX q → A0 q)
    (kx : ∀ (E : String) (ce : Cell) (q9 : Addr) (u : SX) (t : State) (H1 : Heap) (locs1 : List Loc), t.heap = H1 → s.vm.Alike t.vm → px u → BX E u t → H.size ≤ H1.size → (∀ q : Nat, q < H.size → ¬ AX q → H1[q]? = H[q]?) → va_S A0 H0 H1 locs1 → H1[q9]? = some ce → ce.vm = .none → s.vm.findClass E = some ce.cls → vx_W p l e R s m args below meth c H1 locs1 (cells + mc) (slots + ms) Q (F0 m pc ls rest) q9)
    (kk : ∀ (u : S) (t : State) (H1 : Heap) (locs1 : List Loc), t.heap = H1 → s.vm.Alike t.vm → post u → B u t → H.size ≤ H1.size → (∀ q : Nat, q < H.size → ¬ A1 q → H1[q]? = H[q]?) → va_S A0 H0 H1 locs1 → W p l e R s m args below meth c H1 locs1 (cells + mc) (slots + ms) Q (F0 m (pc + 3) ls (rest))) : W p l e R s m args below meth c H locs cells slots Q (F0 m pc ls st0) := by
  intro T hT X
  rcases hr T hT X with ⟨v, st₀, t, T', L, h0, X', hL, e1, e2, ⟨⟨u, hv, hp, hb⟩, hF⟩, st⟩ | ⟨q, st₀, t, T', L, E, ce, h0, X', hL, e1, e2, ⟨u, hp, hb, hF⟩, hce, hcv, hcl, st⟩
  · cases hv
    obtain ⟨k1, k2, k3⟩ := vx_keep h0 e1 hS hA hf hL hF
    obtain ⟨t2, a1, b1⟩ := kk u t T'.heap (locs ++ L) e1.symm (by rw [← e2]; exact X'.warmed.alike) hp hb k1 k2 k3 T' rfl X'
    exact ⟨t2, st t2 a1, b1⟩
  · obtain ⟨k1, k2, k3⟩ := vx_keep h0 e1 hS hAX hf hL hF
    obtain ⟨t2, a1, b1⟩ := kx E ce q u t T'.heap (locs ++ L) e1.symm (by rw [← e2]; exact X'.warmed.alike) hp hb k1 k2 k3 (by rw [e1]; exact hce) hcv hcl T' rfl X'
    exact ⟨t2, st.trans a1, b1⟩
/-- caught by the row x of this method's table; the rows ahead don't take it -/
theorem vx_catch {own name : String} {E : String} {ce : Cell} {q : Addr} (hown : s.vm.findClass own = some m.cls) (pre : List ExceptionTableEntry) (x : ExceptionTableEntry) (suf : List ExceptionTableEntry) (hsplit : c.exceptionTable.toList = pre ++ x :: suf)
    (hpass : ∀ z ∈ pre, covers z pc = false ∨ (z.catchType ≠ 0 ∧ ∃ nm : String, (Cond.classLink own z.catchType nm).before args s = true ∧ va_Nc E nm s)) (hx : covers x pc = true) (h0 : x.catchType ≠ 0)
    (hlink : (Cond.classLink own x.catchType name).before args s = true) (hcast : (Cond.castable E name).before args s = true) (hcell : H[q]? = some ce) (hv : ce.vm = .none) (hcl : s.vm.findClass E = some ce.cls)
    (kk : W p l e R s m args below meth c H locs cells slots Q (F0 m x.handlerPc ls [.ref q])) : vx_W p l e R s m args below meth c H locs cells slots Q (F0 m pc ls rest) q := by
  intro T hT X
  have hpl : e.platform.magicAccessors = ({} : Platform).magicAccessors := by rw [X.admits.platform]
  obtain ⟨c3, c4, hc3, hc4, hasg⟩ := Cond.castable_spec hcast
  cases Option.some.inj (hc3.symm.trans hcl)
  obtain ⟨c5, hc5, hcl5⟩ := Cond.classLink_spec hown hlink e.platform hpl
  cases Option.some.inj (hc4.symm.trans hc5)
  obtain ⟨vm', X', st⟩ := X.thenCaughtThrough q (g := F0 m pc ls rest) rfl (Steps.refl _) (by rw [hT]; exact hcell) (by rw [hv]; rfl) (by obtain ⟨k9, h9, -⟩ := Vm.findClass_spec hcl; exact ⟨k9, h9⟩) pre x suf hsplit
    (fun z hz => by
      rcases hpass z hz with h | ⟨hz0, nm, hl1, hn1⟩
      · exact Or.inl h
      · obtain ⟨c6, hc6, hcl6⟩ := Cond.classLink_spec hown hl1 e.platform hpl
        obtain ⟨a8, b8, h1, h2, h3⟩ := hn1
        cases Option.some.inj (h1.symm.trans hcl)
        cases Option.some.inj (h2.symm.trans hc6)
        exact Or.inr ⟨hz0, _, hcl6, h3⟩) hx (Or.inr ⟨h0, c4, hcl5, hasg⟩)
  obtain ⟨t, a1, b1⟩ := kk (T.setVm vm') hT X'
  exact ⟨t, st.trans a1, b1⟩
end Rows
section Ends
variable {p : Program} {l : Launch} {e : Env} {R : Room} {s : State} {m : MethodId} {args : Array Value} {below : List Frame} {meth : Method} {c : Code} {H : Heap} {locs : List Loc} {cells slots : Nat} {Q : State → Prop}
variable {mc ms : Nat} {free : Addr → Prop} {A0 A1 : Nat → Prop} {H0 : Heap} {a : Array Value} {ls : Array Slot} {st0 rest : List Value}
variable {Qc : Array Value → State → Outcome → State → Prop} {XC : String → State → State → Prop}
/-- what a body that may throw owes at its end -/
def vx_MQ (below : List Frame) (Qc : Array Value → State → Outcome → State → Prop) (XC : String → State → State → Prop) (a : Array Value) (s : State) (mc ms : Nat) (free : Addr → Prop) : State → Prop := fun t =>
  ∃ o, t.status = .running ∧ Ended t below o ∧ vx_Q Qc XC mc ms free a s o t
theorem vx_ret {g : JFrame} {mc ms : Nat} (k : W p l e R s m args below meth c H locs cells slots (MQ below Qc args s mc ms free) g) : W p l e R s m args below meth c H locs cells slots (vx_MQ below Qc XC args s mc ms free) g := by
  intro T hT X
  obtain ⟨t, a1, o, b1, b2, b3, b4⟩ := k T hT X
  exact ⟨t, a1, o, b1, b2, Or.inl ⟨b3, b4⟩⟩
/-- not caught here: it goes on to the caller -/
theorem vx_widen {g : JFrame} {q : Addr} {k n : Nat} (h1 : cells ≤ k) (h2 : slots ≤ n) (kk : vx_W p l e R s m args below meth c H locs k n Q g q) : vx_W p l e R s m args below meth c H locs cells slots Q g q := fun T hT X => kk T hT (stand_widen X h1 h2)
theorem vx_out {pc : Nat} {E : String} {ce : Cell} {q : Addr} {mc ms : Nat} (hout : ∀ x ∈ c.exceptionTable.toList, covers x pc = false) (hlocks : meth.locks = false) (hcell : H[q]? = some ce) (hv : ce.vm = .none) (hcl : s.vm.findClass E = some ce.cls)
    (hx : ∀ t : State, t.heap = H → s.vm.Alike t.vm → XC E s t) (hf : ∀ z ∈ locs, free z.base) (hc : cells ≤ mc) (hs : slots ≤ ms) :
    vx_W p l e R s m args below meth c H locs cells slots (vx_MQ below Qc XC args s mc ms free) (F0 m pc ls rest) q := by
  intro T hT X
  obtain ⟨st1, hrun, hend, hW, hsm⟩ := X.leaveThrown q (g := F0 m pc ls rest) rfl rfl rfl hout hlocks
  have hcell9 : (T.setFrames (.throwing q :: below)).heap[q]? = some ce := by
    show T.heap[q]? = some ce
    rw [hT]; exact hcell
  exact ⟨_, st1, .threw q, hrun, hend, Or.inr ⟨q, rfl, E, ce, locs, hx _ hT hW.alike, hcell9, hv, hcl, hW, hsm.mono hc hs, hf⟩⟩
theorem vx_frame {U : State} {k n : Nat} (h : s.sameButNew ({ U with vm := s.vm } : State) locs k n) : s.heap.size ≤ U.heap.size ∧ ∀ q : Nat, q < s.heap.size → (∀ z ∈ locs, z.base ≠ q) → U.heap[q]? = s.heap[q]? := by
  obtain ⟨-, h2, -, -, -, h6⟩ := h
  refine ⟨h2, fun q hq hz => ?_⟩
  obtain ⟨c9, e1, e2, e3, e4⟩ := h6 q _ (Array.getElem?_eq_getElem hq)
  have hs : c9.slots = (s.heap[q]).slots := Array.ext_getElem? fun i => e4 i fun hm => hz _ hm rfl
  have h9 : c9 = s.heap[q] := by
    rw [hs] at e2
    exact e2
  have e5 : U.heap[q]? = some c9 := e1
  rw [e5, h9, Array.getElem?_eq_getElem hq]
/-- the words of a throw but the four that speak of the heap -/
def vx_no (w : Cond) : Bool := decide (w ≠ .isRef (.static Bundle.tN "UNASSIGNED_STACK" Bundle.steD)) && decide (w ≠ .isRef (.static Bundle.tN "SUPPRESSED_SENTINEL" Bundle.listD)) && decide (w ≠ .laysStatic Bundle.tN "UNASSIGNED_STACK" Bundle.steD) && decide (w ≠ .laysStatic Bundle.tN "SUPPRESSED_SENTINEL" Bundle.listD)
def vx_at0 (own : String) (ic : Nat) (X : String) (names : List String) : List Cond := (Bundle.ownAtoms0 own ic X names).filter vx_no
def vx_atS (own : String) (ic : Nat) (X : String) (names : List String) : List Cond := (Bundle.ownAtoms own ic X names).filter vx_no
/-- a word that the tables alone decide, or a good one -/
def vx_ot (w : Cond) : Bool := w.onTables || goodWord w
theorem vx_ot_at {args a' : Array Value} {s U : State} {w : Cond} (hW : s.WarmedH U.vm) (hvm : s.vm = U.vm) (hg : vx_ot w = true) (h : w.before args s = true) : w.before a' U = true := by
  simp only [vx_ot, Bool.or_eq_true] at hg
  rcases hg with hg | hg
  · exact va_tabs hg hvm h
  · exact word_at hW (good_of_word hg) h
/-- a list's words: the good ones out of the method's own list, the others by premises of their own -/
theorem vx_hat {args : Array Value} {s : State} {L B : List Cond} (h1 : ∀ w ∈ L.filter goodWord, w.before args s = true) (h2 : ∀ w ∈ L.filter (fun w => !goodWord w), w ∈ B) (h3 : ∀ w ∈ B, w.before args s = true) : ∀ w ∈ L, w.before args s = true := by
  intro w hw
  by_cases g : goodWord w = true
  · exact h1 w (List.mem_filter.mpr ⟨hw, g⟩)
  · refine h3 w (h2 w (List.mem_filter.mpr ⟨hw, ?_⟩))
    show (!goodWord w) = true
    cases hgw : goodWord w
    · rfl
    · exact absurd hgw g
theorem vx_c {args : Array Value} {s : State} {w : Cond} {B : List Cond} (h : w.before args s = true) (t : ∀ w ∈ B, w.before args s = true) : ∀ w' ∈ w :: B, w'.before args s = true := fun w' h' => (List.mem_cons.mp h').elim (fun e => by rw [e]; exact h) (t w')
theorem vx_n {args : Array Value} {s : State} : ∀ w ∈ ([] : List Cond), w.before args s = true := fun _ h => nomatch h
theorem vx_own {args : Array Value} {s : State} {L : List Cond} (h1 : ∀ w ∈ L.filter vx_no, w.before args s = true)
    (hU : (Cond.isRef (.static Bundle.tN "UNASSIGNED_STACK" Bundle.steD)).before args s = true) (hN : (Cond.isRef (.static Bundle.tN "SUPPRESSED_SENTINEL" Bundle.listD)).before args s = true)
    (lU : (Cond.laysStatic Bundle.tN "UNASSIGNED_STACK" Bundle.steD).before args s = true) (lN : (Cond.laysStatic Bundle.tN "SUPPRESSED_SENTINEL" Bundle.listD).before args s = true) : ∀ w ∈ L, w.before args s = true := by
  intro w hw
  by_cases e1 : w = .isRef (.static Bundle.tN "UNASSIGNED_STACK" Bundle.steD)
  · rw [e1]; exact hU
  · by_cases e2 : w = .isRef (.static Bundle.tN "SUPPRESSED_SENTINEL" Bundle.listD)
    · rw [e2]; exact hN
    · by_cases e3 : w = .laysStatic Bundle.tN "UNASSIGNED_STACK" Bundle.steD
      · rw [e3]; exact lU
      · by_cases e4 : w = .laysStatic Bundle.tN "SUPPRESSED_SENTINEL" Bundle.listD
        · rw [e4]; exact lN
        · exact h1 w (List.mem_filter.mpr ⟨hw, by unfold vx_no; rw [decide_eq_true e1, decide_eq_true e2, decide_eq_true e3, decide_eq_true e4]; rfl⟩)
/-- where a static field lies, its class's statics cell in H -/
def vx_L (C n d : String) (A : Nat → Prop) (U : State) (H : Heap) : Prop := ∃ (c : ClassId) (k : Class) (i : Nat) (f : Field) (a : Nat) (cell : Cell), U.vm.findClass C = some c ∧ U.fieldFound? C n d = some (c, k, i, f) ∧ f.isStatic = true ∧ k.statics = some a ∧ H[a]? = some cell ∧ cell.vm.isStatics = true ∧ cell.cls = c ∧ f.slot < cell.slots.size ∧ k.staticTypes[f.slot]? = some f.type ∧ ¬ A a
theorem vx_L.moved {C n d : String} {A : Nat → Prop} {u U : State} {H : Heap} (hvm : u.vm.Alike U.vm) (h : vx_L C n d A u H) : vx_L C n d A U H := by
  obtain ⟨c, k, i, f, a, cell, h1, h2, h3, h4, h5, h6, h7, h8, h9, h10⟩ := h
  obtain ⟨k', hi', he⟩ := State.fieldFound?_setVm hvm h2
  exact ⟨c, k', i, f, a, cell, by rw [hvm.findClass]; exact h1, hi', h3, by rw [he]; exact h4, h5, h6, h7, h8, by rw [he]; exact h9, h10⟩
theorem vx_L.kept {C n d : String} {A : Nat → Prop} {U : State} {H H1 : Heap} (h : vx_L C n d A U H) (hq : ∀ a : Nat, a < H.size → ¬ A a → H1[a]? = H[a]?) : vx_L C n d A U H1 := by
  obtain ⟨c, k, i, f, a, cell, h1, h2, h3, h4, h5, h6, h7, h8, h9, h10⟩ := h
  exact ⟨c, k, i, f, a, cell, h1, h2, h3, h4, by rw [hq a (Array.getElem?_eq_some_iff.mp h5).1 h10]; exact h5, h6, h7, h8, h9, h10⟩
theorem vx_L.narrow {C n d : String} {A B : Nat → Prop} {U : State} {H : Heap} (h : vx_L C n d A U H) (hAB : ∀ q, B q → A q) : vx_L C n d B U H := by
  obtain ⟨c, k, i, f, a, cell, h1, h2, h3, h4, h5, h6, h7, h8, h9, h10⟩ := h
  exact ⟨c, k, i, f, a, cell, h1, h2, h3, h4, h5, h6, h7, h8, h9, fun z => h10 (hAB _ z)⟩
theorem vx_L.word {C n d : String} {A : Nat → Prop} {s : State} {args : Array Value} (h : vx_L C n d A s s.heap) : (Cond.laysStatic C n d).before args s = true := by
  obtain ⟨c, k, i, f, a, cell, h1, h2, h3, h4, h5, h6, h7, h8, h9, -⟩ := h
  show (Cond.laysStatic C n d).holds args s none s [] = true
  exact Cond.laysStatic_of h1 h2 h3 h4 h5 h6 h7 h8 h9
/-- .. and what it holds: null or some reference -/
def vx_Zq (C n d : String) (A : Nat → Prop) (U : State) (H : Heap) : Prop := va_Zq C n d A U H ∧ vx_L C n d A U H
theorem vx_Zq.moved {C n d : String} {A : Nat → Prop} {u U : State} {H : Heap} (hvm : u.vm.Alike U.vm) (h : vx_Zq C n d A u H) : vx_Zq C n d A U H := ⟨va_Zq.moved hvm h.1, vx_L.moved hvm h.2⟩
theorem vx_Zq.kept {C n d : String} {A : Nat → Prop} {U : State} {H H1 : Heap} (h : vx_Zq C n d A U H) (hq : ∀ a : Nat, a < H.size → ¬ A a → H1[a]? = H[a]?) : vx_Zq C n d A U H1 := ⟨va_Zq.kept h.1 hq, vx_L.kept h.2 hq⟩
theorem vx_Zq.narrow {C n d : String} {A B : Nat → Prop} {U : State} {H : Heap} (h : vx_Zq C n d A U H) (hAB : ∀ q, B q → A q) : vx_Zq C n d B U H := ⟨va_Zq.narrow h.1 hAB, vx_L.narrow h.2 hAB⟩
theorem vx_Zqof {args : Array Value} {s : State} {C n d : String} {A : Nat → Prop} (hl : (Cond.laysStatic C n d).before args s = true) (hini : (Cond.initialized C).before args s = true) (h : (Cond.isRef (.static C n d)).before args s = true) (hA : ∀ a : Nat, a < s.heap.size → ¬ A a) : vx_Zq C n d A s s.heap := by
  refine ⟨va_Zqof hl hini h hA, ?_⟩
  obtain ⟨c, k, i, f, a, cell, h1, h2, h3, h4, h5, h6, h7, h8, h9⟩ := Cond.laysStatic_spec hl
  exact ⟨c, k, i, f, a, cell, h1, h2, h3, h4, h5, h6, h7, h8, h9, hA a (Array.getElem?_eq_some_iff.mp h5).1⟩
theorem vx_isRef {C n d : String} {v : Value} {A : Nat → Prop} {s : State} {args : Array Value} (h : va_Z C n d v A s s.heap) (hv : v.isRef = true) : (Cond.isRef (.static C n d)).before args s = true := by
  obtain ⟨cf, kf, fi, f, a, cell, h1, h2, h3, h4, h5, h6, h7, -⟩ := h
  have he : (Term.static C n d).eval args s none [] s = some v := by
    simp [Term.eval, State.fieldNamed?, h1, h2, h4, h5, h6, h7]
  simp only [Cond.before, Cond.holds, Cond.value, he]
  cases v <;> simp_all [Value.isRef]
theorem vx_isRefq {C n d : String} {A : Nat → Prop} {s : State} {args : Array Value} (h : va_Zq C n d A s s.heap) : (Cond.isRef (.static C n d)).before args s = true := by
  rcases h with h | ⟨t, h⟩
  · exact vx_isRef h rfl
  · exact vx_isRef h rfl
/-- the same frame, seen from here: as if the method were called anew in this heap -/
theorem vx_rebase {T : State} (X : Stand p l e R s m args below meth c T locs cells slots) {R' : Room} (hf : R'.frames ≤ R.frames) (hl : R'.locals ≤ R.locals) (hc : cells + R'.cells ≤ R.cells) (hs : slots + R'.slots ≤ R.slots) :
    Stand p l e R' ((T.setVm s.vm).setFrames (.invoking m args :: below)) m args below meth c T [] 0 0 := by
  have htop : (T.setVm s.vm).topJava?.isSome := X.here.top
  have hF : ((T.setVm s.vm).setFrames (.invoking m args :: below)).frames = .invoking m args :: below := State.frames_setFrames _ (State.cur_lt_of_top htop)
  obtain ⟨g₀, hg0⟩ := Option.isSome_iff_exists.mp htop
  obtain ⟨r, hr⟩ := State.topJava?_eq_some.mp hg0
  have hl9 : e.platform.stackLimits (T.setVm s.vm).me = e.platform.stackLimits s.me := X.limits
  have hb9 : (T.setVm s.vm).me.stackBytes = s.me.stackBytes := X.bytes
  refine ⟨X.admits, X.cas, X.clock, hF, ?_, X.hears, X.method, X.code, X.here, X.tail, X.warmed, ?_, ?_, ?_⟩
  · have h := X.room
    have hU : ((T.setVm s.vm).setFrames (.invoking m args :: below)).localsInUse = s.localsInUse := by
      rw [State.localsInUse_invoking hF (meth := meth) (c := c) X.method X.code, State.localsInUse_invoking X.frames X.method X.code]
    simp only [State.hasRoom, Bool.and_eq_true, decide_eq_true_eq] at h ⊢
    obtain ⟨⟨⟨⟨h1, h2, h3, h4, h5, h6⟩, h7⟩, h8⟩, h9⟩ := h
    rw [X.frames, List.length_cons] at h2 h3
    have q1 := X.heapSize
    have q2 := X.used
    simp only [hF, hU, List.length_cons, State.stackLimits_setFrames, State.stackBytes_setFrames, hl9, hb9]
    refine ⟨⟨⟨⟨by omega, by omega, by omega, by omega, by omega, h6⟩, ?_⟩, ?_⟩, X.book⟩
    · show T.heap.size + R'.cells ≤ e.platform.maxCells
      omega
    · show T.slotsUsed + R'.slots ≤ e.platform.maxSlots
      omega
  · rw [State.stackLimits_setFrames]; rfl
  · rw [State.stackBytes_setFrames]; rfl
  · refine ⟨?_, Nat.le_refl _, Nat.le_refl _, ?_, ?_, fun a c9 h9 => ⟨c9, h9, rfl, rfl, fun _ _ => rfl⟩⟩
    · obtain ⟨t, ht, -⟩ := State.frames_cons hr
      show T.setVm s.vm = { ((T.setVm s.vm).setFrames (.invoking m args :: below)).setFrames (T.setVm s.vm).frames with heap := T.heap, slotsUsed := T.slotsUsed }
      rw [State.setFrames_setFrames, State.setFrames_self ht]
      rfl
    · show T.slotsUsed = T.slotsUsed + ((T.heap.toList.drop T.heap.size).map (·.slots.size)).sum
      rw [List.drop_eq_nil_of_le (Nat.le_of_eq Array.length_toList)]
      rfl
    · show ((T.heap.toList.drop T.heap.size).map (·.slots.size)).sum ≤ 0
      rw [List.drop_eq_nil_of_le (Nat.le_of_eq Array.length_toList)]
      exact Nat.le_refl _
/-- 'throw new E()': new; dup; invokespecial; athrow -/
theorem vx_throw0 {cc : ByteArray} {pc : Nat} (hexec : p.tables.exec = Jvm.exec) (hb : c.code = cc) (hl : l.stackTraces = false) {own cls : String} {names : List String} {ik ic mc ms : Nat} {A : Nat → Prop}
    (hown : s.vm.findClass own = some m.cls) (hcls : Bundle.fit cls = true) (hnames : ∀ n ∈ names, Bundle.fit n = true)
    (hk : (Cond.classLink own ik cls).before args s = true) (hini : (Cond.initialized cls).before args s = true) (hat : ∀ w ∈ vx_at0 own ic cls names, w.before args s = true)
    (hgood : ∀ w ∈ Cond.classLink own ik cls :: Cond.initialized cls :: vx_at0 own ic cls names, vx_ot w = true)
    (hU : vx_Zq Bundle.tN "UNASSIGNED_STACK" Bundle.steD A s s.heap) (hN : vx_Zq Bundle.tN "SUPPRESSED_SENTINEL" Bundle.listD A s s.heap) (hS : va_S A s.heap H locs) (hsize : ls.size = c.maxLocals)
    (d0 : decode cc pc = .ok (.new ik, 3)) (d3 : decode cc (pc + 3) = .ok (.dup, 1)) (d4 : decode cc (pc + 4) = .ok (.invokespecial ic, 3)) (d7 : decode cc (pc + 7) = .ok (.athrow, 1))
    (hout : ∀ x ∈ c.exceptionTable.toList, covers x (pc + 7) = false)
    (hRframes : names.length + 3 < R.frames) (hRlocals : (rest.map fun v => v.category).sum + (13 * (names.length + 1) + 42) ≤ R.locals) (hRcells : cells + 1 ≤ R.cells) (hRslots : slots + 6 ≤ R.slots) (hlocks : meth.locks = false)
    (hx : ∀ t : State, s.vm.Alike t.vm → H.size ≤ t.heap.size → (∀ q : Nat, q < H.size → t.heap[q]? = H[q]?) → XC cls s t)
    (hf : ∀ z ∈ locs, free z.base) (hc : cells + 1 ≤ mc) (hs : slots + 6 ≤ ms) :
    W p l e R s m args below meth c H locs cells slots (vx_MQ below Qc XC args s mc ms free) (F0 m pc ls rest) := by
  intro T hT X
  have htr : e.platform.stackTraces = false := (show e.platform.stackTraces = l.stackTraces by rw [X.admits.platform]).trans hl
  have Y := vx_rebase X (R' := { frames := R.frames, locals := R.locals, cells := 1, slots := 6 }) (Nat.le_refl _) (Nat.le_refl _) hRcells hRslots
  obtain ⟨s', hA⟩ : ∃ z, z = (T.setVm s.vm).setFrames (.invoking m args :: below) := ⟨_, rfl⟩
  rw [← hA] at Y
  have hvm : s'.vm = s.vm := by rw [hA]; rfl
  have hhp : s'.heap = H := by rw [hA]; exact hT
  have hW0 : s.WarmedH s'.vm := by rw [hvm]; exact State.WarmedH.refl s
  have hat' : ∀ w ∈ vx_at0 own ic cls names, w.before args s' = true := fun w hw => vx_ot_at hW0 hvm.symm (hgood w (List.mem_cons_of_mem _ (List.mem_cons_of_mem _ hw))) (hat w hw)
  have hk' : (Cond.classLink own ik cls).before args s' = true := vx_ot_at hW0 hvm.symm (hgood _ List.mem_cons_self) hk
  have hini' : (Cond.initialized cls).before args s' = true := vx_ot_at hW0 hvm.symm (hgood _ (List.mem_cons_of_mem _ List.mem_cons_self)) hini
  have hU' : vx_Zq Bundle.tN "UNASSIGNED_STACK" Bundle.steD A s' s'.heap := by rw [hhp]; exact vx_Zq.moved hW0.alike (hU.kept hS.2.1)
  have hN' : vx_Zq Bundle.tN "SUPPRESSED_SENTINEL" Bundle.listD A s' s'.heap := by rw [hhp]; exact vx_Zq.moved hW0.alike (hN.kept hS.2.1)
  have h : ∀ w ∈ Bundle.ownAtoms0 own ic cls names, w.before args s' = true := vx_own hat' (vx_isRefq hU'.1) (vx_isRefq hN'.1) hU'.2.word hN'.2.word
  have hown' : s'.vm.findClass own = some m.cls := by rw [hvm]; exact hown
  have hins : (Cond.instantiable cls 6).before args s' = true := h _ (by simp [Bundle.ownAtoms0])
  obtain ⟨vm₁, cX, kX, hfX, hkX, -, -, X₁, st1⟩ := Y.newCold hexec (own := own) (C := cls) (index := ik) (n := 6) hown' hk' hins hini'
    (g := F0 m pc ls rest) rfl (by rw [hb]; exact d0) (Nat.le_refl _) (Nat.le_refl _)
  generalize hT1 : (T.setVm vm₁).pushCell { cls := cX, slots := kX.instanceTypes.map defaultValue, vm := .none } = T1 at X₁ st1
  have hcat : (Value.ref T.heap.size).category = 1 := rfl
  have hcellA : T1.heap[T.heap.size]? = some (freshCell cX kX) := by rw [← hT1]; exact State.heap_pushCell_size _ _
  have d3' : decode c.code (pc + 3) = .ok (.dup, 1) := by rw [hb]; exact d3
  obtain ⟨U, hsteps, hrun, hend, hW, hsame, ce, hce, hO⟩ := X₁.ctorThrow0 hexec htr (own := own) (cls := cls) (names := names) (ic := ic) hown' hcls hnames h (fun x hx => nomatch hx) hfX hkX hcellA (by rw [hhp, hT]; exact Nat.le_refl _)
    (g := { method := m, pc := pc + 4, locals := ls, stack := .ref T.heap.size :: .ref T.heap.size :: rest, locked := none }) rfl hsize rfl rfl (rest := rest) rfl
    (by rw [hb]; exact d4) (by rw [hb]; exact d7) hout hRframes (by simp only [List.map_cons, List.sum_cons, hcat]; omega) hlocks
  obtain ⟨f1, f2⟩ := vx_frame hsame
  rw [hhp] at f1 f2
  have hWs : s.WarmedH U.vm := State.WarmedH.trans hW0 hW
  have hcl : s.vm.findClass cls = some ce.cls := by
    have h9 := hO.cls
    rw [hvm] at h9
    exact h9
  have hall : s.sameButNew ({ U with vm := s.vm } : State) locs mc ms := by
    subst hA
    obtain ⟨e1, e2⟩ := hsame
    rw [State.setFrames_setFrames] at e1
    have h2 : (T.setVm s.vm).sameButNew ({ U with vm := s.vm } : State) [] (0 + 1) (0 + 6) := ⟨e1, e2⟩
    have h3 := X.same.trans h2
    rw [List.append_nil] at h3
    exact h3.mono hc hs
  refine ⟨U, ?_, .threw T.heap.size, hrun, hend, Or.inr ⟨T.heap.size, rfl, cls, ce, locs, hx U hWs.alike f1 (fun q hq => f2 q hq (fun z hz => nomatch hz)), hce, hO.vm, hcl, hWs, hall, hf⟩⟩
  refine st1 _ ?_
  show Steps p.tables e below (T1.setTop { method := m, pc := pc + 3, locals := ls, stack := .ref T.heap.size :: rest, locked := none }) _
  jvm_step X₁.here [X₁.here.top, hexec, d3', Value.category]
  exact hsteps
/-- 'throw new E("text")': new; dup; ldc; invokespecial; athrow -/
theorem vx_throwS {cc : ByteArray} {pc : Nat} (hexec : p.tables.exec = Jvm.exec) (hb : c.code = cc) (hl : l.stackTraces = false) {own cls text : String} {names : List String} {ik is ic mc ms sa : Nat} {A : Nat → Prop}
    (hown : s.vm.findClass own = some m.cls) (hcls : Bundle.fit cls = true) (hnames : ∀ n ∈ names, Bundle.fit n = true)
    (hk : (Cond.classLink own ik cls).before args s = true) (hini : (Cond.initialized cls).before args s = true) (hstr : vk_R own is text sa s) (hat : ∀ w ∈ vx_atS own ic cls names, w.before args s = true)
    (hgood : ∀ w ∈ Cond.classLink own ik cls :: Cond.initialized cls :: vx_atS own ic cls names, vx_ot w = true)
    (hU : vx_Zq Bundle.tN "UNASSIGNED_STACK" Bundle.steD A s s.heap) (hN : vx_Zq Bundle.tN "SUPPRESSED_SENTINEL" Bundle.listD A s s.heap) (hS : va_S A s.heap H locs) (hsize : ls.size = c.maxLocals)
    (d0 : decode cc pc = .ok (.new ik, 3)) (d3 : decode cc (pc + 3) = .ok (.dup, 1)) (d4 : decode cc (pc + 4) = .ok (.ldc is, 2)) (d6 : decode cc (pc + 6) = .ok (.invokespecial ic, 3)) (d9 : decode cc (pc + 9) = .ok (.athrow, 1))
    (hout : ∀ x ∈ c.exceptionTable.toList, covers x (pc + 9) = false)
    (hRframes : names.length + 3 < R.frames) (hRlocals : (rest.map fun v => v.category).sum + (13 * (names.length + 1) + 43) ≤ R.locals) (hRcells : cells + 1 ≤ R.cells) (hRslots : slots + 6 ≤ R.slots) (hlocks : meth.locks = false)
    (hx : ∀ t : State, s.vm.Alike t.vm → H.size ≤ t.heap.size → (∀ q : Nat, q < H.size → t.heap[q]? = H[q]?) → XC cls s t)
    (hf : ∀ z ∈ locs, free z.base) (hc : cells + 1 ≤ mc) (hs : slots + 6 ≤ ms) :
    W p l e R s m args below meth c H locs cells slots (vx_MQ below Qc XC args s mc ms free) (F0 m pc ls rest) := by
  intro T hT X
  have htr : e.platform.stackTraces = false := (show e.platform.stackTraces = l.stackTraces by rw [X.admits.platform]).trans hl
  have Y := vx_rebase X (R' := { frames := R.frames, locals := R.locals, cells := 1, slots := 6 }) (Nat.le_refl _) (Nat.le_refl _) hRcells hRslots
  obtain ⟨s', hA⟩ : ∃ z, z = (T.setVm s.vm).setFrames (.invoking m args :: below) := ⟨_, rfl⟩
  rw [← hA] at Y
  have hvm : s'.vm = s.vm := by rw [hA]; rfl
  have hhp : s'.heap = H := by rw [hA]; exact hT
  have hW0 : s.WarmedH s'.vm := by rw [hvm]; exact State.WarmedH.refl s
  have hat' : ∀ w ∈ vx_atS own ic cls names, w.before args s' = true := fun w hw => vx_ot_at hW0 hvm.symm (hgood w (List.mem_cons_of_mem _ (List.mem_cons_of_mem _ hw))) (hat w hw)
  have hk' : (Cond.classLink own ik cls).before args s' = true := vx_ot_at hW0 hvm.symm (hgood _ List.mem_cons_self) hk
  have hini' : (Cond.initialized cls).before args s' = true := vx_ot_at hW0 hvm.symm (hgood _ (List.mem_cons_of_mem _ List.mem_cons_self)) hini
  have hU' : vx_Zq Bundle.tN "UNASSIGNED_STACK" Bundle.steD A s' s'.heap := by rw [hhp]; exact vx_Zq.moved hW0.alike (hU.kept hS.2.1)
  have hN' : vx_Zq Bundle.tN "SUPPRESSED_SENTINEL" Bundle.listD A s' s'.heap := by rw [hhp]; exact vx_Zq.moved hW0.alike (hN.kept hS.2.1)
  have h : ∀ w ∈ Bundle.ownAtoms own ic cls names, w.before args s' = true := vx_own hat' (vx_isRefq hU'.1) (vx_isRefq hN'.1) hU'.2.word hN'.2.word
  have hown' : s'.vm.findClass own = some m.cls := by rw [hvm]; exact hown
  have hins : (Cond.instantiable cls 6).before args s' = true := h _ (by simp [Bundle.ownAtoms])
  obtain ⟨vm₁, cX, kX, hfX, hkX, -, -, X₁, st1⟩ := Y.newCold hexec (own := own) (C := cls) (index := ik) (n := 6) hown' hk' hins hini'
    (g := F0 m pc ls rest) rfl (by rw [hb]; exact d0) (Nat.le_refl _) (Nat.le_refl _)
  generalize hT1 : (T.setVm vm₁).pushCell { cls := cX, slots := kX.instanceTypes.map defaultValue, vm := .none } = T1 at X₁ st1
  have hcat : (Value.ref T.heap.size).category = 1 := rfl
  have hcellA : T1.heap[T.heap.size]? = some (freshCell cX kX) := by rw [← hT1]; exact State.heap_pushCell_size _ _
  have d3' : decode c.code (pc + 3) = .ok (.dup, 1) := by rw [hb]; exact d3
  have d4' : decode c.code (pc + 4) = .ok (.ldc is, 2) := by rw [hb]; exact d4
  have hstr' : vk_R own is text sa s' := vk_R.warm hW0 hstr
  obtain ⟨U, hsteps, hrun, hend, hW, hsame, ce, hce, hO⟩ := X₁.ctorThrowS hexec htr (own := own) (cls := cls) (names := names) (ic := ic) hown' hcls hnames h (fun x hx => nomatch hx) hfX hkX hcellA (by rw [hhp, hT]; exact Nat.le_refl _) (msg := .ref sa) rfl
    (g := { method := m, pc := pc + 6, locals := ls, stack := .ref sa :: .ref T.heap.size :: .ref T.heap.size :: rest, locked := none }) rfl hsize rfl rfl (rest := rest) rfl
    (by rw [hb]; exact d6) (by rw [hb]; exact d9) hout hRframes (by simp only [List.map_cons, List.sum_cons, hcat]; omega) hlocks
  obtain ⟨f1, f2⟩ := vx_frame hsame
  rw [hhp] at f1 f2
  have hWs : s.WarmedH U.vm := State.WarmedH.trans hW0 hW
  have hcl : s.vm.findClass cls = some ce.cls := by
    have h9 := hO.cls
    rw [hvm] at h9
    exact h9
  have hall : s.sameButNew ({ U with vm := s.vm } : State) locs mc ms := by
    subst hA
    obtain ⟨e1, e2⟩ := hsame
    rw [State.setFrames_setFrames] at e1
    have h2 : (T.setVm s.vm).sameButNew ({ U with vm := s.vm } : State) [] (0 + 1) (0 + 6) := ⟨e1, e2⟩
    have h3 := X.same.trans h2
    rw [List.append_nil] at h3
    exact h3.mono hc hs
  refine ⟨U, ?_, .threw T.heap.size, hrun, hend, Or.inr ⟨T.heap.size, rfl, cls, ce, locs, hx U hWs.alike f1 (fun q hq => f2 q hq (fun z hz => nomatch hz)), hce, hO.vm, hcl, hWs, hall, hf⟩⟩
  refine st1 _ ?_
  show Steps p.tables e below (T1.setTop { method := m, pc := pc + 3, locals := ls, stack := .ref T.heap.size :: rest, locked := none }) _
  jvm_step X₁.here [X₁.here.top, hexec, d3', Value.category]
  exact X₁.ldcString hexec (own := own) (text := text) (index := is) (a := sa) hown' hstr'.1 hstr'.2
    (g := { method := m, pc := pc + 4, locals := ls, stack := .ref T.heap.size :: .ref T.heap.size :: rest, locked := none }) rfl d4' _ hsteps
/-- 'throw new E("text")', the text by a wide index -/
theorem vx_throwSW {cc : ByteArray} {pc : Nat} (hexec : p.tables.exec = Jvm.exec) (hb : c.code = cc) (hl : l.stackTraces = false) {own cls text : String} {names : List String} {ik is ic mc ms sa : Nat} {A : Nat → Prop}
    (hown : s.vm.findClass own = some m.cls) (hcls : Bundle.fit cls = true) (hnames : ∀ n ∈ names, Bundle.fit n = true)
    (hk : (Cond.classLink own ik cls).before args s = true) (hini : (Cond.initialized cls).before args s = true) (hstr : vk_R own is text sa s) (hat : ∀ w ∈ vx_atS own ic cls names, w.before args s = true)
    (hgood : ∀ w ∈ Cond.classLink own ik cls :: Cond.initialized cls :: vx_atS own ic cls names, vx_ot w = true)
    (hU : vx_Zq Bundle.tN "UNASSIGNED_STACK" Bundle.steD A s s.heap) (hN : vx_Zq Bundle.tN "SUPPRESSED_SENTINEL" Bundle.listD A s s.heap) (hS : va_S A s.heap H locs) (hsize : ls.size = c.maxLocals)
    (d0 : decode cc pc = .ok (.new ik, 3)) (d3 : decode cc (pc + 3) = .ok (.dup, 1)) (d4 : decode cc (pc + 4) = .ok (.ldc_w is, 3)) (d7 : decode cc (pc + 7) = .ok (.invokespecial ic, 3)) (d10 : decode cc (pc + 10) = .ok (.athrow, 1))
    (hout : ∀ x ∈ c.exceptionTable.toList, covers x (pc + 10) = false)
    (hRframes : names.length + 3 < R.frames) (hRlocals : (rest.map fun v => v.category).sum + (13 * (names.length + 1) + 43) ≤ R.locals) (hRcells : cells + 1 ≤ R.cells) (hRslots : slots + 6 ≤ R.slots) (hlocks : meth.locks = false)
    (hx : ∀ t : State, s.vm.Alike t.vm → H.size ≤ t.heap.size → (∀ q : Nat, q < H.size → t.heap[q]? = H[q]?) → XC cls s t)
    (hf : ∀ z ∈ locs, free z.base) (hc : cells + 1 ≤ mc) (hs : slots + 6 ≤ ms) :
    W p l e R s m args below meth c H locs cells slots (vx_MQ below Qc XC args s mc ms free) (F0 m pc ls rest) := by
  intro T hT X
  have htr : e.platform.stackTraces = false := (show e.platform.stackTraces = l.stackTraces by rw [X.admits.platform]).trans hl
  have Y := vx_rebase X (R' := { frames := R.frames, locals := R.locals, cells := 1, slots := 6 }) (Nat.le_refl _) (Nat.le_refl _) hRcells hRslots
  obtain ⟨s', hA⟩ : ∃ z, z = (T.setVm s.vm).setFrames (.invoking m args :: below) := ⟨_, rfl⟩
  rw [← hA] at Y
  have hvm : s'.vm = s.vm := by rw [hA]; rfl
  have hhp : s'.heap = H := by rw [hA]; exact hT
  have hW0 : s.WarmedH s'.vm := by rw [hvm]; exact State.WarmedH.refl s
  have hat' : ∀ w ∈ vx_atS own ic cls names, w.before args s' = true := fun w hw => vx_ot_at hW0 hvm.symm (hgood w (List.mem_cons_of_mem _ (List.mem_cons_of_mem _ hw))) (hat w hw)
  have hk' : (Cond.classLink own ik cls).before args s' = true := vx_ot_at hW0 hvm.symm (hgood _ List.mem_cons_self) hk
  have hini' : (Cond.initialized cls).before args s' = true := vx_ot_at hW0 hvm.symm (hgood _ (List.mem_cons_of_mem _ List.mem_cons_self)) hini
  have hU' : vx_Zq Bundle.tN "UNASSIGNED_STACK" Bundle.steD A s' s'.heap := by rw [hhp]; exact vx_Zq.moved hW0.alike (hU.kept hS.2.1)
  have hN' : vx_Zq Bundle.tN "SUPPRESSED_SENTINEL" Bundle.listD A s' s'.heap := by rw [hhp]; exact vx_Zq.moved hW0.alike (hN.kept hS.2.1)
  have h : ∀ w ∈ Bundle.ownAtoms own ic cls names, w.before args s' = true := vx_own hat' (vx_isRefq hU'.1) (vx_isRefq hN'.1) hU'.2.word hN'.2.word
  have hown' : s'.vm.findClass own = some m.cls := by rw [hvm]; exact hown
  have hins : (Cond.instantiable cls 6).before args s' = true := h _ (by simp [Bundle.ownAtoms])
  obtain ⟨vm₁, cX, kX, hfX, hkX, -, -, X₁, st1⟩ := Y.newCold hexec (own := own) (C := cls) (index := ik) (n := 6) hown' hk' hins hini'
    (g := F0 m pc ls rest) rfl (by rw [hb]; exact d0) (Nat.le_refl _) (Nat.le_refl _)
  generalize hT1 : (T.setVm vm₁).pushCell { cls := cX, slots := kX.instanceTypes.map defaultValue, vm := .none } = T1 at X₁ st1
  have hcat : (Value.ref T.heap.size).category = 1 := rfl
  have hcellA : T1.heap[T.heap.size]? = some (freshCell cX kX) := by rw [← hT1]; exact State.heap_pushCell_size _ _
  have d3' : decode c.code (pc + 3) = .ok (.dup, 1) := by rw [hb]; exact d3
  have d4' : decode c.code (pc + 4) = .ok (.ldc_w is, 3) := by rw [hb]; exact d4
  have hstr' : vk_R own is text sa s' := vk_R.warm hW0 hstr
  obtain ⟨U, hsteps, hrun, hend, hW, hsame, ce, hce, hO⟩ := X₁.ctorThrowS hexec htr (own := own) (cls := cls) (names := names) (ic := ic) hown' hcls hnames h (fun x hx => nomatch hx) hfX hkX hcellA (by rw [hhp, hT]; exact Nat.le_refl _) (msg := .ref sa) rfl
    (g := { method := m, pc := pc + 7, locals := ls, stack := .ref sa :: .ref T.heap.size :: .ref T.heap.size :: rest, locked := none }) rfl hsize rfl rfl (rest := rest) rfl
    (by rw [hb]; exact d7) (by rw [hb]; exact d10) hout hRframes (by simp only [List.map_cons, List.sum_cons, hcat]; omega) hlocks
  obtain ⟨f1, f2⟩ := vx_frame hsame
  rw [hhp] at f1 f2
  have hWs : s.WarmedH U.vm := State.WarmedH.trans hW0 hW
  have hcl : s.vm.findClass cls = some ce.cls := by
    have h9 := hO.cls
    rw [hvm] at h9
    exact h9
  have hall : s.sameButNew ({ U with vm := s.vm } : State) locs mc ms := by
    subst hA
    obtain ⟨e1, e2⟩ := hsame
    rw [State.setFrames_setFrames] at e1
    have h2 : (T.setVm s.vm).sameButNew ({ U with vm := s.vm } : State) [] (0 + 1) (0 + 6) := ⟨e1, e2⟩
    have h3 := X.same.trans h2
    rw [List.append_nil] at h3
    exact h3.mono hc hs
  refine ⟨U, ?_, .threw T.heap.size, hrun, hend, Or.inr ⟨T.heap.size, rfl, cls, ce, locs, hx U hWs.alike f1 (fun q hq => f2 q hq (fun z hz => nomatch hz)), hce, hO.vm, hcl, hWs, hall, hf⟩⟩
  refine st1 _ ?_
  show Steps p.tables e below (T1.setTop { method := m, pc := pc + 3, locals := ls, stack := .ref T.heap.size :: rest, locked := none }) _
  jvm_step X₁.here [X₁.here.top, hexec, d3', Value.category]
  exact X₁.ldcStringW hexec (own := own) (text := text) (index := is) (a := sa) hown' hstr'.1 hstr'.2
    (g := { method := m, pc := pc + 4, locals := ls, stack := .ref T.heap.size :: .ref T.heap.size :: rest, locked := none }) rfl d4' _ hsteps
end Ends
section Bodies
variable {l : Launch}
theorem vx_ofW {y : MethodName} {ws ws' : List Cond} {rm : Room} {Pc : Array Value → State → Prop} {Qc : Array Value → State → Outcome → State → Prop} {XC : String → State → State → Prop} {mc ms : Nat} {free : Addr → Prop} {cc : ByteArray} {maxL : Nat} {ret : Option FieldType}
    (hy : plainName y.cls = true) (hw : ws = Cond.code y cc maxL ret :: ws')
    (body : ∀ p e s m args below meth c s₁, BodyLoose p l y (headSpec ws rm) cc maxL ret e s m args below meth c s₁ → c.maxLocals = maxL → (∀ x ∈ c.exceptionTable.toList, False) → Pc args s →
      W p l e (headSpec ws rm).room s m args below meth c s.heap [] 0 0 (vx_MQ below Qc XC args s mc ms free) (entryFrame m args maxL)) : vx_Met l y ws rm Pc Qc XC mc ms free := by
  refine MetFree.of_bodyS (code := cc) (maxLocals := maxL) (ret := ret) hy ?_ ?_
  · intro args s m h hn
    obtain ⟨meth, c, h1, h2, h3, h4, h5, h6, -, -⟩ := Cond.code_spec hn (atoms_spec (ws := ws) h _ (by rw [hw]; exact List.mem_cons_self))
    exact ⟨meth, c, h1, h2, h3, h4, h5, h6⟩
  · intro p e s m args below meth c s₁ B hml hP _
    have hh0 : s₁.heap = s.heap := by rw [B.state]; rfl
    have ht : ∀ x ∈ c.exceptionTable.toList, False := by
      obtain ⟨meth9, c9, h1, h2, -, -, -, -, h7, -⟩ := Cond.code_spec B.named (atoms_spec (ws := ws) B.pre _ (by rw [hw]; exact List.mem_cons_self))
      cases Option.some.inj (h1.symm.trans B.method)
      cases Option.some.inj (h2.symm.trans (Stand.of_body B).code)
      intro x hx
      rw [Array.isEmpty_iff.mp h7] at hx
      cases hx
    obtain ⟨t, a1, o, b1, b2, b3⟩ := body p e s m args below meth c s₁ B hml ht hP s₁ hh0 (Stand.of_body B)
    exact ⟨t, o, a1, b1, b2, b3⟩
/-- the table of a body with handlers -/
theorem vx_table {p : Program} {x y : MethodName} {S : Spec} {cc bytes : ByteArray} {maxL maxL' : Nat} {ret ret' : Option FieldType} {e : Env} {s s₁ : State} {m : MethodId} {args : Array Value} {below : List Frame} {meth : Method} {c : Code} {hh : List (Nat × Nat × Nat × Nat)}
    (B : BodyLoose p l y S cc maxL ret e s m args below meth c s₁) (h : (Cond.codeWith y bytes maxL' ret' hh).before args s = true) : c.exceptionTable.toList = tableOf hh := by
  obtain ⟨m9, meth9, c9, hn9, h1, h2, -, -, h6, -⟩ := Cond.codeWith_spec h
  cases Option.some.inj (hn9.symm.trans B.named)
  cases Option.some.inj (h1.symm.trans B.method)
  cases Option.some.inj (h2.symm.trans (Stand.of_body B).code)
  rw [← h6, table_eq]
end Bodies
end VXA
/-! ===== END ===== -/
/-! ===== BEGIN a static call of a method with an exception table ===== -/
section VXS
variable {p : Program} {l : Launch} {e : Env} {R : Room} {s : State} {m : MethodId} {args : Array Value} {below : List Frame} {meth : Method} {c : Code} {T : State} {H : Heap} {locs : List Loc} {cells slots : Nat}
abbrev vx_CSW (R : Room) (s : State) (args : Array Value) (own : String) (index : Nat) (y : MethodName) (bytes : ByteArray) (maxL : Nat) (ret : Option FieldType) (hh : List (Nat × Nat × Nat × Nat)) (ws : List Cond) (rm : Room) (mc ms n : Nat) : Prop :=
  (rm.cells = mc ∧ rm.slots = ms ∧ rm.frames + 1 ≤ R.frames ∧ 8 + (maxL + 11) + rm.locals ≤ R.locals ∧ (∀ w ∈ ws, ∀ (a' : Array Value) (U : State), s.WarmedH U.vm → w.before a' U = true) ∧ Cond.codeWith y bytes maxL ret hh ∈ ws) ∧
  (Cond.codeWith y bytes maxL ret hh).before args s = true ∧ (Cond.initialized y.cls).before args s = true ∧ (y.cls ≠ "java/lang/invoke/MethodHandle" ∧ y.cls ≠ "java/lang/invoke/VarHandle") ∧
  (∀ sig, parseMethodDescriptor y.desc = some sig → n = sig.parameters.length) ∧ (Cond.methodLink own index y).before args s = true ∧ (Cond.static y).before args s = true
theorem vx_cwSW {own : String} {index maxL mc ms : Nat} {y : MethodName} {bytes : ByteArray} {ret : Option FieldType} {hh : List (Nat × Nat × Nat × Nat)} {Ts ws ws' : List Cond} {rm : Room} (n : Nat) (ht : ∀ w ∈ Ts, w.before args s = true) (hT : GoodIn Ts (va_wsS own index y ws)) (hw : ws = Cond.codeWith y bytes maxL ret hh :: ws') (hrc : rm.cells = mc) (hrs : rm.slots = ms)
    (hd : y.cls ≠ "java/lang/invoke/MethodHandle" ∧ y.cls ≠ "java/lang/invoke/VarHandle" ∧ (parseMethodDescriptor y.desc).map (fun d => d.parameters.length) = some n) (hR : rm.frames + 1 ≤ R.frames ∧ 8 + (maxL + 11) + rm.locals ≤ R.locals) :
    vx_CSW R s args own index y bytes maxL ret hh ws rm mc ms n := by
  have ok : ∀ w ∈ va_wsS own index y ws, w.before args s = true := fun w h => ht w (hT w h).1
  have hG : GoodIn Ts ws := fun w h => hT w (by unfold va_wsS; exact List.mem_append_right _ h)
  have hc : Cond.codeWith y bytes maxL ret hh ∈ ws := by rw [hw]; exact List.mem_cons_self
  refine ⟨⟨hrc, hrs, hR.1, hR.2, pay_in ht hG, hc⟩, ht _ (hG _ hc).1, ok _ (by simp [va_wsS]), ⟨hd.1, hd.2.1⟩, fun sig h => ?_, ok _ (by simp [va_wsS]), ok _ (by simp [va_wsS])⟩
  have h2 := hd.2.2
  rw [h] at h2
  exact (Option.some.inj h2).symm
theorem vx_callSW (X : Stand p l e R s m args below meth c T locs cells slots) (hexec : p.tables.exec = Jvm.exec) {own : String} {index : Nat} {y : MethodName} {bytes : ByteArray} {maxL : Nat} {ret : Option FieldType} {hh : List (Nat × Nat × Nat × Nat)}
    (hown : s.vm.findClass own = some m.cls) (hlink : (Cond.methodLink own index y).before args s = true) (hstat : (Cond.static y).before args s = true) (hinit : (Cond.initialized y.cls).before args s = true)
    (hcode : (Cond.codeWith y bytes maxL ret hh).before args s = true) (hy : y.cls ≠ "java/lang/invoke/MethodHandle" ∧ y.cls ≠ "java/lang/invoke/VarHandle")
    {W9 : Nat} {Pre : Pt → Array Value → Prop} {Post : Pt → Array Value → Option Value → Pt → Prop} (hK : Back l R p e below s args y 3 W9 Pre Post)
    {g : JFrame} (hg : g.method = m) (hsize : g.locals.size = c.maxLocals) {argsL rest : List Value} (hlen : ∀ sig, parseMethodDescriptor y.desc = some sig → argsL.length = sig.parameters.length)
    (hstack : g.stack = argsL.reverse ++ rest) (hW : 2 * g.monitorRoom + (rest.map fun v => v.category).sum ≤ W9) (hdg : decode c.code g.pc = .ok (.invokestatic index, 3))
    (hpre : ∀ vm₁, s.WarmedH vm₁ → Pre ⟨T.setVm vm₁, locs, cells, slots⟩ argsL.toArray) :
    ∃ (v : Option Value) (vm₁ : Vm) (B : Pt), s.WarmedH vm₁ ∧ Stand p l e R s m args below meth c B.U B.locs B.cells B.slots ∧ Post ⟨T.setVm vm₁, locs, cells, slots⟩ argsL.toArray v B ∧
      ∀ target, Steps p.tables e below (B.U.setTop { g with pc := g.pc + 3, stack := v.toList ++ rest }) target → Steps p.tables e below (T.setTop g) target := by
  obtain ⟨mk, methM, cM, hnamed, hmethM, -, -, -, -, -, -, hsigM⟩ := Cond.codeWith_spec hcode
  have hstatic : methM.isStatic = true := Cond.static_spec hnamed hmethM hstat
  obtain ⟨kP, hkP, -⟩ := className_of_methodNamed hnamed
  have hinitP : kP.init = .initialized := Cond.initialized_spec (findClass_of_methodNamed hnamed) hkP hinit
  obtain ⟨vm₁, X₁, hstep₁⟩ := X.invokestatic hexec hown hlink hnamed hmethM hstatic hkP hinitP hy (g := g) hg (argsL := argsL) (rest := rest) (hlen _ hsigM) hstack hdg
  obtain ⟨v, B, X', hpost, hsteps⟩ := hK m meth c ⟨T.setVm vm₁, locs, cells, slots⟩ { g with stack := rest } (.invokestatic index) mk argsL.toArray X₁ hg hsize hdg hW (X₁.named hnamed) (hpre vm₁ X₁.warmed)
  exact ⟨v, vm₁, B, X₁.warmed, X', hpost, fun target h => hstep₁ _ fun acts => by rw [doInvoke_state]; exact hsteps.trans h⟩
theorem vx_runSW {y : MethodName} {bytes cc : ByteArray} {maxL nL mc ms n index : Nat} {ret : Option FieldType} {hh : List (Nat × Nat × Nat × Nat)} {ws : List Cond} {rm : Room} {Pc : Array Value → State → Prop} {Qc : Array Value → State → Outcome → State → Prop} {free : Addr → Prop} {Ts : List Cond} {own : String} {As rest : List Value} {g : JFrame}
    (S : CallFix p m c cc nL s args Ts own) (hM : Met l y ws rm Pc Qc mc ms free) (cw : vx_CSW R s args own index y bytes maxL ret hh ws rm mc ms n) (hp : PreS s H Pc As)
    (hg : g.method = m) (hn : As.length = n) (hsize : g.locals.size = nL) (hstack : g.stack = As.reverse ++ rest) (hW : 2 * g.monitorRoom + (rest.map fun v => v.category).sum ≤ 8) (hdg : decode cc g.pc = .ok (.invokestatic index, 3)) (hf : cells + mc ≤ R.cells ∧ slots + ms ≤ R.slots) :
    va_Run p l e R s m args below meth c H locs cells slots mc ms g rest (Qc As.toArray) (free) := by
  obtain ⟨⟨hrc, hrs, hfr, hlo, hws, hcw⟩, hcode, hini, hy, hlen, hl, hstt⟩ := cw
  have hK : Back l R p e below s args y 3 8 (PreOf R mc ms Pc) (PostOf Qc mc ms free) := va_backW (hh := hh) (bytes := bytes) (maxL := maxL) (ret := ret) hM hp.1 hrc hrs hfr hlo hws hcw (fun a' U hW => word_at hW (Or.inl (by first | rfl | simp [Cond.onTables, Cond.keeps, Cond.steady])) hini)
  obtain ⟨hx, hb, hml, ho, -⟩ := S
  intro T hT X
  obtain ⟨v, vm₁, ⟨U', l2, c2, s2⟩, hW₁, X', ⟨g', mk, t, L, e1, e2, hq, h1, hL, h2, h3⟩, st⟩ := vx_callSW X hx (hh := hh) (bytes := bytes) (maxL := maxL) (ret := ret) ho hl hstt hini hcode hy hK hg (hsize.trans hml.symm) (argsL := As) (rest := rest) (fun sig h => hn.trans (hlen sig h)) hstack hW (by rw [hb]; exact hdg)
    (fun vm₁ hW₁ => ⟨hf.1, hf.2, hp.2 (T.setVm vm₁) hT hW₁⟩)
  dsimp only [Pt.U, Pt.locs, Pt.cells, Pt.slots] at X' e1 e2 h1 h2 h3 st
  subst h1; subst h2; subst h3
  exact ⟨v, (T.setVm vm₁).calling g' mk As.toArray, t, U', L, hT, X', hL, e1, e2, hq, st⟩
/-- not caught here, past rows that name other classes: it goes on to the caller -/
theorem vx_outP {p : Program} {l : Launch} {e : Env} {R : Room} {s : State} {m : MethodId} {args : Array Value} {below : List Frame} {meth : Method} {c : Code} {H : Heap} {locs : List Loc} {cells slots : Nat} {free : Addr → Prop} {ls : Array Slot} {rest : List Value} {Qc : Array Value → State → Outcome → State → Prop} {XC : String → State → State → Prop}
    {pc : Nat} {own E : String} {ce : Cell} {q : Addr} {mc ms : Nat} (hown : s.vm.findClass own = some m.cls) (hlocks : meth.locks = false)
    (hpass : ∀ z ∈ c.exceptionTable.toList, covers z pc = false ∨ (z.catchType ≠ 0 ∧ ∃ nm : String, (Cond.classLink own z.catchType nm).before args s = true ∧ va_Nc E nm s)) (hcell : H[q]? = some ce) (hv : ce.vm = .none) (hcl : s.vm.findClass E = some ce.cls)
    (hx : ∀ t : State, t.heap = H → s.vm.Alike t.vm → XC E s t) (hf : ∀ z ∈ locs, free z.base) (hc : cells ≤ mc) (hs : slots ≤ ms) :
    vx_W p l e R s m args below meth c H locs cells slots (vx_MQ below Qc XC args s mc ms free) (F0 m pc ls rest) q := by
  intro T hT X
  have hpl : e.platform.magicAccessors = ({} : Platform).magicAccessors := by rw [X.admits.platform]
  obtain ⟨vm', hW', X', st⟩ := X.outThrough hlocks q (g := F0 m pc ls rest) rfl rfl rfl (cell := ce) (by rw [hT]; exact hcell) (by rw [hv]; rfl)
    (by obtain ⟨k9, h9, -⟩ := Vm.findClass_spec hcl; exact ⟨k9, h9⟩) (fun z hz => by
      rcases hpass z hz with h | ⟨hz0, nm, hl1, hn1⟩
      · exact Or.inl h
      · obtain ⟨c6, hc6, hcl6⟩ := Cond.classLink_spec hown hl1 e.platform hpl
        obtain ⟨a8, b8, h1, h2, h3⟩ := hn1
        cases Option.some.inj (h1.symm.trans hcl)
        cases Option.some.inj (h2.symm.trans hc6)
        exact Or.inr ⟨hz0, _, hcl6, h3⟩)
  obtain ⟨g₀, hfr⟩ := X'.frames_eq
  have hcell9 : ((T.setVm vm').setFrames (.throwing q :: below)).heap[q]? = some ce := by
    show T.heap[q]? = some ce
    rw [hT]; exact hcell
  have hend : Ended ((T.setVm vm').setFrames (.throwing q :: below)) below (.threw q) := State.frames_setFrames _ (State.cur_lt_of_frames hfr)
  refine ⟨(T.setVm vm').setFrames (.throwing q :: below), ?_, .threw q, X'.here.running, hend, Or.inr ⟨q, rfl, E, ce, locs, hx _ hT (X'.ends _).1.alike, hcell9, hv, hcl, (X'.ends _).1, (X'.ends _).2.mono hc hs, hf⟩⟩
  rw [X.pushThrowing_eq]
  exact st
/-- a thing of a world lies in the heap -/
theorem vx_lt {D : va_G} {cl : List vw_C} {ws : va_W} {H1 : Heap} (h : va_P D cl ws H1) {k : Nat} {q : Nat × va_E} (hk : ws[k]? = some q) : q.1 < H1.size := (h k q hk).lt
end VXS
/-! ===== END ===== -/
/-! ===== BEGIN methods with a table of their own: called by a name, returning or throwing ===== -/
section VXH
/-! vx_backW, vx_callVX, vx_callSX, vx_callVW, vx_runVW, vx_runVX, vx_runSX, vx_ofWH follow the same proofs as their sisters above (Free/Laws.lean, Shelf42/LK1.lean); vx_outP calls Shelf42/NT130.lean (outThrough). -/
section
variable {l : Launch} {R : Room} {p : Program} {e : Env} {below : List Frame} {s : State} {sargs : Array Value} {y : MethodName} {len W9 : Nat}
theorem vx_backW {ws : List Cond} {rm : Room} {Pc : Array Value → State → Prop} {Qc : Array Value → State → Outcome → State → Prop} {XC : String → State → State → Prop} {mc ms : Nat} {free : Addr → Prop} {bytes : ByteArray} {maxL : Nat} {ret : Option FieldType} {hh : List (Nat × Nat × Nat × Nat)}
    (hM : vx_Met l y ws rm Pc Qc XC mc ms free) (hblind : FrameBlind Pc) (hrc : rm.cells = mc) (hrs : rm.slots = ms)
    (hframes : rm.frames + 1 ≤ R.frames) (hlocals : W9 + (maxL + 11) + rm.locals ≤ R.locals)
    (hws : ∀ w ∈ ws, ∀ a' U, s.WarmedH U.vm → w.before a' U = true) (hcode : Cond.codeWith y bytes maxL ret hh ∈ ws) (hinit : ∀ a' U, s.WarmedH U.vm → (Cond.initialized y.cls).before a' U = true) :
    vx_Back l R p e below s sargs y len W9 (PreOf R mc ms Pc) (PostOf Qc mc ms free) (vx_Post XC mc ms free) := by
  intro m meth c A g ig mk a X hg hsize hdg hW hn hp
  have h1 : (headSpec ws rm).pre.before a A.U = true := atoms_intro fun w hw => hws w hw _ _ X.warmed
  have h2 : (Cond.codeWith y bytes maxL ret hh).before a A.U = true := hws _ hcode _ _ X.warmed
  have h3 : (Cond.initialized y.cls).before a A.U = true := hinit _ _ X.warmed
  have h4 : A.cells + (headSpec ws rm).room.cells ≤ R.cells := by rw [show (headSpec ws rm).room.cells = mc from hrc]; exact hp.1
  have h5 : A.slots + (headSpec ws rm).room.slots ≤ R.slots := by rw [show (headSpec ws rm).room.slots = ms from hrs]; exact hp.2.1
  have hPc : Pc a (A.U.calling g mk a) := hblind _ _ _ _ hp.2.2
  obtain ⟨U, Ls, c0, s0⟩ := A
  dsimp only [Pt.U, Pt.locs, Pt.cells, Pt.slots] at h1 h2 h3 h4 h5 X hn hPc ⊢
  obtain ⟨m9, methY, cY, hn9, hmY, hcY, -, hlY, -⟩ := Cond.codeWith_spec h2
  cases Option.some.inj (hn9.symm.trans hn)
  obtain ⟨kY, hkY, -⟩ := className_of_methodNamed hn
  have hinitY : kY.init = .initialized := Cond.initialized_spec (findClass_of_methodNamed hn) hkY h3
  have h : At U g.method c below := by rw [hg]; exact X.here
  have hlocals9 : W9 + (maxL + 11) + (headSpec ws rm).room.locals ≤ R.locals := hlocals
  have happ : (headSpec ws rm).appliesLoose y e.platform (U.calling g mk a) = true :=
    Spec.appliesLoose_calling (g := g) h hdg hn hkY hinitY
      (X.room_calling (g := g) (R' := (headSpec ws rm).room) hsize hmY hcY hframes (by rw [hlY]; omega) h4 h5) h1
  obtain ⟨mid, hmid⟩ := h.above
  have hfr : (U.setTop g).frames = (.java g :: mid) ++ below := by rw [State.frames_setTop' g h.top, hmid]; rfl
  obtain ⟨o, s₂, hsteps, -, hend, hq⟩ := Steps.callFree hM p X.admits X.cas X.clock (acts := []) hfr happ hPc trivial
  have hq' : vx_Q Qc XC mc ms free a (U.calling g mk a) o s₂ := hq
  rw [State.frames_setTop' g h.top] at hend
  obtain ⟨g₀, hg0⟩ := Option.isSome_iff_exists.mp h.top
  obtain ⟨r, hr⟩ := State.topJava?_eq_some.mp hg0
  have hr' : (({ U with heap := s₂.heap, slotsUsed := s₂.slotsUsed } : State).setVm s₂.vm).frames = .java g₀ :: r := hr
  rcases hq' with ⟨hqc, L, hfe, hL⟩ | ⟨q, rfl, E, ce, L, hx, hce, hcv, hcl, hW₂, hsm, hL⟩
  · obtain ⟨⟨v, rfl⟩, hW₂, e2, q2, q3, q4, q5, q6⟩ := id hfe
    have e3 : s₂ = ({ (U.calling g mk a).setFrames s₂.frames with heap := s₂.heap, slotsUsed := s₂.slotsUsed } : State).setVm s₂.vm := by
      have : s₂ = ({ s₂ with vm := (U.calling g mk a).vm } : State).setVm s₂.vm := rfl
      rw [e2] at this
      exact this
    obtain ⟨c₂, i₂, len₂, hc₂, hd₂, hf₂⟩ := hend
    have hW' : U.WarmedH s₂.vm := hW₂
    have hcc : c₂ = c := by
      have h1 : s₂.code? g.method = U.code? g.method := by
        rw [State.code?_eq, State.code?_eq, hW'.alike.method?]
      exact Option.some.inj (hc₂.symm.trans (h1.trans h.code))
    subst hcc
    have hlen : len₂ = len := by rw [hdg] at hd₂; cases hd₂; rfl
    subst hlen
    have hs₂ : s₂ = (({ U with heap := s₂.heap, slotsUsed := s₂.slotsUsed } : State).setVm s₂.vm).setTop { g with pc := g.pc + len₂, stack := v.toList ++ g.stack } := by
      refine e3.trans ?_
      rw [hf₂, State.calling_eq h.top, State.setFrames_setFrames, State.setTop_of_frames _ hr', hr]
      rfl
    have hsame : U.sameButNew ({ U with heap := s₂.heap, slotsUsed := s₂.slotsUsed } : State) L mc ms := by
      refine ⟨?_, q2, q3, q4, q5, q6⟩
      obtain ⟨t, ht, -⟩ := State.frames_cons hr
      show ({ U with heap := s₂.heap, slotsUsed := s₂.slotsUsed } : State) = { U.setFrames U.frames with heap := s₂.heap, slotsUsed := s₂.slotsUsed }
      rw [State.setFrames_self ht]
    subst hg
    refine Or.inl ⟨v, ⟨(({ U with heap := s₂.heap, slotsUsed := s₂.slotsUsed } : State).setVm s₂.vm), Ls ++ L, c0 + mc, s0 + ms⟩,
      ⟨X.admits, X.cas, X.clock, X.frames, X.room, X.hears, X.method, X.code, (X.here.setHeapUsed s₂.heap s₂.slotsUsed).setVm hW'.alike, X.tail, State.WarmedH.trans X.warmed hW', X.limits, X.bytes, X.same.trans (hsame.setVm s.vm)⟩,
      ⟨g, mk, s₂, L, rfl, rfl, hqc, rfl, hL, rfl, rfl⟩, ?_⟩
    show Steps p.tables e below _ ((({ U with heap := s₂.heap, slotsUsed := s₂.slotsUsed } : State).setVm s₂.vm).setTop { g with pc := g.pc + len₂, stack := v.toList ++ g.stack })
    rw [← hs₂]
    exact hsteps
  · obtain ⟨e2, q2, q3, q4, q5, q6⟩ := id hsm
    have e3 : s₂ = ({ (U.calling g mk a).setFrames s₂.frames with heap := s₂.heap, slotsUsed := s₂.slotsUsed } : State).setVm s₂.vm := by
      have : s₂ = ({ s₂ with vm := (U.calling g mk a).vm } : State).setVm s₂.vm := rfl
      rw [e2] at this
      exact this
    have hf₂ : s₂.frames = .throwing q :: .java g :: U.frames.tail := hend
    have hW' : U.WarmedH s₂.vm := hW₂
    have hs₂ : s₂ = ((({ U with heap := s₂.heap, slotsUsed := s₂.slotsUsed } : State).setVm s₂.vm).setTop g).pushFrame (.throwing q) := by
      refine e3.trans ?_
      rw [hf₂, State.calling_eq h.top, State.setFrames_setFrames, State.pushFrame, State.frames_setTop _ hr', State.setTop_of_frames _ hr', State.setFrames_setFrames, hr]
      rfl
    have hsame : U.sameButNew ({ U with heap := s₂.heap, slotsUsed := s₂.slotsUsed } : State) L mc ms := by
      refine ⟨?_, q2, q3, q4, q5, q6⟩
      obtain ⟨t, ht, -⟩ := State.frames_cons hr
      show ({ U with heap := s₂.heap, slotsUsed := s₂.slotsUsed } : State) = { U.setFrames U.frames with heap := s₂.heap, slotsUsed := s₂.slotsUsed }
      rw [State.setFrames_self ht]
    subst hg
    refine Or.inr ⟨q, ⟨(({ U with heap := s₂.heap, slotsUsed := s₂.slotsUsed } : State).setVm s₂.vm), Ls ++ L, c0 + mc, s0 + ms⟩,
      ⟨X.admits, X.cas, X.clock, X.frames, X.room, X.hears, X.method, X.code, (X.here.setHeapUsed s₂.heap s₂.slotsUsed).setVm hW'.alike, X.tail, State.WarmedH.trans X.warmed hW', X.limits, X.bytes, X.same.trans (hsame.setVm s.vm)⟩,
      ⟨g, mk, s₂, L, E, ce, rfl, rfl, hx, hce, hcv, hcl, rfl, hL, rfl, rfl⟩, ?_⟩
    show Steps p.tables e below _ (((({ U with heap := s₂.heap, slotsUsed := s₂.slotsUsed } : State).setVm s₂.vm).setTop g).pushFrame (.throwing q))
    rw [← hs₂]
    exact hsteps
end
variable {p : Program} {l : Launch} {e : Env} {R : Room} {s : State} {m : MethodId} {args : Array Value} {below : List Frame} {meth : Method} {c : Code} {T : State} {H : Heap} {locs : List Loc} {cells slots : Nat}
theorem vx_callVX (X : Stand p l e R s m args below meth c T locs cells slots) (hexec : p.tables.exec = Jvm.exec) {own C : String} {index : Nat} {y : MethodName} {bytes : ByteArray} {maxL : Nat} {ret : Option FieldType} {hh : List (Nat × Nat × Nat × Nat)}
    (hown : s.vm.findClass own = some m.cls) (hlink : (Cond.methodLink own index y).before args s = true) (hinst : (Cond.instanceMethod y).before args s = true) (hsel : (Cond.selects C y y).before args s = true)
    (hcode : (Cond.codeWith y bytes maxL ret hh).before args s = true) (hy : y.cls ≠ "java/lang/invoke/MethodHandle" ∧ y.cls ≠ "java/lang/invoke/VarHandle")
    {W9 : Nat} {Pre : Pt → Array Value → Prop} {Post : Pt → Array Value → Option Value → Pt → Prop} {PostX : Pt → Array Value → Addr → Pt → Prop} (hK : vx_Back l R p e below s args y 3 W9 Pre Post PostX)
    {b : Addr} {cellB : Cell} (hcell : T.heap[b]? = some cellB) (hobj : cellB.vm.isStatics = false) (hcls : s.vm.findClass C = some cellB.cls)
    {g : JFrame} (hg : g.method = m) (hsize : g.locals.size = c.maxLocals) {argsL rest : List Value} (hlen : ∀ sig, parseMethodDescriptor y.desc = some sig → argsL.length = sig.parameters.length)
    (hstack : g.stack = argsL.reverse ++ .ref b :: rest) (hW : 2 * g.monitorRoom + (rest.map fun v => v.category).sum ≤ W9) (hdg : decode c.code g.pc = .ok (.invokevirtual index, 3))
    (hpre : ∀ vm₁, s.WarmedH vm₁ → Pre ⟨T.setVm vm₁, locs, cells, slots⟩ (Value.ref b :: argsL).toArray) :
    (∃ (v : Option Value) (vm₁ : Vm) (B : Pt), s.WarmedH vm₁ ∧ Stand p l e R s m args below meth c B.U B.locs B.cells B.slots ∧ Post ⟨T.setVm vm₁, locs, cells, slots⟩ (Value.ref b :: argsL).toArray v B ∧
      ∀ target, Steps p.tables e below (B.U.setTop { g with pc := g.pc + 3, stack := v.toList ++ rest }) target → Steps p.tables e below (T.setTop g) target) ∨
    (∃ (q : Addr) (vm₁ : Vm) (B : Pt), s.WarmedH vm₁ ∧ Stand p l e R s m args below meth c B.U B.locs B.cells B.slots ∧ PostX ⟨T.setVm vm₁, locs, cells, slots⟩ (Value.ref b :: argsL).toArray q B ∧
      Steps p.tables e below (T.setTop g) ((B.U.setTop { g with stack := rest }).pushFrame (.throwing q))) := by
  obtain ⟨mk, methM, hnamed, hmethM, hstM, habM⟩ := Cond.instanceMethod_spec hinst
  obtain ⟨m8, methM', cM, hn8, hmethM', -, -, -, -, -, -, hsigM⟩ := Cond.codeWith_spec hcode
  cases Option.some.inj (hn8.symm.trans hnamed)
  cases hmethM.symm.trans hmethM'
  obtain ⟨c2, r2, m2, q1, q2, q3, q4, kP, hkP, hkPi⟩ := Cond.selects_spec hsel
  cases hcls.symm.trans q1
  cases (State.methodFound?_of_named hnamed hy).symm.trans q2
  cases hnamed.symm.trans q3
  have hselP : selectMethod e.platform s.vm cellB.cls mk = .method mk := by rw [Launch.admits_selectMethod X.admits]; exact q4
  obtain ⟨vm₁, X₁, hstep₁⟩ := X.invokevirtual hexec hown hlink hnamed hmethM hstM hkP hkPi hy (a := b) (cell := cellB) hcell
    (fun z h => by rw [h] at hobj; cases hobj) hselP hmethM habM hkP hkPi (g := g) hg (argsL := argsL) (rest := rest) (hlen _ hsigM) hstack hdg
  rcases hK m meth c ⟨T.setVm vm₁, locs, cells, slots⟩ { g with stack := rest } (.invokevirtual index) mk (Value.ref b :: argsL).toArray X₁ hg hsize hdg hW (X₁.named hnamed) (hpre vm₁ X₁.warmed) with ⟨v, B, X', hpost, hsteps⟩ | ⟨q, B, X', hpost, hsteps⟩
  · exact Or.inl ⟨v, vm₁, B, X₁.warmed, X', hpost, fun target h => hstep₁ _ fun acts => by rw [doInvoke_state]; exact hsteps.trans h⟩
  · exact Or.inr ⟨q, vm₁, B, X₁.warmed, X', hpost, hstep₁ _ fun acts => by rw [doInvoke_state]; exact hsteps⟩
theorem vx_callSX (X : Stand p l e R s m args below meth c T locs cells slots) (hexec : p.tables.exec = Jvm.exec) {own : String} {index : Nat} {y : MethodName} {bytes : ByteArray} {maxL : Nat} {ret : Option FieldType} {hh : List (Nat × Nat × Nat × Nat)}
    (hown : s.vm.findClass own = some m.cls) (hlink : (Cond.methodLink own index y).before args s = true) (hstat : (Cond.static y).before args s = true) (hinit : (Cond.initialized y.cls).before args s = true)
    (hcode : (Cond.codeWith y bytes maxL ret hh).before args s = true) (hy : y.cls ≠ "java/lang/invoke/MethodHandle" ∧ y.cls ≠ "java/lang/invoke/VarHandle")
    {W9 : Nat} {Pre : Pt → Array Value → Prop} {Post : Pt → Array Value → Option Value → Pt → Prop} {PostX : Pt → Array Value → Addr → Pt → Prop} (hK : vx_Back l R p e below s args y 3 W9 Pre Post PostX)
    {g : JFrame} (hg : g.method = m) (hsize : g.locals.size = c.maxLocals) {argsL rest : List Value} (hlen : ∀ sig, parseMethodDescriptor y.desc = some sig → argsL.length = sig.parameters.length)
    (hstack : g.stack = argsL.reverse ++ rest) (hW : 2 * g.monitorRoom + (rest.map fun v => v.category).sum ≤ W9) (hdg : decode c.code g.pc = .ok (.invokestatic index, 3))
    (hpre : ∀ vm₁, s.WarmedH vm₁ → Pre ⟨T.setVm vm₁, locs, cells, slots⟩ argsL.toArray) :
    (∃ (v : Option Value) (vm₁ : Vm) (B : Pt), s.WarmedH vm₁ ∧ Stand p l e R s m args below meth c B.U B.locs B.cells B.slots ∧ Post ⟨T.setVm vm₁, locs, cells, slots⟩ argsL.toArray v B ∧
      ∀ target, Steps p.tables e below (B.U.setTop { g with pc := g.pc + 3, stack := v.toList ++ rest }) target → Steps p.tables e below (T.setTop g) target) ∨
    (∃ (q : Addr) (vm₁ : Vm) (B : Pt), s.WarmedH vm₁ ∧ Stand p l e R s m args below meth c B.U B.locs B.cells B.slots ∧ PostX ⟨T.setVm vm₁, locs, cells, slots⟩ argsL.toArray q B ∧
      Steps p.tables e below (T.setTop g) ((B.U.setTop { g with stack := rest }).pushFrame (.throwing q))) := by
  obtain ⟨mk, methM, cM, hnamed, hmethM, -, -, -, -, -, -, hsigM⟩ := Cond.codeWith_spec hcode
  have hstatic : methM.isStatic = true := Cond.static_spec hnamed hmethM hstat
  obtain ⟨kP, hkP, -⟩ := className_of_methodNamed hnamed
  have hinitP : kP.init = .initialized := Cond.initialized_spec (findClass_of_methodNamed hnamed) hkP hinit
  obtain ⟨vm₁, X₁, hstep₁⟩ := X.invokestatic hexec hown hlink hnamed hmethM hstatic hkP hinitP hy (g := g) hg (argsL := argsL) (rest := rest) (hlen _ hsigM) hstack hdg
  rcases hK m meth c ⟨T.setVm vm₁, locs, cells, slots⟩ { g with stack := rest } (.invokestatic index) mk argsL.toArray X₁ hg hsize hdg hW (X₁.named hnamed) (hpre vm₁ X₁.warmed) with ⟨v, B, X', hpost, hsteps⟩ | ⟨q, B, X', hpost, hsteps⟩
  · exact Or.inl ⟨v, vm₁, B, X₁.warmed, X', hpost, fun target h => hstep₁ _ fun acts => by rw [doInvoke_state]; exact hsteps.trans h⟩
  · exact Or.inr ⟨q, vm₁, B, X₁.warmed, X', hpost, hstep₁ _ fun acts => by rw [doInvoke_state]; exact hsteps⟩
theorem vx_callVW (X : Stand p l e R s m args below meth c T locs cells slots) (hexec : p.tables.exec = Jvm.exec) {own C : String} {index : Nat} {y : MethodName} {bytes : ByteArray} {maxL : Nat} {ret : Option FieldType} {hh : List (Nat × Nat × Nat × Nat)}
    (hown : s.vm.findClass own = some m.cls) (hlink : (Cond.methodLink own index y).before args s = true) (hinst : (Cond.instanceMethod y).before args s = true) (hsel : (Cond.selects C y y).before args s = true)
    (hcode : (Cond.codeWith y bytes maxL ret hh).before args s = true) (hy : y.cls ≠ "java/lang/invoke/MethodHandle" ∧ y.cls ≠ "java/lang/invoke/VarHandle")
    {W9 : Nat} {Pre : Pt → Array Value → Prop} {Post : Pt → Array Value → Option Value → Pt → Prop} (hK : Back l R p e below s args y 3 W9 Pre Post)
    {b : Addr} {cellB : Cell} (hcell : T.heap[b]? = some cellB) (hobj : cellB.vm.isStatics = false) (hcls : s.vm.findClass C = some cellB.cls)
    {g : JFrame} (hg : g.method = m) (hsize : g.locals.size = c.maxLocals) {argsL rest : List Value} (hlen : ∀ sig, parseMethodDescriptor y.desc = some sig → argsL.length = sig.parameters.length)
    (hstack : g.stack = argsL.reverse ++ .ref b :: rest) (hW : 2 * g.monitorRoom + (rest.map fun v => v.category).sum ≤ W9) (hdg : decode c.code g.pc = .ok (.invokevirtual index, 3))
    (hpre : ∀ vm₁, s.WarmedH vm₁ → Pre ⟨T.setVm vm₁, locs, cells, slots⟩ (Value.ref b :: argsL).toArray) :
    ∃ (v : Option Value) (vm₁ : Vm) (B : Pt), s.WarmedH vm₁ ∧ Stand p l e R s m args below meth c B.U B.locs B.cells B.slots ∧ Post ⟨T.setVm vm₁, locs, cells, slots⟩ (Value.ref b :: argsL).toArray v B ∧
      ∀ target, Steps p.tables e below (B.U.setTop { g with pc := g.pc + 3, stack := v.toList ++ rest }) target → Steps p.tables e below (T.setTop g) target := by
  obtain ⟨mk, methM, hnamed, hmethM, hstM, habM⟩ := Cond.instanceMethod_spec hinst
  obtain ⟨m8, methM', cM, hn8, hmethM', -, -, -, -, -, -, hsigM⟩ := Cond.codeWith_spec hcode
  cases Option.some.inj (hn8.symm.trans hnamed)
  cases hmethM.symm.trans hmethM'
  obtain ⟨c2, r2, m2, q1, q2, q3, q4, kP, hkP, hkPi⟩ := Cond.selects_spec hsel
  cases hcls.symm.trans q1
  cases (State.methodFound?_of_named hnamed hy).symm.trans q2
  cases hnamed.symm.trans q3
  have hselP : selectMethod e.platform s.vm cellB.cls mk = .method mk := by rw [Launch.admits_selectMethod X.admits]; exact q4
  obtain ⟨vm₁, X₁, hstep₁⟩ := X.invokevirtual hexec hown hlink hnamed hmethM hstM hkP hkPi hy (a := b) (cell := cellB) hcell
    (fun z h => by rw [h] at hobj; cases hobj) hselP hmethM habM hkP hkPi (g := g) hg (argsL := argsL) (rest := rest) (hlen _ hsigM) hstack hdg
  obtain ⟨v, B, X', hpost, hsteps⟩ := hK m meth c ⟨T.setVm vm₁, locs, cells, slots⟩ { g with stack := rest } (.invokevirtual index) mk (Value.ref b :: argsL).toArray X₁ hg hsize hdg hW (X₁.named hnamed) (hpre vm₁ X₁.warmed)
  exact ⟨v, vm₁, B, X₁.warmed, X', hpost, fun target h => hstep₁ _ fun acts => by rw [doInvoke_state]; exact hsteps.trans h⟩
abbrev vx_CVW (R : Room) (s : State) (args : Array Value) (own C : String) (index : Nat) (y : MethodName) (bytes : ByteArray) (maxL : Nat) (ret : Option FieldType) (hh : List (Nat × Nat × Nat × Nat)) (ws : List Cond) (rm : Room) (mc ms n : Nat) : Prop :=
  (rm.cells = mc ∧ rm.slots = ms ∧ rm.frames + 1 ≤ R.frames ∧ 8 + (maxL + 11) + rm.locals ≤ R.locals ∧ (∀ w ∈ ws, ∀ (a' : Array Value) (U : State), s.WarmedH U.vm → w.before a' U = true) ∧ Cond.codeWith y bytes maxL ret hh ∈ ws) ∧
  (Cond.codeWith y bytes maxL ret hh).before args s = true ∧ (Cond.initialized y.cls).before args s = true ∧ (y.cls ≠ "java/lang/invoke/MethodHandle" ∧ y.cls ≠ "java/lang/invoke/VarHandle") ∧
  (∀ sig, parseMethodDescriptor y.desc = some sig → n = sig.parameters.length) ∧ (Cond.methodLink own index y).before args s = true ∧ (Cond.instanceMethod y).before args s = true ∧ (Cond.selects C y y).before args s = true
theorem vx_cwVW {own C : String} {index maxL mc ms : Nat} {y : MethodName} {bytes : ByteArray} {ret : Option FieldType} {hh : List (Nat × Nat × Nat × Nat)} {Ts ws ws' : List Cond} {rm : Room} (n : Nat) (ht : ∀ w ∈ Ts, w.before args s = true) (hT : GoodIn Ts (wsV own index C y ws)) (hw : ws = Cond.codeWith y bytes maxL ret hh :: ws') (hrc : rm.cells = mc) (hrs : rm.slots = ms)
    (hd : y.cls = C ∧ y.cls ≠ "java/lang/invoke/MethodHandle" ∧ y.cls ≠ "java/lang/invoke/VarHandle" ∧ (parseMethodDescriptor y.desc).map (fun d => d.parameters.length) = some n) (hR : rm.frames + 1 ≤ R.frames ∧ 8 + (maxL + 11) + rm.locals ≤ R.locals) :
    vx_CVW R s args own C index y bytes maxL ret hh ws rm mc ms n := by
  obtain ⟨hC, hd⟩ := hd
  subst hC
  have ok : ∀ w ∈ wsV own index y.cls y ws, w.before args s = true := fun w h => ht w (hT w h).1
  have hG : GoodIn Ts ws := fun w h => hT w (by unfold wsV; exact List.mem_append_right _ h)
  have hc : Cond.codeWith y bytes maxL ret hh ∈ ws := by rw [hw]; exact List.mem_cons_self
  refine ⟨⟨hrc, hrs, hR.1, hR.2, pay_in ht hG, hc⟩, ht _ (hG _ hc).1, ok _ (by simp [wsV]), ⟨hd.1, hd.2.1⟩, fun sig h => ?_, ok _ (by simp [wsV]), ok _ (by simp [wsV]), ok _ (by simp [wsV])⟩
  have h2 := hd.2.2
  rw [h] at h2
  exact (Option.some.inj h2).symm
theorem vx_runVW {y : MethodName} {bytes cc : ByteArray} {maxL nL mc ms n index : Nat} {ret : Option FieldType} {hh : List (Nat × Nat × Nat × Nat)} {ws : List Cond} {rm : Room} {Pc : Array Value → State → Prop} {Qc : Array Value → State → Outcome → State → Prop} {free : Addr → Prop} {Ts : List Cond} {own C : String} {b : Addr} {As rest : List Value} {g : JFrame}
    (S : CallFix p m c cc nL s args Ts own) (hM : Met l y ws rm Pc Qc mc ms free) (cw : vx_CVW R s args own C index y bytes maxL ret hh ws rm mc ms n) (hp : PreV s H C b Pc As)
    (hg : g.method = m) (hn : As.length = n) (hsize : g.locals.size = nL) (hstack : g.stack = As.reverse ++ .ref b :: rest) (hW : 2 * g.monitorRoom + (rest.map fun v => v.category).sum ≤ 8) (hdg : decode cc g.pc = .ok (.invokevirtual index, 3)) (hf : cells + mc ≤ R.cells ∧ slots + ms ≤ R.slots) :
    va_Run p l e R s m args below meth c H locs cells slots mc ms g rest (Qc (Value.ref b :: As).toArray) free := by
  obtain ⟨⟨hrc, hrs, hfr, hlo, hws, hcw⟩, hcode, hini, hy, hlen, hl, hin, hse⟩ := cw
  have hK : Back l R p e below s args y 3 8 (PreOf R mc ms Pc) (PostOf Qc mc ms free) := va_backW (hh := hh) (bytes := bytes) (maxL := maxL) (ret := ret) hM hp.1 hrc hrs hfr hlo hws hcw (fun a' U hW => word_at hW (Or.inl (by first | rfl | simp [Cond.onTables, Cond.keeps, Cond.steady])) hini)
  obtain ⟨hx, hb, hml, ho, -⟩ := S
  obtain ⟨-, ⟨cellB, hcB, hoB, hclB⟩, hPc⟩ := hp
  intro T hT X
  obtain ⟨v, vm₁, ⟨U', l2, c2, s2⟩, hW₁, X', ⟨g', mk, t, L, e1, e2, hq, h1, hL, h2, h3⟩, st⟩ := vx_callVW X hx (C := C) (hh := hh) (bytes := bytes) (maxL := maxL) (ret := ret) ho hl hin hse hcode hy hK (by rw [hT]; exact hcB) hoB hclB hg (hsize.trans hml.symm) (argsL := As) (rest := rest) (fun sig h => hn.trans (hlen sig h)) hstack hW (by rw [hb]; exact hdg)
    (fun vm₁ hW₁ => ⟨hf.1, hf.2, hPc (T.setVm vm₁) hT hW₁⟩)
  dsimp only [Pt.U, Pt.locs, Pt.cells, Pt.slots] at X' e1 e2 h1 h2 h3 st
  subst h1; subst h2; subst h3
  exact ⟨v, (T.setVm vm₁).calling g' mk (Value.ref b :: As).toArray, t, U', L, hT, X', hL, e1, e2, hq, st⟩
section
variable {y : MethodName} {bytes cc : ByteArray} {maxL nL mc ms n index : Nat} {ret : Option FieldType} {ws : List Cond} {rm : Room} {Pc : Array Value → State → Prop} {Qc : Array Value → State → Outcome → State → Prop} {XC : String → State → State → Prop} {free : Addr → Prop} {Ts : List Cond} {own C : String} {b : Addr} {As rest : List Value} {g : JFrame}
theorem vx_runVX {hh : List (Nat × Nat × Nat × Nat)} (S : CallFix p m c cc nL s args Ts own) (hM : vx_Met l y ws rm Pc Qc XC mc ms free) (cw : vx_CVW R s args own C index y bytes maxL ret hh ws rm mc ms n) (hp : PreV s H C b Pc As)
    (hg : g.method = m) (hn : As.length = n) (hsize : g.locals.size = nL) (hstack : g.stack = As.reverse ++ .ref b :: rest) (hW : 2 * g.monitorRoom + (rest.map fun v => v.category).sum ≤ 8) (hdg : decode cc g.pc = .ok (.invokevirtual index, 3)) (hf : cells + mc ≤ R.cells ∧ slots + ms ≤ R.slots) :
    vx_Run p l e R s m args below meth c H locs cells slots mc ms g rest (Qc (Value.ref b :: As).toArray) XC free := by
  obtain ⟨⟨hrc, hrs, hfr, hlo, hws, hcw⟩, hcode, hini, hy, hlen, hl, hin, hse⟩ := cw
  have hK : vx_Back l R p e below s args y 3 8 (PreOf R mc ms Pc) (PostOf Qc mc ms free) (vx_Post XC mc ms free) := vx_backW (hh := hh) (bytes := bytes) (maxL := maxL) (ret := ret) hM hp.1 hrc hrs hfr hlo hws hcw (fun a' U hW => word_at hW (Or.inl (by first | rfl | simp [Cond.onTables, Cond.keeps, Cond.steady])) hini)
  obtain ⟨hx, hb, hml, ho, -⟩ := S
  obtain ⟨-, ⟨cellB, hcB, hoB, hclB⟩, hPc⟩ := hp
  intro T hT X
  rcases vx_callVX X hx (C := C) (hh := hh) (bytes := bytes) (maxL := maxL) (ret := ret) ho hl hin hse hcode hy hK (by rw [hT]; exact hcB) hoB hclB hg (hsize.trans hml.symm) (argsL := As) (rest := rest) (fun sig h => hn.trans (hlen sig h)) hstack hW (by rw [hb]; exact hdg)
    (fun vm₁ hW₁ => ⟨hf.1, hf.2, hPc (T.setVm vm₁) hT hW₁⟩) with ⟨v, vm₁, ⟨U', l2, c2, s2⟩, hW₁, X', ⟨g', mk, t, L, e1, e2, hq, h1, hL, h2, h3⟩, st⟩ | ⟨q, vm₁, ⟨U', l2, c2, s2⟩, hW₁, X', ⟨g', mk, t, L, E, ce, e1, e2, hq, hce, hcv, hcl, h1, hL, h2, h3⟩, st⟩
  · dsimp only [Pt.U, Pt.locs, Pt.cells, Pt.slots] at X' e1 e2 h1 h2 h3 st
    subst h1; subst h2; subst h3
    exact Or.inl ⟨v, (T.setVm vm₁).calling g' mk (Value.ref b :: As).toArray, t, U', L, hT, X', hL, e1, e2, hq, st⟩
  · dsimp only [Pt.U, Pt.locs, Pt.cells, Pt.slots] at X' e1 e2 h1 h2 h3 st hcl
    subst h1; subst h2; subst h3
    exact Or.inr ⟨q, (T.setVm vm₁).calling g' mk (Value.ref b :: As).toArray, t, U', L, E, ce, hT, X', hL, e1, e2, hq, hce, hcv, vx_cls hW₁ hcl, st⟩
theorem vx_runSX {hh : List (Nat × Nat × Nat × Nat)} (S : CallFix p m c cc nL s args Ts own) (hM : vx_Met l y ws rm Pc Qc XC mc ms free) (cw : vx_CSW R s args own index y bytes maxL ret hh ws rm mc ms n) (hp : PreS s H Pc As)
    (hg : g.method = m) (hn : As.length = n) (hsize : g.locals.size = nL) (hstack : g.stack = As.reverse ++ rest) (hW : 2 * g.monitorRoom + (rest.map fun v => v.category).sum ≤ 8) (hdg : decode cc g.pc = .ok (.invokestatic index, 3)) (hf : cells + mc ≤ R.cells ∧ slots + ms ≤ R.slots) :
    vx_Run p l e R s m args below meth c H locs cells slots mc ms g rest (Qc As.toArray) XC free := by
  obtain ⟨⟨hrc, hrs, hfr, hlo, hws, hcw⟩, hcode, hini, hy, hlen, hl, hstt⟩ := cw
  have hK : vx_Back l R p e below s args y 3 8 (PreOf R mc ms Pc) (PostOf Qc mc ms free) (vx_Post XC mc ms free) := vx_backW (hh := hh) (bytes := bytes) (maxL := maxL) (ret := ret) hM hp.1 hrc hrs hfr hlo hws hcw (fun a' U hW => word_at hW (Or.inl (by first | rfl | simp [Cond.onTables, Cond.keeps, Cond.steady])) hini)
  obtain ⟨hx, hb, hml, ho, -⟩ := S
  intro T hT X
  rcases vx_callSX X hx (hh := hh) (bytes := bytes) (maxL := maxL) (ret := ret) ho hl hstt hini hcode hy hK hg (hsize.trans hml.symm) (argsL := As) (rest := rest) (fun sig h => hn.trans (hlen sig h)) hstack hW (by rw [hb]; exact hdg)
    (fun vm₁ hW₁ => ⟨hf.1, hf.2, hp.2 (T.setVm vm₁) hT hW₁⟩) with ⟨v, vm₁, ⟨U', l2, c2, s2⟩, hW₁, X', ⟨g', mk, t, L, e1, e2, hq, h1, hL, h2, h3⟩, st⟩ | ⟨q, vm₁, ⟨U', l2, c2, s2⟩, hW₁, X', ⟨g', mk, t, L, E, ce, e1, e2, hq, hce, hcv, hcl, h1, hL, h2, h3⟩, st⟩
  · dsimp only [Pt.U, Pt.locs, Pt.cells, Pt.slots] at X' e1 e2 h1 h2 h3 st
    subst h1; subst h2; subst h3
    exact Or.inl ⟨v, (T.setVm vm₁).calling g' mk As.toArray, t, U', L, hT, X', hL, e1, e2, hq, st⟩
  · dsimp only [Pt.U, Pt.locs, Pt.cells, Pt.slots] at X' e1 e2 h1 h2 h3 st hcl
    subst h1; subst h2; subst h3
    exact Or.inr ⟨q, (T.setVm vm₁).calling g' mk As.toArray, t, U', L, E, ce, hT, X', hL, e1, e2, hq, hce, hcv, vx_cls hW₁ hcl, st⟩
end
end VXH
theorem vx_ofWH {l : Launch} {y : MethodName} {ws ws' : List Cond} {rm : Room} {Pc : Array Value → State → Prop} {Qc : Array Value → State → Outcome → State → Prop} {XC : String → State → State → Prop} {mc ms : Nat} {free : Addr → Prop} {cc : ByteArray} {maxL : Nat} {ret : Option FieldType} {hh : List (Nat × Nat × Nat × Nat)}
    (hy : plainName y.cls = true) (hw : ws = Cond.codeWith y cc maxL ret hh :: ws')
    (body : ∀ p e s m args below meth c s₁, BodyLoose p l y (headSpec ws rm) cc maxL ret e s m args below meth c s₁ → c.maxLocals = maxL → Pc args s →
      W p l e (headSpec ws rm).room s m args below meth c s.heap [] 0 0 (vx_MQ below Qc XC args s mc ms free) (entryFrame m args maxL)) : vx_Met l y ws rm Pc Qc XC mc ms free := by
  refine MetFree.of_bodyS (code := cc) (maxLocals := maxL) (ret := ret) hy ?_ ?_
  · intro args s m h hn
    obtain ⟨m9, meth, c, hn9, h1, h2, h3, h4, -, h5, h6, -⟩ := Cond.codeWith_spec (atoms_spec (ws := ws) h _ (by rw [hw]; exact List.mem_cons_self))
    cases hn.symm.trans hn9
    exact ⟨meth, c, h1, h2, h3, h4, h5, h6⟩
  · intro p e s m args below meth c s₁ B hml hP _
    have hh0 : s₁.heap = s.heap := by rw [B.state]; rfl
    obtain ⟨t, a1, o, b1, b2, b3⟩ := body p e s m args below meth c s₁ B hml hP s₁ hh0 (Stand.of_body B)
    exact ⟨t, o, a1, b1, b2, b3⟩
/-! ===== END ===== -/
end
section
def RX0 : String := "PuzzleRegistry$Answers"
def TX0 : u_T := fun k => match k with
  | 0 => ("PuzzleRegistry$Answers", "teams", "[I", true)
  | 1 => ("PuzzleRegistry$Answers", "riddles", "[I", true)
  | 2 => ("PuzzleRegistry$Answers", "words", "[I", true)
  | 3 => ("PuzzleRegistry$Answers", "minutes", "[I", true)
  | _ => ("PuzzleRegistry$Answers", "count", "I", false)
def tyX0 : Nat → FieldType := fun k => match k with
  | 0 => .array .int
  | 1 => .array .int
  | 2 => .array .int
  | 3 => .array .int
  | _ => .int
abbrev wsX00 : List Cond := u_ws RX0 TX0 5
theorem nmX0 : ∀ a, a < 5 → ∀ b, b < 5 → a ≠ b → (TX0 a).2.1 ≠ (TX0 b).2.1 := by decide +kernel
theorem tyX0_ok : ∀ k, k < 5 → parseFieldDescriptor (TX0 k).2.2.1 = some (tyX0 k) := by decide +kernel
abbrev cX0_init : ByteArray := prog_2_method_1_code
def yX0_init : MethodName := ⟨RX0, "<init>", "()V"⟩
abbrev cX0_append : ByteArray := prog_2_method_2_code
def yX0_append : MethodName := ⟨RX0, "append", "(IIII)V"⟩
abbrev cX0_giversOf : ByteArray := prog_2_method_3_code
def yX0_giversOf : MethodName := ⟨RX0, "giversOf", "(II)I"⟩
abbrev cX0_areSame : ByteArray := prog_2_method_4_code
def yX0_areSame : MethodName := ⟨RX0, "areSame", "(II)Z"⟩
abbrev cX0_isRepeated : ByteArray := prog_2_method_5_code
def yX0_isRepeated : MethodName := ⟨RX0, "isRepeated", "(I)Z"⟩
def RX1 : String := "PuzzleRegistry$Judge"
def TX1 : u_T := fun k => match k with
  | 0 => ("PuzzleRegistry$Judge", "cleared", "[I", true)
  | 1 => ("PuzzleRegistry$Judge", "pardoned", "[I", true)
  | _ => ("PuzzleRegistry$Judge", "bound", "I", false)
def tyX1 : Nat → FieldType := fun k => match k with
  | 0 => .array .int
  | 1 => .array .int
  | _ => .int
abbrev wsX10 : List Cond := u_ws RX1 TX1 3
theorem nmX1 : ∀ a, a < 3 → ∀ b, b < 3 → a ≠ b → (TX1 a).2.1 ≠ (TX1 b).2.1 := by decide +kernel
theorem tyX1_ok : ∀ k, k < 3 → parseFieldDescriptor (TX1 k).2.2.1 = some (tyX1 k) := by decide +kernel
abbrev cX1_init : ByteArray := prog_3_method_1_code
def yX1_init : MethodName := ⟨RX1, "<init>", "()V"⟩
abbrev cX1_switchPardon : ByteArray := prog_3_method_2_code
def yX1_switchPardon : MethodName := ⟨RX1, "switchPardon", "(II)Z"⟩
abbrev cX1_links : ByteArray := prog_3_method_3_code
def yX1_links : MethodName := ⟨RX1, "links", "(III)Z"⟩
def RX2 : String := "PuzzleRegistry$Records"
def TX2 : u_T := fun k => match k with
  | 0 => ("PuzzleRegistry$Records", "solved", "[I", true)
  | 1 => ("PuzzleRegistry$Records", "tooSoon", "[I", true)
  | 2 => ("PuzzleRegistry$Records", "solveMinutes", "[I", true)
  | 3 => ("PuzzleRegistry$Records", "paid", "[I", true)
  | 4 => ("PuzzleRegistry$Records", "likenesses", "[I", true)
  | _ => ("PuzzleRegistry$Records", "commons", "[I", true)
def tyX2 : Nat → FieldType := fun k => match k with
  | 0 => .array .int
  | 1 => .array .int
  | 2 => .array .int
  | 3 => .array .int
  | 4 => .array .int
  | _ => .array .int
abbrev wsX20 : List Cond := u_ws RX2 TX2 6
theorem nmX2 : ∀ a, a < 6 → ∀ b, b < 6 → a ≠ b → (TX2 a).2.1 ≠ (TX2 b).2.1 := by decide +kernel
theorem tyX2_ok : ∀ k, k < 6 → parseFieldDescriptor (TX2 k).2.2.1 = some (tyX2 k) := by decide +kernel
abbrev cX2_init : ByteArray := prog_4_method_1_code
def yX2_init : MethodName := ⟨RX2, "<init>", "()V"⟩
abbrev cX2_wipe : ByteArray := prog_4_method_2_code
def yX2_wipe : MethodName := ⟨RX2, "wipe", "()V"⟩
abbrev cX2_solve : ByteArray := prog_4_method_3_code
def yX2_solve : MethodName := ⟨RX2, "solve", "(IIIZ)V"⟩
abbrev cX2_pay : ByteArray := prog_4_method_4_code
def yX2_pay : MethodName := ⟨RX2, "pay", "(III)V"⟩
abbrev cX2_noteCommon : ByteArray := prog_4_method_5_code
def yX2_noteCommon : MethodName := ⟨RX2, "noteCommon", "(III)V"⟩
abbrev cX2_lastSolveMinute : ByteArray := prog_4_method_6_code
def yX2_lastSolveMinute : MethodName := ⟨RX2, "lastSolveMinute", "(II)I"⟩
def RX3 : String := "PuzzleRegistry$Riddles"
def TX3 : u_T := fun k => match k with
  | 0 => ("PuzzleRegistry$Riddles", "points", "[I", true)
  | 1 => ("PuzzleRegistry$Riddles", "keys", "[I", true)
  | 2 => ("PuzzleRegistry$Riddles", "leastTimes", "[I", true)
  | 3 => ("PuzzleRegistry$Riddles", "firstPrices", "[I", true)
  | 4 => ("PuzzleRegistry$Riddles", "needs", "[I", true)
  | 5 => ("PuzzleRegistry$Riddles", "touched", "I", false)
  | _ => ("PuzzleRegistry$Riddles", "count", "I", false)
def tyX3 : Nat → FieldType := fun k => match k with
  | 0 => .array .int
  | 1 => .array .int
  | 2 => .array .int
  | 3 => .array .int
  | 4 => .array .int
  | 5 => .int
  | _ => .int
abbrev wsX30 : List Cond := u_ws RX3 TX3 7
theorem nmX3 : ∀ a, a < 7 → ∀ b, b < 7 → a ≠ b → (TX3 a).2.1 ≠ (TX3 b).2.1 := by decide +kernel
theorem tyX3_ok : ∀ k, k < 7 → parseFieldDescriptor (TX3 k).2.2.1 = some (tyX3 k) := by decide +kernel
abbrev cX3_init : ByteArray := prog_5_method_1_code
def yX3_init : MethodName := ⟨RX3, "<init>", "()V"⟩
abbrev cX3_append : ByteArray := prog_5_method_2_code
def yX3_append : MethodName := ⟨RX3, "append", "(IIII)I"⟩
abbrev cX3_hangingOn : ByteArray := prog_5_method_3_code
def yX3_hangingOn : MethodName := ⟨RX3, "hangingOn", "(I)I"⟩
abbrev cX3_spread : ByteArray := prog_5_method_4_code
def yX3_spread : MethodName := ⟨RX3, "spread", "(I)I"⟩
def RX4 : String := "PuzzleRegistry$Sales"
def TX4 : u_T := fun k => match k with
  | 0 => ("PuzzleRegistry$Sales", "bought", "[I", true)
  | _ => ("PuzzleRegistry$Sales", "prices", "[I", true)
def tyX4 : Nat → FieldType := fun k => match k with
  | 0 => .array .int
  | _ => .array .int
abbrev wsX40 : List Cond := u_ws RX4 TX4 2
theorem nmX4 : ∀ a, a < 2 → ∀ b, b < 2 → a ≠ b → (TX4 a).2.1 ≠ (TX4 b).2.1 := by decide +kernel
theorem tyX4_ok : ∀ k, k < 2 → parseFieldDescriptor (TX4 k).2.2.1 = some (tyX4 k) := by decide +kernel
abbrev cX4_init : ByteArray := prog_6_method_1_code
def yX4_init : MethodName := ⟨RX4, "<init>", "()V"⟩
abbrev cX4_append : ByteArray := prog_6_method_2_code
def yX4_append : MethodName := ⟨RX4, "append", "(III)V"⟩
abbrev cX4_countBuyers : ByteArray := prog_6_method_3_code
def yX4_countBuyers : MethodName := ⟨RX4, "countBuyers", "(II)I"⟩
def RX5 : String := "PuzzleRegistry"
def TX5 : u_T := fun k => match k with
  | 0 => ("PuzzleRegistry", "riddles", "LPuzzleRegistry$Riddles;", true)
  | 1 => ("PuzzleRegistry", "answers", "LPuzzleRegistry$Answers;", true)
  | 2 => ("PuzzleRegistry", "sales", "LPuzzleRegistry$Sales;", true)
  | 3 => ("PuzzleRegistry", "judge", "LPuzzleRegistry$Judge;", true)
  | 4 => ("PuzzleRegistry", "kept", "LPuzzleRegistry$Records;", true)
  | 5 => ("PuzzleRegistry", "anew", "LPuzzleRegistry$Records;", true)
  | 6 => ("PuzzleRegistry", "scores", "[I", true)
  | 7 => ("PuzzleRegistry", "lastMinutes", "[I", true)
  | 8 => ("PuzzleRegistry", "prizes", "[I", true)
  | 9 => ("PuzzleRegistry", "teamCount", "I", false)
  | 10 => ("PuzzleRegistry", "minute", "I", false)
  | _ => ("PuzzleRegistry", "ended", "Z", false)
def tyX5 : Nat → FieldType := fun k => match k with
  | 0 => .object "PuzzleRegistry$Riddles"
  | 1 => .object "PuzzleRegistry$Answers"
  | 2 => .object "PuzzleRegistry$Sales"
  | 3 => .object "PuzzleRegistry$Judge"
  | 4 => .object "PuzzleRegistry$Records"
  | 5 => .object "PuzzleRegistry$Records"
  | 6 => .array .int
  | 7 => .array .int
  | 8 => .array .int
  | 9 => .int
  | 10 => .int
  | _ => .boolean
abbrev wsX50 : List Cond := u_ws RX5 TX5 12
theorem nmX5 : ∀ a, a < 12 → ∀ b, b < 12 → a ≠ b → (TX5 a).2.1 ≠ (TX5 b).2.1 := by decide +kernel
theorem tyX5_ok : ∀ k, k < 12 → parseFieldDescriptor (TX5 k).2.2.1 = some (tyX5 k) := by decide +kernel
abbrev cX5_init : ByteArray := prog_1_method_1_code
def yX5_init : MethodName := ⟨RX5, "<init>", "()V"⟩
abbrev cX5_pass : ByteArray := prog_1_method_2_code
def yX5_pass : MethodName := ⟨RX5, "pass", "(I)I"⟩
abbrev cX5_now : ByteArray := prog_1_method_3_code
def yX5_now : MethodName := ⟨RX5, "now", "()I"⟩
abbrev cX5_addRiddle : ByteArray := prog_1_method_4_code
def yX5_addRiddle : MethodName := ⟨RX5, "addRiddle", "(IIII)I"⟩
abbrev cX5_need : ByteArray := prog_1_method_5_code
def yX5_need : MethodName := ⟨RX5, "need", "(II)I"⟩
abbrev cX5_addTeam : ByteArray := prog_1_method_6_code
def yX5_addTeam : MethodName := ⟨RX5, "addTeam", "()I"⟩
abbrev cX5_end : ByteArray := prog_1_method_7_code
def yX5_end : MethodName := ⟨RX5, "end", "()I"⟩
abbrev cX5_answer : ByteArray := prog_1_method_8_code
def yX5_answer : MethodName := ⟨RX5, "answer", "(III)Z"⟩
abbrev cX5_hint : ByteArray := prog_1_method_9_code
def yX5_hint : MethodName := ⟨RX5, "hint", "(II)I"⟩
abbrev cX5_price : ByteArray := prog_1_method_10_code
def yX5_price : MethodName := ⟨RX5, "price", "(II)I"⟩
abbrev cX5_openedAt : ByteArray := prog_1_method_11_code
def yX5_openedAt : MethodName := ⟨RX5, "openedAt", "(II)I"⟩
abbrev cX5_solvedAt : ByteArray := prog_1_method_12_code
def yX5_solvedAt : MethodName := ⟨RX5, "solvedAt", "(II)I"⟩
abbrev cX5_clear : ByteArray := prog_1_method_13_code
def yX5_clear : MethodName := ⟨RX5, "clear", "(II)Z"⟩
abbrev cX5_pardon : ByteArray := prog_1_method_14_code
def yX5_pardon : MethodName := ⟨RX5, "pardon", "(II)Z"⟩
abbrev cX5_setBound : ByteArray := prog_1_method_15_code
def yX5_setBound : MethodName := ⟨RX5, "setBound", "(I)I"⟩
abbrev cX5_isFree : ByteArray := prog_1_method_16_code
def yX5_isFree : MethodName := ⟨RX5, "isFree", "(I)Z"⟩
abbrev cX5_likeness : ByteArray := prog_1_method_17_code
def yX5_likeness : MethodName := ⟨RX5, "likeness", "(II)I"⟩
abbrev cX5_areLinked : ByteArray := prog_1_method_18_code
def yX5_areLinked : MethodName := ⟨RX5, "areLinked", "(II)Z"⟩
abbrev cX5_isCheated : ByteArray := prog_1_method_19_code
def yX5_isCheated : MethodName := ⟨RX5, "isCheated", "(II)Z"⟩
abbrev cX5_isVoid : ByteArray := prog_1_method_20_code
def yX5_isVoid : MethodName := ⟨RX5, "isVoid", "(II)Z"⟩
abbrev cX5_hanging : ByteArray := prog_1_method_21_code
def yX5_hanging : MethodName := ⟨RX5, "hanging", "(I)I"⟩
abbrev cX5_score : ByteArray := prog_1_method_22_code
def yX5_score : MethodName := ⟨RX5, "score", "(I)I"⟩
abbrev cX5_scoreAnew : ByteArray := prog_1_method_23_code
def yX5_scoreAnew : MethodName := ⟨RX5, "scoreAnew", "(I)I"⟩
abbrev cX5_place : ByteArray := prog_1_method_24_code
def yX5_place : MethodName := ⟨RX5, "place", "(I)I"⟩
abbrev cX5_teamAt : ByteArray := prog_1_method_25_code
def yX5_teamAt : MethodName := ⟨RX5, "teamAt", "(I)I"⟩
abbrev cX5_setPrize : ByteArray := prog_1_method_26_code
def yX5_setPrize : MethodName := ⟨RX5, "setPrize", "(II)I"⟩
abbrev cX5_prize : ByteArray := prog_1_method_27_code
def yX5_prize : MethodName := ⟨RX5, "prize", "(I)I"⟩
abbrev cX5_requireTeam : ByteArray := prog_1_method_28_code
def yX5_requireTeam : MethodName := ⟨RX5, "requireTeam", "(I)V"⟩
abbrev cX5_requireRiddle : ByteArray := prog_1_method_29_code
def yX5_requireRiddle : MethodName := ⟨RX5, "requireRiddle", "(I)V"⟩
abbrev cX5_requireRange : ByteArray := prog_1_method_30_code
def yX5_requireRange : MethodName := ⟨RX5, "requireRange", "(III)V"⟩
abbrev cX5_bit : ByteArray := prog_1_method_31_code
def yX5_bit : MethodName := ⟨RX5, "bit", "(I)I"⟩
abbrev cX5_has : ByteArray := prog_1_method_32_code
def yX5_has : MethodName := ⟨RX5, "has", "(II)Z"⟩
abbrev cX5_cell : ByteArray := prog_1_method_33_code
def yX5_cell : MethodName := ⟨RX5, "cell", "(II)I"⟩
abbrev cX5_sale : ByteArray := prog_1_method_34_code
def yX5_sale : MethodName := ⟨RX5, "sale", "(III)I"⟩
abbrev cX5_pair : ByteArray := prog_1_method_35_code
def yX5_pair : MethodName := ⟨RX5, "pair", "(II)I"⟩
abbrev cX5_openMinute : ByteArray := prog_1_method_36_code
def yX5_openMinute : MethodName := ⟨RX5, "openMinute", "(LPuzzleRegistry$Records;II)I"⟩
abbrev cX5_isUnderWay : ByteArray := prog_1_method_37_code
def yX5_isUnderWay : MethodName := ⟨RX5, "isUnderWay", "(II)Z"⟩
abbrev cX5_hasHintsLeft : ByteArray := prog_1_method_38_code
def yX5_hasHintsLeft : MethodName := ⟨RX5, "hasHintsLeft", "(II)Z"⟩
abbrev cX5_nextPrice : ByteArray := prog_1_method_39_code
def yX5_nextPrice : MethodName := ⟨RX5, "nextPrice", "(II)I"⟩
abbrev cX5_noteSolved : ByteArray := prog_1_method_40_code
def yX5_noteSolved : MethodName := ⟨RX5, "noteSolved", "(LPuzzleRegistry$Records;III)V"⟩
abbrev cX5_noteWrong : ByteArray := prog_1_method_41_code
def yX5_noteWrong : MethodName := ⟨RX5, "noteWrong", "(III)V"⟩
abbrev cX5_freeSet : ByteArray := prog_1_method_42_code
def yX5_freeSet : MethodName := ⟨RX5, "freeSet", "(LPuzzleRegistry$Records;)I"⟩
abbrev cX5_cheatedSet : ByteArray := prog_1_method_43_code
def yX5_cheatedSet : MethodName := ⟨RX5, "cheatedSet", "(LPuzzleRegistry$Records;I)I"⟩
abbrev cX5_voidSet : ByteArray := prog_1_method_44_code
def yX5_voidSet : MethodName := ⟨RX5, "voidSet", "(LPuzzleRegistry$Records;I)I"⟩
abbrev cX5_countingSet : ByteArray := prog_1_method_45_code
def yX5_countingSet : MethodName := ⟨RX5, "countingSet", "(LPuzzleRegistry$Records;I)I"⟩
abbrev cX5_sumUp : ByteArray := prog_1_method_46_code
def yX5_sumUp : MethodName := ⟨RX5, "sumUp", "(LPuzzleRegistry$Records;II)I"⟩
abbrev cX5_replaySolutions : ByteArray := prog_1_method_47_code
def yX5_replaySolutions : MethodName := ⟨RX5, "replaySolutions", "()V"⟩
abbrev cX5_comparePairs : ByteArray := prog_1_method_48_code
def yX5_comparePairs : MethodName := ⟨RX5, "comparePairs", "(I)V"⟩
abbrev cX5_compareWithOthers : ByteArray := prog_1_method_49_code
def yX5_compareWithOthers : MethodName := ⟨RX5, "compareWithOthers", "(I)V"⟩
abbrev cX5_replaySales : ByteArray := prog_1_method_50_code
def yX5_replaySales : MethodName := ⟨RX5, "replaySales", "(I)V"⟩
abbrev cX5_isRight : ByteArray := prog_1_method_51_code
def yX5_isRight : MethodName := ⟨RX5, "isRight", "(I)Z"⟩
abbrev cX5_rateTeams : ByteArray := prog_1_method_52_code
def yX5_rateTeams : MethodName := ⟨RX5, "rateTeams", "()V"⟩
abbrev cX5_countBetter : ByteArray := prog_1_method_53_code
def yX5_countBetter : MethodName := ⟨RX5, "countBetter", "(I)I"⟩
abbrev cX5_countAlike : ByteArray := prog_1_method_54_code
def yX5_countAlike : MethodName := ⟨RX5, "countAlike", "(II)I"⟩
abbrev cX5_sumPrizes : ByteArray := prog_1_method_55_code
def yX5_sumPrizes : MethodName := ⟨RX5, "sumPrizes", "(II)I"⟩
def RX6 : String := "PuzzleRegistryModel"
def TX6 : u_T := fun k => match k with
  | 0 => ("PuzzleRegistryModel", "now", "I", false)
  | 1 => ("PuzzleRegistryModel", "isOver", "Z", false)
  | 2 => ("PuzzleRegistryModel", "riddles", "I", false)
  | 3 => ("PuzzleRegistryModel", "points", "[I", true)
  | 4 => ("PuzzleRegistryModel", "keys", "[I", true)
  | 5 => ("PuzzleRegistryModel", "leasts", "[I", true)
  | 6 => ("PuzzleRegistryModel", "prices", "[I", true)
  | 7 => ("PuzzleRegistryModel", "needs", "[I", true)
  | 8 => ("PuzzleRegistryModel", "teams", "I", false)
  | 9 => ("PuzzleRegistryModel", "solved", "[I", true)
  | 10 => ("PuzzleRegistryModel", "isSoon", "[Z", true)
  | 11 => ("PuzzleRegistryModel", "isCleared", "[Z", true)
  | 12 => ("PuzzleRegistryModel", "hints", "[I", true)
  | 13 => ("PuzzleRegistryModel", "paid", "[I", true)
  | 14 => ("PuzzleRegistryModel", "answers", "I", false)
  | 15 => ("PuzzleRegistryModel", "givers", "[I", true)
  | 16 => ("PuzzleRegistryModel", "given", "[I", true)
  | 17 => ("PuzzleRegistryModel", "words", "[I", true)
  | 18 => ("PuzzleRegistryModel", "arePardoned", "[Z", true)
  | 19 => ("PuzzleRegistryModel", "bound", "I", false)
  | 20 => ("PuzzleRegistryModel", "prizes", "[I", true)
  | _ => ("PuzzleRegistryModel", "thrown", "I", false)
def tyX6 : Nat → FieldType := fun k => match k with
  | 0 => .int
  | 1 => .boolean
  | 2 => .int
  | 3 => .array .int
  | 4 => .array .int
  | 5 => .array .int
  | 6 => .array .int
  | 7 => .array .int
  | 8 => .int
  | 9 => .array .int
  | 10 => .array .boolean
  | 11 => .array .boolean
  | 12 => .array .int
  | 13 => .array .int
  | 14 => .int
  | 15 => .array .int
  | 16 => .array .int
  | 17 => .array .int
  | 18 => .array .boolean
  | 19 => .int
  | 20 => .array .int
  | _ => .int
abbrev wsX60 : List Cond := u_ws RX6 TX6 22
theorem nmX6 : ∀ a, a < 22 → ∀ b, b < 22 → a ≠ b → (TX6 a).2.1 ≠ (TX6 b).2.1 := by decide +kernel
theorem tyX6_ok : ∀ k, k < 22 → parseFieldDescriptor (TX6 k).2.2.1 = some (tyX6 k) := by decide +kernel
abbrev cX6_init : ByteArray := prog_8_method_1_code
def yX6_init : MethodName := ⟨RX6, "<init>", "()V"⟩
abbrev cX6_thrown : ByteArray := prog_8_method_2_code
def yX6_thrown : MethodName := ⟨RX6, "thrown", "()I"⟩
abbrev cX6_goes : ByteArray := prog_8_method_3_code
def yX6_goes : MethodName := ⟨RX6, "goes", "(I)Z"⟩
abbrev cX6_isIn : ByteArray := prog_8_method_4_code
def yX6_isIn : MethodName := ⟨RX6, "isIn", "(III)Z"⟩
abbrev cX6_isRiddle : ByteArray := prog_8_method_5_code
def yX6_isRiddle : MethodName := ⟨RX6, "isRiddle", "(I)Z"⟩
abbrev cX6_isTeam : ByteArray := prog_8_method_6_code
def yX6_isTeam : MethodName := ⟨RX6, "isTeam", "(I)Z"⟩
abbrev cX6_at : ByteArray := prog_8_method_7_code
def yX6_at : MethodName := ⟨RX6, "at", "(II)I"⟩
abbrev cX6_doesNeed : ByteArray := prog_8_method_8_code
def yX6_doesNeed : MethodName := ⟨RX6, "doesNeed", "(II)Z"⟩
abbrev cX6_pass : ByteArray := prog_8_method_9_code
def yX6_pass : MethodName := ⟨RX6, "pass", "(I)I"⟩
abbrev cX6_now : ByteArray := prog_8_method_10_code
def yX6_now : MethodName := ⟨RX6, "now", "()I"⟩
abbrev cX6_addRiddle : ByteArray := prog_8_method_11_code
def yX6_addRiddle : MethodName := ⟨RX6, "addRiddle", "(IIII)I"⟩
abbrev cX6_bits : ByteArray := prog_8_method_12_code
def yX6_bits : MethodName := ⟨RX6, "bits", "(I)I"⟩
abbrev cX6_isTouched : ByteArray := prog_8_method_13_code
def yX6_isTouched : MethodName := ⟨RX6, "isTouched", "(I)Z"⟩
abbrev cX6_need : ByteArray := prog_8_method_14_code
def yX6_need : MethodName := ⟨RX6, "need", "(II)I"⟩
abbrev cX6_addTeam : ByteArray := prog_8_method_15_code
def yX6_addTeam : MethodName := ⟨RX6, "addTeam", "()I"⟩
abbrev cX6_isOpenToAll : ByteArray := prog_8_method_16_code
def yX6_isOpenToAll : MethodName := ⟨RX6, "isOpenToAll", "(I)Z"⟩
abbrev cX6_end : ByteArray := prog_8_method_17_code
def yX6_end : MethodName := ⟨RX6, "end", "()I"⟩
abbrev cX6_opened : ByteArray := prog_8_method_18_code
def yX6_opened : MethodName := ⟨RX6, "opened", "(II)I"⟩
abbrev cX6_wrong : ByteArray := prog_8_method_19_code
def yX6_wrong : MethodName := ⟨RX6, "wrong", "(II)I"⟩
abbrev cX6_isDone : ByteArray := prog_8_method_20_code
def yX6_isDone : MethodName := ⟨RX6, "isDone", "(II)Z"⟩
abbrev cX6_answer : ByteArray := prog_8_method_21_code
def yX6_answer : MethodName := ⟨RX6, "answer", "(III)Z"⟩
abbrev cX6_priceOf : ByteArray := prog_8_method_22_code
def yX6_priceOf : MethodName := ⟨RX6, "priceOf", "(II)I"⟩
abbrev cX6_hint : ByteArray := prog_8_method_23_code
def yX6_hint : MethodName := ⟨RX6, "hint", "(II)I"⟩
abbrev cX6_price : ByteArray := prog_8_method_24_code
def yX6_price : MethodName := ⟨RX6, "price", "(II)I"⟩
abbrev cX6_openedAt : ByteArray := prog_8_method_25_code
def yX6_openedAt : MethodName := ⟨RX6, "openedAt", "(II)I"⟩
abbrev cX6_solvedAt : ByteArray := prog_8_method_26_code
def yX6_solvedAt : MethodName := ⟨RX6, "solvedAt", "(II)I"⟩
abbrev cX6_clear : ByteArray := prog_8_method_27_code
def yX6_clear : MethodName := ⟨RX6, "clear", "(II)Z"⟩
abbrev cX6_pardon : ByteArray := prog_8_method_28_code
def yX6_pardon : MethodName := ⟨RX6, "pardon", "(II)Z"⟩
abbrev cX6_setBound : ByteArray := prog_8_method_29_code
def yX6_setBound : MethodName := ⟨RX6, "setBound", "(I)I"⟩
abbrev cX6_isFree : ByteArray := prog_8_method_30_code
def yX6_isFree : MethodName := ⟨RX6, "isFree", "(I)Z"⟩
abbrev cX6_gave : ByteArray := prog_8_method_31_code
def yX6_gave : MethodName := ⟨RX6, "gave", "(IIII)Z"⟩
abbrev cX6_isCommon : ByteArray := prog_8_method_32_code
def yX6_isCommon : MethodName := ⟨RX6, "isCommon", "(II)Z"⟩
abbrev cX6_likenessOf : ByteArray := prog_8_method_33_code
def yX6_likenessOf : MethodName := ⟨RX6, "likenessOf", "(II)I"⟩
abbrev cX6_likeness : ByteArray := prog_8_method_34_code
def yX6_likeness : MethodName := ⟨RX6, "likeness", "(II)I"⟩
abbrev cX6_are : ByteArray := prog_8_method_35_code
def yX6_are : MethodName := ⟨RX6, "are", "(II)Z"⟩
abbrev cX6_areLinked : ByteArray := prog_8_method_36_code
def yX6_areLinked : MethodName := ⟨RX6, "areLinked", "(II)Z"⟩
abbrev cX6_cheated : ByteArray := prog_8_method_37_code
def yX6_cheated : MethodName := ⟨RX6, "cheated", "(I)I"⟩
abbrev cX6_isCheated : ByteArray := prog_8_method_38_code
def yX6_isCheated : MethodName := ⟨RX6, "isCheated", "(II)Z"⟩
abbrev cX6_voids : ByteArray := prog_8_method_39_code
def yX6_voids : MethodName := ⟨RX6, "voids", "(I)I"⟩
abbrev cX6_isVoid : ByteArray := prog_8_method_40_code
def yX6_isVoid : MethodName := ⟨RX6, "isVoid", "(II)Z"⟩
abbrev cX6_hanging : ByteArray := prog_8_method_41_code
def yX6_hanging : MethodName := ⟨RX6, "hanging", "(I)I"⟩
abbrev cX6_counting : ByteArray := prog_8_method_42_code
def yX6_counting : MethodName := ⟨RX6, "counting", "(I)I"⟩
abbrev cX6_scoreOf : ByteArray := prog_8_method_43_code
def yX6_scoreOf : MethodName := ⟨RX6, "scoreOf", "(I)I"⟩
abbrev cX6_lastOf : ByteArray := prog_8_method_44_code
def yX6_lastOf : MethodName := ⟨RX6, "lastOf", "(I)I"⟩
abbrev cX6_scored : ByteArray := prog_8_method_45_code
def yX6_scored : MethodName := ⟨RX6, "scored", "(I)I"⟩
abbrev cX6_score : ByteArray := prog_8_method_46_code
def yX6_score : MethodName := ⟨RX6, "score", "(I)I"⟩
abbrev cX6_scoreAnew : ByteArray := prog_8_method_47_code
def yX6_scoreAnew : MethodName := ⟨RX6, "scoreAnew", "(I)I"⟩
abbrev cX6_ahead : ByteArray := prog_8_method_48_code
def yX6_ahead : MethodName := ⟨RX6, "ahead", "(IZ)I"⟩
abbrev cX6_place : ByteArray := prog_8_method_49_code
def yX6_place : MethodName := ⟨RX6, "place", "(I)I"⟩
abbrev cX6_teamAt : ByteArray := prog_8_method_50_code
def yX6_teamAt : MethodName := ⟨RX6, "teamAt", "(I)I"⟩
abbrev cX6_setPrize : ByteArray := prog_8_method_51_code
def yX6_setPrize : MethodName := ⟨RX6, "setPrize", "(II)I"⟩
abbrev cX6_prize : ByteArray := prog_8_method_52_code
def yX6_prize : MethodName := ⟨RX6, "prize", "(I)I"⟩
def RJx145de : String := "java/io/Serializable"
def TJx145de : u_T := fun k => match k with
  | _ => ("", "", "", false)
def tyJx145de : Nat → FieldType := fun k => match k with
  | _ => .int
abbrev wsJx145de0 : List Cond := u_ws RJx145de TJx145de 0
theorem nmJx145de : ∀ a, a < 0 → ∀ b, b < 0 → a ≠ b → (TJx145de a).2.1 ≠ (TJx145de b).2.1 := by decide +kernel
theorem tyJx145de_ok : ∀ k, k < 0 → parseFieldDescriptor (TJx145de k).2.2.1 = some (tyJx145de k) := by decide +kernel
def RJ6 : String := "java/lang/Integer"
def TJ6 : u_T := fun k => match k with
  | _ => ("", "", "", false)
def tyJ6 : Nat → FieldType := fun k => match k with
  | _ => .int
abbrev wsJ60 : List Cond := u_ws RJ6 TJ6 0
theorem nmJ6 : ∀ a, a < 0 → ∀ b, b < 0 → a ≠ b → (TJ6 a).2.1 ≠ (TJ6 b).2.1 := by decide +kernel
theorem tyJ6_ok : ∀ k, k < 0 → parseFieldDescriptor (TJ6 k).2.2.1 = some (tyJ6 k) := by decide +kernel
abbrev cJ6_bitCount_0f7a4 : ByteArray := prog_14_method_49_code
def yJ6_bitCount_0f7a4 : MethodName := ⟨RJ6, "bitCount", "(I)I"⟩
def RJ9 : String := "java/lang/Math"
def TJ9 : u_T := fun k => match k with
  | _ => ("", "", "", false)
def tyJ9 : Nat → FieldType := fun k => match k with
  | _ => .int
abbrev wsJ90 : List Cond := u_ws RJ9 TJ9 0
theorem nmJ9 : ∀ a, a < 0 → ∀ b, b < 0 → a ≠ b → (TJ9 a).2.1 ≠ (TJ9 b).2.1 := by decide +kernel
theorem tyJ9_ok : ∀ k, k < 0 → parseFieldDescriptor (TJ9 k).2.2.1 = some (tyJ9 k) := by decide +kernel
abbrev cJ9_max_7cf53 : ByteArray := prog_15_method_65_code
def yJ9_max_7cf53 : MethodName := ⟨RJ9, "max", "(II)I"⟩
def RJ0 : String := "java/lang/String"
def TJ0 : u_T := fun k => match k with
  | _ => ("", "", "", false)
def tyJ0 : Nat → FieldType := fun k => match k with
  | _ => .int
abbrev wsJ00 : List Cond := u_ws RJ0 TJ0 0
theorem nmJ0 : ∀ a, a < 0 → ∀ b, b < 0 → a ≠ b → (TJ0 a).2.1 ≠ (TJ0 b).2.1 := by decide +kernel
theorem tyJ0_ok : ∀ k, k < 0 → parseFieldDescriptor (TJ0 k).2.2.1 = some (tyJ0 k) := by decide +kernel
def RJ7 : String := "java/util/Arrays"
def TJ7 : u_T := fun k => match k with
  | _ => ("", "", "", false)
def tyJ7 : Nat → FieldType := fun k => match k with
  | _ => .int
abbrev wsJ70 : List Cond := u_ws RJ7 TJ7 0
theorem nmJ7 : ∀ a, a < 0 → ∀ b, b < 0 → a ≠ b → (TJ7 a).2.1 ≠ (TJ7 b).2.1 := by decide +kernel
theorem tyJ7_ok : ∀ k, k < 0 → parseFieldDescriptor (TJ7 k).2.2.1 = some (tyJ7 k) := by decide +kernel
abbrev cJ7_fill_53178 : ByteArray := prog_19_method_103_code
def yJ7_fill_53178 : MethodName := ⟨RJ7, "fill", "([II)V"⟩
def RL : String := "PuzzleRegistryLaw"
abbrev cL_pass : ByteArray := method_3_code
def yL_pass : MethodName := ⟨RL, "pass", "(LPuzzleRegistry;I[J)I"⟩
abbrev cL_addRiddle : ByteArray := method_4_code
def yL_addRiddle : MethodName := ⟨RL, "addRiddle", "(LPuzzleRegistry;IIII[J)I"⟩
abbrev cL_need : ByteArray := method_5_code
def yL_need : MethodName := ⟨RL, "need", "(LPuzzleRegistry;II[J)I"⟩
abbrev cL_addTeam : ByteArray := method_6_code
def yL_addTeam : MethodName := ⟨RL, "addTeam", "(LPuzzleRegistry;[J)I"⟩
abbrev cL_end : ByteArray := method_7_code
def yL_end : MethodName := ⟨RL, "end", "(LPuzzleRegistry;[J)I"⟩
abbrev cL_answer : ByteArray := method_8_code
def yL_answer : MethodName := ⟨RL, "answer", "(LPuzzleRegistry;III[J)I"⟩
abbrev cL_hint : ByteArray := method_9_code
def yL_hint : MethodName := ⟨RL, "hint", "(LPuzzleRegistry;II[J)I"⟩
abbrev cL_price : ByteArray := method_10_code
def yL_price : MethodName := ⟨RL, "price", "(LPuzzleRegistry;II[J)I"⟩
abbrev cL_openedAt : ByteArray := method_11_code
def yL_openedAt : MethodName := ⟨RL, "openedAt", "(LPuzzleRegistry;II[J)I"⟩
abbrev cL_solvedAt : ByteArray := method_12_code
def yL_solvedAt : MethodName := ⟨RL, "solvedAt", "(LPuzzleRegistry;II[J)I"⟩
abbrev cL_clear : ByteArray := method_13_code
def yL_clear : MethodName := ⟨RL, "clear", "(LPuzzleRegistry;II[J)I"⟩
abbrev cL_pardon : ByteArray := method_14_code
def yL_pardon : MethodName := ⟨RL, "pardon", "(LPuzzleRegistry;II[J)I"⟩
abbrev cL_setBound : ByteArray := method_15_code
def yL_setBound : MethodName := ⟨RL, "setBound", "(LPuzzleRegistry;I[J)I"⟩
abbrev cL_isFree : ByteArray := method_16_code
def yL_isFree : MethodName := ⟨RL, "isFree", "(LPuzzleRegistry;I[J)I"⟩
abbrev cL_likeness : ByteArray := method_17_code
def yL_likeness : MethodName := ⟨RL, "likeness", "(LPuzzleRegistry;II[J)I"⟩
abbrev cL_areLinked : ByteArray := method_18_code
def yL_areLinked : MethodName := ⟨RL, "areLinked", "(LPuzzleRegistry;II[J)I"⟩
abbrev cL_isCheated : ByteArray := method_19_code
def yL_isCheated : MethodName := ⟨RL, "isCheated", "(LPuzzleRegistry;II[J)I"⟩
abbrev cL_isVoid : ByteArray := method_20_code
def yL_isVoid : MethodName := ⟨RL, "isVoid", "(LPuzzleRegistry;II[J)I"⟩
abbrev cL_hanging : ByteArray := method_21_code
def yL_hanging : MethodName := ⟨RL, "hanging", "(LPuzzleRegistry;I[J)I"⟩
abbrev cL_score : ByteArray := method_22_code
def yL_score : MethodName := ⟨RL, "score", "(LPuzzleRegistry;I[J)I"⟩
abbrev cL_scoreAnew : ByteArray := method_23_code
def yL_scoreAnew : MethodName := ⟨RL, "scoreAnew", "(LPuzzleRegistry;I[J)I"⟩
abbrev cL_place : ByteArray := method_24_code
def yL_place : MethodName := ⟨RL, "place", "(LPuzzleRegistry;I[J)I"⟩
abbrev cL_setPrize : ByteArray := method_25_code
def yL_setPrize : MethodName := ⟨RL, "setPrize", "(LPuzzleRegistry;II[J)I"⟩
abbrev cL_prize : ByteArray := method_26_code
def yL_prize : MethodName := ⟨RL, "prize", "(LPuzzleRegistry;I[J)I"⟩
abbrev cL_law : ByteArray := code
def yL_law : MethodName := ⟨RL, "law", "([I)Z"⟩
end
section
abbrev vwCl : List vw_C := [(RX0, TX0, 5), (RX1, TX1, 3), (RX2, TX2, 6), (RX3, TX3, 7), (RX4, TX4, 2), (RX5, TX5, 12), (RX6, TX6, 22)]
/-! my own rows over the kit: words that stay, rooms, three kinds of contracts, calls -/
def q_ok : Cond → Bool
  | .fieldLinkNest _ _ _ _ _ _ => true
  | .methodLinkNest _ _ _ _ => true
  | .declares _ => true
  | .castable _ _ => true
  | w => goodWord w
def TW : List Cond := lw_tbl.filter q_ok
theorem q_warm {s U : State} (hW : s.WarmedH U.vm) : ∀ (w : Cond) (A A' : Array Value), q_ok w = true → w.before A s = true → w.before A' U = true := by
  intro w A A' hq h
  have e : (s.setVm U.vm).vm = U.vm := rfl
  cases w with
  | fieldLinkNest a i b n d h9 => exact va_tabs rfl e (Cond.fieldLinkNest_warmed (args := A) hW h)
  | methodLinkNest a i x h9 => exact va_tabs rfl e (Cond.methodLinkNest_warmed (args := A) hW h)
  | declares x => exact va_tabs (u := s.setVm U.vm) (A := A) rfl e (by rw [Cond.declares_setVm hW.alike]; exact h)
  | castable a b => exact va_tabs (u := s.setVm U.vm) (A := A) rfl e (by rw [Cond.castable_setVm hW.alike]; exact h)
  | _ => exact word_at hW (good_of_word hq) h
def EN (U : State) : Prop := ∀ w ∈ TW, ∀ A : Array Value, w.before A U = true
theorem EN.warm {s U : State} (hW : s.WarmedH U.vm) (h : EN s) : EN U := fun w hw A => q_warm hW w A A ((List.mem_filter.mp hw).2) (h w hw A)
theorem q_mem {w : Cond} (i : Nat) (h : lw_tbl[i]? = some w) (hq : q_ok w = true) : w ∈ TW := List.mem_filter.mpr ⟨List.mem_of_getElem? h, hq⟩
def EV (D : va_G) (cI cZ cL : ClassId) (U : State) : Prop := EN U ∧ va_K D vwCl [(cI, .int), (cZ, .boolean), (cL, .long)] U
theorem EV.warm {D : va_G} {cI cZ cL : ClassId} {s U : State} (hW : s.WarmedH U.vm) (h : EV D cI cZ cL s) : EV D cI cZ cL U := ⟨EN.warm hW h.1, va_K.moved hW.alike h.2⟩
theorem EV.call {D : va_G} {cI cZ cL : ClassId} {U : State} {g : JFrame} {mk : MethodId} {a : Array Value} (h : EV D cI cZ cL U) : EV D cI cZ cL (U.calling g mk a) := EV.warm (s := U) (State.WarmedH.refl U) h
def ES (U : State) : Prop := ∀ (own : String) (k : Nat) (tx : String), Cond.stringRef own k tx ∈ lw_tbl → ∃ sa, vk_R own k tx sa U
theorem ES.warm {s U : State} (hW : s.WarmedH U.vm) (h : ES s) : ES U := fun own k tx hm => by
  obtain ⟨sa, hs⟩ := h own k tx hm
  exact ⟨sa, vk_R.warm hW hs⟩
def EZ (A : Nat → Prop) (U : State) (H : Heap) : Prop := vx_Zq Bundle.tN "UNASSIGNED_STACK" Bundle.steD A U H ∧ vx_Zq Bundle.tN "SUPPRESSED_SENTINEL" Bundle.listD A U H
theorem EZ.moved {A : Nat → Prop} {u U : State} {H : Heap} (hvm : u.vm.Alike U.vm) (h : EZ A u H) : EZ A U H := ⟨vx_Zq.moved hvm h.1, vx_Zq.moved hvm h.2⟩
theorem EZ.kept {A : Nat → Prop} {U : State} {H H1 : Heap} (h : EZ A U H) (hq : ∀ a : Nat, a < H.size → ¬ A a → H1[a]? = H[a]?) : EZ A U H1 := ⟨vx_Zq.kept h.1 hq, vx_Zq.kept h.2 hq⟩
theorem EZ.narrow {A B : Nat → Prop} {U : State} {H : Heap} (h : EZ A U H) (hAB : ∀ q, B q → A q) : EZ B U H := ⟨vx_Zq.narrow h.1 hAB, vx_Zq.narrow h.2 hAB⟩
def q_no : Nat → Prop := fun _ => False
def rm (k c n : Nat) : Room := { frames := k, cells := c, slots := n, locals := 30 * k }
/-- what a method asks of the state: the words, the classes, the world -/
def PcC (D : va_G) (cI cZ cL : ClassId) (av : List Value) (ws : va_W) : Array Value → State → Prop := va_Pc av (fun U => EV D cI cZ cL U ∧ va_P D vwCl ws U.heap)
/-- .. of one that throws: also the texts and two statics -/
def PcX (D : va_G) (cI cZ cL : ClassId) (av : List Value) (ws : va_W) : Array Value → State → Prop := va_Pc av (fun U => EV D cI cZ cL U ∧ ES U ∧ EZ q_no U U.heap ∧ va_P D vwCl ws U.heap)
def Qrd (v : Option Value) : Array Value → State → Outcome → State → Prop := fun _ st oc t => oc = .returned v ∧ t.heap = st.heap
def Qwr (D : va_G) (A : Nat → Prop) (ws : va_W) (v : Option Value) : Array Value → State → Outcome → State → Prop := fun _ st oc t => oc = .returned v ∧ va_P D vwCl ws t.heap ∧ va_F A st t
def Qth : Array Value → State → Outcome → State → Prop := fun _ _ _ _ => False
def Xth (E : String) : String → State → State → Prop := fun E' st t => E' = E ∧ va_F q_no st t
/-- it reads alone -/
def RD (l : Launch) (D : va_G) (cI cZ cL : ClassId) (y : MethodName) (b : ByteArray) (n : Nat) (ret : Option FieldType) (k : Nat) (av : List Value) (ws : va_W) (v : Option Value) : Prop := Met l y [Cond.code y b n ret] (rm k 0 0) (PcC D cI cZ cL av ws) (Qrd v) 0 0 q_no
/-- it writes: the world afterwards -/
def WR (l : Launch) (D : va_G) (cI cZ cL : ClassId) (y : MethodName) (b : ByteArray) (n : Nat) (ret : Option FieldType) (k : Nat) (av : List Value) (A : Nat → Prop) (ws ws' : va_W) (v : Option Value) : Prop := Met l y [Cond.code y b n ret] (rm k 0 0) (PcC D cI cZ cL av ws) (Qwr D A ws' v) 0 0 A
/-- it throws -/
def TH (l : Launch) (D : va_G) (cI cZ cL : ClassId) (y : MethodName) (b : ByteArray) (n : Nat) (ret : Option FieldType) (k : Nat) (av : List Value) (ws : va_W) (E : String) : Prop := vx_Met l y [Cond.code y b n ret] (rm k 1 6) (PcX D cI cZ cL av ws) Qth (Xth E) 1 6 q_no
theorem PcC.blind {D : va_G} {cI cZ cL : ClassId} {av : List Value} {ws : va_W} : FrameBlind (PcC D cI cZ cL av ws) := fun _ _ _ _ q => ⟨q.1, EV.call q.2.1, q.2.2⟩
theorem ES.call {U : State} {g : JFrame} {mk : MethodId} {a : Array Value} (h : ES U) : ES (U.calling g mk a) := ES.warm (s := U) (State.WarmedH.refl U) h
theorem EZ.call {A : Nat → Prop} {U : State} {H : Heap} {g : JFrame} {mk : MethodId} {a : Array Value} (h : EZ A U H) : EZ A (U.calling g mk a) H := EZ.moved (u := U) (Vm.Alike.refl U.vm) h
theorem PcX.blind {D : va_G} {cI cZ cL : ClassId} {av : List Value} {ws : va_W} : FrameBlind (PcX D cI cZ cL av ws) := fun _ _ _ _ q => ⟨q.1, EV.call q.2.1, ES.call q.2.2.1, EZ.call q.2.2.2.1, q.2.2.2.2⟩
section Bodies9
variable {l : Launch} {D : va_G} {cI cZ cL : ClassId} {y : MethodName} {b : ByteArray} {n : Nat} {ret : Option FieldType} {k : Nat} {av : List Value} {A : Nat → Prop} {ws ws' : va_W} {v : Option Value} {E : String}
theorem RD.of (hy : plainName y.cls = true) (hlen : (lg_sl av).length ≤ n)
    (body : ∀ (p : Program) (e : Env) (s : State) (m : MethodId) (args : Array Value) (below : List Frame) (meth : Method) (c : Code) (ls : Array Slot), p.tables.exec = Jvm.exec → c.code = b → meth.sig.returnType = ret → c.maxLocals = n → s.vm.findClass y.cls = some m.cls → meth.locks = false → EV D cI cZ cL s → va_P D vwCl ws s.heap → lv_has ls n (lv_args 0 av) →
      W p l e (rm k 0 0) s m args below meth c s.heap [] 0 0 (MQ below (Qrd v) args s 0 0 q_no) (F0 m 0 ls [])) : RD l D cI cZ cL y b n ret k av ws v := by
  refine Met.ofW (cc := b) (maxL := n) (ret := ret) hy rfl ?_
  intro p e s m args below meth c s₁ B hml hv
  obtain ⟨rfl, hE, hP⟩ := hv
  have hl := lv_entry av hlen
  rw [lg_entry_eq]
  generalize (lg_sl av ++ List.replicate (n - (lg_sl av).length) Slot.unset).toArray = ls at hl ⊢
  exact body p e s m _ below meth c ls B.exec B.bytes B.returns hml (findClass_of_methodNamed B.named) B.notSynchronized hE hP hl
theorem WR.of (hy : plainName y.cls = true) (hlen : (lg_sl av).length ≤ n)
    (body : ∀ (p : Program) (e : Env) (s : State) (m : MethodId) (args : Array Value) (below : List Frame) (meth : Method) (c : Code) (ls : Array Slot), p.tables.exec = Jvm.exec → c.code = b → meth.sig.returnType = ret → c.maxLocals = n → s.vm.findClass y.cls = some m.cls → meth.locks = false → EV D cI cZ cL s → va_P D vwCl ws s.heap → va_S A s.heap s.heap [] → lv_has ls n (lv_args 0 av) →
      W p l e (rm k 0 0) s m args below meth c s.heap [] 0 0 (MQ below (Qwr D A ws' v) args s 0 0 A) (F0 m 0 ls [])) : WR l D cI cZ cL y b n ret k av A ws ws' v := by
  refine Met.ofW (cc := b) (maxL := n) (ret := ret) hy rfl ?_
  intro p e s m args below meth c s₁ B hml hv
  obtain ⟨rfl, hE, hP⟩ := hv
  have hl := lv_entry av hlen
  rw [lg_entry_eq]
  generalize (lg_sl av ++ List.replicate (n - (lg_sl av).length) Slot.unset).toArray = ls at hl ⊢
  exact body p e s m _ below meth c ls B.exec B.bytes B.returns hml (findClass_of_methodNamed B.named) B.notSynchronized hE hP va_S.rf hl
theorem TH.of (hy : plainName y.cls = true) (hlen : (lg_sl av).length ≤ n)
    (body : ∀ (p : Program) (e : Env) (s : State) (m : MethodId) (args : Array Value) (below : List Frame) (meth : Method) (c : Code) (ls : Array Slot), p.tables.exec = Jvm.exec → c.code = b → meth.sig.returnType = ret → c.maxLocals = n → s.vm.findClass y.cls = some m.cls → meth.locks = false → (∀ x ∈ c.exceptionTable.toList, False) → EV D cI cZ cL s → ES s → EZ q_no s s.heap → va_P D vwCl ws s.heap → lv_has ls n (lv_args 0 av) →
      W p l e (rm k 1 6) s m args below meth c s.heap [] 0 0 (vx_MQ below Qth (Xth E) args s 1 6 q_no) (F0 m 0 ls [])) : TH l D cI cZ cL y b n ret k av ws E := by
  refine vx_ofW (cc := b) (maxL := n) (ret := ret) hy rfl ?_
  intro p e s m args below meth c s₁ B hml hxt hv
  obtain ⟨rfl, hE, hT, hZ, hP⟩ := hv
  have hl := lv_entry av hlen
  rw [lg_entry_eq]
  generalize (lg_sl av ++ List.replicate (n - (lg_sl av).length) Slot.unset).toArray = ls at hl ⊢
  exact body p e s m _ below meth c ls B.exec B.bytes B.returns hml (findClass_of_methodNamed B.named) B.notSynchronized hxt hE hT hZ hP hl
end Bodies9
section Rows9
variable {p : Program} {l : Launch} {e : Env} {R : Room} {s : State} {m : MethodId} {args : Array Value} {below : List Frame} {meth : Method} {c : Code} {H : Heap} {locs : List Loc} {cells slots : Nat} {Q : State → Prop}
variable {pc : Nat} {ls : Array Slot} {rest st0 : List Value} {a : Nat} {A : Nat → Prop} {H0 : Heap} {cc : ByteArray} {D : va_G} {cI cZ cL : ClassId} {ws ws' : va_W}
/-- ends -/
theorem e_ret {v : Int32} {ty : FieldType} (hx : p.tables.exec = Jvm.exec) (hb : c.code = cc) (hr : meth.sig.returnType = some ty) (hlk : meth.locks = false) (hn : narrow ty (.int v) = .int v) (hdg : decode cc pc = .ok (.ireturn, 1)) : W p l e R s m args below meth c s.heap [] 0 0 (MQ below (Qrd (some (.int v))) args s 0 0 q_no) (F0 m pc ls [.int v]) :=
  W.zret hx hb hr hn (fun t ht _ => ⟨rfl, ht⟩) (fun _ h => nomatch h) hdg hlk
theorem e_retv (hx : p.tables.exec = Jvm.exec) (hb : c.code = cc) (hr : meth.sig.returnType = none) (hlk : meth.locks = false) (hdg : decode cc pc = .ok (.return_, 1)) : W p l e R s m args below meth c s.heap [] 0 0 (MQ below (Qrd none) args s 0 0 q_no) (F0 m pc ls []) :=
  W.vret hx hb hr (fun t ht _ => ⟨rfl, ht⟩) (fun _ h => nomatch h) hdg hlk
theorem e_wret {v : Int32} {ty : FieldType} (hx : p.tables.exec = Jvm.exec) (hb : c.code = cc) (hr : meth.sig.returnType = some ty) (hlk : meth.locks = false) (hn : narrow ty (.int v) = .int v) (hP : va_P D vwCl ws H) (hS : va_S A s.heap H locs) (hdg : decode cc pc = .ok (.ireturn, 1)) : W p l e R s m args below meth c H locs cells slots (MQ below (Qwr D A ws (some (.int v))) args s cells slots A) (F0 m pc ls [.int v]) :=
  W.zret hx hb hr hn (fun t ht _ => ⟨rfl, by rw [ht]; exact hP, hS.F ht⟩) hS.2.2 hdg hlk
theorem e_wretv (hx : p.tables.exec = Jvm.exec) (hb : c.code = cc) (hr : meth.sig.returnType = none) (hlk : meth.locks = false) (hP : va_P D vwCl ws H) (hS : va_S A s.heap H locs) (hdg : decode cc pc = .ok (.return_, 1)) : W p l e R s m args below meth c H locs cells slots (MQ below (Qwr D A ws none) args s cells slots A) (F0 m pc ls []) :=
  W.vret hx hb hr (fun t ht _ => ⟨rfl, by rw [ht]; exact hP, hS.F ht⟩) hS.2.2 hdg hlk
/-- the top of the stack by another name -/
theorem q_top {x y : Int32} (h : x = y) (k : W p l e R s m args below meth c H locs cells slots Q (F0 m pc ls (.int y :: rest))) : W p l e R s m args below meth c H locs cells slots Q (F0 m pc ls (.int x :: rest)) := h ▸ k
/-- behind a call -/
theorem q_rd {v : Value} (hr : va_Run p l e R s m args below meth c H locs cells slots 0 0 (F0 m pc ls st0) rest (fun st oc t => oc = .returned (some v) ∧ t.heap = st.heap) q_no)
    (kk : W p l e R s m args below meth c H locs cells slots Q (F0 m (pc + 3) ls (v :: rest))) : W p l e R s m args below meth c H locs cells slots Q (F0 m pc ls st0) := by
  intro T hT X
  obtain ⟨v1, st₀, t, T', L, h0, X', hL, e1, e2, ⟨hv, hh⟩, st⟩ := hr T hT X
  have hL0 : L = [] := List.eq_nil_iff_forall_not_mem.mpr (fun q hq => hL q hq)
  subst hL0
  cases hv
  rw [List.append_nil] at X'
  obtain ⟨t2, a1, b1⟩ := kk T' (by rw [e1, hh, h0]) X'
  exact ⟨t2, st t2 a1, b1⟩
theorem q_rdv (hr : va_Run p l e R s m args below meth c H locs cells slots 0 0 (F0 m pc ls st0) rest (fun st oc t => oc = .returned none ∧ t.heap = st.heap) q_no)
    (kk : W p l e R s m args below meth c H locs cells slots Q (F0 m (pc + 3) ls rest)) : W p l e R s m args below meth c H locs cells slots Q (F0 m pc ls st0) := by
  intro T hT X
  obtain ⟨v1, st₀, t, T', L, h0, X', hL, e1, e2, ⟨hv, hh⟩, st⟩ := hr T hT X
  have hL0 : L = [] := List.eq_nil_iff_forall_not_mem.mpr (fun q hq => hL q hq)
  subst hL0
  cases hv
  rw [List.append_nil] at X'
  obtain ⟨t2, a1, b1⟩ := kk T' (by rw [e1, hh, h0]) X'
  exact ⟨t2, st t2 a1, b1⟩
theorem q_Sgo {st₀ t T' : State} {L : List Loc} (h0 : st₀.heap = H) (e1 : T'.heap = t.heap) (hS : va_S A H0 H locs) (hL : ∀ q ∈ L, A q.base) (hF : va_F A st₀ t) : va_S A H0 T'.heap (locs ++ L) :=
  (vx_keep (A1 := A) (free := A) h0 e1 hS (fun _ _ h => h) (fun _ h => h) hL hF).2.2
theorem q_wr {v : Value} {mc ms : Nat} (hr : va_Run p l e R s m args below meth c H locs cells slots mc ms (F0 m pc ls st0) rest (fun st oc t => oc = .returned (some v) ∧ va_P D vwCl ws' t.heap ∧ va_F A st t) A) (hS : va_S A H0 H locs)
    (kk : ∀ (H : Heap) (locs : List Loc), va_P D vwCl ws' H → va_S A H0 H locs → W p l e R s m args below meth c H locs (cells + mc) (slots + ms) Q (F0 m (pc + 3) ls (v :: rest))) : W p l e R s m args below meth c H locs cells slots Q (F0 m pc ls st0) := by
  intro T hT X
  obtain ⟨v1, st₀, t, T', L, h0, X', hL, e1, e2, ⟨hv, hp, hF⟩, st⟩ := hr T hT X
  cases hv
  obtain ⟨t2, a1, b1⟩ := kk T'.heap (locs ++ L) (by rw [e1]; exact hp) (q_Sgo h0 e1 hS hL hF) T' rfl X'
  exact ⟨t2, st t2 a1, b1⟩
theorem q_wrv {mc ms : Nat} (hr : va_Run p l e R s m args below meth c H locs cells slots mc ms (F0 m pc ls st0) rest (fun st oc t => oc = .returned none ∧ va_P D vwCl ws' t.heap ∧ va_F A st t) A) (hS : va_S A H0 H locs)
    (kk : ∀ (H : Heap) (locs : List Loc), va_P D vwCl ws' H → va_S A H0 H locs → W p l e R s m args below meth c H locs (cells + mc) (slots + ms) Q (F0 m (pc + 3) ls rest)) : W p l e R s m args below meth c H locs cells slots Q (F0 m pc ls st0) := by
  intro T hT X
  obtain ⟨v1, st₀, t, T', L, h0, X', hL, e1, e2, ⟨hv, hp, hF⟩, st⟩ := hr T hT X
  cases hv
  obtain ⟨t2, a1, b1⟩ := kk T'.heap (locs ++ L) (by rw [e1]; exact hp) (q_Sgo h0 e1 hS hL hF) T' rfl X'
  exact ⟨t2, st t2 a1, b1⟩
/-- behind a call of a method that throws -/
theorem q_th {mc ms : Nat} {E : String} {ag : Array Value} {Qc : Array Value → State → Outcome → State → Prop} {XC : String → State → State → Prop} (hr : vx_Run p l e R s m args below meth c s.heap [] 0 0 1 6 (F0 m pc ls st0) rest (Qth ag) (Xth E) q_no) (hlk : meth.locks = false) (hxt : ∀ x ∈ c.exceptionTable.toList, False) (hmc : 1 ≤ mc) (hms : 6 ≤ ms)
    (hx : ∀ t : State, s.vm.Alike t.vm → va_F q_no s t → XC E s t) : W p l e R s m args below meth c s.heap [] 0 0 (vx_MQ below Qc XC args s mc ms q_no) (F0 m pc ls st0) := by
  intro T hT X
  rcases hr T hT X with ⟨v, st₀, t, T', L, h0, X', hL, e1, e2, h9, st⟩ | ⟨q, st₀, t, T', L, E', ce, h0, X', hL, e1, e2, ⟨hE, hF⟩, hce, hcv, hcl, st⟩
  · exact absurd h9 (fun h => h)
  · subst hE
    obtain ⟨hz, hk⟩ := hF
    rw [h0] at hz hk
    obtain ⟨t2, a1, b1⟩ := vx_out (Qc := Qc) (XC := XC) (mc := mc) (ms := ms) (free := q_no) (rest := rest) (fun x hx => (hxt x hx).elim) hlk (by rw [e1]; exact hce) hcv hcl (fun t9 ht9 hv9 => hx t9 hv9 ⟨by rw [ht9, e1]; exact hz, fun q9 h1 h2 => by rw [ht9, e1]; exact hk q9 h1 h2⟩) (fun z hz => hL z (by simpa using hz)) (by omega) (by omega) T' rfl X'
    exact ⟨t2, st.trans a1, b1⟩
end Rows9
end
section
/-! worlds: the class (35 cells), the model (16 cells); S c i = what cell c holds at i -/
abbrev Mem : Type := Nat → Nat → Int32
def st (S : Mem) (c i : Nat) (x : Int32) : Mem := fun k => if k = c then upd (S k) i x else S k
def bI (b : Bool) : Int32 := if b = true then 1 else 0
def bt (x : Int32) : Int32 := 1 <<< (x &&& 31)
def ush (x y : Int32) : Int32 := (x.toUInt32 >>> (y.toUInt32 &&& Int32.toUInt32 31)).toInt32
def imax (x y : Int32) : Int32 := if x < y then y else x
def iN (x : Int32) : Nat := x.toNatClampNeg
theorem q_D {A : Nat → Prop} {ws ws' : va_W} (h : ws.map Prod.fst = ws'.map Prod.fst) (hD : va_D A ws) : va_D A ws' := by
  have key : ∀ (k : Nat) (q : Nat × va_E), ws'[k]? = some q → ∃ q0, ws[k]? = some q0 ∧ q0.1 = q.1 := by
    intro k q hk
    have h1 : (ws'.map Prod.fst)[k]? = some q.1 := by rw [List.getElem?_map, hk]; rfl
    rw [← h, List.getElem?_map] at h1
    cases h2 : ws[k]? with
    | none => rw [h2] at h1; cases h1
    | some q0 => rw [h2] at h1; exact ⟨q0, rfl, Option.some.inj h1⟩
  refine ⟨fun i j p q hi hj hpq => ?_, fun k q hk => ?_⟩
  · obtain ⟨p0, a1, a2⟩ := key i p hi
    obtain ⟨q0, b1, b2⟩ := key j q hj
    exact hD.1 i j p0 q0 a1 b1 (by rw [a2, b2]; exact hpq)
  · obtain ⟨q0, a1, a2⟩ := key k q hk
    rw [← a2]; exact hD.2 k q0 a1
theorem q_in {C : String} {T : u_T} {N : Nat} (ps : List Nat) (h : u_ws C T N = ps.filterMap (fun i => lw_tbl[i]?)) (hq : (u_ws C T N).all q_ok = true) : ∀ w ∈ u_ws C T N, w ∈ TW := by
  intro w hw
  have h1 := List.all_eq_true.mp hq w hw
  rw [h] at hw
  obtain ⟨i, -, hi⟩ := List.mem_filterMap.mp hw
  exact q_mem i hi h1
theorem n_eq {a b : Nat} (ha : a < 2 ^ 31) (hb : b < 2 ^ 31) (h : nI a = nI b) : a = b := (nI_eq ha hb).mp h
theorem n_ne {a b : Nat} (ha : a < 2 ^ 31) (hb : b < 2 ^ 31) (h : ¬ nI a = nI b) : ¬ a = b := fun q => h (by rw [q])
theorem n_le {a b : Nat} (ha : a < 2 ^ 31) (hb : b < 2 ^ 31) (h : nI a ≤ nI b) : a ≤ b := (nI_leI ha hb).mp h
theorem n_nle {a b : Nat} (ha : a < 2 ^ 31) (hb : b < 2 ^ 31) (h : ¬ nI a ≤ nI b) : b < a := Nat.lt_of_not_le fun q => h ((nI_leI ha hb).mpr q)
theorem n_lt {a b : Nat} (ha : a < 2 ^ 31) (hb : b < 2 ^ 31) (h : nI a < nI b) : a < b := (nI_ltI ha hb).mp h
theorem n_nlt {a b : Nat} (ha : a < 2 ^ 31) (hb : b < 2 ^ 31) (h : ¬ nI a < nI b) : b ≤ a := Nat.le_of_not_lt fun q => h ((nI_ltI ha hb).mpr q)
theorem b_f {b : Bool} (h : bI b = 0) : b = false := by cases b with | false => rfl | true => exact absurd h (by decide)
theorem b_t {b : Bool} (h : ¬ bI b = 0) : b = true := by cases b with | false => exact absurd rfl h | true => rfl
theorem n_bI (b : Bool) : narrow .boolean (.int (bI b)) = .int (bI b) := by cases b <;> decide
theorem v_bI (b : Bool) : vp_nar .boolean (bI b) = bI b := by cases b <;> decide
theorem iN_nI {n : Nat} (h : n < 2 ^ 31) : iN (nI n) = n := nI_clamp h
def wC (ad : Nat → Nat) (cI : ClassId) (S : Mem) : va_W := [(ad 0, .inr (5, [.ref (ad 1), .ref (ad 7), .ref (ad 12), .ref (ad 15), .ref (ad 18), .ref (ad 25), .ref (ad 32), .ref (ad 33), .ref (ad 34), .int (S 0 9), .int (S 0 10), .int (S 0 11)])), (ad 1, .inr (3, [.ref (ad 2), .ref (ad 3), .ref (ad 4), .ref (ad 5), .ref (ad 6), .int (S 1 5), .int (S 1 6)])), (ad 2, .inl (cI, 16, .inl (S 2))), (ad 3, .inl (cI, 16, .inl (S 3))), (ad 4, .inl (cI, 16, .inl (S 4))), (ad 5, .inl (cI, 16, .inl (S 5))), (ad 6, .inl (cI, 16, .inl (S 6))), (ad 7, .inr (0, [.ref (ad 8), .ref (ad 9), .ref (ad 10), .ref (ad 11), .int (S 7 4)])), (ad 8, .inl (cI, 200, .inl (S 8))), (ad 9, .inl (cI, 200, .inl (S 9))), (ad 10, .inl (cI, 200, .inl (S 10))), (ad 11, .inl (cI, 200, .inl (S 11))), (ad 12, .inr (4, [.ref (ad 13), .ref (ad 14)])), (ad 13, .inl (cI, 128, .inl (S 13))), (ad 14, .inl (cI, 384, .inl (S 14))), (ad 15, .inr (1, [.ref (ad 16), .ref (ad 17), .int (S 15 2)])), (ad 16, .inl (cI, 8, .inl (S 16))), (ad 17, .inl (cI, 8, .inl (S 17))), (ad 18, .inr (2, [.ref (ad 19), .ref (ad 20), .ref (ad 21), .ref (ad 22), .ref (ad 23), .ref (ad 24)])), (ad 19, .inl (cI, 8, .inl (S 19))), (ad 20, .inl (cI, 8, .inl (S 20))), (ad 21, .inl (cI, 128, .inl (S 21))), (ad 22, .inl (cI, 128, .inl (S 22))), (ad 23, .inl (cI, 64, .inl (S 23))), (ad 24, .inl (cI, 64, .inl (S 24))), (ad 25, .inr (2, [.ref (ad 26), .ref (ad 27), .ref (ad 28), .ref (ad 29), .ref (ad 30), .ref (ad 31)])), (ad 26, .inl (cI, 8, .inl (S 26))), (ad 27, .inl (cI, 8, .inl (S 27))), (ad 28, .inl (cI, 128, .inl (S 28))), (ad 29, .inl (cI, 128, .inl (S 29))), (ad 30, .inl (cI, 64, .inl (S 30))), (ad 31, .inl (cI, 64, .inl (S 31))), (ad 32, .inl (cI, 8, .inl (S 32))), (ad 33, .inl (cI, 8, .inl (S 33))), (ad 34, .inl (cI, 8, .inl (S 34)))]
theorem wC_D {ad : Nat → Nat} {cI : ClassId} {S S' : Mem} {A : Nat → Prop} (h : va_D A (wC ad cI S)) : va_D A (wC ad cI S') := q_D (ws := wC ad cI S) (ws' := wC ad cI S') rfl h
theorem wC_st_2 {ad : Nat → Nat} {cI : ClassId} {S : Mem} {i : Nat} {x : Int32} : (wC ad cI S).set 2 (ad 2, .inl (cI, 16, .inl (upd (S 2) i x))) = wC ad cI (st S 2 i x) := rfl
theorem wC_st_3 {ad : Nat → Nat} {cI : ClassId} {S : Mem} {i : Nat} {x : Int32} : (wC ad cI S).set 3 (ad 3, .inl (cI, 16, .inl (upd (S 3) i x))) = wC ad cI (st S 3 i x) := rfl
theorem wC_st_4 {ad : Nat → Nat} {cI : ClassId} {S : Mem} {i : Nat} {x : Int32} : (wC ad cI S).set 4 (ad 4, .inl (cI, 16, .inl (upd (S 4) i x))) = wC ad cI (st S 4 i x) := rfl
theorem wC_st_5 {ad : Nat → Nat} {cI : ClassId} {S : Mem} {i : Nat} {x : Int32} : (wC ad cI S).set 5 (ad 5, .inl (cI, 16, .inl (upd (S 5) i x))) = wC ad cI (st S 5 i x) := rfl
theorem wC_st_6 {ad : Nat → Nat} {cI : ClassId} {S : Mem} {i : Nat} {x : Int32} : (wC ad cI S).set 6 (ad 6, .inl (cI, 16, .inl (upd (S 6) i x))) = wC ad cI (st S 6 i x) := rfl
theorem wC_st_8 {ad : Nat → Nat} {cI : ClassId} {S : Mem} {i : Nat} {x : Int32} : (wC ad cI S).set 8 (ad 8, .inl (cI, 200, .inl (upd (S 8) i x))) = wC ad cI (st S 8 i x) := rfl
theorem wC_st_9 {ad : Nat → Nat} {cI : ClassId} {S : Mem} {i : Nat} {x : Int32} : (wC ad cI S).set 9 (ad 9, .inl (cI, 200, .inl (upd (S 9) i x))) = wC ad cI (st S 9 i x) := rfl
theorem wC_st_10 {ad : Nat → Nat} {cI : ClassId} {S : Mem} {i : Nat} {x : Int32} : (wC ad cI S).set 10 (ad 10, .inl (cI, 200, .inl (upd (S 10) i x))) = wC ad cI (st S 10 i x) := rfl
theorem wC_st_11 {ad : Nat → Nat} {cI : ClassId} {S : Mem} {i : Nat} {x : Int32} : (wC ad cI S).set 11 (ad 11, .inl (cI, 200, .inl (upd (S 11) i x))) = wC ad cI (st S 11 i x) := rfl
theorem wC_st_13 {ad : Nat → Nat} {cI : ClassId} {S : Mem} {i : Nat} {x : Int32} : (wC ad cI S).set 13 (ad 13, .inl (cI, 128, .inl (upd (S 13) i x))) = wC ad cI (st S 13 i x) := rfl
theorem wC_st_14 {ad : Nat → Nat} {cI : ClassId} {S : Mem} {i : Nat} {x : Int32} : (wC ad cI S).set 14 (ad 14, .inl (cI, 384, .inl (upd (S 14) i x))) = wC ad cI (st S 14 i x) := rfl
theorem wC_st_16 {ad : Nat → Nat} {cI : ClassId} {S : Mem} {i : Nat} {x : Int32} : (wC ad cI S).set 16 (ad 16, .inl (cI, 8, .inl (upd (S 16) i x))) = wC ad cI (st S 16 i x) := rfl
theorem wC_st_17 {ad : Nat → Nat} {cI : ClassId} {S : Mem} {i : Nat} {x : Int32} : (wC ad cI S).set 17 (ad 17, .inl (cI, 8, .inl (upd (S 17) i x))) = wC ad cI (st S 17 i x) := rfl
theorem wC_st_19 {ad : Nat → Nat} {cI : ClassId} {S : Mem} {i : Nat} {x : Int32} : (wC ad cI S).set 19 (ad 19, .inl (cI, 8, .inl (upd (S 19) i x))) = wC ad cI (st S 19 i x) := rfl
theorem wC_st_20 {ad : Nat → Nat} {cI : ClassId} {S : Mem} {i : Nat} {x : Int32} : (wC ad cI S).set 20 (ad 20, .inl (cI, 8, .inl (upd (S 20) i x))) = wC ad cI (st S 20 i x) := rfl
theorem wC_st_21 {ad : Nat → Nat} {cI : ClassId} {S : Mem} {i : Nat} {x : Int32} : (wC ad cI S).set 21 (ad 21, .inl (cI, 128, .inl (upd (S 21) i x))) = wC ad cI (st S 21 i x) := rfl
theorem wC_st_22 {ad : Nat → Nat} {cI : ClassId} {S : Mem} {i : Nat} {x : Int32} : (wC ad cI S).set 22 (ad 22, .inl (cI, 128, .inl (upd (S 22) i x))) = wC ad cI (st S 22 i x) := rfl
theorem wC_st_23 {ad : Nat → Nat} {cI : ClassId} {S : Mem} {i : Nat} {x : Int32} : (wC ad cI S).set 23 (ad 23, .inl (cI, 64, .inl (upd (S 23) i x))) = wC ad cI (st S 23 i x) := rfl
theorem wC_st_24 {ad : Nat → Nat} {cI : ClassId} {S : Mem} {i : Nat} {x : Int32} : (wC ad cI S).set 24 (ad 24, .inl (cI, 64, .inl (upd (S 24) i x))) = wC ad cI (st S 24 i x) := rfl
theorem wC_st_26 {ad : Nat → Nat} {cI : ClassId} {S : Mem} {i : Nat} {x : Int32} : (wC ad cI S).set 26 (ad 26, .inl (cI, 8, .inl (upd (S 26) i x))) = wC ad cI (st S 26 i x) := rfl
theorem wC_st_27 {ad : Nat → Nat} {cI : ClassId} {S : Mem} {i : Nat} {x : Int32} : (wC ad cI S).set 27 (ad 27, .inl (cI, 8, .inl (upd (S 27) i x))) = wC ad cI (st S 27 i x) := rfl
theorem wC_st_28 {ad : Nat → Nat} {cI : ClassId} {S : Mem} {i : Nat} {x : Int32} : (wC ad cI S).set 28 (ad 28, .inl (cI, 128, .inl (upd (S 28) i x))) = wC ad cI (st S 28 i x) := rfl
theorem wC_st_29 {ad : Nat → Nat} {cI : ClassId} {S : Mem} {i : Nat} {x : Int32} : (wC ad cI S).set 29 (ad 29, .inl (cI, 128, .inl (upd (S 29) i x))) = wC ad cI (st S 29 i x) := rfl
theorem wC_st_30 {ad : Nat → Nat} {cI : ClassId} {S : Mem} {i : Nat} {x : Int32} : (wC ad cI S).set 30 (ad 30, .inl (cI, 64, .inl (upd (S 30) i x))) = wC ad cI (st S 30 i x) := rfl
theorem wC_st_31 {ad : Nat → Nat} {cI : ClassId} {S : Mem} {i : Nat} {x : Int32} : (wC ad cI S).set 31 (ad 31, .inl (cI, 64, .inl (upd (S 31) i x))) = wC ad cI (st S 31 i x) := rfl
theorem wC_st_32 {ad : Nat → Nat} {cI : ClassId} {S : Mem} {i : Nat} {x : Int32} : (wC ad cI S).set 32 (ad 32, .inl (cI, 8, .inl (upd (S 32) i x))) = wC ad cI (st S 32 i x) := rfl
theorem wC_st_33 {ad : Nat → Nat} {cI : ClassId} {S : Mem} {i : Nat} {x : Int32} : (wC ad cI S).set 33 (ad 33, .inl (cI, 8, .inl (upd (S 33) i x))) = wC ad cI (st S 33 i x) := rfl
theorem wC_st_34 {ad : Nat → Nat} {cI : ClassId} {S : Mem} {i : Nat} {x : Int32} : (wC ad cI S).set 34 (ad 34, .inl (cI, 8, .inl (upd (S 34) i x))) = wC ad cI (st S 34 i x) := rfl
def wM (am : Nat → Nat) (cI cZ : ClassId) (M : Mem) : va_W := [(am 0, .inr (6, [.int (M 0 0), .int (M 0 1), .int (M 0 2), .ref (am 1), .ref (am 2), .ref (am 3), .ref (am 4), .ref (am 5), .int (M 0 8), .ref (am 6), .ref (am 7), .ref (am 8), .ref (am 9), .ref (am 10), .int (M 0 14), .ref (am 11), .ref (am 12), .ref (am 13), .ref (am 14), .int (M 0 19), .ref (am 15), .int (M 0 21)])), (am 1, .inl (cI, 16, .inl (M 1))), (am 2, .inl (cI, 16, .inl (M 2))), (am 3, .inl (cI, 16, .inl (M 3))), (am 4, .inl (cI, 16, .inl (M 4))), (am 5, .inl (cI, 16, .inl (M 5))), (am 6, .inl (cI, 128, .inl (M 6))), (am 7, .inl (cZ, 128, .inl (M 7))), (am 8, .inl (cZ, 128, .inl (M 8))), (am 9, .inl (cI, 128, .inl (M 9))), (am 10, .inl (cI, 128, .inl (M 10))), (am 11, .inl (cI, 200, .inl (M 11))), (am 12, .inl (cI, 200, .inl (M 12))), (am 13, .inl (cI, 200, .inl (M 13))), (am 14, .inl (cZ, 64, .inl (M 14))), (am 15, .inl (cI, 8, .inl (M 15)))]
theorem wM_D {am : Nat → Nat} {cI cZ : ClassId} {S S' : Mem} {A : Nat → Prop} (h : va_D A (wM am cI cZ S)) : va_D A (wM am cI cZ S') := q_D (ws := wM am cI cZ S) (ws' := wM am cI cZ S') rfl h
theorem wM_st_1 {am : Nat → Nat} {cI cZ : ClassId} {S : Mem} {i : Nat} {x : Int32} : (wM am cI cZ S).set 1 (am 1, .inl (cI, 16, .inl (upd (S 1) i x))) = wM am cI cZ (st S 1 i x) := rfl
theorem wM_st_2 {am : Nat → Nat} {cI cZ : ClassId} {S : Mem} {i : Nat} {x : Int32} : (wM am cI cZ S).set 2 (am 2, .inl (cI, 16, .inl (upd (S 2) i x))) = wM am cI cZ (st S 2 i x) := rfl
theorem wM_st_3 {am : Nat → Nat} {cI cZ : ClassId} {S : Mem} {i : Nat} {x : Int32} : (wM am cI cZ S).set 3 (am 3, .inl (cI, 16, .inl (upd (S 3) i x))) = wM am cI cZ (st S 3 i x) := rfl
theorem wM_st_4 {am : Nat → Nat} {cI cZ : ClassId} {S : Mem} {i : Nat} {x : Int32} : (wM am cI cZ S).set 4 (am 4, .inl (cI, 16, .inl (upd (S 4) i x))) = wM am cI cZ (st S 4 i x) := rfl
theorem wM_st_5 {am : Nat → Nat} {cI cZ : ClassId} {S : Mem} {i : Nat} {x : Int32} : (wM am cI cZ S).set 5 (am 5, .inl (cI, 16, .inl (upd (S 5) i x))) = wM am cI cZ (st S 5 i x) := rfl
theorem wM_st_6 {am : Nat → Nat} {cI cZ : ClassId} {S : Mem} {i : Nat} {x : Int32} : (wM am cI cZ S).set 6 (am 6, .inl (cI, 128, .inl (upd (S 6) i x))) = wM am cI cZ (st S 6 i x) := rfl
theorem wM_st_7 {am : Nat → Nat} {cI cZ : ClassId} {S : Mem} {i : Nat} {x : Int32} : (wM am cI cZ S).set 7 (am 7, .inl (cZ, 128, .inl (upd (S 7) i x))) = wM am cI cZ (st S 7 i x) := rfl
theorem wM_st_8 {am : Nat → Nat} {cI cZ : ClassId} {S : Mem} {i : Nat} {x : Int32} : (wM am cI cZ S).set 8 (am 8, .inl (cZ, 128, .inl (upd (S 8) i x))) = wM am cI cZ (st S 8 i x) := rfl
theorem wM_st_9 {am : Nat → Nat} {cI cZ : ClassId} {S : Mem} {i : Nat} {x : Int32} : (wM am cI cZ S).set 9 (am 9, .inl (cI, 128, .inl (upd (S 9) i x))) = wM am cI cZ (st S 9 i x) := rfl
theorem wM_st_10 {am : Nat → Nat} {cI cZ : ClassId} {S : Mem} {i : Nat} {x : Int32} : (wM am cI cZ S).set 10 (am 10, .inl (cI, 128, .inl (upd (S 10) i x))) = wM am cI cZ (st S 10 i x) := rfl
theorem wM_st_11 {am : Nat → Nat} {cI cZ : ClassId} {S : Mem} {i : Nat} {x : Int32} : (wM am cI cZ S).set 11 (am 11, .inl (cI, 200, .inl (upd (S 11) i x))) = wM am cI cZ (st S 11 i x) := rfl
theorem wM_st_12 {am : Nat → Nat} {cI cZ : ClassId} {S : Mem} {i : Nat} {x : Int32} : (wM am cI cZ S).set 12 (am 12, .inl (cI, 200, .inl (upd (S 12) i x))) = wM am cI cZ (st S 12 i x) := rfl
theorem wM_st_13 {am : Nat → Nat} {cI cZ : ClassId} {S : Mem} {i : Nat} {x : Int32} : (wM am cI cZ S).set 13 (am 13, .inl (cI, 200, .inl (upd (S 13) i x))) = wM am cI cZ (st S 13 i x) := rfl
theorem wM_st_14 {am : Nat → Nat} {cI cZ : ClassId} {S : Mem} {i : Nat} {x : Int32} : (wM am cI cZ S).set 14 (am 14, .inl (cZ, 64, .inl (upd (S 14) i x))) = wM am cI cZ (st S 14 i x) := rfl
theorem wM_st_15 {am : Nat → Nat} {cI cZ : ClassId} {S : Mem} {i : Nat} {x : Int32} : (wM am cI cZ S).set 15 (am 15, .inl (cI, 8, .inl (upd (S 15) i x))) = wM am cI cZ (st S 15 i x) := rfl
theorem inT_X5 : ∀ w ∈ u_ws RX5 TX5 12, w ∈ TW := q_in [224, 226, 228, 230, 232, 234, 236, 238, 240, 242, 244, 246] (by decide +kernel) (by decide +kernel)
theorem inT_X0 : ∀ w ∈ u_ws RX0 TX0 5, w ∈ TW := q_in [137, 139, 141, 143, 145] (by decide +kernel) (by decide +kernel)
theorem inT_X1 : ∀ w ∈ u_ws RX1 TX1 3, w ∈ TW := q_in [174, 176, 178] (by decide +kernel) (by decide +kernel)
theorem inT_X2 : ∀ w ∈ u_ws RX2 TX2 6, w ∈ TW := q_in [199, 201, 203, 205, 207, 209] (by decide +kernel) (by decide +kernel)
theorem inT_X3 : ∀ w ∈ u_ws RX3 TX3 7, w ∈ TW := q_in [105, 107, 109, 111, 113, 115, 117] (by decide +kernel) (by decide +kernel)
theorem inT_X4 : ∀ w ∈ u_ws RX4 TX4 2, w ∈ TW := q_in [158, 160] (by decide +kernel) (by decide +kernel)
theorem inT_X6 : ∀ w ∈ u_ws RX6 TX6 22, w ∈ TW := q_in [780, 782, 784, 786, 788, 790, 792, 794, 796, 798, 800, 802, 804, 806, 808, 810, 812, 814, 816, 818, 820, 822] (by decide +kernel) (by decide +kernel)
section W09
variable {p : Program} {l : Launch} {e : Env} {R : Room} {s : State} {m : MethodId} {args : Array Value} {below : List Frame} {meth : Method} {c : Code} {H : Heap} {locs : List Loc} {cells slots : Nat} {Q : State → Prop}
variable {pc : Nat} {ls : Array Slot} {rest st0 : List Value} {A : Nat → Prop} {H0 : Heap} {D : va_G} {ws' : va_W}
theorem q_w0 {v : Value} (hr : va_Run p l e R s m args below meth c H locs cells slots 0 0 (F0 m pc ls st0) rest (fun st oc t => oc = .returned (some v) ∧ va_P D vwCl ws' t.heap ∧ va_F A st t) A) (hS : va_S A H0 H locs)
    (kk : ∀ (H : Heap) (locs : List Loc), va_P D vwCl ws' H → va_S A H0 H locs → W p l e R s m args below meth c H locs cells slots Q (F0 m (pc + 3) ls (v :: rest))) : W p l e R s m args below meth c H locs cells slots Q (F0 m pc ls st0) := q_wr hr hS kk
theorem q_w0v (hr : va_Run p l e R s m args below meth c H locs cells slots 0 0 (F0 m pc ls st0) rest (fun st oc t => oc = .returned none ∧ va_P D vwCl ws' t.heap ∧ va_F A st t) A) (hS : va_S A H0 H locs)
    (kk : ∀ (H : Heap) (locs : List Loc), va_P D vwCl ws' H → va_S A H0 H locs → W p l e R s m args below meth c H locs cells slots Q (F0 m (pc + 3) ls rest)) : W p l e R s m args below meth c H locs cells slots Q (F0 m pc ls st0) := q_wrv hr hS kk
end W09
end
section
/-! the class's methods as functions of its memory: sets, solving, what is left -/
def hs (x y : Int32) : Bool := decide (¬ (x >>> (y &&& 31)) &&& 1 = 0)
def cT (S : Mem) : Nat := iN (S 0 9)
def cR (S : Mem) : Nat := iN (S 1 6)
def cN (S : Mem) : Nat := iN (S 7 4)
def aT (S : Mem) (k : Nat) : Nat := iN (S 8 k)
def aR (S : Mem) (k : Nat) : Nat := iN (S 9 k)
/-- counts and places are in their ranges -/
def I0 (S : Mem) : Prop := (S 0 9 = nI (cT S) ∧ cT S ≤ 8) ∧ (S 1 6 = nI (cR S) ∧ cR S ≤ 16) ∧ (S 7 4 = nI (cN S) ∧ cN S ≤ 200) ∧ (∀ k, k < cN S → (S 8 k = nI (aT S k) ∧ aT S k < 8) ∧ S 9 k = nI (aR S k) ∧ aR S k < 16) ∧ (∀ c, c < 128 → S 13 c = nI (iN (S 13 c)) ∧ iN (S 13 c) ≤ 3)
theorem I0.T {S : Mem} (h : I0 S) : S 0 9 = nI (cT S) := h.1.1
theorem I0.R {S : Mem} (h : I0 S) : S 1 6 = nI (cR S) := h.2.1.1
theorem I0.N {S : Mem} (h : I0 S) : S 7 4 = nI (cN S) := h.2.2.1.1
theorem I0.T8 {S : Mem} (h : I0 S) : cT S ≤ 8 := h.1.2
theorem I0.R16 {S : Mem} (h : I0 S) : cR S ≤ 16 := h.2.1.2
theorem I0.N200 {S : Mem} (h : I0 S) : cN S ≤ 200 := h.2.2.1.2
theorem I0.xT {S : Mem} (h : I0 S) {k : Nat} (hk : k < cN S) : S 8 k = nI (aT S k) := (h.2.2.2.1 k hk).1.1
theorem I0.xT8 {S : Mem} (h : I0 S) {k : Nat} (hk : k < cN S) : aT S k < 8 := (h.2.2.2.1 k hk).1.2
theorem I0.xR {S : Mem} (h : I0 S) {k : Nat} (hk : k < cN S) : S 9 k = nI (aR S k) := (h.2.2.2.1 k hk).2.1
theorem I0.xR16 {S : Mem} (h : I0 S) {k : Nat} (hk : k < cN S) : aR S k < 16 := (h.2.2.2.1 k hk).2.2
theorem I0.bo {S : Mem} (h : I0 S) {c : Nat} (hc : c < 128) : S 13 c = nI (iN (S 13 c)) := (h.2.2.2.2 c hc).1
theorem I0.bo3 {S : Mem} (h : I0 S) {c : Nat} (hc : c < 128) : iN (S 13 c) ≤ 3 := (h.2.2.2.2 c hc).2
theorem I0_congr {S S' : Mem} (h : ∀ c, c < 15 → S' c = S c) (hI : I0 S) : I0 S' := by
  have e0 := h 0 (by decide)
  have e1 := h 1 (by decide)
  have e7 := h 7 (by decide)
  have e8 := h 8 (by decide)
  have e9 := h 9 (by decide)
  have e13 := h 13 (by decide)
  have a1 : cT S' = cT S := by unfold cT; rw [e0]
  have a2 : cR S' = cR S := by unfold cR; rw [e1]
  have a3 : cN S' = cN S := by unfold cN; rw [e7]
  have a4 : ∀ k, aT S' k = aT S k := fun k => by unfold aT; rw [e8]
  have a5 : ∀ k, aR S' k = aR S k := fun k => by unfold aR; rw [e9]
  refine ⟨?_, ?_, ?_, fun k hk => ?_, fun c hc => ?_⟩
  · rw [a1, e0]; exact hI.1
  · rw [a2, e1]; exact hI.2.1
  · rw [a3, e7]; exact hI.2.2.1
  · rw [a4, a5, e8, e9]; rw [a3] at hk; exact hI.2.2.2.1 k hk
  · rw [e13]; exact hI.2.2.2.2 c hc
/-- an int is a place below n -/
def okn (x : Int32) (n : Nat) : Bool := decide (0 ≤ x.toInt ∧ x.toInt < n)
/-- an int is in a range -/
def okr (x a b : Int32) : Bool := decide (¬ x < a) && decide (x ≤ b)
theorem okn_t {x : Int32} {n : Nat} (h : okn x n = true) : ∃ t : Nat, t < n ∧ x = nI t := by
  simp only [okn, decide_eq_true_eq] at h
  have hlt : ¬ x < 0 := by rw [Int32.lt_iff_toInt_lt, Int32.toInt_zero]; omega
  obtain ⟨j, hj, e⟩ := nI_of hlt
  refine ⟨j, ?_, e⟩
  rw [e, nI_toInt hj] at h; omega
theorem okn_nI {t n : Nat} (ht : t < 2 ^ 31) : okn (nI t) n = decide (t < n) := by
  unfold okn; rw [nI_toInt ht]; congr 1; apply propext; omega
theorem okn_c {x : Int32} {n : Nat} (hn : n < 2 ^ 31) (h1 : ¬ x < 0) (h2 : x < nI n) : okn x n = true := by
  rw [Int32.lt_iff_toInt_lt, Int32.toInt_zero] at h1
  rw [Int32.lt_iff_toInt_lt, nI_toInt hn] at h2
  simp only [okn, decide_eq_true_eq]; omega
theorem okn_n0 {x : Int32} {n : Nat} (h : okn x n = false) (h1 : ¬ x < 0) (hn : n < 2 ^ 31) : ¬ x < nI n := fun h2 => by rw [okn_c hn h1 h2] at h; cases h
/-! the class's methods as functions of its memory -/
def p_lsm (S : Mem) (b t : Nat) (set : Int32) : Nat → Int32
  | 0 => 0
  | i + 1 => if hs set (nI i) = true then imax (p_lsm S b t set i) (S (b + 3) (t * 16 + i)) else p_lsm S b t set i
def p_last (S : Mem) (b t : Nat) (set : Int32) : Int32 := if set &&& (S (b + 1) t ^^^ (-1)) = 0 then p_lsm S b t set 16 else -1
def p_open (S : Mem) (b t r : Nat) : Int32 := p_last S b t (S 6 r)
def p_under (S : Mem) (t r : Nat) : Bool := decide (S 0 11 = 0) && (decide (¬ p_open S 18 t r = -1) && !(hs (S 19 t) (nI r)))
def p_left (S : Mem) (t r : Nat) : Bool := decide (S 13 (t * 16 + r) < 3)
def p_buy (S : Mem) (r : Nat) (x : Int32) : Nat → Nat
  | 0 => 0
  | i + 1 => if x < S 13 (i * 16 + r) then p_buy S r x i + 1 else p_buy S r x i
def p_price (S : Mem) (t r : Nat) : Int32 := imax 1 (S 5 r - (S 0 10 - p_open S 18 t r) / 10 - nI (p_buy S r (S 13 (t * 16 + r)) 8))
def p_solve (S : Mem) (b t r : Nat) (m : Int32) (soon : Bool) : Mem :=
  let S2 := st (st S (b + 1) t (S (b + 1) t ||| bt (nI r))) (b + 3) (t * 16 + r) m
  if soon = true then st S2 (b + 2) t (S (b + 2) t ||| bt (nI r)) else S2
def p_noteS (S : Mem) (b t r : Nat) (m : Int32) : Mem := p_solve S b t r m (decide (¬ S 4 r ≤ m - p_open S b t r))
def p_pay (S : Mem) (b t r : Nat) (x : Int32) : Mem := st S (b + 4) (t * 16 + r) (S (b + 4) (t * 16 + r) + x)
def p_like1 (S : Mem) (b t o : Nat) : Mem := st S (b + 5) (t * 8 + o) (S (b + 5) (t * 8 + o) + 1)
def p_comm1 (S : Mem) (b t o r : Nat) : Mem := st S (b + 6) (t * 8 + o) (S (b + 6) (t * 8 + o) ||| bt (nI r))
def p_common (S : Mem) (b t o r : Nat) : Mem := p_comm1 (p_comm1 (p_like1 (p_like1 S b t o) b o t) b t o r) b o t r
def p_give (S : Mem) (r : Nat) (w : Int32) : Nat → Int32
  | 0 => 0
  | k + 1 => if S 9 k = nI r ∧ S 10 k = w then p_give S r w k ||| bt (S 8 k) else p_give S r w k
def p_nwl (S : Mem) (g : Int32) (t r : Nat) : Nat → Mem
  | 0 => S
  | o + 1 => if hs g (nI o) = true then p_common (p_nwl S g t r o) 18 t o r else p_nwl S g t r o
def p_noteW (S : Mem) (t r : Nat) (w : Int32) : Mem := if hs (p_give S r w (cN S)) (nI t) = true then S else p_nwl S (p_give S r w (cN S)) t r (cT S)
def p_app (S : Mem) (t r : Nat) (w m : Int32) : Mem := st (st (st (st (st S 8 (cN S) (nI t)) 9 (cN S) (nI r)) 10 (cN S) w) 11 (cN S) m) 7 4 (nI (cN S + 1))
def p_sold (S : Mem) (t r : Nat) (x : Int32) : Mem := st (st S 14 ((t * 16 + r) * 3 + iN (S 13 (t * 16 + r))) x) 13 (t * 16 + r) (nI (iN (S 13 (t * 16 + r)) + 1))
def p_free (S : Mem) (b : Nat) : Nat → Int32
  | 0 => 0
  | t + 1 => p_free S b t ||| (S (b + 2) t &&& (S 16 t ^^^ (-1)))
def p_links (S : Mem) (t o : Nat) (x : Int32) : Bool := decide (¬ t = o) && (decide (¬ x < S 15 2) && !(hs (S 17 t) (nI o)))
def p_cheat (S : Mem) (b t : Nat) : Nat → Int32
  | 0 => 0
  | o + 1 => if p_links S t o (S (b + 5) (t * 8 + o)) = true then p_cheat S b t o ||| S (b + 6) (t * 8 + o) else p_cheat S b t o
def p_spread (S : Mem) (set : Int32) : Nat → Int32
  | 0 => set
  | r + 1 => if S 6 r &&& p_spread S set r = 0 then p_spread S set r else p_spread S set r ||| bt (nI r)
def p_void (S : Mem) (b t : Nat) : Int32 := p_spread S (p_cheat S b t (cT S) &&& S (b + 1) t) (cR S) &&& S (b + 1) t
def p_count (S : Mem) (b t : Nat) : Int32 := (S (b + 1) t &&& (p_void S b t ^^^ (-1))) &&& (p_free S b (cT S) ^^^ (-1))
def p_sum (S : Mem) (b t : Nat) (cnt free : Int32) : Nat → Int32
  | 0 => 0
  | r + 1 => if hs cnt (nI r) = true then (if hs free (nI r) = true then p_sum S b t cnt free r + S 2 r else (p_sum S b t cnt free r + S 2 r) - S (b + 4) (t * 16 + r)) else (if hs free (nI r) = true then p_sum S b t cnt free r else p_sum S b t cnt free r - S (b + 4) (t * 16 + r))
def p_sumUp (S : Mem) (b t : Nat) (cnt : Int32) : Int32 := p_sum S b t cnt (p_free S b (cT S)) (cR S)
def p_hang (S : Mem) (r : Nat) : Int32 := p_spread S (bt (nI r)) (cR S) &&& (bt (nI r) ^^^ (-1))
def p_rate (S : Mem) : Nat → Mem
  | 0 => S
  | t + 1 => st (st (p_rate S t) 32 t (p_sumUp (p_rate S t) 18 t (p_count (p_rate S t) 18 t))) 33 t (p_last (st (p_rate S t) 32 t (p_sumUp (p_rate S t) 18 t (p_count (p_rate S t) 18 t))) 18 t (p_count (p_rate S t) 18 t))
def p_better (S : Mem) (t : Nat) : Nat → Nat
  | 0 => 0
  | o + 1 => if S 32 t < S 32 o ∨ (S 32 o = S 32 t ∧ S 33 o < S 33 t) then p_better S t o + 1 else p_better S t o
def p_alike (S : Mem) (t : Nat) : Nat → Nat
  | 0 => 0
  | o + 1 => if S 32 o = S 32 t ∧ S 33 o = S 33 t then p_alike S t o + 1 else p_alike S t o
def p_prz (S : Mem) (f : Nat) : Nat → Int32
  | 0 => 0
  | j + 1 => p_prz S f j + S 34 (f + j)
def p_same (S : Mem) (i j : Nat) : Bool := decide (S 9 i = S 9 j) && decide (S 10 i = S 10 j)
def p_again (S : Mem) (a k : Nat) : Bool := decide (S 8 k = S 8 a) && p_same S k a
def p_rep (S : Mem) (a : Nat) : Bool := (List.range a).any (p_again S a)
theorem p_rep_t {S : Mem} {a k : Nat} (hk : k < a) (h : p_again S a k = true) : p_rep S a = true := List.any_eq_true.mpr ⟨k, List.mem_range.mpr hk, h⟩
theorem p_rep_f {S : Mem} {a : Nat} (h : ∀ k, k < a → p_again S a k = false) : p_rep S a = false := by
  rw [p_rep, List.any_eq_false]; intro k hk; rw [h k (List.mem_range.mp hk)]; simp
def p_right (S : Mem) (k : Nat) : Bool := decide (S 10 k = S 3 (aR S k))
def p_addR (S : Mem) (a b c d : Int32) : Mem := st (st (st (st (st S 2 (cR S) a) 3 (cR S) b) 4 (cR S) c) 5 (cR S) d) 1 6 (nI (cR S + 1))
def p_swi (S : Mem) (t o : Nat) : Mem :=
  let S1 := st S 17 t (S 17 t ^^^ bt (nI o))
  st S1 17 o (S1 17 o ^^^ bt (nI t))
def fillS (S : Mem) (c n : Nat) : Mem := fun k => if k = c then (fun j => if j < n then 0 else S k j) else S k
def p_wipe (S : Mem) : Mem := fillS (fillS (fillS (fillS (fillS (fillS S 26 8) 27 8) 28 128) 29 128) 30 64) 31 64
def p_replay (S : Mem) : Nat → Mem
  | 0 => S
  | k + 1 => if p_right (p_replay S k) k = true then p_noteS (p_replay S k) 25 (aT (p_replay S k) k) (aR (p_replay S k) k) (p_replay S k 11 k) else p_replay S k
def p_cmpO (S : Mem) (a : Nat) : Nat → Mem
  | 0 => S
  | k + 1 => if (¬ p_cmpO S a k 8 k = nI (aT S a)) ∧ p_same (p_cmpO S a k) a k = true ∧ p_rep (p_cmpO S a k) k = false then p_common (p_cmpO S a k) 25 (aT S a) (aT (p_cmpO S a k) k) (aR (p_cmpO S a k) k) else p_cmpO S a k
def p_cmpP (S : Mem) (t : Nat) : Nat → Mem
  | 0 => S
  | k + 1 => if p_cmpP S t k 8 k = nI t ∧ p_right (p_cmpP S t k) k = false ∧ p_rep (p_cmpP S t k) k = false then p_cmpO (p_cmpP S t k) k (cN (p_cmpP S t k)) else p_cmpP S t k
def p_sal1 (S : Mem) (t r : Nat) : Nat → Mem
  | 0 => S
  | n + 1 => p_pay (p_sal1 S t r n) 25 t r (p_sal1 S t r n 14 ((t * 16 + r) * 3 + n))
def p_sals (S : Mem) (t : Nat) : Nat → Mem
  | 0 => S
  | r + 1 => p_sal1 (p_sals S t r) t r 3
def p_anewM (S : Mem) (t : Nat) : Mem := p_sals (p_cmpP (p_replay (p_wipe S) (cN (p_wipe S))) t (cN (p_replay (p_wipe S) (cN (p_wipe S))))) t (cR (p_cmpP (p_replay (p_wipe S) (cN (p_wipe S))) t (cN (p_replay (p_wipe S) (cN (p_wipe S))))))
theorem st_ne {S : Mem} {c i k : Nat} {x : Int32} (h : k ≠ c) : st S c i x k = S k := if_neg h
theorem st_same {S : Mem} {c i : Nat} {x : Int32} : st S c i x c = upd (S c) i x := if_pos rfl
theorem st_at {S : Mem} {c i : Nat} {x : Int32} : st S c i x c i = x := by rw [st_same]; exact if_pos rfl
theorem st_off {S : Mem} {c i j : Nat} {x : Int32} (h : j ≠ i) : st S c i x c j = S c j := by rw [st_same]; exact if_neg h
theorem fr_solve {S : Mem} {b t r k : Nat} {m : Int32} {soon : Bool} (h : k < b + 1 ∨ b + 3 < k) : p_solve S b t r m soon k = S k := by
  unfold p_solve
  split
  · rw [st_ne (by omega), st_ne (by omega), st_ne (by omega)]
  · rw [st_ne (by omega), st_ne (by omega)]
theorem fr_noteS {S : Mem} {b t r k : Nat} {m : Int32} (h : k < b + 1 ∨ b + 3 < k) : p_noteS S b t r m k = S k := fr_solve h
theorem fr_common {S : Mem} {b t o r k : Nat} (h : k < b + 5 ∨ b + 6 < k) : p_common S b t o r k = S k := by
  unfold p_common p_comm1 p_like1
  rw [st_ne (by omega), st_ne (by omega), st_ne (by omega), st_ne (by omega)]
theorem fr_nwl {S : Mem} {g : Int32} {t r k : Nat} (h : k < 23 ∨ 24 < k) : ∀ o, p_nwl S g t r o k = S k
  | 0 => rfl
  | o + 1 => by
    unfold p_nwl
    split
    · rw [fr_common (by omega)]; exact fr_nwl h o
    · exact fr_nwl h o
theorem fr_noteW {S : Mem} {t r k : Nat} {w : Int32} (h : k < 23 ∨ 24 < k) : p_noteW S t r w k = S k := by
  unfold p_noteW
  split
  · rfl
  · exact fr_nwl h _
theorem fr_pay {S : Mem} {b t r k : Nat} {x : Int32} (h : k ≠ b + 4) : p_pay S b t r x k = S k := st_ne h
theorem fr_replay {S : Mem} {k : Nat} (h : k < 26 ∨ 28 < k) : ∀ i, p_replay S i k = S k
  | 0 => rfl
  | i + 1 => by
    unfold p_replay
    split
    · rw [fr_noteS (by omega)]; exact fr_replay h i
    · exact fr_replay h i
theorem fr_cmpO {S : Mem} {a k : Nat} (h : k < 30 ∨ 31 < k) : ∀ i, p_cmpO S a i k = S k
  | 0 => rfl
  | i + 1 => by
    unfold p_cmpO
    split
    · rw [fr_common (by omega)]; exact fr_cmpO h i
    · exact fr_cmpO h i
theorem fr_cmpP {S : Mem} {t k : Nat} (h : k < 30 ∨ 31 < k) : ∀ i, p_cmpP S t i k = S k
  | 0 => rfl
  | i + 1 => by
    unfold p_cmpP
    split
    · rw [fr_cmpO h]; exact fr_cmpP h i
    · exact fr_cmpP h i
theorem fr_sal1 {S : Mem} {t r k : Nat} (h : k ≠ 29) : ∀ i, p_sal1 S t r i k = S k
  | 0 => rfl
  | i + 1 => by
    unfold p_sal1
    rw [fr_pay (by omega)]; exact fr_sal1 h i
theorem fr_sals {S : Mem} {t k : Nat} (h : k ≠ 29) : ∀ i, p_sals S t i k = S k
  | 0 => rfl
  | i + 1 => by
    unfold p_sals
    rw [fr_sal1 h]; exact fr_sals h i
theorem fr_fill {S : Mem} {c n k : Nat} (h : k ≠ c) : fillS S c n k = S k := if_neg h
theorem fr_wipe {S : Mem} {k : Nat} (h : k < 26 ∨ 31 < k) : p_wipe S k = S k := by
  unfold p_wipe
  rw [fr_fill (by omega), fr_fill (by omega), fr_fill (by omega), fr_fill (by omega), fr_fill (by omega), fr_fill (by omega)]
theorem fr_rate {S : Mem} {k : Nat} (h : k < 32 ∨ 33 < k) : ∀ i, p_rate S i k = S k
  | 0 => rfl
  | i + 1 => by
    unfold p_rate
    rw [st_ne (by omega), st_ne (by omega)]; exact fr_rate h i
theorem fill_step {S : Mem} {c i : Nat} : fillS S c (i + 1) = st (fillS S c i) c i 0 := by
  funext k j
  by_cases hk : k = c
  · subst hk
    simp only [fillS, st, upd, if_true]
    by_cases hj : j = i
    · subst hj; simp
    · rw [if_neg hj]; by_cases h2 : j < i
      · rw [if_pos h2, if_pos (by omega)]
      · rw [if_neg h2, if_neg (by omega)]
  · simp only [fillS, st, if_neg hk]
theorem fill_zero {S : Mem} {c : Nat} : fillS S c 0 = S := by
  funext k j
  simp [fillS]
theorem cT_congr {S S' : Mem} (h : S' 0 = S 0) : cT S' = cT S := by unfold cT; rw [h]
theorem cR_congr {S S' : Mem} (h : S' 1 = S 1) : cR S' = cR S := by unfold cR; rw [h]
theorem cN_congr {S S' : Mem} (h : S' 7 = S 7) : cN S' = cN S := by unfold cN; rw [h]
theorem p_better_le (S : Mem) (t : Nat) : ∀ n, p_better S t n ≤ n
  | 0 => Nat.le_refl 0
  | n + 1 => by unfold p_better; have := p_better_le S t n; split <;> omega
theorem p_alike_le (S : Mem) (t : Nat) : ∀ n, p_alike S t n ≤ n
  | 0 => Nat.le_refl 0
  | n + 1 => by unfold p_alike; have := p_alike_le S t n; split <;> omega
theorem p_ba_le (S : Mem) (t : Nat) : ∀ n, p_better S t n + p_alike S t n ≤ n
  | 0 => Nat.le_refl 0
  | n + 1 => by
    unfold p_better p_alike
    have := p_ba_le S t n
    by_cases h : S 32 n = S 32 t ∧ S 33 n = S 33 t
    · have h2 : ¬ (S 32 t < S 32 n ∨ (S 32 n = S 32 t ∧ S 33 n < S 33 t)) := by
        rw [h.1, h.2]; rintro (q | ⟨-, q⟩) <;> exact Int32.lt_irrefl q
      rw [if_pos h, if_neg h2]; omega
    · rw [if_neg h]; split <;> omega
theorem p_buy_le (S : Mem) (r : Nat) (x : Int32) : ∀ n, p_buy S r x n ≤ n
  | 0 => Nat.le_refl 0
  | n + 1 => by unfold p_buy; have := p_buy_le S r x n; split <;> omega
theorem I0_0 {S : Mem} {j : Nat} {x : Int32} (h : j ≠ 9) (hI : I0 S) : I0 (st S 0 j x) := by
  have e : cT (st S 0 j x) = cT S := by unfold cT; rw [st_off (by omega)]
  refine ⟨?_, hI.2.1, hI.2.2.1, hI.2.2.2.1, hI.2.2.2.2⟩
  rw [e, st_off (by omega)]; exact hI.1
theorem I0_2 {S : Mem} {c j : Nat} {x : Int32} (h : 14 < c ∨ (1 < c ∧ c < 7)) (hI : I0 S) : I0 (st S c j x) := by
  have e : ∀ k, (k = 0 ∨ k = 1 ∨ k = 7 ∨ k = 8 ∨ k = 9 ∨ k = 13) → st S c j x k = S k := fun k hk => st_ne (by omega)
  have e0 := e 0 (by omega); have e1 := e 1 (by omega); have e7 := e 7 (by omega); have e8 := e 8 (by omega); have e9 := e 9 (by omega); have e13 := e 13 (by omega)
  have a1 : cT (st S c j x) = cT S := cT_congr e0
  have a2 : cR (st S c j x) = cR S := cR_congr e1
  have a3 : cN (st S c j x) = cN S := cN_congr e7
  refine ⟨?_, ?_, ?_, fun k hk => ?_, fun k hk => ?_⟩
  · rw [a1, e0]; exact hI.1
  · rw [a2, e1]; exact hI.2.1
  · rw [a3, e7]; exact hI.2.2.1
  · have b1 : aT (st S c j x) k = aT S k := by unfold aT; rw [e8]
    have b2 : aR (st S c j x) k = aR S k := by unfold aR; rw [e9]
    rw [b1, b2, e8, e9]; rw [a3] at hk; exact hI.2.2.2.1 k hk
  · rw [e13]; exact hI.2.2.2.2 k hk
theorem okr_m1 {x : Int32} (h : okr x 1 8 = true) : x - 1 = nI (iN (x - 1)) ∧ iN (x - 1) < 8 := by
  simp only [okr, Bool.and_eq_true, decide_eq_true_eq] at h
  obtain ⟨h1, h2⟩ := h
  rw [Int32.lt_iff_toInt_lt] at h1
  rw [Int32.le_iff_toInt_le] at h2
  have e1 : (1 : Int32).toInt = 1 := by decide
  have e8 : (8 : Int32).toInt = 8 := by decide
  rw [e1] at h1; rw [e8] at h2
  obtain ⟨j, hj, e⟩ := nI_of (x := x) (by rw [Int32.lt_iff_toInt_lt, Int32.toInt_zero]; omega)
  subst e
  rw [nI_toInt hj] at h1 h2
  obtain ⟨j', rfl⟩ : ∃ j', j = j' + 1 := ⟨j - 1, by omega⟩
  have e9 : nI (j' + 1) - 1 = nI j' := nI_pred j'
  rw [e9, iN, nI_clamp (by omega)]
  exact ⟨rfl, by omega⟩
section Cells8
variable {p : Program} {l : Launch} {e : Env} {R : Room} {s : State} {m : MethodId} {args : Array Value} {below : List Frame} {meth : Method} {c : Code} {H : Heap} {locs : List Loc} {cells slots : Nat} {Q : State → Prop}
variable {pc : Nat} {ls : Array Slot} {rest st0 : List Value} {A : Nat → Prop} {H0 : Heap} {cc : ByteArray} {D : va_G} {cI cZ cL : ClassId} {ws ws' : va_W}
variable {idx n i a ci N : Nat} {own host C : String} {T : u_T} {fs : List Value} {v : Value} {f : Nat → Int32}
theorem q_putN {ty0 : Nat → FieldType} (hx : p.tables.exec = Jvm.exec) (hb : c.code = cc) (hown : s.vm.findClass own = some m.cls) (hE : EV D cI cZ cL s) (hin : ∀ w ∈ u_ws C T N, w ∈ TW) (hty : ∀ k, k < N → parseFieldDescriptor (T k).2.2.1 = some (ty0 k)) (hnm : ∀ a, a < N → ∀ b, b < N → a ≠ b → (T a).2.1 ≠ (T b).2.1)
    (hP : va_P D vwCl ws H) (hD : va_D A ws) (hS : va_S A H0 H locs) (q0 : Nat) (he : ws[q0]? = some (a, .inr (ci, fs))) (hc : vwCl[ci]? = some (C, T, N)) (k : Nat) (hk : k < N)
    (hl : Cond.fieldLinkNest own idx (T k).1 (T k).2.1 (T k).2.2.1 host ∈ TW) (hfin : (T k).2.2.2 = false) (hn : narrow (ty0 k) v = v) (hfit : fits (ty0 k) v = true) (hlen : k < fs.length) (hws : ws.set q0 (a, .inr (ci, fs.set k v)) = ws') (hdg : decode cc pc = .ok (.putfield idx, 3))
    (kk : ∀ (H : Heap) (locs : List Loc), va_P D vwCl ws' H → va_S A H0 H locs → W p l e R s m args below meth c H locs cells slots Q (F0 m (pc + 3) ls rest)) : W p l e R s m args below meth c H locs cells slots Q (F0 m pc ls (v :: .ref a :: rest)) :=
  va_putN (Ts := TW) hx hb (fun w h => hE.1 w h args) hin ty0 hty hnm hown hE.2 hP hD hS q0 he hc k hk (hE.1 _ hl args) (fun _ h => h) hfin (hty k hk) hn hfit hlen hdg (fun H1 locs1 hP1 hD1 hS1 => kk H1 locs1 (hws ▸ hP1) hS1)
end Cells8
end
section
/-! the public methods: what is thrown, the answer, the memory afterwards -/
abbrev Out : Type := Option String × Int32 × Mem
abbrev xI : String := "java/lang/IndexOutOfBoundsException"
abbrev xA : String := "java/lang/IllegalArgumentException"
abbrev xS : String := "java/lang/IllegalStateException"
abbrev xN : String := "java/util/NoSuchElementException"
def p_bc (x : Int32) : Int32 :=
  let x1 := x - (ush x 1 &&& 1431655765)
  let x2 := (x1 &&& 858993459) + (ush x1 2 &&& 858993459)
  let x3 := (x2 + ush x2 4) &&& 252645135
  let x4 := x3 + ush x3 8
  let x5 := x4 + ush x4 16
  x5 &&& 63
def oPass (S : Mem) (x : Int32) : Out := if okr x 1 500 = true then (if x ≤ 20000 - S 0 10 then (none, S 0 10 + x, st S 0 10 (S 0 10 + x)) else (some xS, 0, S)) else (some xA, 0, S)
def oAddR (S : Mem) (a b c d : Int32) : Out := if okr a 1 50 = true then (if okr b 0 9999 = true then (if okr c 0 100 = true then (if okr d 1 40 = true then (if S 0 11 = 0 then (if cR S < 16 then (none, nI (cR S), p_addR S a b c d) else (some xS, 0, S)) else (some xS, 0, S)) else (some xA, 0, S)) else (some xA, 0, S)) else (some xA, 0, S)) else (some xA, 0, S)
def needM (S : Mem) (r o : Nat) : Mem := st S 6 r (S 6 r ||| bt (nI o))
def hNeed (S : Mem) (r o : Nat) : Out := if o < r then (if S 0 11 = 0 then (if hs (S 1 5) (nI r) = true then (some xS, 0, S) else (if hs (S 6 r) (nI o) = true then (some xS, 0, S) else (none, p_bc (needM S r o 6 r), needM S r o))) else (some xS, 0, S)) else (some xA, 0, S)
def oNeed (S : Mem) (x y : Int32) : Out := if okn x (cR S) = true then (if okn y (cR S) = true then hNeed S (iN x) (iN y) else (some xI, 0, S)) else (some xI, 0, S)
def oAddT (S : Mem) : Out := if S 0 11 = 0 then (if cT S < 8 then (none, nI (cT S), st S 0 9 (nI (cT S + 1))) else (some xS, 0, S)) else (some xS, 0, S)
def oEnd (S : Mem) : Out := if S 0 11 = 0 then (none, p_bc (p_free (st S 0 11 1) 18 (cT (st S 0 11 1))), st S 0 11 1) else (some xS, 0, S)
def ansM (S : Mem) (t r : Nat) (w : Int32) : Mem := if w = S 3 r then p_noteS S 18 t r (S 0 10) else p_noteW S t r w
def ansN (S S1 : Mem) (t r : Nat) (w : Int32) : Mem := st (p_app S1 t r w (S1 0 10)) 1 5 (p_app S1 t r w (S1 0 10) 1 5 ||| bt (nI r))
def hAns (S : Mem) (t r : Nat) (w : Int32) : Out := if p_under S t r = true then (if cN S < 200 then (if w = S 3 r then (none, 1, ansN S (p_noteS S 18 t r (S 0 10)) t r w) else (none, 0, ansN S (p_noteW S t r w) t r w)) else (some xS, 0, S)) else (some xS, 0, S)
def oAns (S : Mem) (x y w : Int32) : Out := if okn x (cT S) = true then (if okn y (cR S) = true then (if okr w 0 9999 = true then hAns S (iN x) (iN y) w else (some xA, 0, S)) else (some xI, 0, S)) else (some xI, 0, S)
def hintM (S : Mem) (t r : Nat) (x : Int32) : Mem := st (p_pay (p_sold S t r x) 18 t r x) 1 5 (p_pay (p_sold S t r x) 18 t r x 1 5 ||| bt (nI r))
def hHint (S : Mem) (t r : Nat) : Out := if p_under S t r = true then (if p_left S t r = true then (none, p_price S t r, hintM S t r (p_price S t r)) else (some xS, 0, S)) else (some xS, 0, S)
def o2 (S : Mem) (x y : Int32) (f : Nat → Nat → Out) : Out := if okn x (cT S) = true then (if okn y (cR S) = true then f (iN x) (iN y) else (some xI, 0, S)) else (some xI, 0, S)
def oTT (S : Mem) (x y : Int32) (f : Nat → Nat → Out) : Out := if okn x (cT S) = true then (if okn y (cT S) = true then f (iN x) (iN y) else (some xI, 0, S)) else (some xI, 0, S)
def o1 (S : Mem) (x : Int32) (f : Nat → Out) : Out := if okn x (cT S) = true then f (iN x) else (some xI, 0, S)
def oHint (S : Mem) (x y : Int32) : Out := o2 S x y (hHint S)
def oPrice (S : Mem) (x y : Int32) : Out := o2 S x y fun t r => if p_open S 18 t r = -1 then (some xN, 0, S) else (if p_left S t r = true then (none, p_price S t r, S) else (some xN, 0, S))
def oOpened (S : Mem) (x y : Int32) : Out := o2 S x y fun t r => (none, p_open S 18 t r, S)
def oSolved (S : Mem) (x y : Int32) : Out := o2 S x y fun t r => (none, if hs (S 19 t) (nI r) = true then S 21 (t * 16 + r) else -1, S)
def clrM (S : Mem) (t r : Nat) : Mem := st S 16 t (S 16 t ||| bt (nI r))
def oClear (S : Mem) (x y : Int32) : Out := o2 S x y fun t r => if hs (S 20 t) (nI r) = true then (if hs (S 16 t) (nI r) = true then (some xS, 0, S) else (none, bI (hs (p_free (clrM S t r) 18 (cT (clrM S t r))) (nI r)), clrM S t r)) else (some xS, 0, S)
def oPardon (S : Mem) (x y : Int32) : Out := oTT S x y fun t o => if t = o then (some xA, 0, S) else (none, bI (hs (p_swi S t o 17 t) (nI o)), p_swi S t o)
def oBound (S : Mem) (x : Int32) : Out := if okr x 1 20 = true then (none, S 15 2, st S 15 2 x) else (some xA, 0, S)
def oFree (S : Mem) (y : Int32) : Out := if okn y (cR S) = true then (none, bI (hs (p_free S 18 (cT S)) (nI (iN y))), S) else (some xI, 0, S)
def oLike (S : Mem) (x y : Int32) : Out := oTT S x y fun t o => (none, S 23 (t * 8 + o), S)
def oLinked (S : Mem) (x y : Int32) : Out := oTT S x y fun t o => (none, bI (p_links S t o (S 23 (t * 8 + o))), S)
def oCheat (S : Mem) (x y : Int32) : Out := o2 S x y fun t r => (none, bI (hs (p_cheat S 18 t (cT S)) (nI r)), S)
def oVoid (S : Mem) (x y : Int32) : Out := o2 S x y fun t r => (none, bI (hs (p_void S 18 t) (nI r)), S)
def oHang (S : Mem) (y : Int32) : Out := if okn y (cR S) = true then (none, p_hang S (iN y), S) else (some xI, 0, S)
def oScore (S : Mem) (x : Int32) : Out := o1 S x fun t => (none, p_sumUp S 18 t (p_count S 18 t), S)
def oAnew (S : Mem) (x : Int32) : Out := o1 S x fun t => (none, p_sumUp (p_anewM S t) 25 t (p_count (p_anewM S t) 25 t), p_anewM S t)
def oPlace (S : Mem) (x : Int32) : Out := o1 S x fun t => (none, nI (1 + p_better (p_rate S (cT S)) t (cT (p_rate S (cT S)))), p_rate S (cT S))
def p_tat (c : Nat → Bool) (T : Nat) : Nat → Int32
  | 0 => -1
  | n + 1 => if c (T - (n + 1)) = true then nI (T - (n + 1)) else p_tat c T n
def p_at (S1 : Mem) (x : Int32) (t : Nat) : Bool := decide (nI (p_better S1 t (cT S1) + p_alike S1 t t) = x)
def oAt (S : Mem) (x : Int32) : Out := if okn x (cT S) = true then (none, p_tat (p_at (p_rate S (cT S)) x) (cT S) (cT S), p_rate S (cT S)) else (none, -1, S)
def oSetP (S : Mem) (x y : Int32) : Out := if okr x 1 8 = true then (if okr y 0 1000 = true then (none, S 34 (iN (x - 1)), st S 34 (iN (x - 1)) y) else (some xA, 0, S)) else (some xA, 0, S)
def hPrize (S1 : Mem) (t : Nat) : Int32 := if 0 < p_alike S1 t (cT S1) then p_prz S1 (p_better S1 t (cT S1)) (p_alike S1 t (cT S1)) / nI (p_alike S1 t (cT S1)) else 0
def oPrize (S : Mem) (x : Int32) : Out := o1 S x fun t => if S 0 11 = 0 then (some xS, 0, S) else (none, hPrize (p_rate S (cT S)) t, p_rate S (cT S))
def oNow (S : Mem) : Out := (none, S 0 10, S)
theorem left_lt {S : Mem} {t r : Nat} (hI : I0 S) (hc : t * 16 + r < 128) (h : p_left S t r = true) : iN (S 13 (t * 16 + r)) < 3 := by
  simp only [p_left, decide_eq_true_eq] at h
  have h3 := hI.bo3 hc
  rw [hI.bo hc] at h
  exact (nI_ltI (by omega) (by decide)).mp h
theorem okn_f1 {x : Int32} {n : Nat} (h : x < 0) : okn x n = false := by
  rw [Int32.lt_iff_toInt_lt, Int32.toInt_zero] at h
  simp only [okn, decide_eq_false_iff_not]; omega
theorem okn_f2 {x : Int32} {n : Nat} (hn : n < 2 ^ 31) (h : ¬ x < nI n) : okn x n = false := by
  rw [Int32.lt_iff_toInt_lt, nI_toInt hn] at h
  simp only [okn, decide_eq_false_iff_not]; omega
theorem p_tat_yes {c : Nat → Bool} {T i : Nat} (hi : i < T) (h : c i = true) : p_tat c T (T - i) = nI i := by
  obtain ⟨n, hn⟩ : ∃ n, T - i = n + 1 := ⟨T - i - 1, by omega⟩
  have e : T - (n + 1) = i := by omega
  rw [hn, p_tat, e, if_pos h]
theorem p_tat_no {c : Nat → Bool} {T i : Nat} (hi : i < T) (h : c i = false) : p_tat c T (T - i) = p_tat c T (T - (i + 1)) := by
  obtain ⟨n, hn⟩ : ∃ n, T - i = n + 1 := ⟨T - i - 1, by omega⟩
  have e : T - (n + 1) = i := by omega
  have e2 : T - (i + 1) = n := by omega
  rw [hn, p_tat, e, h, e2]; rfl
theorem p_tat_end {c : Nat → Bool} {T : Nat} : p_tat c T (T - T) = -1 := by rw [Nat.sub_self]; rfl
end
section
/-! the model's methods as functions of its memory (without the field thrown, which stands beside it) -/
def mT (M : Mem) : Nat := iN (M 0 8)
def mR (M : Mem) : Nat := iN (M 0 2)
def mN (M : Mem) : Nat := iN (M 0 14)
def mg (M : Mem) (k : Nat) : Nat := iN (M 11 k)
def mq (M : Mem) (k : Nat) : Nat := iN (M 12 k)
def J0 (M : Mem) : Prop := (M 0 8 = nI (mT M) ∧ mT M ≤ 8) ∧ (M 0 2 = nI (mR M) ∧ mR M ≤ 16) ∧ (M 0 14 = nI (mN M) ∧ mN M ≤ 200) ∧ ∀ k, k < mN M → (M 11 k = nI (mg M k) ∧ mg M k < 8) ∧ M 12 k = nI (mq M k) ∧ mq M k < 16
theorem J0.T {M : Mem} (h : J0 M) : M 0 8 = nI (mT M) := h.1.1
theorem J0.R {M : Mem} (h : J0 M) : M 0 2 = nI (mR M) := h.2.1.1
theorem J0.N {M : Mem} (h : J0 M) : M 0 14 = nI (mN M) := h.2.2.1.1
theorem J0.T8 {M : Mem} (h : J0 M) : mT M ≤ 8 := h.1.2
theorem J0.R16 {M : Mem} (h : J0 M) : mR M ≤ 16 := h.2.1.2
theorem J0.N200 {M : Mem} (h : J0 M) : mN M ≤ 200 := h.2.2.1.2
theorem J0.q {M : Mem} (h : J0 M) {k : Nat} (hk : k < mN M) : M 12 k = nI (mq M k) := (h.2.2.2 k hk).2.1
theorem J0.q16 {M : Mem} (h : J0 M) {k : Nat} (hk : k < mN M) : mq M k < 16 := (h.2.2.2 k hk).2.2
theorem okr_okn {x : Int32} {n : Nat} (hn : n < 2 ^ 30) : okr x 0 (nI n - 1) = okn x n := by
  have h1 : (nI n - 1).toInt = (n : Int) - 1 := pk_sub_toInt (a := n) (b := 1) hn (by decide)
  unfold okr okn
  rw [← Bool.decide_and]
  congr 1
  rw [Int32.lt_iff_toInt_lt, Int32.le_iff_toInt_le, h1, Int32.toInt_zero]
  apply propext; omega
def m_need (M : Mem) (r o : Nat) : Bool := decide ((M 5 r >>> (nI o &&& 31)) &&& 1 = 1)
def m_bits (set : Int32) : Nat → Int32
  | 0 => 0
  | k + 1 => m_bits set k + ((set >>> (nI k &&& 31)) &&& 1)
def m_tA (M : Mem) (r : Nat) : Nat → Bool
  | 0 => false
  | k + 1 => m_tA M r k || decide (M 12 k = nI r)
def m_tB (M : Mem) (r : Nat) : Nat → Bool
  | 0 => m_tA M r (mN M)
  | t + 1 => m_tB M r t || decide (0 < M 9 (16 * t + r))
def m_touch (M : Mem) (r : Nat) : Bool := m_tB M r (mT M)
def m_fre (M : Mem) (r : Nat) : Nat → Bool
  | 0 => false
  | t + 1 => m_fre M r t || (decide (¬ M 7 (16 * t + r) = 0) && decide (M 8 (16 * t + r) = 0))
def m_free (M : Mem) (r : Nat) : Bool := m_fre M r (mT M)
def m_ends (M : Mem) : Nat → Int32
  | 0 => 0
  | r + 1 => m_ends M r + (if m_free M r = true then 1 else 0)
def m_opn (M : Mem) (t r : Nat) : Nat → Int32
  | 0 => 0
  | o + 1 => if m_need M r o = true ∧ (¬ m_opn M t r o = -1) ∧ (M 6 (16 * t + o) = -1 ∨ m_opn M t r o < M 6 (16 * t + o)) then M 6 (16 * t + o) else m_opn M t r o
def m_opened (M : Mem) (t r : Nat) : Int32 := m_opn M t r r
def m_wrong (M : Mem) (x y : Int32) : Int32 := if okn x (mT M) = true ∧ okn y (mR M) = true then 0 else 1
theorem m_wrong_ok {M : Mem} {x y : Int32} (h : decide (m_wrong M x y = 0) = true) : okn x (mT M) = true ∧ okn y (mR M) = true := by
  unfold m_wrong at h
  by_cases q : okn x (mT M) = true ∧ okn y (mR M) = true
  · exact q
  · rw [if_neg q] at h; exact absurd h (by decide)
def m_done (M : Mem) (t r : Nat) : Bool := decide (¬ M 0 1 = 0) || (decide (m_opened M t r = -1) || decide (¬ M 6 (16 * t + r) = -1))
def m_pr (M : Mem) (t r : Nat) : Nat → Int32
  | 0 => M 4 r - (M 0 0 - m_opened M t r) / 10
  | o + 1 => m_pr M t r o - (if M 9 (16 * t + r) < M 9 (16 * o + r) then 1 else 0)
def m_price (M : Mem) (t r : Nat) : Int32 := if 1 < m_pr M t r (mT M) then m_pr M t r (mT M) else 1
def m_gave (M : Mem) (x r w : Int32) : Nat → Bool
  | 0 => false
  | k + 1 => m_gave M x r w k || (decide (M 11 k = x) && (decide (M 12 k = r) && decide (M 13 k = w)))
def m_first (M : Mem) (k : Nat) : Bool := decide (¬ M 13 k = M 2 (mq M k)) && !(m_gave M (M 11 k) (M 12 k) (M 13 k) k)
def m_comm (M : Mem) (k o : Nat) : Bool := m_first M k && m_gave M (nI o) (M 12 k) (M 13 k) (mN M)
def m_lk (M : Mem) (t o : Nat) : Nat → Int32
  | 0 => 0
  | k + 1 => m_lk M t o k + (if M 11 k = nI t ∧ m_comm M k o = true then 1 else 0)
def m_like (M : Mem) (t o : Nat) : Int32 := if t = o then 0 else m_lk M t o (mN M)
theorem m_like_a {M : Mem} {t o i : Nat} (h : 0 < i → ¬ t = o) (c : t = o) : m_lk M t o i = m_like M t o := by
  have hi : i = 0 := by
    rcases Nat.eq_zero_or_pos i with z | z
    · exact z
    · exact absurd c (h z)
  rw [hi, m_like, if_pos c]; rfl
theorem m_like_b {M : Mem} {t o : Nat} (h : 0 < mN M → ¬ t = o) : m_lk M t o (mN M) = m_like M t o := by
  by_cases c : t = o
  · exact m_like_a h c
  · rw [m_like, if_neg c]
def m_are (M : Mem) (t o : Nat) : Bool := decide (¬ t = o) && (decide (M 14 (8 * t + o) = 0) && decide (¬ m_like M t o < M 0 19))
def m_ch2 (M : Mem) (t o : Nat) (s : Int32) : Nat → Int32
  | 0 => s
  | k + 1 => m_ch2 M t o s k ||| (if M 11 k = nI t ∧ m_comm M k o = true then bt (M 12 k) else 0)
def m_ch (M : Mem) (t : Nat) : Nat → Int32
  | 0 => 0
  | o + 1 => if m_are M t o = true then m_ch2 M t o (m_ch M t o) (mN M) else m_ch M t o
theorem m_ch_e2 {M : Mem} {t i j : Nat} (h : 0 < j → m_are M t i = true) (c : m_are M t i = false) : m_ch M t (i + 1) = m_ch2 M t i (m_ch M t i) j := by
  have hj : j = 0 := by
    rcases Nat.eq_zero_or_pos j with z | z
    · exact z
    · rw [h z] at c; cases c
  rw [hj, m_ch, c]; rfl
theorem m_ch_e1 {M : Mem} {t i : Nat} (h : 0 < mN M → m_are M t i = true) : m_ch M t (i + 1) = m_ch2 M t i (m_ch M t i) (mN M) := by
  by_cases c : m_are M t i = true
  · rw [m_ch, if_pos c]
  · exact m_ch_e2 h (eq_false_of_ne_true c)
def m_cheat (M : Mem) (t : Nat) : Int32 := m_ch M t (mT M)
def m_vd (M : Mem) (t : Nat) (ch : Int32) : Nat → Int32
  | 0 => 0
  | r + 1 => m_vd M t ch r ||| (if ((ch >>> (nI r &&& 31)) &&& 1 = 1 ∨ ¬ M 5 r &&& m_vd M t ch r = 0) ∧ ¬ M 6 (16 * t + r) = -1 then bt (nI r) else 0)
def m_void (M : Mem) (t : Nat) : Int32 := m_vd M t (m_cheat M t) (mR M)
def m_hg (M : Mem) (r : Nat) : Nat → Int32
  | 0 => 0
  | j + 1 => m_hg M r j ||| (if M 5 (r + 1 + j) &&& (m_hg M r j ||| bt (nI r)) = 0 then 0 else bt (nI (r + 1 + j)))
def m_hang (M : Mem) (r : Nat) : Int32 := m_hg M r (mR M - (r + 1))
def m_cn (M : Mem) (t : Nat) (vo : Int32) : Nat → Int32
  | 0 => 0
  | r + 1 => m_cn M t vo r ||| (if (¬ M 6 (16 * t + r) = -1) ∧ (vo >>> (nI r &&& 31)) &&& 1 = 0 ∧ m_free M r = false then bt (nI r) else 0)
def m_cnt (M : Mem) (t : Nat) : Int32 := m_cn M t (m_void M t) (mR M)
def m_sc (M : Mem) (t : Nat) (cn : Int32) : Nat → Int32
  | 0 => 0
  | r + 1 => (m_sc M t cn r + (if (cn >>> (nI r &&& 31)) &&& 1 = 1 then M 1 r else 0)) - (if m_free M r = true then 0 else M 10 (16 * t + r))
def m_score (M : Mem) (t : Nat) : Int32 := m_sc M t (m_cnt M t) (mR M)
def m_la (M : Mem) (t : Nat) (cn : Int32) : Nat → Int32
  | 0 => 0
  | r + 1 => if (cn >>> (nI r &&& 31)) &&& 1 = 1 ∧ m_la M t cn r < M 6 (16 * t + r) then M 6 (16 * t + r) else m_la M t cn r
def m_last (M : Mem) (t : Nat) : Int32 := m_la M t (m_cnt M t) (mR M)
def m_ah (M : Mem) (t : Nat) (bn : Bool) : Nat → Nat
  | 0 => 0
  | o + 1 => m_ah M t bn o + (if m_score M t < m_score M o ∨ (m_score M o = m_score M t ∧ (m_last M o < m_last M t ∨ (m_last M o = m_last M t ∧ bn = true ∧ o < t))) then 1 else 0)
def m_ahead (M : Mem) (t : Nat) (bn : Bool) : Nat := m_ah M t bn (mT M)
def m_tat (M : Mem) (x : Int32) : Nat → Int32
  | 0 => -1
  | t + 1 => if nI (m_ahead M t true) = x then nI t else m_tat M x t
def m_pm (M : Mem) (f : Nat) : Nat → Nat
  | 0 => 0
  | o + 1 => if m_ahead M o false = f then m_pm M f o + 1 else m_pm M f o
def m_ps (M : Mem) (f : Nat) : Nat → Int32
  | 0 => 0
  | o + 1 => if m_ahead M o false = f then m_ps M f o + M 15 (f + m_pm M f o) else m_ps M f o
theorem m_ah_le (M : Mem) (t : Nat) (bn : Bool) : ∀ n, m_ah M t bn n ≤ n
  | 0 => Nat.le_refl 0
  | n + 1 => by unfold m_ah; have := m_ah_le M t bn n; split <;> omega
theorem m_pm_le (M : Mem) (f : Nat) : ∀ n, m_pm M f n ≤ n
  | 0 => Nat.le_refl 0
  | n + 1 => by unfold m_pm; have := m_pm_le M f n; split <;> omega
/-! the model's public methods: the answer, thrown, the memory afterwards -/
abbrev MO : Type := Int32 × Int32 × Mem
def mPass (M : Mem) (x : Int32) : MO := if okr x 1 500 = true then (if M 0 0 + x ≤ 20000 then (M 0 0 + x, 0, st M 0 0 (M 0 0 + x)) else (0, 2, M)) else (0, 1, M)
def mNow (M : Mem) : MO := (M 0 0, 0, M)
def addRM (M : Mem) (a b c d : Int32) : Mem := st (st (st (st (st M 1 (mR M) a) 2 (mR M) b) 3 (mR M) c) 4 (mR M) d) 0 2 (nI (mR M + 1))
def mAddR (M : Mem) (a b c d : Int32) : MO := if okr a 1 50 = true then (if okr b 0 9999 = true then (if okr c 0 100 = true then (if okr d 1 40 = true then (if mR M = 16 then (0, 2, M) else (if M 0 1 = 0 then (nI (mR M + 1) - 1, 0, addRM M a b c d) else (0, 2, M))) else (0, 1, M)) else (0, 1, M)) else (0, 1, M)) else (0, 1, M)
def mneedM (M : Mem) (r o : Nat) : Mem := st M 5 r (M 5 r ||| bt (nI o))
def hmNeed (M : Mem) (r o : Nat) : MO := if o < r then (if M 0 1 = 0 then (if m_need M r o = true then (0, 3, M) else (if m_touch M r = true then (0, 3, M) else (m_bits (mneedM M r o 5 r) 16, 0, mneedM M r o))) else (0, 3, M)) else (0, 2, M)
def mm2 (M : Mem) (x y : Int32) (nx ny : Nat) (f : Nat → Nat → MO) : MO := if okn x nx = true then (if okn y ny = true then f (iN x) (iN y) else (0, 1, M)) else (0, 1, M)
def mm1 (M : Mem) (x : Int32) (nx : Nat) (f : Nat → MO) : MO := if okn x nx = true then f (iN x) else (0, 1, M)
def mNeed (M : Mem) (x y : Int32) : MO := mm2 M x y (mR M) (mR M) (hmNeed M)
def m_none (M : Mem) (t : Nat) : Nat → Mem
  | 0 => M
  | r + 1 => st (m_none M t r) 6 (16 * t + r) (-1)
def addTM (M : Mem) : Mem := st (m_none M (mT M) 16) 0 8 (nI (mT M + 1))
def mAddT (M : Mem) : MO := if mT M = 8 then (0, 1, M) else (if M 0 1 = 0 then (nI (mT M + 1) - 1, 0, addTM M) else (0, 1, M))
def mEnd (M : Mem) : MO := if M 0 1 = 0 then (m_ends (st M 0 1 1) (mR (st M 0 1 1)), 0, st M 0 1 1) else (0, 1, M)
def mapp (M : Mem) (t r : Nat) (w : Int32) : Mem := st (st (st (st M 11 (mN M) (nI t)) 12 (mN M) (nI r)) 13 (mN M) w) 0 14 (nI (mN M + 1))
def msol (M : Mem) (t r : Nat) (soon : Int32) : Mem := st (st M 7 (16 * t + r) soon) 6 (16 * t + r) (M 0 0)
def hmAns (M : Mem) (t r : Nat) (w : Int32) : MO := if m_done M t r = true then (0, 3, M) else (if mN M = 200 then (0, 3, M) else (if w = M 2 r then (if M 3 r ≤ M 0 0 - m_opened (mapp M t r w) t r then (1, 0, msol (mapp M t r w) t r 0) else (1, 0, msol (mapp M t r w) t r 1)) else (0, 0, mapp M t r w)))
def mAns (M : Mem) (x y w : Int32) : MO := mm2 M x y (mT M) (mR M) fun t r => if okr w 0 9999 = true then hmAns M t r w else (0, 2, M)
def mhintM (M : Mem) (t r : Nat) (p : Int32) : Mem := st (st M 9 (16 * t + r) (M 9 (16 * t + r) + 1)) 10 (16 * t + r) (M 10 (16 * t + r) + p)
def mHint (M : Mem) (x y : Int32) : MO := mm2 M x y (mT M) (mR M) fun t r => if m_done M t r = true then (0, 2, M) else (if M 9 (16 * t + r) = 3 then (0, 2, M) else (m_price M t r, 0, mhintM M t r (m_price M t r)))
def mPrice (M : Mem) (x y : Int32) : MO := mm2 M x y (mT M) (mR M) fun t r => if m_opened M t r = -1 then (0, 2, M) else (if M 9 (16 * t + r) = 3 then (0, 2, M) else (m_price M t r, 0, M))
def mOpened (M : Mem) (x y : Int32) : MO := mm2 M x y (mT M) (mR M) fun t r => (m_opened M t r, 0, M)
def mSolved (M : Mem) (x y : Int32) : MO := mm2 M x y (mT M) (mR M) fun t r => (M 6 (16 * t + r), 0, M)
def mclrM (M : Mem) (t r : Nat) : Mem := st M 8 (16 * t + r) 1
def mClear (M : Mem) (x y : Int32) : MO := mm2 M x y (mT M) (mR M) fun t r => if M 7 (16 * t + r) = 0 then (0, 2, M) else (if M 8 (16 * t + r) = 0 then (bI (m_free (mclrM M t r) r), 0, mclrM M t r) else (0, 2, M))
def mpard (M : Mem) (t o : Nat) (x : Int32) : Mem := st (st M 14 (8 * t + o) x) 14 (8 * o + t) x
def mPardon (M : Mem) (x y : Int32) : MO := mm2 M x y (mT M) (mT M) fun t o => if t = o then (0, 2, M) else (if M 14 (8 * t + o) = 0 then (1, 0, mpard M t o 1) else (0, 0, mpard M t o 0))
def mBound (M : Mem) (x : Int32) : MO := if okr x 1 20 = true then (M 0 19, 0, st M 0 19 x) else (0, 1, M)
def mFree (M : Mem) (x : Int32) : MO := mm1 M x (mR M) fun r => (bI (m_free M r), 0, M)
def mLike (M : Mem) (x y : Int32) : MO := mm2 M x y (mT M) (mT M) fun t o => (m_like M t o, 0, M)
def mLinked (M : Mem) (x y : Int32) : MO := mm2 M x y (mT M) (mT M) fun t o => (bI (m_are M t o), 0, M)
def hb1 (x y : Int32) : Bool := decide ((x >>> (y &&& 31)) &&& 1 = 1)
def mCheat (M : Mem) (x y : Int32) : MO := mm2 M x y (mT M) (mR M) fun t r => (bI (hb1 (m_cheat M t) (nI r)), 0, M)
def mVoid (M : Mem) (x y : Int32) : MO := mm2 M x y (mT M) (mR M) fun t r => (bI (hb1 (m_void M t) (nI r)), 0, M)
def mHang (M : Mem) (x : Int32) : MO := mm1 M x (mR M) fun r => (m_hang M r, 0, M)
def mScore (M : Mem) (x : Int32) : MO := mm1 M x (mT M) fun t => (m_score M t, 0, M)
def mPlace (M : Mem) (x : Int32) : MO := mm1 M x (mT M) fun t => (nI (1 + m_ahead M t false), 0, M)
def mAt (M : Mem) (x : Int32) : MO := (m_tat M x (mT M), 0, M)
def mSetP (M : Mem) (x y : Int32) : MO := if okr x 1 8 = true then (if okr y 0 1000 = true then (M 15 (iN (x - 1)), 0, st M 15 (iN (x - 1)) y) else (0, 1, M)) else (0, 1, M)
def mPrize (M : Mem) (x : Int32) : MO := mm1 M x (mT M) fun t => if M 0 1 = 0 then (0, 2, M) else (m_ps M (m_ahead M t false) (mT M) / nI (m_pm M (m_ahead M t false) (mT M)), 0, M)
theorem J0_0 {M : Mem} {j : Nat} {x : Int32} (h : j ≠ 8 ∧ j ≠ 2 ∧ j ≠ 14) (hI : J0 M) : J0 (st M 0 j x) := by
  have e : ∀ k, (k = 8 ∨ k = 2 ∨ k = 14) → st M 0 j x 0 k = M 0 k := fun k hk => st_off (by omega)
  have e8 := e 8 (by omega); have e2 := e 2 (by omega); have e14 := e 14 (by omega)
  have a1 : mT (st M 0 j x) = mT M := by unfold mT; rw [e8]
  have a2 : mR (st M 0 j x) = mR M := by unfold mR; rw [e2]
  have a3 : mN (st M 0 j x) = mN M := by unfold mN; rw [e14]
  refine ⟨?_, ?_, ?_, fun k hk => ?_⟩
  · rw [a1, e8]; exact hI.1
  · rw [a2, e2]; exact hI.2.1
  · rw [a3, e14]; exact hI.2.2.1
  · rw [a3] at hk; exact hI.2.2.2 k hk
theorem J0_2 {M : Mem} {c j : Nat} {x : Int32} (h : c ≠ 0 ∧ c ≠ 11 ∧ c ≠ 12) (hI : J0 M) : J0 (st M c j x) := by
  have e0 : st M c j x 0 = M 0 := st_ne (by omega)
  have e11 : st M c j x 11 = M 11 := st_ne (by omega)
  have e12 : st M c j x 12 = M 12 := st_ne (by omega)
  have a1 : mT (st M c j x) = mT M := by unfold mT; rw [e0]
  have a2 : mR (st M c j x) = mR M := by unfold mR; rw [e0]
  have a3 : mN (st M c j x) = mN M := by unfold mN; rw [e0]
  refine ⟨?_, ?_, ?_, fun k hk => ?_⟩
  · rw [a1, e0]; exact hI.1
  · rw [a2, e0]; exact hI.2.1
  · rw [a3, e0]; exact hI.2.2.1
  · have b1 : mg (st M c j x) k = mg M k := by unfold mg; rw [e11]
    have b2 : mq (st M c j x) k = mq M k := by unfold mq; rw [e12]
    rw [b1, b2, e11, e12]; rw [a3] at hk; exact hI.2.2.2 k hk
theorem J0_none {M : Mem} {t : Nat} (hI : J0 M) : ∀ i, J0 (m_none M t i)
  | 0 => hI
  | i + 1 => J0_2 (by omega) (J0_none hI i)
theorem m_none_0 {M : Mem} {t : Nat} : ∀ i, m_none M t i 0 = M 0
  | 0 => rfl
  | i + 1 => by unfold m_none; rw [st_ne (by omega)]; exact m_none_0 i
theorem J0_app {M : Mem} {t r : Nat} {w : Int32} (hI : J0 M) (hn : mN M < 200) (ht : t < 8) (hr : r < 16) : J0 (mapp M t r w) := by
  have z8 : mapp M t r w 0 8 = M 0 8 := rfl
  have z2 : mapp M t r w 0 2 = M 0 2 := rfl
  have z14 : mapp M t r w 0 14 = nI (mN M + 1) := rfl
  have a1 : mT (mapp M t r w) = mT M := by unfold mT; rw [z8]
  have a2 : mR (mapp M t r w) = mR M := by unfold mR; rw [z2]
  have a3 : mN (mapp M t r w) = mN M + 1 := by
    show iN (mapp M t r w 0 14) = _
    rw [z14]; exact iN_nI (by omega)
  have z11 : ∀ k, mapp M t r w 11 k = if k = mN M then nI t else M 11 k := fun k => rfl
  have z12 : ∀ k, mapp M t r w 12 k = if k = mN M then nI r else M 12 k := fun k => rfl
  refine ⟨?_, ?_, ?_, fun k hk => ?_⟩
  · rw [a1, z8]; exact hI.1
  · rw [a2, z2]; exact hI.2.1
  · rw [a3, z14]; exact ⟨rfl, by omega⟩
  · rw [a3] at hk
    have b1 : mg (mapp M t r w) k = iN (if k = mN M then nI t else M 11 k) := rfl
    have b2 : mq (mapp M t r w) k = iN (if k = mN M then nI r else M 12 k) := rfl
    rw [b1, b2, z11, z12]
    by_cases q : k = mN M
    · rw [if_pos q, if_pos q, iN_nI (by omega), iN_nI (by omega)]
      exact ⟨⟨rfl, ht⟩, rfl, hr⟩
    · rw [if_neg q, if_neg q]
      exact hI.2.2.2 k (by omega)
def wQ (am : Nat → Nat) (cI cZ : ClassId) (M : Mem) (th : Int32) : va_W := [(am 0, .inr (6, [.int (M 0 0), .int (M 0 1), .int (M 0 2), .ref (am 1), .ref (am 2), .ref (am 3), .ref (am 4), .ref (am 5), .int (M 0 8), .ref (am 6), .ref (am 7), .ref (am 8), .ref (am 9), .ref (am 10), .int (M 0 14), .ref (am 11), .ref (am 12), .ref (am 13), .ref (am 14), .int (M 0 19), .ref (am 15), .int th])), (am 1, .inl (cI, 16, .inl (M 1))), (am 2, .inl (cI, 16, .inl (M 2))), (am 3, .inl (cI, 16, .inl (M 3))), (am 4, .inl (cI, 16, .inl (M 4))), (am 5, .inl (cI, 16, .inl (M 5))), (am 6, .inl (cI, 128, .inl (M 6))), (am 7, .inl (cZ, 128, .inl (M 7))), (am 8, .inl (cZ, 128, .inl (M 8))), (am 9, .inl (cI, 128, .inl (M 9))), (am 10, .inl (cI, 128, .inl (M 10))), (am 11, .inl (cI, 200, .inl (M 11))), (am 12, .inl (cI, 200, .inl (M 12))), (am 13, .inl (cI, 200, .inl (M 13))), (am 14, .inl (cZ, 64, .inl (M 14))), (am 15, .inl (cI, 8, .inl (M 15)))]
theorem wQ_D {am : Nat → Nat} {cI cZ : ClassId} {M M' : Mem} {th th' : Int32} {A : Nat → Prop} (h : va_D A (wQ am cI cZ M th)) : va_D A (wQ am cI cZ M' th') := q_D (ws := wQ am cI cZ M th) (ws' := wQ am cI cZ M' th') rfl h
theorem wQ_st_1 {am : Nat → Nat} {cI cZ : ClassId} {M : Mem} {th : Int32} {i : Nat} {x : Int32} : (wQ am cI cZ M th).set 1 (am 1, .inl (cI, 16, .inl (upd (M 1) i x))) = wQ am cI cZ (st M 1 i x) th := rfl
theorem wQ_st_2 {am : Nat → Nat} {cI cZ : ClassId} {M : Mem} {th : Int32} {i : Nat} {x : Int32} : (wQ am cI cZ M th).set 2 (am 2, .inl (cI, 16, .inl (upd (M 2) i x))) = wQ am cI cZ (st M 2 i x) th := rfl
theorem wQ_st_3 {am : Nat → Nat} {cI cZ : ClassId} {M : Mem} {th : Int32} {i : Nat} {x : Int32} : (wQ am cI cZ M th).set 3 (am 3, .inl (cI, 16, .inl (upd (M 3) i x))) = wQ am cI cZ (st M 3 i x) th := rfl
theorem wQ_st_4 {am : Nat → Nat} {cI cZ : ClassId} {M : Mem} {th : Int32} {i : Nat} {x : Int32} : (wQ am cI cZ M th).set 4 (am 4, .inl (cI, 16, .inl (upd (M 4) i x))) = wQ am cI cZ (st M 4 i x) th := rfl
theorem wQ_st_5 {am : Nat → Nat} {cI cZ : ClassId} {M : Mem} {th : Int32} {i : Nat} {x : Int32} : (wQ am cI cZ M th).set 5 (am 5, .inl (cI, 16, .inl (upd (M 5) i x))) = wQ am cI cZ (st M 5 i x) th := rfl
theorem wQ_st_6 {am : Nat → Nat} {cI cZ : ClassId} {M : Mem} {th : Int32} {i : Nat} {x : Int32} : (wQ am cI cZ M th).set 6 (am 6, .inl (cI, 128, .inl (upd (M 6) i x))) = wQ am cI cZ (st M 6 i x) th := rfl
theorem wQ_st_7 {am : Nat → Nat} {cI cZ : ClassId} {M : Mem} {th : Int32} {i : Nat} {x : Int32} : (wQ am cI cZ M th).set 7 (am 7, .inl (cZ, 128, .inl (upd (M 7) i x))) = wQ am cI cZ (st M 7 i x) th := rfl
theorem wQ_st_8 {am : Nat → Nat} {cI cZ : ClassId} {M : Mem} {th : Int32} {i : Nat} {x : Int32} : (wQ am cI cZ M th).set 8 (am 8, .inl (cZ, 128, .inl (upd (M 8) i x))) = wQ am cI cZ (st M 8 i x) th := rfl
theorem wQ_st_9 {am : Nat → Nat} {cI cZ : ClassId} {M : Mem} {th : Int32} {i : Nat} {x : Int32} : (wQ am cI cZ M th).set 9 (am 9, .inl (cI, 128, .inl (upd (M 9) i x))) = wQ am cI cZ (st M 9 i x) th := rfl
theorem wQ_st_10 {am : Nat → Nat} {cI cZ : ClassId} {M : Mem} {th : Int32} {i : Nat} {x : Int32} : (wQ am cI cZ M th).set 10 (am 10, .inl (cI, 128, .inl (upd (M 10) i x))) = wQ am cI cZ (st M 10 i x) th := rfl
theorem wQ_st_11 {am : Nat → Nat} {cI cZ : ClassId} {M : Mem} {th : Int32} {i : Nat} {x : Int32} : (wQ am cI cZ M th).set 11 (am 11, .inl (cI, 200, .inl (upd (M 11) i x))) = wQ am cI cZ (st M 11 i x) th := rfl
theorem wQ_st_12 {am : Nat → Nat} {cI cZ : ClassId} {M : Mem} {th : Int32} {i : Nat} {x : Int32} : (wQ am cI cZ M th).set 12 (am 12, .inl (cI, 200, .inl (upd (M 12) i x))) = wQ am cI cZ (st M 12 i x) th := rfl
theorem wQ_st_13 {am : Nat → Nat} {cI cZ : ClassId} {M : Mem} {th : Int32} {i : Nat} {x : Int32} : (wQ am cI cZ M th).set 13 (am 13, .inl (cI, 200, .inl (upd (M 13) i x))) = wQ am cI cZ (st M 13 i x) th := rfl
theorem wQ_st_14 {am : Nat → Nat} {cI cZ : ClassId} {M : Mem} {th : Int32} {i : Nat} {x : Int32} : (wQ am cI cZ M th).set 14 (am 14, .inl (cZ, 64, .inl (upd (M 14) i x))) = wQ am cI cZ (st M 14 i x) th := rfl
theorem wQ_st_15 {am : Nat → Nat} {cI cZ : ClassId} {M : Mem} {th : Int32} {i : Nat} {x : Int32} : (wQ am cI cZ M th).set 15 (am 15, .inl (cI, 8, .inl (upd (M 15) i x))) = wQ am cI cZ (st M 15 i x) th := rfl
end
section
theorem mT_congr {M M' : Mem} (h : M' 0 = M 0) : mT M' = mT M := by unfold mT; rw [h]
theorem mm2_no {M : Mem} {x y : Int32} {f : Nat → Nat → MO} (c : decide (m_wrong M x y = 0) = false) : mm2 M x y (mT M) (mR M) f = (0, m_wrong M x y, M) := by
  have h : ¬ (okn x (mT M) = true ∧ okn y (mR M) = true) := fun q => by
    rw [m_wrong, if_pos q] at c; exact absurd c (by decide)
  rw [m_wrong, if_neg h, mm2]
  by_cases q : okn x (mT M) = true
  · rw [if_pos q, if_neg (fun z => h ⟨q, z⟩)]
  · rw [if_neg q]
end
section
/-! sets of bits in an int -/
def B (x : Int32) (i : Nat) : Bool := x.toBitVec.getLsbD i
theorem B_ext {x y : Int32} (h : ∀ i, i < 32 → B x i = B y i) : x = y := Int32.toBitVec_inj.mp (BitVec.eq_of_getLsbD_eq (fun i hi => h i hi))
theorem B_or (x y : Int32) (i : Nat) : B (x ||| y) i = (B x i || B y i) := by unfold B; rw [Int32.toBitVec_or, BitVec.getLsbD_or]
theorem B_and (x y : Int32) (i : Nat) : B (x &&& y) i = (B x i && B y i) := by unfold B; rw [Int32.toBitVec_and, BitVec.getLsbD_and]
theorem B_xor (x y : Int32) (i : Nat) : B (x ^^^ y) i = (B x i ^^ B y i) := by unfold B; rw [Int32.toBitVec_xor, BitVec.getLsbD_xor]
theorem B_big {x : Int32} {i : Nat} (h : 32 ≤ i) : B x i = false := BitVec.getLsbD_of_ge _ _ h
theorem B_0 (i : Nat) : B 0 i = false := BitVec.getLsbD_zero
theorem B_m1 : ∀ i, i < 32 → B (-1) i = true := by decide +kernel
theorem B_not {x : Int32} {i : Nat} (hi : i < 32) : B (x ^^^ (-1)) i = !(B x i) := by rw [B_xor, B_m1 i hi]; cases B x i <;> rfl
theorem B_sl : ∀ n, n < 32 → ((nI n &&& 31).toBitVec.smod 32).toNat = n := by decide +kernel
theorem B_1 : ∀ i, i < 32 → B 1 i = decide (i = 0) := by decide +kernel
theorem B_shr {x : Int32} {n : Nat} (hn : n < 32) : B (x >>> (nI n &&& 31)) 0 = B x n := by
  unfold B
  rw [Int32.toBitVec_shiftRight]
  show (x.toBitVec.sshiftRight ((nI n &&& 31).toBitVec.smod 32).toNat).getLsbD 0 = _
  rw [B_sl n hn, BitVec.getLsbD_sshiftRight]
  simp [hn]
theorem B_low (x : Int32) : x &&& 1 = if B x 0 = true then 1 else 0 := by
  apply B_ext
  intro i hi
  rw [B_and, B_1 i hi]
  by_cases h : i = 0
  · subst h
    cases B x 0
    · rfl
    · rfl
  · rw [decide_eq_false h, Bool.and_false]
    cases B x 0
    · exact (B_0 i).symm
    · rw [if_pos rfl, B_1 i hi, decide_eq_false h]
theorem hs_B {x : Int32} {i : Nat} (hi : i < 32) : hs x (nI i) = B x i := by
  unfold hs
  rw [B_low, B_shr hi]
  cases B x i <;> decide
theorem b1_B {x : Int32} {i : Nat} (hi : i < 32) : decide ((x >>> (nI i &&& 31)) &&& 1 = 1) = B x i := by
  rw [B_low, B_shr hi]
  cases B x i <;> decide
theorem v1_B {x : Int32} {i : Nat} (hi : i < 32) : (x >>> (nI i &&& 31)) &&& 1 = if B x i = true then 1 else 0 := by rw [B_low, B_shr hi]
theorem B_bt : ∀ j, j < 32 → ∀ i, i < 32 → B (bt (nI j)) i = decide (i = j) := by decide +kernel
end
section
section
/-! more on bits: sets, differences, the number of bits -/
theorem B_btA {j : Nat} (hj : j < 32) (i : Nat) : B (bt (nI j)) i = decide (i = j) := by
  by_cases h : i < 32
  · exact B_bt j hj i h
  · rw [B_big (by omega), decide_eq_false (by omega)]
theorem B_or1 {x : Int32} {j : Nat} (hj : j < 32) (i : Nat) : B (x ||| bt (nI j)) i = (B x i || decide (i = j)) := by rw [B_or, B_btA hj]
theorem B_or1t {x : Int32} {j i : Nat} (hj : j < 32) : B (x ||| bt (nI j)) i = true ↔ B x i = true ∨ i = j := by rw [B_or1 hj, Bool.or_eq_true, decide_eq_true_eq]
theorem B_diff (x y : Int32) (i : Nat) : B (x &&& (y ^^^ (-1))) i = (B x i && !(B y i)) := by
  rw [B_and]
  by_cases h : i < 32
  · rw [B_not h]
  · rw [B_big (x := x) (by omega)]; rfl
theorem B_zero {x : Int32} : x = 0 ↔ ∀ i, B x i = false := by
  constructor
  · intro e i; rw [e]; exact B_0 i
  · intro h; exact B_ext fun i _ => by rw [h i, B_0]
theorem B_and0 {x y : Int32} : x &&& y = 0 ↔ ∀ i, B x i = true → B y i = false := by
  rw [B_zero]
  constructor
  · intro h i hx
    have := h i
    rw [B_and, hx, Bool.true_and] at this
    exact this
  · intro h i
    rw [B_and]
    cases hx : B x i
    · rfl
    · rw [h i hx]; rfl
theorem B_and1 {x y : Int32} (h : ¬ x &&& y = 0) : ∃ i, B x i = true ∧ B y i = true := by
  apply Classical.byContradiction
  intro q
  refine h (B_and0.mpr fun i hx => ?_)
  cases hy : B y i with
  | false => rfl
  | true => exact absurd ⟨i, hx, hy⟩ q
theorem B_xt {x y : Int32} (h : ∀ i, B x i = true ↔ B y i = true) : x = y := B_ext fun i _ => Bool.eq_iff_iff.mpr (h i)
theorem hs_t {x : Int32} {i : Nat} (hi : i < 32) : (hs x (nI i) = true) = (B x i = true) := by rw [hs_B hi]
theorem v1_t {x : Int32} {i : Nat} (hi : i < 32) : ((x >>> (nI i &&& 31)) &&& 1 = 1) ↔ B x i = true := by rw [← b1_B hi, decide_eq_true_eq]
theorem v1_f {x : Int32} {i : Nat} (hi : i < 32) : ((x >>> (nI i &&& 31)) &&& 1 = 0) ↔ B x i = false := by
  rw [v1_B hi]
  cases B x i <;> decide
/-- the number of places below k at which f says yes -/
def cntB (f : Nat → Bool) : Nat → Nat
  | 0 => 0
  | k + 1 => cntB f k + (if f k = true then 1 else 0)
theorem cntB_congr {f g : Nat → Bool} : ∀ k, (∀ i, i < k → f i = g i) → cntB f k = cntB g k
  | 0, _ => rfl
  | k + 1, h => by
    unfold cntB
    rw [cntB_congr k (fun i hi => h i (by omega)), h k (by omega)]
theorem cntB_le (f : Nat → Bool) : ∀ k, cntB f k ≤ k
  | 0 => Nat.le_refl 0
  | k + 1 => by unfold cntB; have := cntB_le f k; split <;> omega
theorem cntB_top {f : Nat → Bool} {a : Nat} : ∀ k, a ≤ k → (∀ i, a ≤ i → i < k → f i = false) → cntB f k = cntB f a
  | 0, h, _ => by rw [Nat.le_zero.mp h]
  | k + 1, h, hf => by
    by_cases e : a = k + 1
    · rw [e]
    · rw [show cntB f (k + 1) = cntB f k + (if f k = true then 1 else 0) from rfl, cntB_top k (by omega) (fun i h1 h2 => hf i h1 (by omega)), hf k (by omega) (by omega), if_neg (by decide), Nat.add_zero]
theorem m_bits_cnt (x : Int32) : ∀ k, k ≤ 32 → m_bits x k = nI (cntB (B x) k)
  | 0, _ => by exact nI_0.symm
  | k + 1, h => by
    unfold m_bits cntB
    rw [m_bits_cnt x k (by omega), v1_B (by omega)]
    cases B x k
    · rw [if_neg (by decide), if_neg (by decide), Int32.add_zero, Nat.add_zero]
    · rw [if_pos rfl, if_pos rfl, nI_1]
def bcN (n : Nat) : Nat :=
  let x1 := n - ((n / 2) &&& 1431655765)
  let x2 := (x1 &&& 858993459) + ((x1 / 4) &&& 858993459)
  let x3 := (x2 + (x2 / 16)) &&& 252645135
  let x4 := x3 + (x3 / 256)
  let x5 := x4 + (x4 / 65536)
  x5 &&& 63
theorem nI_and (a b : Nat) : nI a &&& nI b = nI (a &&& b) := by
  apply Int32.toBitVec_inj.mp
  rw [Int32.toBitVec_and]
  exact BitVec.ofNat_and.symm
theorem bc_2 {a : Nat} (h : a < 2 ^ 31) : (nI a &&& 858993459) + (ush (nI a) 2 &&& 858993459) = nI ((a &&& 858993459) + ((a / 4) &&& 858993459)) := by
  have e : ush (nI a) 2 = nI (a / 4) := pk_ushrN (by omega) 2 2 (by decide)
  have c : (858993459 : Int32) = nI 858993459 := rfl
  rw [e, c, nI_and, nI_and, nI_add]
theorem bc_3 {a : Nat} (h : a < 2 ^ 31) : (nI a + ush (nI a) 4) &&& 252645135 = nI ((a + a / 16) &&& 252645135) := by
  have e : ush (nI a) 4 = nI (a / 16) := pk_ushrN (by omega) 4 4 (by decide)
  have c : (252645135 : Int32) = nI 252645135 := rfl
  rw [e, c, nI_add, nI_and]
theorem bc_4 {a : Nat} (h : a < 2 ^ 31) : nI a + ush (nI a) 8 = nI (a + a / 256) := by
  have e : ush (nI a) 8 = nI (a / 256) := pk_ushrN (by omega) 8 8 (by decide)
  rw [e, nI_add]
theorem bc_5 {a : Nat} (h : a < 2 ^ 31) : nI a + ush (nI a) 16 = nI (a + a / 65536) := by
  have e : ush (nI a) 16 = nI (a / 65536) := pk_ushrN (by omega) 16 16 (by decide)
  rw [e, nI_add]
theorem bc_1 {a : Nat} (h : a < 2 ^ 31) : nI a - (ush (nI a) 1 &&& 1431655765) = nI (a - ((a / 2) &&& 1431655765)) := by
  have e : ush (nI a) 1 = nI (a / 2) := pk_ushrN (by omega) 1 1 (by decide)
  have c : (1431655765 : Int32) = nI 1431655765 := rfl
  have l : a / 2 &&& 1431655765 ≤ a := Nat.le_trans Nat.and_le_left (Nat.div_le_self a 2)
  rw [e, c, nI_and, pk_sub l]
theorem bc_nI {n : Nat} (h : n < 65536) : p_bc (nI n) = nI (bcN n) := by
  have l1 : n - ((n / 2) &&& 1431655765) < 65536 := by omega
  unfold p_bc bcN
  dsimp only
  rw [bc_1 (by omega)]
  generalize n - ((n / 2) &&& 1431655765) = a at l1 ⊢
  rw [bc_2 (by omega)]
  have l2 : (a &&& 858993459) + ((a / 4) &&& 858993459) < 131072 := by
    have h1 : (a &&& 858993459) ≤ a := Nat.and_le_left
    have h2 : ((a / 4) &&& 858993459) ≤ a / 4 := Nat.and_le_left
    omega
  generalize (a &&& 858993459) + ((a / 4) &&& 858993459) = b at l2 ⊢
  rw [bc_3 (by omega)]
  have l3 : (b + b / 16) &&& 252645135 < 262144 := by
    have h1 : ((b + b / 16) &&& 252645135) ≤ b + b / 16 := Nat.and_le_left
    omega
  generalize (b + b / 16) &&& 252645135 = d at l3 ⊢
  rw [bc_4 (by omega), bc_5 (by omega)]
  exact nI_and _ 63
def bsN (n : Nat) : Nat := ((((((((((((((((0 + n / 1 % 2) + n / 2 % 2) + n / 4 % 2) + n / 8 % 2) + n / 16 % 2) + n / 32 % 2) + n / 64 % 2) + n / 128 % 2) + n / 256 % 2) + n / 512 % 2) + n / 1024 % 2) + n / 2048 % 2) + n / 4096 % 2) + n / 8192 % 2) + n / 16384 % 2) + n / 32768 % 2)
theorem bc_c0 : ∀ a, a < 16 → ∀ b, b < 256 → bcN (0 + (256 * a + b)) = bsN (0 + (256 * a + b)) := by decide +kernel
theorem bc_c1 : ∀ a, a < 16 → ∀ b, b < 256 → bcN (4096 + (256 * a + b)) = bsN (4096 + (256 * a + b)) := by decide +kernel
theorem bc_c2 : ∀ a, a < 16 → ∀ b, b < 256 → bcN (8192 + (256 * a + b)) = bsN (8192 + (256 * a + b)) := by decide +kernel
theorem bc_c3 : ∀ a, a < 16 → ∀ b, b < 256 → bcN (12288 + (256 * a + b)) = bsN (12288 + (256 * a + b)) := by decide +kernel
theorem bc_c4 : ∀ a, a < 16 → ∀ b, b < 256 → bcN (16384 + (256 * a + b)) = bsN (16384 + (256 * a + b)) := by decide +kernel
theorem bc_c5 : ∀ a, a < 16 → ∀ b, b < 256 → bcN (20480 + (256 * a + b)) = bsN (20480 + (256 * a + b)) := by decide +kernel
theorem bc_c6 : ∀ a, a < 16 → ∀ b, b < 256 → bcN (24576 + (256 * a + b)) = bsN (24576 + (256 * a + b)) := by decide +kernel
theorem bc_c7 : ∀ a, a < 16 → ∀ b, b < 256 → bcN (28672 + (256 * a + b)) = bsN (28672 + (256 * a + b)) := by decide +kernel
theorem bc_c8 : ∀ a, a < 16 → ∀ b, b < 256 → bcN (32768 + (256 * a + b)) = bsN (32768 + (256 * a + b)) := by decide +kernel
theorem bc_c9 : ∀ a, a < 16 → ∀ b, b < 256 → bcN (36864 + (256 * a + b)) = bsN (36864 + (256 * a + b)) := by decide +kernel
theorem bc_c10 : ∀ a, a < 16 → ∀ b, b < 256 → bcN (40960 + (256 * a + b)) = bsN (40960 + (256 * a + b)) := by decide +kernel
theorem bc_c11 : ∀ a, a < 16 → ∀ b, b < 256 → bcN (45056 + (256 * a + b)) = bsN (45056 + (256 * a + b)) := by decide +kernel
theorem bc_c12 : ∀ a, a < 16 → ∀ b, b < 256 → bcN (49152 + (256 * a + b)) = bsN (49152 + (256 * a + b)) := by decide +kernel
theorem bc_c13 : ∀ a, a < 16 → ∀ b, b < 256 → bcN (53248 + (256 * a + b)) = bsN (53248 + (256 * a + b)) := by decide +kernel
theorem bc_c14 : ∀ a, a < 16 → ∀ b, b < 256 → bcN (57344 + (256 * a + b)) = bsN (57344 + (256 * a + b)) := by decide +kernel
theorem bc_c15 : ∀ a, a < 16 → ∀ b, b < 256 → bcN (61440 + (256 * a + b)) = bsN (61440 + (256 * a + b)) := by decide +kernel
theorem bc_tb (n k : Nat) : (if n.testBit k = true then 1 else 0) = n / 2 ^ k % 2 := by
  have e : n.testBit k = decide (n / 2 ^ k % 2 = 1) := Nat.testBit_eq_decide_div_mod_eq
  by_cases c : n / 2 ^ k % 2 = 1
  · rw [if_pos (by rw [e, decide_eq_true c]), c]
  · rw [if_neg (by rw [e, decide_eq_false c]; decide)]; omega
theorem bs_cnt (n : Nat) : bsN n = cntB (fun i => n.testBit i) 16 := by
  unfold bsN cntB cntB cntB cntB cntB cntB cntB cntB cntB cntB cntB cntB cntB cntB cntB cntB cntB
  simp only [bc_tb]
theorem bc_all {n : Nat} (h : n < 65536) : bcN n = cntB (fun i => n.testBit i) 16 := by
  rw [← bs_cnt]
  have key : ∀ c, (∀ a, a < 16 → ∀ b, b < 256 → bcN (4096 * c + (256 * a + b)) = bsN (4096 * c + (256 * a + b))) → n / 4096 = c → bcN n = bsN n := by
    intro c hc e
    have l := hc (n % 4096 / 256) (by omega) (n % 256) (by omega)
    have e2 : 4096 * c + (256 * (n % 4096 / 256) + n % 256) = n := by omega
    rw [e2] at l; exact l
  have hc : n / 4096 < 16 := by omega
  generalize hm : n / 4096 = m at hc
  match m, hc, hm with
  | 0, _, hm => exact key 0 bc_c0 hm
  | 1, _, hm => exact key 1 bc_c1 hm
  | 2, _, hm => exact key 2 bc_c2 hm
  | 3, _, hm => exact key 3 bc_c3 hm
  | 4, _, hm => exact key 4 bc_c4 hm
  | 5, _, hm => exact key 5 bc_c5 hm
  | 6, _, hm => exact key 6 bc_c6 hm
  | 7, _, hm => exact key 7 bc_c7 hm
  | 8, _, hm => exact key 8 bc_c8 hm
  | 9, _, hm => exact key 9 bc_c9 hm
  | 10, _, hm => exact key 10 bc_c10 hm
  | 11, _, hm => exact key 11 bc_c11 hm
  | 12, _, hm => exact key 12 bc_c12 hm
  | 13, _, hm => exact key 13 bc_c13 hm
  | 14, _, hm => exact key 14 bc_c14 hm
  | 15, _, hm => exact key 15 bc_c15 hm
  | m + 16, hc, _ => exact absurd hc (by omega)
theorem B_nI (n : Nat) {i : Nat} (hi : i < 32) : B (nI n) i = n.testBit i := by
  have e : (nI n).toBitVec = BitVec.ofNat 32 n := rfl
  unfold B
  rw [e, BitVec.getLsbD_ofNat, decide_eq_true hi, Bool.true_and]
theorem nI_self (x : Int32) : x = nI x.toBitVec.toNat := by
  apply Int32.toBitVec_inj.mp
  show x.toBitVec = BitVec.ofNat 32 x.toBitVec.toNat
  rw [BitVec.ofNat_toNat, BitVec.setWidth_eq]
theorem bc_cnt {x : Int32} (h : ∀ i, 16 ≤ i → B x i = false) : p_bc x = nI (cntB (B x) 16) := by
  have hn : x.toBitVec.toNat < 2 ^ 16 := Nat.lt_pow_two_of_testBit _ fun i hi => by
    have := h i hi
    unfold B at this
    rw [← BitVec.testBit_toNat] at this
    exact this
  have e := nI_self x
  generalize x.toBitVec.toNat = n at hn e
  subst e
  rw [bc_nI (by omega), bc_all (by omega)]
  exact congrArg nI (cntB_congr 16 fun i hi => (B_nI n (by omega)).symm)
end
end
section
section
/-! the log of answers (g givers, q riddles, w words, ke keys), what is kept of it, the class's invariant, the relation of class and model -/
abbrev Fn : Type := Nat → Int32
def gB (g q w : Fn) (x r v : Int32) : Nat → Bool
  | 0 => false
  | k + 1 => gB g q w x r v k || (decide (g k = x) && (decide (q k = r) && decide (w k = v)))
def fB (g q w ke : Fn) (k : Nat) : Bool := decide (¬ w k = ke (iN (q k))) && !(gB g q w (g k) (q k) (w k) k)
def lB (g q w ke : Fn) (N t o : Nat) : Nat → Nat
  | 0 => 0
  | k + 1 => lB g q w ke N t o k + (if g k = nI t ∧ (fB g q w ke k && gB g q w (nI o) (q k) (w k) N) = true then 1 else 0)
def cP (g q w ke : Fn) (N t o r : Nat) : Prop := ∃ v, (¬ v = ke r) ∧ gB g q w (nI t) (nI r) v N = true ∧ gB g q w (nI o) (nI r) v N = true
theorem gB_iff {g q w : Fn} {x r v : Int32} : ∀ {n : Nat}, gB g q w x r v n = true ↔ ∃ k, k < n ∧ g k = x ∧ q k = r ∧ w k = v
  | 0 => by
    constructor
    · intro h; cases h
    · rintro ⟨k, hk, -⟩; omega
  | n + 1 => by
    unfold gB
    rw [Bool.or_eq_true, gB_iff (n := n), Bool.and_eq_true, Bool.and_eq_true, decide_eq_true_eq, decide_eq_true_eq, decide_eq_true_eq]
    constructor
    · rintro (⟨k, hk, h⟩ | h)
      · exact ⟨k, by omega, h⟩
      · exact ⟨n, by omega, h⟩
    · rintro ⟨k, hk, h⟩
      by_cases e : k = n
      · subst e; exact .inr h
      · exact .inl ⟨k, by omega, h⟩
theorem gB_first {g q w : Fn} {x r v : Int32} : ∀ {n : Nat}, gB g q w x r v n = true → ∃ k, k < n ∧ g k = x ∧ q k = r ∧ w k = v ∧ gB g q w x r v k = false
  | 0, h => by cases h
  | n + 1, h => by
    cases hn : gB g q w x r v n with
    | true =>
      obtain ⟨k, hk, h2⟩ := gB_first hn
      exact ⟨k, by omega, h2⟩
    | false =>
      obtain ⟨k, hk, h1, h2, h3⟩ := gB_iff.mp h
      by_cases e : k = n
      · subst e; exact ⟨k, by omega, h1, h2, h3, hn⟩
      · have := gB_iff.mpr ⟨k, (by omega : k < n), h1, h2, h3⟩
        rw [hn] at this; cases this
theorem gB_congr {g q w g' q' w' : Fn} {x r v : Int32} : ∀ {n : Nat}, (∀ k, k < n → g' k = g k ∧ q' k = q k ∧ w' k = w k) → gB g' q' w' x r v n = gB g q w x r v n
  | 0, _ => rfl
  | n + 1, h => by
    obtain ⟨h1, h2, h3⟩ := h n (by omega)
    unfold gB
    rw [gB_congr (n := n) (fun k hk => h k (by omega)), h1, h2, h3]
theorem fB_congr {g q w ke g' q' w' ke' : Fn} {k : Nat} (h : ∀ j, j ≤ k → g' j = g j ∧ q' j = q j ∧ w' j = w j) (hk : ke' (iN (q k)) = ke (iN (q k))) : fB g' q' w' ke' k = fB g q w ke k := by
  obtain ⟨h1, h2, h3⟩ := h k (Nat.le_refl k)
  unfold fB
  rw [h1, h2, h3, hk, gB_congr (n := k) (fun j hj => h j (by omega))]
/-- the records at b of X and those at c of Y say the same of what is solved -/
def Eq3 (X : Mem) (b : Nat) (Y : Mem) (c : Nat) : Prop := (∀ i, i < 8 → X (b + 1) i = Y (c + 1) i ∧ X (b + 2) i = Y (c + 2) i) ∧ ∀ i, i < 128 → X (b + 3) i = Y (c + 3) i
theorem Eq3.trans {X Y Z : Mem} {a b c : Nat} (h : Eq3 X a Y b) (h2 : Eq3 Y b Z c) : Eq3 X a Z c := ⟨fun i hi => ⟨(h.1 i hi).1.trans (h2.1 i hi).1, (h.1 i hi).2.trans (h2.1 i hi).2⟩, fun i hi => (h.2 i hi).trans (h2.2 i hi)⟩
theorem Eq3.symm {X Y : Mem} {a b : Nat} (h : Eq3 X a Y b) : Eq3 Y b X a := ⟨fun i hi => ⟨(h.1 i hi).1.symm, (h.1 i hi).2.symm⟩, fun i hi => (h.2 i hi).symm⟩
def iNow (x : Int32) : Prop := ∃ n : Nat, n ≤ 20000 ∧ x = nI n
def iNeed (n6 : Fn) : Prop := ∀ r, r < 16 → ∀ o, B (n6 r) o = true → o < r
def iLog (g q : Fn) (T R N : Nat) : Prop := ∀ k, k < N → (∃ t, t < T ∧ g k = nI t) ∧ ∃ r, r < R ∧ q k = nI r
def iBo (bo : Fn) (T : Nat) : Prop := ∀ t r, T ≤ t → t < 8 → r < 16 → bo (t * 16 + r) = 0
def iTou (x : Int32) (q bo : Fn) (R N : Nat) : Prop := (∀ r, r < 16 → (B x r = true ↔ (∃ k, k < N ∧ q k = nI r) ∨ ∃ t, t < 8 ∧ 0 < bo (t * 16 + r))) ∧ ∀ r, B x r = true → r < R
def iSol (so mi n6 : Fn) (x : Int32) (T : Nat) : Prop := ∀ t r, t < 8 → B (so t) r = true → t < T ∧ B x r = true ∧ (∀ o, B (n6 r) o = true → B (so t) o = true) ∧ ¬ mi (t * 16 + r) < 0
def iSoon (ts so : Fn) : Prop := ∀ t r, t < 8 → B (ts t) r = true → B (so t) r = true
def iLike (li g q w ke : Fn) (N : Nat) : Prop := ∀ t o, t < 8 → o < 8 → li (t * 8 + o) = if t = o then 0 else nI (lB g q w ke N t o N)
def iComm (co g q w ke : Fn) (N : Nat) : Prop := ∀ t o, t < 8 → o < 8 → ¬ t = o → ∀ r, B (co (t * 8 + o)) r = true ↔ r < 16 ∧ cP g q w ke N t o r
def iRep (S : Mem) : Prop := Eq3 S 18 (p_replay (p_wipe S) (cN S)) 25
def iPay (pa pr bo : Fn) : Prop := ∀ c, c < 128 → (∀ n, n < 3 → iN (bo c) ≤ n → pr (c * 3 + n) = 0) ∧ pa c = pr (c * 3 + 0) + pr (c * 3 + 1) + pr (c * 3 + 2)
/-- the class's invariant -/
def Inv (S : Mem) : Prop := (I0 S ∧ iNow (S 0 10) ∧ iNeed (S 6) ∧ iLog (S 8) (S 9) (cT S) (cR S) (cN S) ∧ iBo (S 13) (cT S) ∧ iTou (S 1 5) (S 9) (S 13) (cR S) (cN S)) ∧ (iSol (S 19) (S 21) (S 6) (S 1 5) (cT S) ∧ iSoon (S 20) (S 19)) ∧ (iLike (S 23) (S 8) (S 9) (S 10) (S 3) (cN S) ∧ iComm (S 24) (S 8) (S 9) (S 10) (S 3) (cN S)) ∧ iRep S ∧ iPay (S 22) (S 14) (S 13)
def rSol (so mi m6 : Fn) (T : Nat) : Prop := ∀ t r, t < T → r < 16 → B (so t) r = !(decide (m6 (16 * t + r) = -1)) ∧ (B (so t) r = true → mi (t * 16 + r) = m6 (16 * t + r))
def rBit (a m : Fn) : Prop := ∀ t r, t < 8 → r < 16 → B (a t) r = !(decide (m (16 * t + r) = 0))
def rPar (a m : Fn) : Prop := ∀ t o, t < 8 → o < 8 → B (a t) o = !(decide (m (8 * t + o) = 0)) ∧ m (8 * t + o) = m (8 * o + t)
/-- cells that are the same -/
def Req (S M : Mem) : Prop := ((S 0 9 = M 0 8 ∧ S 1 6 = M 0 2 ∧ S 7 4 = M 0 14) ∧ S 0 10 = M 0 0 ∧ S 0 11 = M 0 1 ∧ S 15 2 = M 0 19) ∧ (S 2 = M 1 ∧ S 3 = M 2 ∧ S 4 = M 3 ∧ S 5 = M 4 ∧ S 6 = M 5) ∧ (S 8 = M 11 ∧ S 9 = M 12 ∧ S 10 = M 13) ∧ S 13 = M 9 ∧ S 22 = M 10 ∧ S 34 = M 15
def Rel (S M : Mem) : Prop := Inv S ∧ Req S M ∧ rSol (S 19) (S 21) (M 6) (cT S) ∧ rBit (S 20) (M 7) ∧ rBit (S 16) (M 8) ∧ rPar (S 17) (M 14)
theorem Inv.i0 {S : Mem} (h : Inv S) : I0 S := h.1.1
theorem Inv.now {S : Mem} (h : Inv S) : iNow (S 0 10) := h.1.2.1
theorem Inv.need {S : Mem} (h : Inv S) : iNeed (S 6) := h.1.2.2.1
theorem Inv.log {S : Mem} (h : Inv S) : iLog (S 8) (S 9) (cT S) (cR S) (cN S) := h.1.2.2.2.1
theorem Inv.bo {S : Mem} (h : Inv S) : iBo (S 13) (cT S) := h.1.2.2.2.2.1
theorem Inv.tou {S : Mem} (h : Inv S) : iTou (S 1 5) (S 9) (S 13) (cR S) (cN S) := h.1.2.2.2.2.2
theorem Inv.sol {S : Mem} (h : Inv S) : iSol (S 19) (S 21) (S 6) (S 1 5) (cT S) := h.2.1.1
theorem Inv.soon {S : Mem} (h : Inv S) : iSoon (S 20) (S 19) := h.2.1.2
theorem Inv.like {S : Mem} (h : Inv S) : iLike (S 23) (S 8) (S 9) (S 10) (S 3) (cN S) := h.2.2.1.1
theorem Inv.comm {S : Mem} (h : Inv S) : iComm (S 24) (S 8) (S 9) (S 10) (S 3) (cN S) := h.2.2.1.2
theorem Inv.rep {S : Mem} (h : Inv S) : iRep S := h.2.2.2.1
theorem Inv.pay {S : Mem} (h : Inv S) : iPay (S 22) (S 14) (S 13) := h.2.2.2.2
theorem Inv.solR {S : Mem} (h : Inv S) {t r : Nat} (ht : t < 8) (hb : B (S 19 t) r = true) : r < cR S := h.tou.2 r (h.sol t r ht hb).2.1
theorem Inv.soonR {S : Mem} (h : Inv S) {t r : Nat} (ht : t < 8) (hb : B (S 20 t) r = true) : r < cR S := h.solR ht (h.soon t r ht hb)
theorem Rel.inv {S M : Mem} (h : Rel S M) : Inv S := h.1
theorem Rel.eT {S M : Mem} (h : Rel S M) : S 0 9 = M 0 8 := h.2.1.1.1.1
theorem Rel.eR {S M : Mem} (h : Rel S M) : S 1 6 = M 0 2 := h.2.1.1.1.2.1
theorem Rel.eN {S M : Mem} (h : Rel S M) : S 7 4 = M 0 14 := h.2.1.1.1.2.2
theorem Rel.eW {S M : Mem} (h : Rel S M) : S 0 10 = M 0 0 := h.2.1.1.2.1
theorem Rel.eE {S M : Mem} (h : Rel S M) : S 0 11 = M 0 1 := h.2.1.1.2.2.1
theorem Rel.eB {S M : Mem} (h : Rel S M) : S 15 2 = M 0 19 := h.2.1.1.2.2.2
theorem Rel.e2 {S M : Mem} (h : Rel S M) : S 2 = M 1 := h.2.1.2.1.1
theorem Rel.e3 {S M : Mem} (h : Rel S M) : S 3 = M 2 := h.2.1.2.1.2.1
theorem Rel.e4 {S M : Mem} (h : Rel S M) : S 4 = M 3 := h.2.1.2.1.2.2.1
theorem Rel.e5 {S M : Mem} (h : Rel S M) : S 5 = M 4 := h.2.1.2.1.2.2.2.1
theorem Rel.e6 {S M : Mem} (h : Rel S M) : S 6 = M 5 := h.2.1.2.1.2.2.2.2
theorem Rel.e8 {S M : Mem} (h : Rel S M) : S 8 = M 11 := h.2.1.2.2.1.1
theorem Rel.e9 {S M : Mem} (h : Rel S M) : S 9 = M 12 := h.2.1.2.2.1.2.1
theorem Rel.e10 {S M : Mem} (h : Rel S M) : S 10 = M 13 := h.2.1.2.2.1.2.2
theorem Rel.e13 {S M : Mem} (h : Rel S M) : S 13 = M 9 := h.2.1.2.2.2.1
theorem Rel.e22 {S M : Mem} (h : Rel S M) : S 22 = M 10 := h.2.1.2.2.2.2.1
theorem Rel.e34 {S M : Mem} (h : Rel S M) : S 34 = M 15 := h.2.1.2.2.2.2.2
theorem Rel.sol {S M : Mem} (h : Rel S M) : rSol (S 19) (S 21) (M 6) (cT S) := h.2.2.1
theorem Rel.ts {S M : Mem} (h : Rel S M) : rBit (S 20) (M 7) := h.2.2.2.1
theorem Rel.cl {S M : Mem} (h : Rel S M) : rBit (S 16) (M 8) := h.2.2.2.2.1
theorem Rel.par {S M : Mem} (h : Rel S M) : rPar (S 17) (M 14) := h.2.2.2.2.2
theorem Rel.T {S M : Mem} (h : Rel S M) : mT M = cT S := by unfold mT cT; rw [h.eT]
theorem Rel.R {S M : Mem} (h : Rel S M) : mR M = cR S := by unfold mR cR; rw [h.eR]
theorem Rel.N {S M : Mem} (h : Rel S M) : mN M = cN S := by unfold mN cN; rw [h.eN]
theorem Rel.J {S M : Mem} (h : Rel S M) : J0 M := by
  have hI := h.inv.i0
  refine ⟨?_, ?_, ?_, fun k hk => ?_⟩
  · rw [h.T, ← h.eT]; exact hI.1
  · rw [h.R, ← h.eR]; exact hI.2.1
  · rw [h.N, ← h.eN]; exact hI.2.2.1
  · rw [h.N] at hk
    have := hI.2.2.2.1 k hk
    unfold aT aR at this
    unfold mg mq
    rw [← h.e8, ← h.e9]; exact this
end
end
section
section
/-! what both answer, under the relation -/
theorem ix16 (t r : Nat) : 16 * t + r = t * 16 + r := by omega
theorem ix8 (t r : Nat) : 8 * t + r = t * 8 + r := by omega
theorem r_fre {S M : Mem} (h : Rel S M) {r : Nat} (hr : r < 16) : ∀ n, n ≤ 8 → B (p_free S 18 n) r = m_fre M r n
  | 0, _ => B_0 r
  | n + 1, hn => by
    have e1 : B (S (18 + 2) n) r = !(decide (M 7 (16 * n + r) = 0)) := h.ts n r (by omega) hr
    have e2 : B (S 16 n) r = !(decide (M 8 (16 * n + r) = 0)) := h.cl n r (by omega) hr
    show B (p_free S 18 n ||| (S (18 + 2) n &&& (S 16 n ^^^ (-1)))) r = (m_fre M r n || (decide (¬ M 7 (16 * n + r) = 0) && decide (M 8 (16 * n + r) = 0)))
    rw [B_or, B_diff, r_fre h hr n (by omega), e1, e2, Bool.not_not, decide_not]
theorem r_free {S M : Mem} (h : Rel S M) {r : Nat} (hr : r < 16) : B (p_free S 18 (cT S)) r = m_free M r := by
  rw [m_free, h.T]; exact r_fre h hr _ h.inv.i0.T8
theorem p_freeR {S : Mem} (h : Inv S) : ∀ n, n ≤ 8 → ∀ r, B (p_free S 18 n) r = true → r < cR S
  | 0, _, r, hb => by rw [show p_free S 18 0 = 0 from rfl, B_0] at hb; cases hb
  | n + 1, hn, r, hb => by
    rw [show p_free S 18 (n + 1) = p_free S 18 n ||| (S (18 + 2) n &&& (S 16 n ^^^ (-1))) from rfl, B_or, B_diff, Bool.or_eq_true, Bool.and_eq_true] at hb
    rcases hb with hb | hb
    · exact p_freeR h n (by omega) r hb
    · exact h.soonR (by omega) hb.1
theorem r_lsmtop {S : Mem} {b t : Nat} {x : Int32} {a : Nat} (hx : ∀ i, a ≤ i → B x i = false) : ∀ k, a ≤ k → k ≤ 32 → p_lsm S b t x k = p_lsm S b t x a
  | 0, h, _ => by rw [Nat.le_zero.mp h]
  | k + 1, h, hk => by
    by_cases e : a = k + 1
    · rw [e]
    · rw [show p_lsm S b t x (k + 1) = if hs x (nI k) = true then imax (p_lsm S b t x k) (S (b + 3) (t * 16 + k)) else p_lsm S b t x k from rfl, hs_B (by omega), hx k (by omega), if_neg (by decide)]
      exact r_lsmtop hx k (by omega) (by omega)
theorem r_opn {S M : Mem} (h : Rel S M) {t r : Nat} (ht : t < cT S) (hr : r < 16) : ∀ i, i ≤ 16 → ((∀ o, o < i → B (S 6 r) o = true → B (S 19 t) o = true) → m_opn M t r i = p_lsm S 18 t (S 6 r) i ∧ ¬ m_opn M t r i < 0) ∧ ((¬ ∀ o, o < i → B (S 6 r) o = true → B (S 19 t) o = true) → m_opn M t r i = -1)
  | 0, _ => by
    refine ⟨fun _ => ⟨rfl, ?_⟩, fun q => absurd (fun o ho => absurd ho (by omega)) q⟩
    show ¬ (0 : Int32) < 0
    decide
  | i + 1, hi => by
    have ih := r_opn h ht hr i (by omega)
    have em : m_need M r i = B (S 6 r) i := by unfold m_need; rw [← h.e6]; exact b1_B (by omega)
    have es := h.sol t i ht (by omega)
    have e1 : m_opn M t r (i + 1) = if m_need M r i = true ∧ (¬ m_opn M t r i = -1) ∧ (M 6 (16 * t + i) = -1 ∨ m_opn M t r i < M 6 (16 * t + i)) then M 6 (16 * t + i) else m_opn M t r i := rfl
    have e2 : p_lsm S 18 t (S 6 r) (i + 1) = if hs (S 6 r) (nI i) = true then imax (p_lsm S 18 t (S 6 r) i) (S 21 (t * 16 + i)) else p_lsm S 18 t (S 6 r) i := rfl
    rw [em] at e1
    rw [hs_B (by omega)] at e2
    cases hb : B (S 6 r) i with
    | false =>
      rw [hb, if_neg (fun z => absurd z.1 (by decide))] at e1
      rw [hb, if_neg (by decide)] at e2
      rw [e1, e2]
      have hq : (∀ o, o < i → B (S 6 r) o = true → B (S 19 t) o = true) → (∀ o, o < i + 1 → B (S 6 r) o = true → B (S 19 t) o = true) := fun q o ho hx => by
        by_cases e : o = i
        · subst e; rw [hb] at hx; cases hx
        · exact q o (by omega) hx
      exact ⟨fun q => ih.1 (fun o ho => q o (by omega)), fun q => ih.2 (fun z => q (hq z))⟩
    | true =>
      rw [hb] at e1
      rw [hb, if_pos rfl] at e2
      refine ⟨fun q => ?_, fun q => ?_⟩
      · obtain ⟨a1, a2⟩ := ih.1 (fun o ho => q o (by omega))
        have a3 : ¬ m_opn M t r i = -1 := fun z => a2 (by rw [z]; decide)
        have b1 : B (S 19 t) i = true := q i (by omega) hb
        have b2 : ¬ M 6 (16 * t + i) = -1 := fun z => by
          have := es.1
          rw [b1, z] at this
          exact absurd this (by decide)
        have b3 : S 21 (t * 16 + i) = M 6 (16 * t + i) := es.2 b1
        have b4 : ¬ M 6 (16 * t + i) < 0 := by
          rw [← b3]; exact (h.inv.sol t i (by have := h.inv.i0.T8; omega) b1).2.2.2
        rw [e1, e2, b3, ← a1]
        unfold imax
        by_cases c : m_opn M t r i < M 6 (16 * t + i)
        · rw [if_pos ⟨rfl, a3, .inr c⟩, if_pos c]; exact ⟨rfl, b4⟩
        · rw [if_neg (fun z => z.2.2.elim b2 c), if_neg c]; exact ⟨rfl, a2⟩
      · by_cases q1 : ∀ o, o < i → B (S 6 r) o = true → B (S 19 t) o = true
        · obtain ⟨a1, a2⟩ := ih.1 q1
          have a3 : ¬ m_opn M t r i = -1 := fun z => a2 (by rw [z]; decide)
          have b1 : ¬ B (S 19 t) i = true := fun z => q (fun o ho hx => by
            by_cases e : o = i
            · subst e; exact z
            · exact q1 o (by omega) hx)
          have b2 : M 6 (16 * t + i) = -1 := by
            have := es.1
            rw [eq_false_of_ne_true b1] at this
            by_cases c : M 6 (16 * t + i) = -1
            · exact c
            · rw [decide_eq_false c] at this; exact absurd this (by decide)
          rw [e1, if_pos ⟨rfl, a3, .inl b2⟩, b2]
        · have a1 := ih.2 q1
          rw [e1, if_neg (fun z => z.2.1 a1)]; exact a1
theorem r_open {S M : Mem} (h : Rel S M) {t r : Nat} (ht : t < cT S) (hr : r < 16) : p_open S 18 t r = m_opened M t r := by
  have hx : ∀ i, r ≤ i → B (S 6 r) i = false := fun i hi => by
    cases hb : B (S 6 r) i with
    | false => rfl
    | true => have := h.inv.need r hr i hb; omega
  have ho := r_opn h ht hr r (by omega)
  show p_last S 18 t (S 6 r) = m_opn M t r r
  unfold p_last
  by_cases q : ∀ o, o < r → B (S 6 r) o = true → B (S 19 t) o = true
  · have c : S 6 r &&& (S (18 + 1) t ^^^ (-1)) = 0 := B_zero.mpr fun i => by
      rw [B_diff]
      cases hb : B (S 6 r) i with
      | false => rfl
      | true =>
        have e : B (S (18 + 1) t) i = true := q i (h.inv.need r hr i hb) hb
        rw [e]; rfl
    rw [if_pos c, (ho.1 q).1, r_lsmtop hx 16 (by omega) (by omega)]
  · have c : ¬ S 6 r &&& (S (18 + 1) t ^^^ (-1)) = 0 := fun z => q fun i hi hb => by
      have := B_zero.mp z i
      rw [B_diff, hb] at this
      cases e : B (S 19 t) i with
      | true => rfl
      | false =>
        have e2 : B (S (18 + 1) t) i = false := e
        rw [e2] at this; exact absurd this (by decide)
    rw [if_neg c, ho.2 q]
theorem r_pr {S M : Mem} (h : Rel S M) (t r : Nat) : ∀ n, m_pr M t r n = m_pr M t r 0 - nI (p_buy S r (S 13 (t * 16 + r)) n)
  | 0 => by
    show m_pr M t r 0 = m_pr M t r 0 - nI 0
    rw [nI_0, Int32.sub_zero]
  | n + 1 => by
    have e1 : m_pr M t r (n + 1) = m_pr M t r n - (if M 9 (16 * t + r) < M 9 (16 * n + r) then 1 else 0) := rfl
    have e2 : p_buy S r (S 13 (t * 16 + r)) (n + 1) = if S 13 (t * 16 + r) < S 13 (n * 16 + r) then p_buy S r (S 13 (t * 16 + r)) n + 1 else p_buy S r (S 13 (t * 16 + r)) n := rfl
    rw [e1, e2, r_pr h t r n, ix16 t r, ix16 n r, ← h.e13]
    by_cases c : S 13 (t * 16 + r) < S 13 (n * 16 + r)
    · rw [if_pos c, if_pos c, Int32.sub_sub, nI_1]
    · rw [if_neg c, if_neg c, Int32.sub_zero]
theorem p_buy_top {S : Mem} {r : Nat} {x : Int32} {a : Nat} : ∀ k, a ≤ k → (∀ i, a ≤ i → i < k → ¬ x < S 13 (i * 16 + r)) → p_buy S r x k = p_buy S r x a
  | 0, h, _ => by rw [Nat.le_zero.mp h]
  | k + 1, h, hx => by
    by_cases e : a = k + 1
    · rw [e]
    · rw [show p_buy S r x (k + 1) = if x < S 13 (k * 16 + r) then p_buy S r x k + 1 else p_buy S r x k from rfl, if_neg (hx k (by omega) (by omega))]
      exact p_buy_top k (by omega) (fun i h1 h2 => hx i h1 (by omega))
theorem bo_pos {S : Mem} (h : I0 S) {c : Nat} (hc : c < 128) : ¬ S 13 c < 0 := by
  rw [h.bo hc]; exact nI_pos (by have := h.bo3 hc; omega)
theorem r_price {S M : Mem} (h : Rel S M) {t r : Nat} (ht : t < cT S) (hr : r < 16) : p_price S t r = m_price M t r := by
  have hT := h.inv.i0.T8
  have e : m_pr M t r (mT M) = S 5 r - (S 0 10 - p_open S 18 t r) / 10 - nI (p_buy S r (S 13 (t * 16 + r)) 8) := by
    rw [h.T, r_pr h t r (cT S), p_buy_top (a := cT S) 8 hT (fun i h1 h2 => by
      rw [h.inv.bo i r h1 h2 hr]; exact bo_pos h.inv.i0 (by omega)), r_open h ht hr, h.e5, h.eW]
    rfl
  unfold p_price m_price imax
  rw [e]
theorem m_gave_B (M : Mem) (x r w : Int32) : ∀ n, m_gave M x r w n = gB (M 11) (M 12) (M 13) x r w n
  | 0 => rfl
  | n + 1 => by
    show (m_gave M x r w n || _) = (gB (M 11) (M 12) (M 13) x r w n || _)
    rw [m_gave_B M x r w n]
theorem m_first_B (M : Mem) (k : Nat) : m_first M k = fB (M 11) (M 12) (M 13) (M 2) k := by unfold m_first fB; rw [m_gave_B]; rfl
theorem m_comm_B (M : Mem) (k o : Nat) : m_comm M k o = (fB (M 11) (M 12) (M 13) (M 2) k && gB (M 11) (M 12) (M 13) (nI o) (M 12 k) (M 13 k) (mN M)) := by unfold m_comm; rw [m_first_B, m_gave_B]
theorem m_lk_B (M : Mem) (t o : Nat) : ∀ n, m_lk M t o n = nI (lB (M 11) (M 12) (M 13) (M 2) (mN M) t o n)
  | 0 => nI_0.symm
  | n + 1 => by
    show m_lk M t o n + (if M 11 n = nI t ∧ m_comm M n o = true then 1 else 0) = nI (lB (M 11) (M 12) (M 13) (M 2) (mN M) t o n + (if M 11 n = nI t ∧ (fB (M 11) (M 12) (M 13) (M 2) n && gB (M 11) (M 12) (M 13) (nI o) (M 12 n) (M 13 n) (mN M)) = true then 1 else 0))
    rw [m_lk_B M t o n, m_comm_B]
    by_cases c : M 11 n = nI t ∧ (fB (M 11) (M 12) (M 13) (M 2) n && gB (M 11) (M 12) (M 13) (nI o) (M 12 n) (M 13 n) (mN M)) = true
    · rw [if_pos c, if_pos c, nI_1]
    · rw [if_neg c, if_neg c, Int32.add_zero, Nat.add_zero]
theorem r_like {S M : Mem} (h : Rel S M) {t o : Nat} (ht : t < 8) (ho : o < 8) : S 23 (t * 8 + o) = m_like M t o := by
  rw [h.inv.like t o ht ho, m_like, m_lk_B, h.e8, h.e9, h.e10, h.e3, h.N]
theorem r_links {S M : Mem} (h : Rel S M) {t o : Nat} (ht : t < 8) (ho : o < 8) : p_links S t o (S 23 (t * 8 + o)) = m_are M t o := by
  unfold p_links m_are
  rw [r_like h ht ho, hs_B (by omega), (h.par t o ht ho).1, h.eB, Bool.not_not]
  congr 1
  exact Bool.and_comm _ _
theorem p_cheat_bit (S : Mem) (b t : Nat) : ∀ n r, B (p_cheat S b t n) r = true ↔ ∃ o, o < n ∧ p_links S t o (S (b + 5) (t * 8 + o)) = true ∧ B (S (b + 6) (t * 8 + o)) r = true
  | 0, r => by
    rw [show p_cheat S b t 0 = 0 from rfl, B_0]
    exact ⟨fun z => (nomatch z), fun ⟨o, ho, _⟩ => absurd ho (by omega)⟩
  | n + 1, r => by
    have ih := p_cheat_bit S b t n r
    rw [show p_cheat S b t (n + 1) = if p_links S t n (S (b + 5) (t * 8 + n)) = true then p_cheat S b t n ||| S (b + 6) (t * 8 + n) else p_cheat S b t n from rfl]
    by_cases c : p_links S t n (S (b + 5) (t * 8 + n)) = true
    · rw [if_pos c, B_or, Bool.or_eq_true, ih]
      constructor
      · rintro (⟨o, ho, h1⟩ | h1)
        · exact ⟨o, by omega, h1⟩
        · exact ⟨n, by omega, c, h1⟩
      · rintro ⟨o, ho, h1, h2⟩
        by_cases e : o = n
        · subst e; exact .inr h2
        · exact .inl ⟨o, by omega, h1, h2⟩
    · rw [if_neg c, ih]
      constructor
      · rintro ⟨o, ho, h1⟩; exact ⟨o, by omega, h1⟩
      · rintro ⟨o, ho, h1, h2⟩
        by_cases e : o = n
        · subst e; exact absurd h1 c
        · exact ⟨o, by omega, h1, h2⟩
theorem m_ch2_bit {M : Mem} (hJ : J0 M) (t o : Nat) (s : Int32) (r : Nat) : ∀ k, k ≤ mN M → (B (m_ch2 M t o s k) r = true ↔ B s r = true ∨ ∃ j, j < k ∧ M 11 j = nI t ∧ m_comm M j o = true ∧ r = mq M j)
  | 0, _ => by
    rw [show m_ch2 M t o s 0 = s from rfl]
    exact ⟨.inl, fun z => z.elim id fun ⟨j, hj, _⟩ => absurd hj (by omega)⟩
  | k + 1, hk => by
    have ih := m_ch2_bit hJ t o s r k (by omega)
    rw [show m_ch2 M t o s (k + 1) = m_ch2 M t o s k ||| (if M 11 k = nI t ∧ m_comm M k o = true then bt (M 12 k) else 0) from rfl, B_or, Bool.or_eq_true, ih]
    have hq := hJ.q (k := k) (by omega)
    have hq16 := hJ.q16 (k := k) (by omega)
    by_cases c : M 11 k = nI t ∧ m_comm M k o = true
    · rw [if_pos c, hq, B_btA (by omega), decide_eq_true_eq]
      constructor
      · rintro ((h1 | ⟨j, hj, h1⟩) | h1)
        · exact .inl h1
        · exact .inr ⟨j, by omega, h1⟩
        · exact .inr ⟨k, by omega, c.1, c.2, h1⟩
      · rintro (h1 | ⟨j, hj, h1, h2, h3⟩)
        · exact .inl (.inl h1)
        · by_cases e : j = k
          · subst e; exact .inr h3
          · exact .inl (.inr ⟨j, by omega, h1, h2, h3⟩)
    · rw [if_neg c, B_0]
      constructor
      · rintro ((h1 | ⟨j, hj, h1⟩) | h1)
        · exact .inl h1
        · exact .inr ⟨j, by omega, h1⟩
        · cases h1
      · rintro (h1 | ⟨j, hj, h1, h2, h3⟩)
        · exact .inl (.inl h1)
        · by_cases e : j = k
          · subst e; exact absurd ⟨h1, h2⟩ c
          · exact .inl (.inr ⟨j, by omega, h1, h2, h3⟩)
theorem m_comm_cP {M : Mem} (hJ : J0 M) (t o r : Nat) : (∃ j, j < mN M ∧ M 11 j = nI t ∧ m_comm M j o = true ∧ r = mq M j) ↔ r < 16 ∧ cP (M 11) (M 12) (M 13) (M 2) (mN M) t o r := by
  constructor
  · rintro ⟨j, hj, h1, h2, h3⟩
    rw [m_comm_B, Bool.and_eq_true] at h2
    obtain ⟨h4, h5⟩ := h2
    unfold fB at h4
    rw [Bool.and_eq_true, decide_eq_true_eq] at h4
    have hq := hJ.q hj
    rw [← h3] at hq
    have e : iN (M 12 j) = r := by rw [h3]; rfl
    rw [e] at h4
    rw [hq] at h5
    exact ⟨by rw [h3]; exact hJ.q16 hj, M 13 j, h4.1, gB_iff.mpr ⟨j, hj, h1, hq, rfl⟩, h5⟩
  · rintro ⟨hr, v, h1, h2, h3⟩
    obtain ⟨k, hk, a1, a2, a3, a4⟩ := gB_first h2
    have e : iN (nI r) = r := iN_nI (by omega)
    refine ⟨k, hk, a1, ?_, ?_⟩
    · rw [m_comm_B, Bool.and_eq_true]
      refine ⟨?_, by rw [a2, a3]; exact h3⟩
      unfold fB
      rw [a1, a2, a3, a4, e, decide_eq_true h1]; rfl
    · show r = iN (M 12 k)
      rw [a2, e]
theorem m_ch_bit {M : Mem} (hJ : J0 M) (t r : Nat) : ∀ n, B (m_ch M t n) r = true ↔ ∃ o, o < n ∧ m_are M t o = true ∧ r < 16 ∧ cP (M 11) (M 12) (M 13) (M 2) (mN M) t o r
  | 0 => by
    rw [show m_ch M t 0 = 0 from rfl, B_0]
    exact ⟨fun z => (nomatch z), fun ⟨o, ho, _⟩ => absurd ho (by omega)⟩
  | n + 1 => by
    have ih := m_ch_bit hJ t r n
    rw [show m_ch M t (n + 1) = if m_are M t n = true then m_ch2 M t n (m_ch M t n) (mN M) else m_ch M t n from rfl]
    by_cases c : m_are M t n = true
    · rw [if_pos c, m_ch2_bit hJ t n _ r _ (Nat.le_refl _), m_comm_cP hJ, ih]
      constructor
      · rintro (⟨o, ho, h1⟩ | h1)
        · exact ⟨o, by omega, h1⟩
        · exact ⟨n, by omega, c, h1⟩
      · rintro ⟨o, ho, h1, h2⟩
        by_cases e : o = n
        · subst e; exact .inr h2
        · exact .inl ⟨o, by omega, h1, h2⟩
    · rw [if_neg c, ih]
      constructor
      · rintro ⟨o, ho, h1⟩; exact ⟨o, by omega, h1⟩
      · rintro ⟨o, ho, h1, h2⟩
        by_cases e : o = n
        · subst e; exact absurd h1 c
        · exact ⟨o, by omega, h1, h2⟩
theorem m_are_ne {M : Mem} {t o : Nat} (h : m_are M t o = true) : ¬ t = o := by
  unfold m_are at h
  rw [Bool.and_eq_true, decide_eq_true_eq] at h
  exact h.1
theorem r_cheat {S M : Mem} (h : Rel S M) {t : Nat} (ht : t < cT S) : p_cheat S 18 t (cT S) = m_cheat M t := by
  have hT := h.inv.i0.T8
  apply B_xt
  intro r
  rw [m_cheat, p_cheat_bit, m_ch_bit h.J, h.T]
  constructor
  · rintro ⟨o, ho, h1, h2⟩
    have h3 : m_are M t o = true := (r_links h (by omega) (by omega)).symm.trans h1
    have h4 := (h.inv.comm t o (by omega) (by omega) (m_are_ne h3) r).mp h2
    rw [h.e8, h.e9, h.e10, h.e3, ← h.N] at h4
    exact ⟨o, ho, h3, h4⟩
  · rintro ⟨o, ho, h3, h4⟩
    rw [h.N, ← h.e8, ← h.e9, ← h.e10, ← h.e3] at h4
    exact ⟨o, ho, (r_links h (by omega) (by omega)).trans h3, (h.inv.comm t o (by omega) (by omega) (m_are_ne h3) r).mpr h4⟩
end
end
section
section
/-! void, counting, sums, last minutes, hanging -/
theorem p_spread_s (S : Mem) (x : Int32) (n : Nat) : p_spread S x (n + 1) = if S 6 n &&& p_spread S x n = 0 then p_spread S x n else p_spread S x n ||| bt (nI n) := rfl
theorem m_vd_s (M : Mem) (t : Nat) (ch : Int32) (n : Nat) : m_vd M t ch (n + 1) = m_vd M t ch n ||| (if ((ch >>> (nI n &&& 31)) &&& 1 = 1 ∨ ¬ M 5 n &&& m_vd M t ch n = 0) ∧ ¬ M 6 (16 * t + n) = -1 then bt (nI n) else 0) := rfl
theorem r_so {S M : Mem} (h : Rel S M) {t r : Nat} (ht : t < cT S) (hr : r < 16) : B (S 19 t) r = true ↔ ¬ M 6 (16 * t + r) = -1 := by
  rw [(h.sol t r ht hr).1, Bool.not_eq_true', decide_eq_false_iff_not]
theorem vd_sub {S M : Mem} (h : Rel S M) {t : Nat} (ht : t < cT S) (ch : Int32) : ∀ n, n ≤ 16 → ∀ r, B (m_vd M t ch n) r = true → r < n ∧ B (S 19 t) r = true
  | 0, _, r, hb => by rw [show m_vd M t ch 0 = 0 from rfl, B_0] at hb; cases hb
  | n + 1, hn, r, hb => by
    rw [m_vd_s, B_or, Bool.or_eq_true] at hb
    rcases hb with hb | hb
    · have := vd_sub h ht ch n (by omega) r hb
      exact ⟨by omega, this.2⟩
    · by_cases c : ((ch >>> (nI n &&& 31)) &&& 1 = 1 ∨ ¬ M 5 n &&& m_vd M t ch n = 0) ∧ ¬ M 6 (16 * t + n) = -1
      · rw [if_pos c, B_btA (by omega), decide_eq_true_eq] at hb
        subst hb
        exact ⟨by omega, (r_so h ht (by omega)).mpr c.2⟩
      · rw [if_neg c, B_0] at hb; cases hb
theorem sp_hi {S : Mem} {x : Int32} : ∀ n, n ≤ 32 → ∀ r, n ≤ r → (B (p_spread S x n) r = true ↔ B x r = true)
  | 0, _, _, _ => Iff.rfl
  | n + 1, hn, r, hr => by
    have ih := sp_hi (S := S) (x := x) n (by omega) r (by omega)
    rw [p_spread_s]
    by_cases c : S 6 n &&& p_spread S x n = 0
    · rw [if_pos c]; exact ih
    · rw [if_neg c, B_or1t (by omega), ih]
      exact ⟨fun z => z.elim id (fun e => absurd e (by omega)), .inl⟩
theorem sp_vd {S M : Mem} (h : Rel S M) {t : Nat} (ht : t < cT S) (ch : Int32) : ∀ n, n ≤ 16 → ∀ r, r < n → B (S 19 t) r = true → (B (p_spread S (ch &&& S 19 t) n) r = true ↔ B (m_vd M t ch n) r = true)
  | 0, _, r, hr, _ => absurd hr (by omega)
  | n + 1, hn, r, hr, hs => by
    have hT := h.inv.i0.T8
    have e1 : B (p_spread S (ch &&& S 19 t) (n + 1)) r = true ↔ B (p_spread S (ch &&& S 19 t) n) r = true ∨ (r = n ∧ ¬ S 6 n &&& p_spread S (ch &&& S 19 t) n = 0) := by
      rw [p_spread_s]
      by_cases c : S 6 n &&& p_spread S (ch &&& S 19 t) n = 0
      · rw [if_pos c]
        exact ⟨.inl, fun z => z.elim id (fun e => absurd c e.2)⟩
      · rw [if_neg c, B_or1t (by omega)]
        exact ⟨fun z => z.imp id (fun e => ⟨e, c⟩), fun z => z.imp id (fun e => e.1)⟩
    have e2 : B (m_vd M t ch (n + 1)) r = true ↔ B (m_vd M t ch n) r = true ∨ (r = n ∧ (B ch n = true ∨ ¬ S 6 n &&& m_vd M t ch n = 0) ∧ B (S 19 t) n = true) := by
      have es := r_so h ht (r := n) (by omega)
      have ev := v1_t (x := ch) (i := n) (by omega)
      rw [m_vd_s, B_or, Bool.or_eq_true, ← h.e6]
      simp only [ev, ← es]
      by_cases c : (B ch n = true ∨ ¬ S 6 n &&& m_vd M t ch n = 0) ∧ B (S 19 t) n = true
      · rw [if_pos c, B_btA (by omega), decide_eq_true_eq]
        exact ⟨fun z => z.imp id (fun e => ⟨e, c⟩), fun z => z.imp id (fun e => e.1)⟩
      · rw [if_neg c, B_0]
        exact ⟨fun z => z.elim .inl (fun e => nomatch e), fun z => z.elim .inl (fun e => absurd e.2 c)⟩
    rw [e1, e2]
    by_cases er : r = n
    · subst er
      have q1 : B (p_spread S (ch &&& S 19 t) r) r = true ↔ B ch r = true := by
        rw [sp_hi r (by omega) r (Nat.le_refl r), B_and, Bool.and_eq_true]
        exact ⟨fun z => z.1, fun z => ⟨z, hs⟩⟩
      have q2 : ¬ B (m_vd M t ch r) r = true := fun z => absurd (vd_sub h ht ch r (by omega) r z).1 (by omega)
      have q3 : (¬ S 6 r &&& p_spread S (ch &&& S 19 t) r = 0) ↔ ¬ S 6 r &&& m_vd M t ch r = 0 := by
        apply not_congr
        rw [B_and0, B_and0]
        have key : ∀ o, B (S 6 r) o = true → (B (p_spread S (ch &&& S 19 t) r) o = true ↔ B (m_vd M t ch r) o = true) := fun o ho =>
          sp_vd h ht ch r (by omega) o (h.inv.need r (by omega) o ho) ((h.inv.sol t r (by omega) hs).2.2.1 o ho)
        constructor
        · intro z o ho
          cases c : B (m_vd M t ch r) o with
          | false => rfl
          | true => have := z o ho; rw [(key o ho).mpr c] at this; cases this
        · intro z o ho
          cases c : B (p_spread S (ch &&& S 19 t) r) o with
          | false => rfl
          | true => have := z o ho; rw [(key o ho).mp c] at this; cases this
      rw [q1, q3]
      constructor
      · rintro (z | z)
        · exact .inr ⟨rfl, .inl z, hs⟩
        · exact .inr ⟨rfl, .inr z.2, hs⟩
      · rintro (z | z)
        · exact absurd z q2
        · exact z.2.1.imp id (fun e => ⟨rfl, e⟩)
    · have ih := sp_vd h ht ch n (by omega) r (by omega) hs
      rw [ih]
      exact ⟨fun z => z.imp id (fun e => absurd e.1 er), fun z => z.imp id (fun e => absurd e.1 er)⟩
theorem r_void {S M : Mem} (h : Rel S M) {t : Nat} (ht : t < cT S) : p_void S 18 t = m_void M t := by
  have hT := h.inv.i0.T8
  have hR := h.inv.i0.R16
  unfold p_void m_void
  rw [r_cheat h ht, h.R]
  apply B_xt
  intro r
  rw [B_and, Bool.and_eq_true]
  constructor
  · rintro ⟨h1, h2⟩
    have h3 : B (S 19 t) r = true := h2
    exact (sp_vd h ht _ (cR S) hR r (h.inv.solR (by omega) h3) h3).mp h1
  · intro h1
    obtain ⟨h2, h3⟩ := vd_sub h ht _ (cR S) hR r h1
    exact ⟨(sp_vd h ht _ (cR S) hR r h2 h3).mpr h1, h3⟩
theorem m_cn_bit {M : Mem} (t : Nat) (vo : Int32) : ∀ n, n ≤ 16 → ∀ r, B (m_cn M t vo n) r = true ↔ r < n ∧ (¬ M 6 (16 * t + r) = -1) ∧ B vo r = false ∧ m_free M r = false
  | 0, _, r => by
    rw [show m_cn M t vo 0 = 0 from rfl, B_0]
    exact ⟨fun z => (nomatch z), fun z => absurd z.1 (by omega)⟩
  | n + 1, hn, r => by
    rw [show m_cn M t vo (n + 1) = m_cn M t vo n ||| (if (¬ M 6 (16 * t + n) = -1) ∧ (vo >>> (nI n &&& 31)) &&& 1 = 0 ∧ m_free M n = false then bt (nI n) else 0) from rfl, B_or, Bool.or_eq_true, m_cn_bit t vo n (by omega) r]
    have ev := v1_f (x := vo) (i := n) (by omega)
    simp only [ev]
    by_cases c : (¬ M 6 (16 * t + n) = -1) ∧ B vo n = false ∧ m_free M n = false
    · rw [if_pos c, B_btA (by omega), decide_eq_true_eq]
      constructor
      · rintro (z | z)
        · exact ⟨by omega, z.2⟩
        · subst z; exact ⟨by omega, c⟩
      · rintro ⟨z1, z2⟩
        by_cases e : r = n
        · exact .inr e
        · exact .inl ⟨by omega, z2⟩
    · rw [if_neg c, B_0]
      constructor
      · rintro (z | z)
        · exact ⟨by omega, z.2⟩
        · cases z
      · rintro ⟨z1, z2⟩
        by_cases e : r = n
        · subst e; exact absurd z2 c
        · exact .inl ⟨by omega, z2⟩
theorem r_count {S M : Mem} (h : Rel S M) {t : Nat} (ht : t < cT S) : p_count S 18 t = m_cnt M t := by
  have hT := h.inv.i0.T8
  have hR := h.inv.i0.R16
  unfold p_count m_cnt
  rw [r_void h ht, h.R]
  apply B_xt
  intro r
  rw [B_diff, B_diff, Bool.and_eq_true, Bool.and_eq_true, Bool.not_eq_true', Bool.not_eq_true', m_cn_bit t _ (cR S) hR r]
  constructor
  · rintro ⟨⟨h1, h2⟩, h3⟩
    have h4 : B (S 19 t) r = true := h1
    have h5 := h.inv.solR (by omega) h4
    exact ⟨h5, (r_so h ht (by omega)).mp h4, h2, (r_free h (by omega)).symm.trans h3⟩
  · rintro ⟨h1, h2, h3, h4⟩
    exact ⟨⟨(r_so h ht (by omega)).mpr h2, h3⟩, (r_free h (by omega)).trans h4⟩
theorem m_cnt_so {S M : Mem} (h : Rel S M) {t : Nat} (ht : t < cT S) {r : Nat} (hb : B (m_cnt M t) r = true) : r < cR S ∧ B (S 19 t) r = true := by
  have hR := h.inv.i0.R16
  unfold m_cnt at hb
  rw [m_cn_bit t _ _ (by rw [h.R]; exact hR) r, h.R] at hb
  exact ⟨hb.1, (r_so h ht (by omega)).mpr hb.2.1⟩
theorem r_sumN {S M : Mem} (h : Rel S M) (t : Nat) (cnt : Int32) : ∀ n, n ≤ cR S → p_sum S 18 t cnt (p_free S 18 (cT S)) n = m_sc M t cnt n
  | 0, _ => rfl
  | n + 1, hn => by
    have hR := h.inv.i0.R16
    have ih := r_sumN h t cnt n (by omega)
    have e1 : p_sum S 18 t cnt (p_free S 18 (cT S)) (n + 1) = if hs cnt (nI n) = true then (if hs (p_free S 18 (cT S)) (nI n) = true then p_sum S 18 t cnt (p_free S 18 (cT S)) n + S 2 n else (p_sum S 18 t cnt (p_free S 18 (cT S)) n + S 2 n) - S 22 (t * 16 + n)) else (if hs (p_free S 18 (cT S)) (nI n) = true then p_sum S 18 t cnt (p_free S 18 (cT S)) n else p_sum S 18 t cnt (p_free S 18 (cT S)) n - S 22 (t * 16 + n)) := rfl
    have e2 : m_sc M t cnt (n + 1) = (m_sc M t cnt n + (if (cnt >>> (nI n &&& 31)) &&& 1 = 1 then M 1 n else 0)) - (if m_free M n = true then 0 else M 10 (16 * t + n)) := rfl
    rw [e1, e2, ih, hs_B (by omega), hs_B (by omega), r_free h (by omega), ← h.e2, ← h.e22, ix16]
    have ev := v1_t (x := cnt) (i := n) (by omega)
    simp only [ev]
    by_cases c1 : B cnt n = true
    · rw [if_pos c1, if_pos c1]
      by_cases c2 : m_free M n = true
      · rw [if_pos c2, if_pos c2, Int32.sub_zero]
      · rw [if_neg c2, if_neg c2]
    · rw [if_neg c1, if_neg c1, Int32.add_zero]
      by_cases c2 : m_free M n = true
      · rw [if_pos c2, if_pos c2, Int32.sub_zero]
      · rw [if_neg c2, if_neg c2]
theorem r_score {S M : Mem} (h : Rel S M) {t : Nat} (ht : t < cT S) : p_sumUp S 18 t (p_count S 18 t) = m_score M t := by
  unfold p_sumUp m_score
  rw [r_count h ht, h.R]
  exact r_sumN h t _ _ (Nat.le_refl _)
theorem r_laN {S M : Mem} (h : Rel S M) {t : Nat} (ht : t < cT S) : ∀ n, n ≤ cR S → p_lsm S 18 t (m_cnt M t) n = m_la M t (m_cnt M t) n
  | 0, _ => rfl
  | n + 1, hn => by
    have hR := h.inv.i0.R16
    have ih := r_laN h ht n (by omega)
    have e1 : p_lsm S 18 t (m_cnt M t) (n + 1) = if hs (m_cnt M t) (nI n) = true then imax (p_lsm S 18 t (m_cnt M t) n) (S 21 (t * 16 + n)) else p_lsm S 18 t (m_cnt M t) n := rfl
    have e2 : m_la M t (m_cnt M t) (n + 1) = if ((m_cnt M t) >>> (nI n &&& 31)) &&& 1 = 1 ∧ m_la M t (m_cnt M t) n < M 6 (16 * t + n) then M 6 (16 * t + n) else m_la M t (m_cnt M t) n := rfl
    have ev := v1_t (x := m_cnt M t) (i := n) (by omega)
    rw [e1, e2, ih, hs_B (by omega)]
    simp only [ev]
    by_cases c1 : B (m_cnt M t) n = true
    · have e3 := (h.sol t n ht (by omega)).2 (m_cnt_so h ht c1).2
      rw [if_pos c1, e3]
      unfold imax
      by_cases c2 : m_la M t (m_cnt M t) n < M 6 (16 * t + n)
      · rw [if_pos c2, if_pos ⟨c1, c2⟩]
      · rw [if_neg c2, if_neg (fun z => c2 z.2)]
    · rw [if_neg c1, if_neg (fun z => c1 z.1)]
theorem r_last {S M : Mem} (h : Rel S M) {t : Nat} (ht : t < cT S) : p_last S 18 t (p_count S 18 t) = m_last M t := by
  have hR := h.inv.i0.R16
  unfold p_last m_last
  rw [r_count h ht, h.R]
  have c : m_cnt M t &&& (S (18 + 1) t ^^^ (-1)) = 0 := B_zero.mpr fun i => by
    rw [B_diff]
    cases hb : B (m_cnt M t) i with
    | false => rfl
    | true =>
      have e : B (S (18 + 1) t) i = true := (m_cnt_so h ht hb).2
      rw [e]; rfl
  rw [if_pos c, r_lsmtop (a := cR S) (fun i hi => by
    cases hb : B (m_cnt M t) i with
    | false => rfl
    | true => have := (m_cnt_so h ht hb).1; omega) 16 hR (by omega)]
  exact r_laN h ht _ (Nat.le_refl _)
/-! hanging -/
theorem m_hg_bit {M : Mem} {r : Nat} : ∀ j, r + j < 16 → ∀ i, B (m_hg M r j) i = true → r < i ∧ i ≤ r + j
  | 0, _, i, hb => by rw [show m_hg M r 0 = 0 from rfl, B_0] at hb; cases hb
  | j + 1, hj, i, hb => by
    rw [show m_hg M r (j + 1) = m_hg M r j ||| (if M 5 (r + 1 + j) &&& (m_hg M r j ||| bt (nI r)) = 0 then 0 else bt (nI (r + 1 + j))) from rfl, B_or, Bool.or_eq_true] at hb
    rcases hb with hb | hb
    · have := m_hg_bit j (by omega) i hb; omega
    · by_cases c : M 5 (r + 1 + j) &&& (m_hg M r j ||| bt (nI r)) = 0
      · rw [if_pos c, B_0] at hb; cases hb
      · rw [if_neg c, B_btA (by omega), decide_eq_true_eq] at hb; omega
theorem sp_low {S : Mem} (h : Inv S) {r : Nat} (hr : r < 16) : ∀ n, n ≤ r + 1 → p_spread S (bt (nI r)) n = bt (nI r)
  | 0, _ => rfl
  | n + 1, hn => by
    have ih := sp_low h hr n (by omega)
    have c : S 6 n &&& bt (nI r) = 0 := B_and0.mpr fun i hi => by
      have := h.need n (by omega) i hi
      rw [B_btA (by omega), decide_eq_false (by omega)]
    rw [p_spread_s, ih, if_pos c]
theorem sp_hg {S M : Mem} (h : Rel S M) {r : Nat} (hr : r < 16) : ∀ j, r + j < 16 → p_spread S (bt (nI r)) (r + 1 + j) = m_hg M r j ||| bt (nI r)
  | 0, _ => by
    have e : m_hg M r 0 ||| bt (nI r) = bt (nI r) := B_xt fun i => by rw [show m_hg M r 0 = 0 from rfl, B_or, B_0, Bool.false_or]
    rw [e]
    exact sp_low h.inv hr _ (by omega)
  | j + 1, hj => by
    have ih := sp_hg h hr j (by omega)
    have e1 : p_spread S (bt (nI r)) (r + 1 + (j + 1)) = if S 6 (r + 1 + j) &&& p_spread S (bt (nI r)) (r + 1 + j) = 0 then p_spread S (bt (nI r)) (r + 1 + j) else p_spread S (bt (nI r)) (r + 1 + j) ||| bt (nI (r + 1 + j)) := rfl
    rw [e1, ih, show m_hg M r (j + 1) = m_hg M r j ||| (if M 5 (r + 1 + j) &&& (m_hg M r j ||| bt (nI r)) = 0 then 0 else bt (nI (r + 1 + j))) from rfl, ← h.e6]
    by_cases c : S 6 (r + 1 + j) &&& (m_hg M r j ||| bt (nI r)) = 0
    · rw [if_pos c, if_pos c]
      exact B_xt fun i => by rw [B_or, B_or, B_or, B_0, Bool.or_false]
    · rw [if_neg c, if_neg c]
      apply B_xt
      intro i
      rw [B_or, B_or, B_or, B_or, Bool.or_right_comm]
theorem r_hang {S M : Mem} (h : Rel S M) {r : Nat} (hr : r < cR S) : p_hang S r = m_hang M r := by
  have hR := h.inv.i0.R16
  unfold p_hang m_hang
  have e : cR S = r + 1 + (cR S - (r + 1)) := by omega
  rw [h.R, e, sp_hg h (by omega) (cR S - (r + 1)) (by omega)]
  have e2 : r + 1 + (cR S - (r + 1)) - (r + 1) = cR S - (r + 1) := by omega
  rw [e2]
  apply B_xt
  intro i
  rw [B_diff, B_or, Bool.and_eq_true, Bool.or_eq_true, Bool.not_eq_true']
  constructor
  · rintro ⟨z1 | z1, z2⟩
    · exact z1
    · rw [z1] at z2; cases z2
  · intro z
    have := m_hg_bit (M := M) (r := r) (cR S - (r + 1)) (by omega) i z
    exact ⟨.inl z, by rw [B_btA (by omega), decide_eq_false (by omega)]⟩
/-! counts of bits -/
theorem r_bits {x : Int32} (h : ∀ i, 16 ≤ i → B x i = false) : p_bc x = m_bits x 16 := by rw [bc_cnt h, m_bits_cnt x 16 (by omega)]
theorem m_ends_cnt (M : Mem) : ∀ n, m_ends M n = nI (cntB (m_free M) n)
  | 0 => nI_0.symm
  | n + 1 => by
    show m_ends M n + (if m_free M n = true then 1 else 0) = nI (cntB (m_free M) n + (if m_free M n = true then 1 else 0))
    rw [m_ends_cnt M n]
    by_cases c : m_free M n = true
    · rw [if_pos c, if_pos c, nI_1]
    · rw [if_neg c, if_neg c, Int32.add_zero, Nat.add_zero]
theorem r_ends {S M : Mem} (h : Rel S M) : p_bc (p_free S 18 (cT S)) = m_ends M (mR M) := by
  have hR := h.inv.i0.R16
  have hx : ∀ i, cR S ≤ i → B (p_free S 18 (cT S)) i = false := fun i hi => by
    cases hb : B (p_free S 18 (cT S)) i with
    | false => rfl
    | true => have := p_freeR h.inv _ h.inv.i0.T8 i hb; omega
  rw [bc_cnt (fun i hi => hx i (by omega)), m_ends_cnt, h.R, cntB_top (a := cR S) 16 hR (fun i h1 _ => hx i h1)]
  exact congrArg nI (cntB_congr _ fun i hi => r_free h (by omega))
end
end
section
section
/-! the replay of solutions; what keeps the invariant and the relation; the order of teams -/
theorem solve_1 {S : Mem} {b t r : Nat} {m : Int32} (soon : Bool) : p_solve S b t r m soon (b + 1) = upd (S (b + 1)) t (S (b + 1) t ||| bt (nI r)) := by
  unfold p_solve
  cases soon
  · rw [if_neg (by decide), st_ne (by omega), st_same]
  · rw [if_pos rfl, st_ne (by omega), st_ne (by omega), st_same]
theorem solve_2 {S : Mem} {b t r : Nat} {m : Int32} (soon : Bool) : p_solve S b t r m soon (b + 2) = if soon = true then upd (S (b + 2)) t (S (b + 2) t ||| bt (nI r)) else S (b + 2) := by
  unfold p_solve
  cases soon
  · rw [if_neg (by decide), if_neg (by decide), st_ne (by omega), st_ne (by omega)]
  · rw [if_pos rfl, if_pos rfl, st_same, st_ne (by omega), st_ne (by omega)]
theorem solve_3 {S : Mem} {b t r : Nat} {m : Int32} (soon : Bool) : p_solve S b t r m soon (b + 3) = upd (S (b + 3)) (t * 16 + r) m := by
  unfold p_solve
  cases soon
  · rw [if_neg (by decide), st_same, st_ne (by omega)]
  · rw [if_pos rfl, st_ne (by omega), st_same, st_ne (by omega)]
theorem lsm_eq {X Y : Mem} {b c t : Nat} (h : Eq3 X b Y c) (ht : t < 8) (x : Int32) : ∀ n, n ≤ 16 → p_lsm X b t x n = p_lsm Y c t x n
  | 0, _ => rfl
  | n + 1, hn => by
    show (if hs x (nI n) = true then imax (p_lsm X b t x n) (X (b + 3) (t * 16 + n)) else p_lsm X b t x n) = (if hs x (nI n) = true then imax (p_lsm Y c t x n) (Y (c + 3) (t * 16 + n)) else p_lsm Y c t x n)
    rw [lsm_eq h ht x n (by omega), h.2 (t * 16 + n) (by omega)]
theorem last_eq {X Y : Mem} {b c t : Nat} (h : Eq3 X b Y c) (ht : t < 8) (x : Int32) : p_last X b t x = p_last Y c t x := by
  unfold p_last
  rw [lsm_eq h ht x 16 (by omega), (h.1 t ht).1]
theorem noteS_eq {X Y : Mem} {b c t r : Nat} {m : Int32} (h : Eq3 X b Y c) (ht : t < 8) (h4 : X 4 r = Y 4 r) (h6 : X 6 r = Y 6 r) : Eq3 (p_noteS X b t r m) b (p_noteS Y c t r m) c := by
  have e : p_open X b t r = p_open Y c t r := by unfold p_open; rw [h6]; exact last_eq h ht _
  unfold p_noteS
  rw [h4, e]
  generalize decide (¬ Y 4 r ≤ m - p_open Y c t r) = soon
  refine ⟨fun i hi => ⟨?_, ?_⟩, fun i hi => ?_⟩
  · rw [solve_1, solve_1]
    by_cases q : i = t
    · subst q; rw [pk_us, pk_us, (h.1 i hi).1]
    · rw [pk_un q, pk_un q, (h.1 i hi).1]
  · rw [solve_2, solve_2]
    by_cases z : soon = true
    · rw [if_pos z, if_pos z]
      by_cases q : i = t
      · subst q; rw [pk_us, pk_us, (h.1 i hi).2]
      · rw [pk_un q, pk_un q, (h.1 i hi).2]
    · rw [if_neg z, if_neg z, (h.1 i hi).2]
  · rw [solve_3, solve_3]
    by_cases q : i = t * 16 + r
    · subst q; rw [pk_us, pk_us]
    · rw [pk_un q, pk_un q, h.2 i hi]
theorem rp_cell (S : Mem) (n : Nat) {k : Nat} (hk : k < 26) : p_replay (p_wipe S) n k = S k := by rw [fr_replay (by omega), fr_wipe (by omega)]
theorem rp_step (S : Mem) (n : Nat) : p_replay (p_wipe S) (n + 1) = if p_right S n = true then p_noteS (p_replay (p_wipe S) n) 25 (aT S n) (aR S n) (S 11 n) else p_replay (p_wipe S) n := by
  have a1 : aT (p_replay (p_wipe S) n) n = aT S n := by unfold aT; rw [rp_cell S n (by omega)]
  have a2 : aR (p_replay (p_wipe S) n) n = aR S n := by unfold aR; rw [rp_cell S n (by omega)]
  have a3 : p_right (p_replay (p_wipe S) n) n = p_right S n := by unfold p_right; rw [a2, rp_cell S n (by omega), rp_cell S n (by omega)]
  have a4 : p_replay (p_wipe S) n 11 n = S 11 n := by rw [rp_cell S n (by omega)]
  show (if p_right (p_replay (p_wipe S) n) n = true then p_noteS (p_replay (p_wipe S) n) 25 (aT (p_replay (p_wipe S) n) n) (aR (p_replay (p_wipe S) n) n) (p_replay (p_wipe S) n 11 n) else p_replay (p_wipe S) n) = _
  rw [a1, a2, a3, a4]
theorem wipe_26 (S : Mem) {i : Nat} (hi : i < 8) : p_wipe S 26 i = 0 := by
  show (if i < 8 then 0 else S 26 i) = 0
  rw [if_pos hi]
theorem wipe_27 (S : Mem) {i : Nat} (hi : i < 8) : p_wipe S 27 i = 0 := by
  show (if i < 8 then 0 else S 27 i) = 0
  rw [if_pos hi]
theorem wipe_28 (S : Mem) {i : Nat} (hi : i < 128) : p_wipe S 28 i = 0 := by
  show (if i < 128 then 0 else S 28 i) = 0
  rw [if_pos hi]
theorem wipe_29 (S : Mem) {i : Nat} (hi : i < 128) : p_wipe S 29 i = 0 := by
  show (if i < 128 then 0 else S 29 i) = 0
  rw [if_pos hi]
theorem wipe_30 (S : Mem) {i : Nat} (hi : i < 64) : p_wipe S 30 i = 0 := by
  show (if i < 64 then 0 else S 30 i) = 0
  rw [if_pos hi]
theorem wipe_31 (S : Mem) {i : Nat} (hi : i < 64) : p_wipe S 31 i = 0 := by
  show (if i < 64 then 0 else S 31 i) = 0
  rw [if_pos hi]
theorem rp_congr {S S' : Mem} : ∀ n, (∀ k, k < n → (S' 8 k = S 8 k ∧ S' 9 k = S 9 k ∧ S' 10 k = S 10 k ∧ S' 11 k = S 11 k) ∧ aT S k < 8 ∧ S' 3 (aR S k) = S 3 (aR S k) ∧ S' 4 (aR S k) = S 4 (aR S k) ∧ S' 6 (aR S k) = S 6 (aR S k)) → Eq3 (p_replay (p_wipe S') n) 25 (p_replay (p_wipe S) n) 25
  | 0, _ => ⟨fun i hi => ⟨(wipe_26 S' hi).trans (wipe_26 S hi).symm, (wipe_27 S' hi).trans (wipe_27 S hi).symm⟩, fun i hi => (wipe_28 S' hi).trans (wipe_28 S hi).symm⟩
  | n + 1, h => by
    have ih := rp_congr n (fun k hk => h k (by omega))
    obtain ⟨⟨e8, e9, e10, e11⟩, ht, e3, e4, e6⟩ := h n (by omega)
    have a1 : aT S' n = aT S n := by unfold aT; rw [e8]
    have a2 : aR S' n = aR S n := by unfold aR; rw [e9]
    have a3 : p_right S' n = p_right S n := by unfold p_right; rw [a2, e10, e3]
    rw [rp_step, rp_step, a1, a2, a3, e11]
    by_cases c : p_right S n = true
    · rw [if_pos c, if_pos c]
      exact noteS_eq ih ht (by rw [rp_cell S' n (by omega), rp_cell S n (by omega), e4]) (by rw [rp_cell S' n (by omega), rp_cell S n (by omega), e6])
    · rw [if_neg c, if_neg c]; exact ih
theorem iRep_same {S S' : Mem} (h : Inv S) (e : (S' 3 = S 3 ∧ S' 4 = S 4 ∧ S' 6 = S 6) ∧ (S' 8 = S 8 ∧ S' 9 = S 9 ∧ S' 10 = S 10 ∧ S' 11 = S 11) ∧ (S' 19 = S 19 ∧ S' 20 = S 20 ∧ S' 21 = S 21) ∧ S' 7 4 = S 7 4) : iRep S' := by
  obtain ⟨⟨e3, e4, e6⟩, ⟨e8, e9, e10, e11⟩, ⟨e19, e20, e21⟩, e7⟩ := e
  have a : cN S' = cN S := by unfold cN; rw [e7]
  unfold iRep
  rw [a]
  have h1 : Eq3 S' 18 S 18 := ⟨fun i _ => ⟨congrFun e19 i, congrFun e20 i⟩, fun i _ => congrFun e21 i⟩
  have h2 := rp_congr (S := S) (S' := S') (cN S) (fun k hk => ⟨⟨by rw [e8], by rw [e9], by rw [e10], by rw [e11]⟩, h.i0.xT8 hk, by rw [e3], by rw [e4], by rw [e6]⟩)
  exact h1.trans (h.rep.trans h2.symm)
theorem Inv_congr {S S' : Mem} (e : ∀ k, k < 26 → S' k = S k) (h : Inv S) : Inv S' := by
  have e0 := e 0 (by omega)
  have e1 := e 1 (by omega)
  have e3 := e 3 (by omega)
  have e4 := e 4 (by omega)
  have e6 := e 6 (by omega)
  have e7 := e 7 (by omega)
  have e8 := e 8 (by omega)
  have e9 := e 9 (by omega)
  have e10 := e 10 (by omega)
  have e11 := e 11 (by omega)
  have e13 := e 13 (by omega)
  have e14 := e 14 (by omega)
  have e19 := e 19 (by omega)
  have e20 := e 20 (by omega)
  have e21 := e 21 (by omega)
  have e22 := e 22 (by omega)
  have e23 := e 23 (by omega)
  have e24 := e 24 (by omega)
  have a1 : cT S' = cT S := cT_congr e0
  have a2 : cR S' = cR S := cR_congr e1
  have a3 : cN S' = cN S := cN_congr e7
  have hI : I0 S' := I0_congr (fun c hc => e c (by omega)) h.i0
  have hr : iRep S' := iRep_same h ⟨⟨e3, e4, e6⟩, ⟨e8, e9, e10, e11⟩, ⟨e19, e20, e21⟩, by rw [e7]⟩
  unfold Inv
  rw [a1, a2, a3, e0, e1, e3, e6, e8, e9, e10, e13, e14, e19, e20, e21, e22, e23, e24]
  exact ⟨⟨hI, h.now, h.need, h.log, h.bo, h.tou⟩, ⟨h.sol, h.soon⟩, ⟨h.like, h.comm⟩, hr, h.pay⟩
theorem Rel_congr {S S' M : Mem} (e : ∀ k, k < 26 ∨ k = 34 → S' k = S k) (h : Rel S M) : Rel S' M := by
  have hI := Inv_congr (fun k hk => e k (.inl hk)) h.inv
  have a1 : cT S' = cT S := cT_congr (e 0 (by omega))
  refine ⟨hI, ?_, ?_, ?_, ?_, ?_⟩
  · unfold Req
    rw [e 0 (by omega), e 1 (by omega), e 2 (by omega), e 3 (by omega), e 4 (by omega), e 5 (by omega), e 6 (by omega), e 7 (by omega), e 8 (by omega), e 9 (by omega), e 10 (by omega), e 13 (by omega), e 15 (by omega), e 22 (by omega), e 34 (by omega)]
    exact h.2.1
  · rw [a1, e 19 (by omega), e 21 (by omega)]; exact h.sol
  · rw [e 20 (by omega)]; exact h.ts
  · rw [e 16 (by omega)]; exact h.cl
  · rw [e 17 (by omega)]; exact h.par
/-! the order of teams -/
theorem Rel_rate {S M : Mem} (h : Rel S M) (n : Nat) : Rel (p_rate S n) M := Rel_congr (fun _ hk => fr_rate (by omega) n) h
theorem cT_rate (S : Mem) (n : Nat) : cT (p_rate S n) = cT S := cT_congr (fr_rate (by omega) n)
theorem rate_val {S M : Mem} (h : Rel S M) : ∀ n, n ≤ cT S → ∀ t, t < n → p_rate S n 32 t = m_score M t ∧ p_rate S n 33 t = m_last M t
  | 0, _, t, ht => absurd ht (by omega)
  | n + 1, hn, t, ht => by
    have hZ := Rel_rate h n
    have cZ := cT_rate S n
    have e : p_rate S (n + 1) = st (st (p_rate S n) 32 n (p_sumUp (p_rate S n) 18 n (p_count (p_rate S n) 18 n))) 33 n (p_last (st (p_rate S n) 32 n (p_sumUp (p_rate S n) 18 n (p_count (p_rate S n) 18 n))) 18 n (p_count (p_rate S n) 18 n)) := rfl
    have x : p_sumUp (p_rate S n) 18 n (p_count (p_rate S n) 18 n) = m_score M n := r_score hZ (by rw [cZ]; omega)
    rw [x] at e
    have hW : Rel (st (p_rate S n) 32 n (m_score M n)) M := Rel_congr (fun k hk => st_ne (by omega)) hZ
    have cW : cT (st (p_rate S n) 32 n (m_score M n)) = cT S := (cT_congr (st_ne (by omega))).trans cZ
    have y : p_last (st (p_rate S n) 32 n (m_score M n)) 18 n (p_count (p_rate S n) 18 n) = m_last M n := by
      rw [r_count hZ (by rw [cZ]; omega), ← r_count hW (by rw [cW]; omega)]
      exact r_last hW (by rw [cW]; omega)
    rw [y] at e
    rw [e]
    by_cases q : t = n
    · subst q
      exact ⟨by rw [st_ne (by omega), st_at], st_at⟩
    · have ih := rate_val h n (by omega) t (by omega)
      exact ⟨by rw [st_ne (by omega), st_off q]; exact ih.1, by rw [st_off q, st_ne (by omega)]; exact ih.2⟩
/-- o comes ahead of t -/
abbrev Cnd (M : Mem) (bn : Bool) (o t : Nat) : Prop := m_score M t < m_score M o ∨ (m_score M o = m_score M t ∧ (m_last M o < m_last M t ∨ (m_last M o = m_last M t ∧ bn = true ∧ o < t)))
theorem m_ah_s (M : Mem) (t : Nat) (bn : Bool) (n : Nat) : m_ah M t bn (n + 1) = m_ah M t bn n + (if Cnd M bn n t then 1 else 0) := rfl
theorem c_iff (M : Mem) (bn : Bool) (o t : Nat) : Cnd M bn o t ↔ ((m_score M t).toInt < (m_score M o).toInt ∨ ((m_score M o).toInt = (m_score M t).toInt ∧ ((m_last M o).toInt < (m_last M t).toInt ∨ ((m_last M o).toInt = (m_last M t).toInt ∧ bn = true ∧ o < t)))) := by
  unfold Cnd
  rw [Int32.lt_iff_toInt_lt, Int32.lt_iff_toInt_lt, Int32.toInt_inj, Int32.toInt_inj]
theorem c_trans {M : Mem} {bn : Bool} {o a b : Nat} (h1 : Cnd M bn o a) (h2 : Cnd M bn a b) : Cnd M bn o b := by
  rw [c_iff] at h1 h2 ⊢
  generalize (m_score M o).toInt = s1 at *
  generalize (m_score M a).toInt = s2 at *
  generalize (m_score M b).toInt = s3 at *
  generalize (m_last M o).toInt = l1 at *
  generalize (m_last M a).toInt = l2 at *
  generalize (m_last M b).toInt = l3 at *
  cases bn
  · simp only [Bool.false_eq_true, false_and, and_false, or_false] at h1 h2 ⊢
    omega
  · simp only [true_and] at h1 h2 ⊢
    omega
theorem c_irr {M : Mem} {bn : Bool} {a : Nat} (h : Cnd M bn a a) : False := by
  rw [c_iff] at h
  rcases h with h | ⟨_, h | ⟨_, _, h⟩⟩ <;> omega
theorem c_tri (M : Mem) {a b : Nat} (h : ¬ a = b) : Cnd M true a b ∨ Cnd M true b a := by
  rw [c_iff, c_iff]
  generalize (m_score M a).toInt = s2
  generalize (m_score M b).toInt = s3
  generalize (m_last M a).toInt = l2
  generalize (m_last M b).toInt = l3
  simp only [true_and]
  omega
theorem c_tri0 (M : Mem) {a b : Nat} (h : ¬ (m_score M a = m_score M b ∧ m_last M a = m_last M b)) : Cnd M false a b ∨ Cnd M false b a := by
  rw [← Int32.toInt_inj, ← Int32.toInt_inj] at h
  rw [c_iff, c_iff]
  generalize (m_score M a).toInt = s2 at *
  generalize (m_score M b).toInt = s3 at *
  generalize (m_last M a).toInt = l2 at *
  generalize (m_last M b).toInt = l3 at *
  simp only [Bool.false_eq_true, false_and, and_false, or_false]
  omega
theorem ah_mono {M : Mem} {bn : Bool} {a b : Nat} (h : Cnd M bn a b) : ∀ n, m_ah M a bn n + (if a < n then 1 else 0) ≤ m_ah M b bn n
  | 0 => by
    show 0 + (if a < 0 then 1 else 0) ≤ 0
    rw [if_neg (by omega)]; omega
  | n + 1 => by
    have ih := ah_mono h n
    rw [m_ah_s, m_ah_s]
    by_cases e : n = a
    · subst e
      rw [if_neg (Nat.lt_irrefl n)] at ih
      rw [if_neg (fun z => c_irr z), if_pos h, if_pos (by omega)]; omega
    · have e2 : (if a < n + 1 then 1 else 0) = (if a < n then 1 else 0) := by
        by_cases q : a < n
        · rw [if_pos q, if_pos (by omega)]
        · rw [if_neg q, if_neg (by omega)]
      rw [e2]
      by_cases c1 : Cnd M bn n a
      · rw [if_pos c1, if_pos (c_trans c1 h)]; omega
      · rw [if_neg c1]; omega
theorem ah_self {M : Mem} {bn : Bool} {t : Nat} : ∀ n, m_ah M t bn n + (if t < n then 1 else 0) ≤ n
  | 0 => by
    show 0 + (if t < 0 then 1 else 0) ≤ 0
    rw [if_neg (by omega)]; omega
  | n + 1 => by
    have ih := ah_self (M := M) (bn := bn) (t := t) n
    rw [m_ah_s]
    by_cases e : n = t
    · subst e
      rw [if_neg (Nat.lt_irrefl n)] at ih
      rw [if_neg (fun z => c_irr z), if_pos (by omega)]; omega
    · have e2 : (if t < n + 1 then 1 else 0) = (if t < n then 1 else 0) := by
        by_cases q : t < n
        · rw [if_pos q, if_pos (by omega)]
        · rw [if_neg q, if_neg (by omega)]
      rw [e2]
      split <;> omega
theorem ah_inj {M : Mem} {a b T : Nat} (ha : a < T) (hb : b < T) (h : m_ah M a true T = m_ah M b true T) : a = b := by
  apply Classical.byContradiction
  intro q
  rcases c_tri M q with c | c
  · have := ah_mono c T
    rw [if_pos ha] at this; omega
  · have := ah_mono c T
    rw [if_pos hb] at this; omega
theorem ah_same {M : Mem} {a b : Nat} (h : m_score M a = m_score M b ∧ m_last M a = m_last M b) : ∀ n, m_ah M a false n = m_ah M b false n
  | 0 => rfl
  | n + 1 => by
    have e : Cnd M false n a ↔ Cnd M false n b := by
      unfold Cnd
      rw [h.1, h.2]
      simp only [Bool.false_eq_true, false_and, and_false]
    rw [m_ah_s, m_ah_s, ah_same h n]
    by_cases c : Cnd M false n a
    · rw [if_pos c, if_pos (e.mp c)]
    · rw [if_neg c, if_neg (fun z => c (e.mpr z))]
theorem ah_iff {M : Mem} {a b T : Nat} (ha : a < T) (hb : b < T) : m_ah M a false T = m_ah M b false T ↔ m_score M a = m_score M b ∧ m_last M a = m_last M b := by
  constructor
  · intro h
    apply Classical.byContradiction
    intro q
    rcases c_tri0 M q with c | c
    · have := ah_mono c T
      rw [if_pos ha] at this; omega
    · have := ah_mono c T
      rw [if_pos hb] at this; omega
  · exact fun h => ah_same h T
theorem r_better {S M : Mem} (h : Rel S M) {t : Nat} (ht : t < cT S) : ∀ n, n ≤ cT S → p_better (p_rate S (cT S)) t n = m_ah M t false n
  | 0, _ => rfl
  | n + 1, hn => by
    obtain ⟨a1, a2⟩ := rate_val h _ (Nat.le_refl _) t ht
    obtain ⟨b1, b2⟩ := rate_val h _ (Nat.le_refl _) n (by omega)
    have e : p_better (p_rate S (cT S)) t (n + 1) = if p_rate S (cT S) 32 t < p_rate S (cT S) 32 n ∨ (p_rate S (cT S) 32 n = p_rate S (cT S) 32 t ∧ p_rate S (cT S) 33 n < p_rate S (cT S) 33 t) then p_better (p_rate S (cT S)) t n + 1 else p_better (p_rate S (cT S)) t n := rfl
    have e2 : Cnd M false n t ↔ (m_score M t < m_score M n ∨ (m_score M n = m_score M t ∧ m_last M n < m_last M t)) := by
      unfold Cnd
      simp only [Bool.false_eq_true, false_and, and_false, or_false]
    rw [e, a1, a2, b1, b2, m_ah_s, r_better h ht n (by omega)]
    by_cases c : m_score M t < m_score M n ∨ (m_score M n = m_score M t ∧ m_last M n < m_last M t)
    · rw [if_pos c, if_pos (e2.mpr c)]
    · rw [if_neg c, if_neg (fun z => c (e2.mp z)), Nat.add_zero]
theorem p_alike_s {S M : Mem} (h : Rel S M) {t n : Nat} (ht : t < cT S) (hn : n < cT S) : p_alike (p_rate S (cT S)) t (n + 1) = if m_score M n = m_score M t ∧ m_last M n = m_last M t then p_alike (p_rate S (cT S)) t n + 1 else p_alike (p_rate S (cT S)) t n := by
  obtain ⟨a1, a2⟩ := rate_val h _ (Nat.le_refl _) t ht
  obtain ⟨b1, b2⟩ := rate_val h _ (Nat.le_refl _) n hn
  rw [← a1, ← a2, ← b1, ← b2]; rfl
theorem r_aheadN {S M : Mem} (h : Rel S M) {t : Nat} (ht : t < cT S) : ∀ n, n ≤ cT S → m_ah M t true n = p_better (p_rate S (cT S)) t n + p_alike (p_rate S (cT S)) t (if n < t then n else t)
  | 0, _ => by
    have e : (if 0 < t then 0 else t) = 0 := by
      by_cases q : 0 < t
      · rw [if_pos q]
      · rw [if_neg q]; omega
    rw [e]; rfl
  | n + 1, hn => by
    have ih := r_aheadN h ht n (by omega)
    rw [m_ah_s, ih, r_better h ht n (by omega), r_better h ht (n + 1) hn, m_ah_s]
    have c0 : Cnd M true n t ↔ Cnd M false n t ∨ (m_score M n = m_score M t ∧ m_last M n = m_last M t ∧ n < t) := by
      rw [c_iff, c_iff, ← Int32.toInt_inj, ← Int32.toInt_inj]
      simp only [Bool.false_eq_true, false_and, and_false, or_false, true_and]
      omega
    have c1 : Cnd M false n t → ¬ (m_score M n = m_score M t ∧ m_last M n = m_last M t) := fun z q => by
      rw [c_iff, q.1, q.2] at z
      rcases z with z | ⟨_, z | ⟨_, z, _⟩⟩
      · omega
      · omega
      · cases z
    by_cases q : n < t
    · have e1 : (if n < t then n else t) = n := if_pos q
      have e2 : (if n + 1 < t then n + 1 else t) = n + 1 := by
        by_cases q2 : n + 1 < t
        · rw [if_pos q2]
        · rw [if_neg q2]; omega
      rw [e1, e2, p_alike_s h ht (by omega)]
      by_cases d1 : Cnd M false n t
      · rw [if_pos (c0.mpr (.inl d1)), if_pos d1, if_neg (c1 d1)]; omega
      · by_cases d2 : m_score M n = m_score M t ∧ m_last M n = m_last M t
        · rw [if_pos (c0.mpr (.inr ⟨d2.1, d2.2, q⟩)), if_neg d1, if_pos d2]; omega
        · rw [if_neg (fun z => (c0.mp z).elim d1 (fun y => d2 ⟨y.1, y.2.1⟩)), if_neg d1, if_neg d2]; omega
    · have e1 : (if n < t then n else t) = t := if_neg q
      have e2 : (if n + 1 < t then n + 1 else t) = t := if_neg (by omega)
      rw [e1, e2]
      by_cases d1 : Cnd M false n t
      · rw [if_pos (c0.mpr (.inl d1)), if_pos d1]; omega
      · rw [if_neg (fun z => (c0.mp z).elim d1 (fun y => q y.2.2)), if_neg d1]; omega
theorem r_ahead {S M : Mem} (h : Rel S M) {t : Nat} (ht : t < cT S) : p_better (p_rate S (cT S)) t (cT S) + p_alike (p_rate S (cT S)) t t = m_ahead M t true := by
  have e := r_aheadN h ht (cT S) (Nat.le_refl _)
  rw [if_neg (show ¬ cT S < t by omega)] at e
  rw [m_ahead, h.T, e]
theorem r_ahead0 {S M : Mem} (h : Rel S M) {t : Nat} (ht : t < cT S) : p_better (p_rate S (cT S)) t (cT S) = m_ahead M t false := by rw [r_better h ht _ (Nat.le_refl _), m_ahead, h.T]
/-- one place is found from either end -/
theorem tat_m {M : Mem} {x : Int32} {t : Nat} : ∀ n, t < n → nI (m_ahead M t true) = x → (∀ o, o < n → nI (m_ahead M o true) = x → o = t) → m_tat M x n = nI t
  | 0, h, _, _ => absurd h (by omega)
  | n + 1, h, hx, hu => by
    show (if nI (m_ahead M n true) = x then nI n else m_tat M x n) = nI t
    by_cases c : nI (m_ahead M n true) = x
    · rw [if_pos c, hu n (by omega) c]
    · rw [if_neg c]
      have ne : ¬ t = n := fun e => by subst e; exact c hx
      exact tat_m n (by omega) hx (fun o ho => hu o (by omega))
theorem tat_m0 {M : Mem} {x : Int32} : ∀ n, (∀ o, o < n → ¬ nI (m_ahead M o true) = x) → m_tat M x n = -1
  | 0, _ => rfl
  | n + 1, h => by
    show (if nI (m_ahead M n true) = x then nI n else m_tat M x n) = -1
    rw [if_neg (h n (by omega))]
    exact tat_m0 n (fun o ho => h o (by omega))
theorem tat_p {c : Nat → Bool} {T t : Nat} (ht : t < T) (hx : c t = true) (hu : ∀ o, o < T → c o = true → o = t) : ∀ n, n ≤ T → T - n ≤ t → p_tat c T n = nI t
  | 0, _, h => absurd h (by omega)
  | n + 1, hn, h => by
    show (if c (T - (n + 1)) = true then nI (T - (n + 1)) else p_tat c T n) = nI t
    by_cases q : c (T - (n + 1)) = true
    · rw [if_pos q, hu _ (by omega) q]
    · rw [if_neg q]
      have ne : ¬ T - (n + 1) = t := fun e => by rw [e] at q; exact q hx
      exact tat_p ht hx hu n (by omega) (by omega)
theorem tat_p0 {c : Nat → Bool} {T : Nat} (h : ∀ o, o < T → c o = false) : ∀ n, n ≤ T → p_tat c T n = -1
  | 0, _ => rfl
  | n + 1, hn => by
    show (if c (T - (n + 1)) = true then nI (T - (n + 1)) else p_tat c T n) = -1
    rw [h _ (by omega), if_neg (by decide)]
    exact tat_p0 h n (by omega)
theorem r_at {S M : Mem} (h : Rel S M) (x : Int32) : (oAt S x).2.1 = m_tat M x (mT M) := by
  have hT := h.inv.i0.T8
  have hle : ∀ o, o < cT S → m_ahead M o true < cT S := fun o ho => by
    have := ah_self (M := M) (bn := true) (t := o) (cT S)
    rw [if_pos ho] at this
    rw [m_ahead, h.T]; omega
  rw [h.T]
  unfold oAt
  by_cases c : okn x (cT S) = true
  · rw [if_pos c]
    have ca : ∀ o, o < cT S → p_at (p_rate S (cT S)) x o = decide (nI (m_ahead M o true) = x) := fun o ho => by
      unfold p_at
      rw [cT_rate, r_ahead h ho]
    by_cases q : ∃ t, t < cT S ∧ nI (m_ahead M t true) = x
    · obtain ⟨t, ht, hx⟩ := q
      have hu : ∀ o, o < cT S → nI (m_ahead M o true) = x → o = t := fun o ho e => by
        have l1 := hle o ho
        have l2 := hle t ht
        have := n_eq (by omega) (by omega) (e.trans hx.symm)
        rw [m_ahead, m_ahead, h.T] at this
        exact ah_inj ho ht this
      rw [tat_m _ ht hx hu]
      exact tat_p ht (by rw [ca t ht, decide_eq_true hx]) (fun o ho e => hu o ho (of_decide_eq_true ((ca o ho).symm.trans e))) _ (Nat.le_refl _) (by omega)
    · have q' : ∀ o, o < cT S → ¬ nI (m_ahead M o true) = x := fun o ho e => q ⟨o, ho, e⟩
      rw [tat_m0 _ q']
      exact tat_p0 (fun o ho => by rw [ca o ho, decide_eq_false (q' o ho)]) _ (Nat.le_refl _)
  · rw [if_neg c]
    have q' : ∀ o, o < cT S → ¬ nI (m_ahead M o true) = x := fun o ho e => by
      have l1 := hle o ho
      rw [← e, okn_nI (by omega), decide_eq_true l1] at c
      exact c rfl
    rw [tat_m0 _ q']
/-! prizes -/
theorem r_pm {S M : Mem} (h : Rel S M) {t : Nat} (ht : t < cT S) : ∀ n, n ≤ cT S → m_pm M (m_ahead M t false) n = p_alike (p_rate S (cT S)) t n
  | 0, _ => rfl
  | n + 1, hn => by
    have e : m_ahead M n false = m_ahead M t false ↔ m_score M n = m_score M t ∧ m_last M n = m_last M t := by
      rw [m_ahead, m_ahead, h.T]; exact ah_iff (by omega) ht
    show (if m_ahead M n false = m_ahead M t false then m_pm M (m_ahead M t false) n + 1 else m_pm M (m_ahead M t false) n) = _
    rw [p_alike_s h ht (by omega), r_pm h ht n (by omega)]
    by_cases c : m_score M n = m_score M t ∧ m_last M n = m_last M t
    · rw [if_pos c, if_pos (e.mpr c)]
    · rw [if_neg c, if_neg (fun z => c (e.mp z))]
theorem r_ps {S M : Mem} (h : Rel S M) (f : Nat) : ∀ n, m_ps M f n = p_prz (p_rate S (cT S)) f (m_pm M f n)
  | 0 => rfl
  | n + 1 => by
    have e34 : p_rate S (cT S) 34 = M 15 := (fr_rate (by omega) _).trans h.e34
    show (if m_ahead M n false = f then m_ps M f n + M 15 (f + m_pm M f n) else m_ps M f n) = p_prz (p_rate S (cT S)) f (if m_ahead M n false = f then m_pm M f n + 1 else m_pm M f n)
    by_cases c : m_ahead M n false = f
    · rw [if_pos c, if_pos c, r_ps h f n, ← e34]; rfl
    · rw [if_neg c, if_neg c, r_ps h f n]
theorem alike_pos {S M : Mem} (h : Rel S M) {t : Nat} (ht : t < cT S) : ∀ n, t < n → n ≤ cT S → 0 < p_alike (p_rate S (cT S)) t n
  | 0, h1, _ => absurd h1 (by omega)
  | n + 1, h1, h2 => by
    rw [p_alike_s h ht (by omega)]
    by_cases c : m_score M n = m_score M t ∧ m_last M n = m_last M t
    · rw [if_pos c]; omega
    · rw [if_neg c]
      have ne : ¬ t = n := fun e => by subst e; exact c ⟨rfl, rfl⟩
      exact alike_pos h ht n (by omega) (by omega)
theorem r_prize {S M : Mem} (h : Rel S M) {t : Nat} (ht : t < cT S) : hPrize (p_rate S (cT S)) t = m_ps M (m_ahead M t false) (mT M) / nI (m_pm M (m_ahead M t false) (mT M)) := by
  have hp := alike_pos h ht (cT S) ht (Nat.le_refl _)
  unfold hPrize
  rw [cT_rate, if_pos hp, h.T, r_ps h, r_pm h ht _ (Nat.le_refl _), r_ahead0 h ht]
end
end
section
section
/-! call by call: class and model say the same and stay related (all but hint, answer, scoreAnew) -/
def Sim (xs : List String) (S : Mem) (o : Out) (m : MO) : Prop := (o.1 = none ∧ m.2.1 = 0 ∧ o.2.1 = m.1 ∧ Rel o.2.2 m.2.2) ∨ ∃ k E, xs[k]? = some E ∧ o.1 = some E ∧ m.2.1 = nI (k + 1) ∧ Rel S m.2.2
theorem okr_of {x : Int32} {a b : Nat} (ha : a < 2 ^ 31) (hb : b < 2 ^ 31) (h : okr x (nI a) (nI b) = true) : ∃ m, a ≤ m ∧ m ≤ b ∧ x = nI m := by
  simp only [okr, Bool.and_eq_true, decide_eq_true_eq] at h
  obtain ⟨h1, h2⟩ := h
  rw [Int32.lt_iff_toInt_lt, nI_toInt ha] at h1
  rw [Int32.le_iff_toInt_le, nI_toInt hb] at h2
  obtain ⟨j, hj, e⟩ := nI_of (x := x) (by rw [Int32.lt_iff_toInt_lt, Int32.toInt_zero]; omega)
  subst e
  rw [nI_toInt hj] at h1 h2
  exact ⟨j, by omega, by omega, rfl⟩
theorem sim_2 {S M : Mem} (h : Rel S M) {xs : List String} {x y : Int32} {n1 n2 : Nat} {f : Nat → Nat → Out} {g : Nat → Nat → MO} (hx : xs[0]? = some xI) (h1 : n1 ≤ 16) (h2 : n2 ≤ 16) (hf : ∀ t r, t < n1 → r < n2 → Sim xs S (f t r) (g t r)) : Sim xs S (if okn x n1 = true then (if okn y n2 = true then f (iN x) (iN y) else (some xI, 0, S)) else (some xI, 0, S)) (mm2 M x y n1 n2 g) := by
  unfold mm2
  by_cases c1 : okn x n1 = true
  · rw [if_pos c1, if_pos c1]
    by_cases c2 : okn y n2 = true
    · rw [if_pos c2, if_pos c2]
      obtain ⟨t, ht, e1⟩ := okn_t c1
      obtain ⟨r, hr, e2⟩ := okn_t c2
      rw [e1, e2, iN_nI (by omega), iN_nI (by omega)]
      exact hf t r ht hr
    · rw [if_neg c2, if_neg c2]; exact .inr ⟨0, xI, hx, rfl, rfl, h⟩
  · rw [if_neg c1, if_neg c1]; exact .inr ⟨0, xI, hx, rfl, rfl, h⟩
theorem sim_1 {S M : Mem} (h : Rel S M) {xs : List String} {x : Int32} {n1 : Nat} {f : Nat → Out} {g : Nat → MO} (hx : xs[0]? = some xI) (h1 : n1 ≤ 16) (hf : ∀ t, t < n1 → Sim xs S (f t) (g t)) : Sim xs S (if okn x n1 = true then f (iN x) else (some xI, 0, S)) (mm1 M x n1 g) := by
  unfold mm1
  by_cases c1 : okn x n1 = true
  · rw [if_pos c1, if_pos c1]
    obtain ⟨t, ht, e1⟩ := okn_t c1
    rw [e1, iN_nI (by omega)]
    exact hf t ht
  · rw [if_neg c1, if_neg c1]; exact .inr ⟨0, xI, hx, rfl, rfl, h⟩
theorem T16 {S : Mem} (h : Inv S) : cT S ≤ 16 := Nat.le_trans h.i0.T8 (by omega)
theorem sim_o2 {S M : Mem} (h : Rel S M) {xs : List String} {x y : Int32} {f : Nat → Nat → Out} {g : Nat → Nat → MO} (hx : xs[0]? = some xI) (hf : ∀ t r, t < cT S → r < cR S → Sim xs S (f t r) (g t r)) : Sim xs S (o2 S x y f) (mm2 M x y (cT S) (cR S) g) := sim_2 (f := f) h hx (T16 h.inv) h.inv.i0.R16 hf
theorem sim_oTT {S M : Mem} (h : Rel S M) {xs : List String} {x y : Int32} {f : Nat → Nat → Out} {g : Nat → Nat → MO} (hx : xs[0]? = some xI) (hf : ∀ t r, t < cT S → r < cT S → Sim xs S (f t r) (g t r)) : Sim xs S (oTT S x y f) (mm2 M x y (cT S) (cT S) g) := sim_2 (f := f) h hx (T16 h.inv) (T16 h.inv) hf
/-! readers -/
theorem sim_now {S M : Mem} (h : Rel S M) : Sim [] S (oNow S) (mNow M) := .inl ⟨rfl, rfl, h.eW, h⟩
theorem sim_price {S M : Mem} (h : Rel S M) (x y : Int32) : Sim [xI, xN] S (oPrice S x y) (mPrice M x y) := by
  unfold oPrice mPrice
  rw [h.T, h.R]
  refine sim_o2 h rfl fun t r ht hr => ?_
  have hT := h.inv.i0.T8
  have hR := h.inv.i0.R16
  rw [r_open h ht (by omega), r_price h ht (by omega)]
  by_cases c1 : m_opened M t r = -1
  · rw [if_pos c1, if_pos c1]; exact .inr ⟨1, xN, rfl, rfl, rfl, h⟩
  · rw [if_neg c1, if_neg c1]
    have b3 := h.inv.i0.bo3 (c := t * 16 + r) (by omega)
    have bn := h.inv.i0.bo (c := t * 16 + r) (by omega)
    rw [ix16, ← h.e13]
    unfold p_left
    by_cases c2 : S 13 (t * 16 + r) = 3
    · rw [if_pos c2, c2, if_neg (by decide)]; exact .inr ⟨1, xN, rfl, rfl, rfl, h⟩
    · have l : S 13 (t * 16 + r) < 3 := by
        rw [bn]
        refine (nI_ltI (b := 3) (by omega) (by omega)).mpr ?_
        have : iN (S 13 (t * 16 + r)) ≠ 3 := fun z => c2 (by rw [bn, z]; rfl)
        omega
      rw [if_neg c2, decide_eq_true l, if_pos rfl]
      exact .inl ⟨rfl, rfl, rfl, h⟩
theorem sim_opened {S M : Mem} (h : Rel S M) (x y : Int32) : Sim [xI] S (oOpened S x y) (mOpened M x y) := by
  unfold oOpened mOpened
  rw [h.T, h.R]
  refine sim_o2 h rfl fun t r ht hr => ?_
  have hR := h.inv.i0.R16
  rw [r_open h ht (by omega)]
  exact .inl ⟨rfl, rfl, rfl, h⟩
theorem sim_solved {S M : Mem} (h : Rel S M) (x y : Int32) : Sim [xI] S (oSolved S x y) (mSolved M x y) := by
  unfold oSolved mSolved
  rw [h.T, h.R]
  refine sim_o2 h rfl fun t r ht hr => ?_
  have hR := h.inv.i0.R16
  have es := h.sol t r ht (by omega)
  refine .inl ⟨rfl, rfl, ?_, h⟩
  show (if hs (S 19 t) (nI r) = true then S 21 (t * 16 + r) else -1) = M 6 (16 * t + r)
  rw [hs_B (by omega)]
  by_cases c : B (S 19 t) r = true
  · rw [if_pos c]; exact es.2 c
  · rw [if_neg c]
    apply Classical.byContradiction
    intro q
    exact c ((r_so h ht (by omega)).mpr (fun z => q z.symm))
theorem sim_free {S M : Mem} (h : Rel S M) (x : Int32) : Sim [xI] S (oFree S x) (mFree M x) := by
  unfold mFree
  rw [h.R]
  refine sim_1 (f := fun r => (none, bI (hs (p_free S 18 (cT S)) (nI r)), S)) h rfl h.inv.i0.R16 fun r hr => ?_
  have hR := h.inv.i0.R16
  refine .inl ⟨rfl, rfl, ?_, h⟩
  show bI (hs (p_free S 18 (cT S)) (nI r)) = bI (m_free M r)
  rw [hs_B (by omega), r_free h (by omega)]
theorem sim_like {S M : Mem} (h : Rel S M) (x y : Int32) : Sim [xI] S (oLike S x y) (mLike M x y) := by
  unfold oLike mLike
  rw [h.T]
  refine sim_oTT h rfl fun t o ht ho => ?_
  have hT := h.inv.i0.T8
  exact .inl ⟨rfl, rfl, r_like h (by omega) (by omega), h⟩
theorem sim_linked {S M : Mem} (h : Rel S M) (x y : Int32) : Sim [xI] S (oLinked S x y) (mLinked M x y) := by
  unfold oLinked mLinked
  rw [h.T]
  refine sim_oTT h rfl fun t o ht ho => ?_
  have hT := h.inv.i0.T8
  exact .inl ⟨rfl, rfl, congrArg bI (r_links h (by omega) (by omega)), h⟩
theorem hb1_B {x : Int32} {i : Nat} (hi : i < 32) : hb1 x (nI i) = B x i := b1_B hi
theorem sim_cheat {S M : Mem} (h : Rel S M) (x y : Int32) : Sim [xI] S (oCheat S x y) (mCheat M x y) := by
  unfold oCheat mCheat
  rw [h.T, h.R]
  refine sim_o2 h rfl fun t r ht hr => ?_
  have hR := h.inv.i0.R16
  refine .inl ⟨rfl, rfl, congrArg bI ?_, h⟩
  rw [r_cheat h ht, hs_B (by omega), hb1_B (by omega)]
theorem sim_void {S M : Mem} (h : Rel S M) (x y : Int32) : Sim [xI] S (oVoid S x y) (mVoid M x y) := by
  unfold oVoid mVoid
  rw [h.T, h.R]
  refine sim_o2 h rfl fun t r ht hr => ?_
  have hR := h.inv.i0.R16
  refine .inl ⟨rfl, rfl, congrArg bI ?_, h⟩
  rw [r_void h ht, hs_B (by omega), hb1_B (by omega)]
theorem sim_hang {S M : Mem} (h : Rel S M) (x : Int32) : Sim [xI] S (oHang S x) (mHang M x) := by
  unfold mHang
  rw [h.R]
  refine sim_1 (f := fun r => (none, p_hang S r, S)) h rfl h.inv.i0.R16 fun r hr => ?_
  exact .inl ⟨rfl, rfl, r_hang h hr, h⟩
theorem sim_score {S M : Mem} (h : Rel S M) (x : Int32) : Sim [xI] S (oScore S x) (mScore M x) := by
  unfold mScore
  rw [h.T]
  refine sim_1 (f := fun t => (none, p_sumUp S 18 t (p_count S 18 t), S)) h rfl (T16 h.inv) fun t ht => ?_
  exact .inl ⟨rfl, rfl, r_score h ht, h⟩
theorem sim_place {S M : Mem} (h : Rel S M) (x : Int32) : Sim [xI] S (oPlace S x) (mPlace M x) := by
  unfold mPlace
  rw [h.T]
  refine sim_1 (f := fun t => (none, nI (1 + p_better (p_rate S (cT S)) t (cT (p_rate S (cT S)))), p_rate S (cT S))) h rfl (T16 h.inv) fun t ht => ?_
  refine .inl ⟨rfl, rfl, ?_, Rel_rate h _⟩
  show nI (1 + p_better (p_rate S (cT S)) t (cT (p_rate S (cT S)))) = nI (1 + m_ahead M t false)
  rw [cT_rate, r_ahead0 h ht]
theorem sim_at {S M : Mem} (h : Rel S M) (x : Int32) : Sim [] S (oAt S x) (mAt M x) := by
  refine .inl ⟨?_, rfl, r_at h x, ?_⟩
  · unfold oAt; split <;> rfl
  · show Rel (oAt S x).2.2 M
    unfold oAt
    split
    · exact Rel_rate h _
    · exact h
theorem sim_prize {S M : Mem} (h : Rel S M) (x : Int32) : Sim [xI, xS] S (oPrize S x) (mPrize M x) := by
  unfold mPrize
  rw [h.T]
  refine sim_1 (f := fun t => if S 0 11 = 0 then (some xS, 0, S) else (none, hPrize (p_rate S (cT S)) t, p_rate S (cT S))) h rfl (T16 h.inv) fun t ht => ?_
  rw [← h.eE]
  by_cases c : S 0 11 = 0
  · rw [if_pos c, if_pos c]; exact .inr ⟨1, xS, rfl, rfl, rfl, h⟩
  · rw [if_neg c, if_neg c]
    refine .inl ⟨rfl, rfl, ?_, Rel_rate h _⟩
    have := r_prize h ht
    rw [h.T] at this
    exact this
/-! writers of one cell -/
theorem sim_pass {S M : Mem} (h : Rel S M) (x : Int32) : Sim [xA, xS] S (oPass S x) (mPass M x) := by
  unfold oPass mPass
  by_cases c : okr x 1 500 = true
  · rw [if_pos c, if_pos c]
    obtain ⟨m, h1, h2, e⟩ := okr_of (a := 1) (b := 500) (by omega) (by omega) c
    obtain ⟨n, hn, en⟩ := h.inv.now
    have q1 : x ≤ 20000 - S 0 10 ↔ m ≤ 20000 - n := by
      rw [e, en, show (20000 : Int32) = nI 20000 from rfl, pk_sub hn]
      exact nI_leI (by omega) (by omega)
    have q2 : M 0 0 + x ≤ 20000 ↔ n + m ≤ 20000 := by
      rw [e, ← h.eW, en, show (20000 : Int32) = nI 20000 from rfl, nI_add]
      exact nI_leI (by omega) (by omega)
    by_cases c2 : n + m ≤ 20000
    · rw [if_pos (q1.mpr (by omega)), if_pos (q2.mpr c2)]
      have ew : S 0 10 + x = M 0 0 + x := by rw [h.eW]
      refine .inl ⟨rfl, rfl, ew, ?_⟩
      have hi := h.inv
      have hI : Inv (st S 0 10 (S 0 10 + x)) := ⟨⟨I0_0 (by decide) hi.i0, ⟨n + m, c2, by rw [st_at, en, e, nI_add]⟩, hi.need, hi.log, hi.bo, hi.tou⟩, ⟨hi.sol, hi.soon⟩, ⟨hi.like, hi.comm⟩, iRep_same hi ⟨⟨rfl, rfl, rfl⟩, ⟨rfl, rfl, rfl, rfl⟩, ⟨rfl, rfl, rfl⟩, rfl⟩, hi.pay⟩
      exact ⟨hI, ⟨⟨h.2.1.1.1, ew, h.eE, h.eB⟩, h.2.1.2⟩, h.2.2⟩
    · rw [if_neg (fun z => c2 (by have := q1.mp z; omega)), if_neg (fun z => c2 (q2.mp z))]
      exact .inr ⟨1, xS, rfl, rfl, rfl, h⟩
  · rw [if_neg c, if_neg c]; exact .inr ⟨0, xA, rfl, rfl, rfl, h⟩
theorem sim_end {S M : Mem} (h : Rel S M) : Sim [xS] S (oEnd S) (mEnd M) := by
  unfold oEnd mEnd
  rw [← h.eE]
  by_cases c : S 0 11 = 0
  · rw [if_pos c, if_pos c]
    have hi := h.inv
    have hI : Inv (st S 0 11 1) := ⟨⟨I0_0 (by decide) hi.i0, hi.now, hi.need, hi.log, hi.bo, hi.tou⟩, ⟨hi.sol, hi.soon⟩, ⟨hi.like, hi.comm⟩, iRep_same hi ⟨⟨rfl, rfl, rfl⟩, ⟨rfl, rfl, rfl, rfl⟩, ⟨rfl, rfl, rfl⟩, rfl⟩, hi.pay⟩
    have hR : Rel (st S 0 11 1) (st M 0 1 1) := ⟨hI, ⟨⟨h.2.1.1.1, h.eW, rfl, h.eB⟩, h.2.1.2⟩, h.2.2⟩
    exact .inl ⟨rfl, rfl, r_ends hR, hR⟩
  · rw [if_neg c, if_neg c]; exact .inr ⟨0, xS, rfl, rfl, rfl, h⟩
theorem sim_bound {S M : Mem} (h : Rel S M) (x : Int32) : Sim [xA] S (oBound S x) (mBound M x) := by
  unfold oBound mBound
  by_cases c : okr x 1 20 = true
  · rw [if_pos c, if_pos c]
    have hi := h.inv
    have hI : Inv (st S 15 2 x) := ⟨⟨I0_2 (by omega) hi.i0, hi.now, hi.need, hi.log, hi.bo, hi.tou⟩, ⟨hi.sol, hi.soon⟩, ⟨hi.like, hi.comm⟩, iRep_same hi ⟨⟨rfl, rfl, rfl⟩, ⟨rfl, rfl, rfl, rfl⟩, ⟨rfl, rfl, rfl⟩, rfl⟩, hi.pay⟩
    exact .inl ⟨rfl, rfl, h.eB, hI, ⟨⟨h.2.1.1.1, h.eW, h.eE, rfl⟩, h.2.1.2⟩, h.2.2⟩
  · rw [if_neg c, if_neg c]; exact .inr ⟨0, xA, rfl, rfl, rfl, h⟩
theorem sim_setP {S M : Mem} (h : Rel S M) (x y : Int32) : Sim [xA] S (oSetP S x y) (mSetP M x y) := by
  unfold oSetP mSetP
  by_cases c : okr x 1 8 = true
  · rw [if_pos c, if_pos c]
    by_cases c2 : okr y 0 1000 = true
    · rw [if_pos c2, if_pos c2]
      have hi := h.inv
      have hI : Inv (st S 34 (iN (x - 1)) y) := ⟨⟨I0_2 (by omega) hi.i0, hi.now, hi.need, hi.log, hi.bo, hi.tou⟩, ⟨hi.sol, hi.soon⟩, ⟨hi.like, hi.comm⟩, iRep_same hi ⟨⟨rfl, rfl, rfl⟩, ⟨rfl, rfl, rfl, rfl⟩, ⟨rfl, rfl, rfl⟩, rfl⟩, hi.pay⟩
      have e : st S 34 (iN (x - 1)) y 34 = st M 15 (iN (x - 1)) y 15 := by rw [st_same, st_same, h.e34]
      exact .inl ⟨rfl, rfl, by rw [h.e34], hI, ⟨h.2.1.1, h.2.1.2.1, h.2.1.2.2.1, h.e13, h.e22, e⟩, h.2.2⟩
    · rw [if_neg c2, if_neg c2]; exact .inr ⟨0, xA, rfl, rfl, rfl, h⟩
  · rw [if_neg c, if_neg c]; exact .inr ⟨0, xA, rfl, rfl, rfl, h⟩
theorem rBit_set {a m : Fn} (h : rBit a m) {t r : Nat} {v : Int32} (ht : t < 8) (hr : r < 16) (hv : ¬ v = 0) : rBit (upd a t (a t ||| bt (nI r))) (upd m (16 * t + r) v) := by
  intro t' r' ht' hr'
  by_cases e1 : t' = t
  · subst e1
    rw [pk_us, B_or1 (by omega), h t' r' ht' hr']
    by_cases e2 : r' = r
    · subst e2; rw [pk_us, decide_eq_false hv, decide_eq_true rfl, Bool.or_true]; rfl
    · rw [pk_un (by omega), decide_eq_false e2, Bool.or_false]
  · rw [pk_un e1, h t' r' ht' hr', pk_un (by omega)]
theorem sim_clear {S M : Mem} (h : Rel S M) (x y : Int32) : Sim [xI, xS] S (oClear S x y) (mClear M x y) := by
  unfold oClear mClear
  rw [h.T, h.R]
  refine sim_o2 h rfl fun t r ht hr => ?_
  have hT := h.inv.i0.T8
  have hR := h.inv.i0.R16
  rw [hs_B (by omega), hs_B (by omega), h.ts t r (by omega) (by omega), h.cl t r (by omega) (by omega)]
  by_cases c1 : M 7 (16 * t + r) = 0
  · rw [if_pos c1, decide_eq_true c1, if_neg (by decide)]; exact .inr ⟨1, xS, rfl, rfl, rfl, h⟩
  · rw [if_neg c1, decide_eq_false c1, if_pos (by decide)]
    by_cases c2 : M 8 (16 * t + r) = 0
    · rw [if_pos c2, decide_eq_true c2, if_neg (by decide)]
      have hi := h.inv
      have hI : Inv (clrM S t r) := ⟨⟨I0_2 (by omega) hi.i0, hi.now, hi.need, hi.log, hi.bo, hi.tou⟩, ⟨hi.sol, hi.soon⟩, ⟨hi.like, hi.comm⟩, iRep_same hi ⟨⟨rfl, rfl, rfl⟩, ⟨rfl, rfl, rfl, rfl⟩, ⟨rfl, rfl, rfl⟩, rfl⟩, hi.pay⟩
      have hcl : rBit (clrM S t r 16) (mclrM M t r 8) := rBit_set h.cl (by omega) (by omega) (by decide)
      have hRl : Rel (clrM S t r) (mclrM M t r) := ⟨hI, h.2.1, h.sol, h.ts, hcl, h.par⟩
      refine .inl ⟨rfl, rfl, congrArg bI ?_, hRl⟩
      rw [hs_B (by omega), r_free hRl (by omega)]
    · rw [if_neg c2, decide_eq_false c2, if_pos (by decide)]; exact .inr ⟨1, xS, rfl, rfl, rfl, h⟩
theorem B_xbt {x : Int32} {j : Nat} (hj : j < 32) (i : Nat) : B (x ^^^ bt (nI j)) i = (B x i ^^ decide (i = j)) := by rw [B_xor, B_btA hj]
theorem rPar_set {a m : Fn} (h : rPar a m) {t o : Nat} (ht : t < 8) (ho : o < 8) (hne : ¬ t = o) {x : Int32} (hx : decide (x = 0) = !(decide (m (8 * t + o) = 0))) : rPar (upd (upd a t (a t ^^^ bt (nI o))) o (a o ^^^ bt (nI t))) (upd (upd m (8 * t + o) x) (8 * o + t) x) := by
  have key : ∀ i j, i < 8 → j < 8 → upd (upd m (8 * t + o) x) (8 * o + t) x (8 * i + j) = if (i = t ∧ j = o) ∨ (i = o ∧ j = t) then x else m (8 * i + j) := by
    intro i j hi hj
    by_cases c1 : i = o ∧ j = t
    · rw [c1.1, c1.2, pk_us, if_pos (.inr ⟨rfl, rfl⟩)]
    · rw [pk_un (by omega)]
      by_cases c2 : i = t ∧ j = o
      · rw [c2.1, c2.2, pk_us, if_pos (.inl ⟨rfl, rfl⟩)]
      · rw [pk_un (by omega), if_neg (fun z => z.elim c2 c1)]
  intro i j hi hj
  have hij := h i j hi hj
  have hto := h t o ht ho
  have hot := h o t ho ht
  rw [key i j hi hj, key j i hj hi]
  constructor
  · by_cases e1 : i = o
    · subst e1
      rw [pk_us, B_xbt (by omega), hij.1]
      by_cases e2 : j = t
      · subst e2
        rw [if_pos (.inr ⟨rfl, rfl⟩), decide_eq_true rfl, hx, ← hto.2]
        cases decide (m (8 * j + i) = 0) <;> rfl
      · rw [if_neg (fun z => z.elim (fun y => hne y.1.symm) (fun y => e2 y.2)), decide_eq_false e2, Bool.xor_false]
    · rw [pk_un e1]
      by_cases e3 : i = t
      · subst e3
        rw [pk_us, B_xbt (by omega), hij.1]
        by_cases e2 : j = o
        · subst e2
          rw [if_pos (.inl ⟨rfl, rfl⟩), decide_eq_true rfl, hx]
          cases decide (m (8 * i + j) = 0) <;> rfl
        · rw [if_neg (fun z => z.elim (fun y => e2 y.2) (fun y => e1 y.1)), decide_eq_false e2, Bool.xor_false]
      · rw [pk_un e3, if_neg (fun z => z.elim (fun y => e3 y.1) (fun y => e1 y.1)), hij.1]
  · by_cases c1 : (i = t ∧ j = o) ∨ (i = o ∧ j = t)
    · rw [if_pos c1, if_pos (c1.elim (fun y => .inr ⟨y.2, y.1⟩) (fun y => .inl ⟨y.2, y.1⟩))]
    · rw [if_neg c1, if_neg (fun z => c1 (z.elim (fun y => .inr ⟨y.2, y.1⟩) (fun y => .inl ⟨y.2, y.1⟩))), hij.2]
theorem sim_pardon {S M : Mem} (h : Rel S M) (x y : Int32) : Sim [xI, xA] S (oPardon S x y) (mPardon M x y) := by
  unfold oPardon mPardon
  rw [h.T]
  refine sim_oTT h rfl fun t o ht ho => ?_
  have hT := h.inv.i0.T8
  by_cases c : t = o
  · rw [if_pos c, if_pos c]; exact .inr ⟨1, xA, rfl, rfl, rfl, h⟩
  · rw [if_neg c, if_neg c]
    have hi := h.inv
    have hI : Inv (p_swi S t o) := ⟨⟨I0_2 (by omega) (I0_2 (by omega) hi.i0), hi.now, hi.need, hi.log, hi.bo, hi.tou⟩, ⟨hi.sol, hi.soon⟩, ⟨hi.like, hi.comm⟩, iRep_same hi ⟨⟨rfl, rfl, rfl⟩, ⟨rfl, rfl, rfl, rfl⟩, ⟨rfl, rfl, rfl⟩, rfl⟩, hi.pay⟩
    have e17 : p_swi S t o 17 = upd (upd (S 17) t (S 17 t ^^^ bt (nI o))) o (S 17 o ^^^ bt (nI t)) := by
      show st (st S 17 t (S 17 t ^^^ bt (nI o))) 17 o (st S 17 t (S 17 t ^^^ bt (nI o)) 17 o ^^^ bt (nI t)) 17 = _
      rw [st_same, st_same, pk_un (fun z => c z.symm)]
    have hp := h.par t o (by omega) (by omega)
    have ea : hs (p_swi S t o 17 t) (nI o) = decide (M 14 (8 * t + o) = 0) := by
      rw [e17, pk_un c, pk_us, hs_B (by omega), B_xbt (by omega), hp.1, decide_eq_true rfl]
      cases decide (M 14 (8 * t + o) = 0) <;> rfl
    have hset : ∀ v : Int32, decide (v = 0) = !(decide (M 14 (8 * t + o) = 0)) → Rel (p_swi S t o) (mpard M t o v) := fun v hv => by
      refine ⟨hI, h.2.1, h.sol, h.ts, h.cl, ?_⟩
      rw [e17]
      exact rPar_set h.par (by omega) (by omega) c hv
    by_cases c2 : M 14 (8 * t + o) = 0
    · rw [if_pos c2]
      refine .inl ⟨rfl, rfl, ?_, hset 1 (by rw [decide_eq_true c2]; rfl)⟩
      show bI (hs (p_swi S t o 17 t) (nI o)) = 1
      rw [ea, decide_eq_true c2]; rfl
    · rw [if_neg c2]
      refine .inl ⟨rfl, rfl, ?_, hset 0 (by rw [decide_eq_false c2]; rfl)⟩
      show bI (hs (p_swi S t o 17 t) (nI o)) = 0
      rw [ea, decide_eq_false c2]; rfl
end
end
section
section
/-! addRiddle, need, addTeam, hint -/
theorem lB_congr {g q w ke g' q' w' ke' : Fn} {N t o : Nat} (h : ∀ k, k < N → g' k = g k ∧ q' k = q k ∧ w' k = w k ∧ ke' (iN (q k)) = ke (iN (q k))) : ∀ n, n ≤ N → lB g' q' w' ke' N t o n = lB g q w ke N t o n
  | 0, _ => rfl
  | n + 1, hn => by
    obtain ⟨h1, h2, h3, h4⟩ := h n (by omega)
    have e1 : fB g' q' w' ke' n = fB g q w ke n := fB_congr (fun j hj => ⟨(h j (by omega)).1, (h j (by omega)).2.1, (h j (by omega)).2.2.1⟩) h4
    have e2 : ∀ x r v, gB g' q' w' x r v N = gB g q w x r v N := fun x r v => gB_congr (fun j hj => ⟨(h j hj).1, (h j hj).2.1, (h j hj).2.2.1⟩)
    show lB g' q' w' ke' N t o n + (if g' n = nI t ∧ (fB g' q' w' ke' n && gB g' q' w' (nI o) (q' n) (w' n) N) = true then 1 else 0) = lB g q w ke N t o n + (if g n = nI t ∧ (fB g q w ke n && gB g q w (nI o) (q n) (w n) N) = true then 1 else 0)
    rw [lB_congr h n (by omega), e1, e2, h1, h2, h3]
theorem cP_congr {g q w ke g' q' w' ke' : Fn} {N t o r : Nat} (hr : r < 16) (h : ∀ k, k < N → g' k = g k ∧ q' k = q k ∧ w' k = w k ∧ ke' (iN (q k)) = ke (iN (q k))) : cP g' q' w' ke' N t o r ↔ cP g q w ke N t o r := by
  have e2 : ∀ x r v, gB g' q' w' x r v N = gB g q w x r v N := fun x r v => gB_congr (fun j hj => ⟨(h j hj).1, (h j hj).2.1, (h j hj).2.2.1⟩)
  unfold cP
  have key : ∀ v, gB g q w (nI t) (nI r) v N = true → ke' r = ke r := fun v hv => by
    obtain ⟨k, hk, _, a2, _⟩ := gB_iff.mp hv
    have := (h k hk).2.2.2
    rw [a2, iN_nI (by omega)] at this; exact this
  constructor
  · rintro ⟨v, h1, h2, h3⟩
    rw [e2] at h2 h3
    exact ⟨v, by rw [← key v h2]; exact h1, h2, h3⟩
  · rintro ⟨v, h1, h2, h3⟩
    exact ⟨v, by rw [key v h2]; exact h1, by rw [e2]; exact h2, by rw [e2]; exact h3⟩
theorem iLike_congr {li g q w ke ke' : Fn} {N : Nat} (h : iLike li g q w ke N) (hk : ∀ k, k < N → ke' (iN (q k)) = ke (iN (q k))) : iLike li g q w ke' N := fun t o ht ho => by
  rw [h t o ht ho, lB_congr (g' := g) (q' := q) (w' := w) (ke' := ke') (fun k hk2 => ⟨rfl, rfl, rfl, hk k hk2⟩) N (Nat.le_refl N)]
theorem iComm_congr {co g q w ke ke' : Fn} {N : Nat} (h : iComm co g q w ke N) (hk : ∀ k, k < N → ke' (iN (q k)) = ke (iN (q k))) : iComm co g q w ke' N := fun t o ht ho hne r => by
  rw [h t o ht ho hne r]
  constructor
  · rintro ⟨hr, hc⟩
    exact ⟨hr, (cP_congr (g' := g) (q' := q) (w' := w) (ke' := ke') hr (fun k hk2 => ⟨rfl, rfl, rfl, hk k hk2⟩)).mpr hc⟩
  · rintro ⟨hr, hc⟩
    exact ⟨hr, (cP_congr (g' := g) (q' := q) (w' := w) (ke' := ke') hr (fun k hk2 => ⟨rfl, rfl, rfl, hk k hk2⟩)).mp hc⟩
theorem iRep_gen {S S' : Mem} (h : Inv S) (hN : S' 7 4 = S 7 4) (e19 : S' 19 = S 19 ∧ S' 20 = S 20 ∧ S' 21 = S 21) (hl : S' 8 = S 8 ∧ S' 9 = S 9 ∧ S' 10 = S 10 ∧ S' 11 = S 11) (hk : ∀ k, k < cN S → S' 3 (aR S k) = S 3 (aR S k) ∧ S' 4 (aR S k) = S 4 (aR S k) ∧ S' 6 (aR S k) = S 6 (aR S k)) : iRep S' := by
  obtain ⟨e8, e9, e10, e11⟩ := hl
  obtain ⟨c19, c20, c21⟩ := e19
  have a : cN S' = cN S := by unfold cN; rw [hN]
  unfold iRep
  rw [a]
  have h1 : Eq3 S' 18 S 18 := ⟨fun i _ => ⟨congrFun c19 i, congrFun c20 i⟩, fun i _ => congrFun c21 i⟩
  have h2 := rp_congr (S := S) (S' := S') (cN S) (fun k hk2 => ⟨⟨by rw [e8], by rw [e9], by rw [e10], by rw [e11]⟩, h.i0.xT8 hk2, hk k hk2⟩)
  exact h1.trans (h.rep.trans h2.symm)
theorem aR_lt {S : Mem} (h : Inv S) {k : Nat} (hk : k < cN S) : aR S k < cR S ∧ S 9 k = nI (aR S k) := by
  have hR := h.i0.R16
  obtain ⟨r, hr, e⟩ := (h.log k hk).2
  have : aR S k = r := by unfold aR; rw [e, iN_nI (by omega)]
  rw [this]; exact ⟨hr, e⟩
theorem aT_lt {S : Mem} (h : Inv S) {k : Nat} (hk : k < cN S) : aT S k < cT S ∧ S 8 k = nI (aT S k) := by
  have hT := h.i0.T8
  obtain ⟨r, hr, e⟩ := (h.log k hk).1
  have : aT S k = r := by unfold aT; rw [e, iN_nI (by omega)]
  rw [this]; exact ⟨hr, e⟩
/-! addRiddle -/
theorem I0_R {S : Mem} (h : I0 S) (hR : cR S < 16) : I0 (st S 1 6 (nI (cR S + 1))) := by
  have e : cR (st S 1 6 (nI (cR S + 1))) = cR S + 1 := iN_nI (by omega)
  refine ⟨h.1, ?_, h.2.2.1, h.2.2.2.1, h.2.2.2.2⟩
  rw [e]; exact ⟨rfl, by omega⟩
theorem Inv_addR {S : Mem} (h : Inv S) (hR : cR S < 16) (a b c d : Int32) : Inv (p_addR S a b c d) := by
  have hI : I0 (p_addR S a b c d) := I0_R (S := st (st (st (st S 2 (cR S) a) 3 (cR S) b) 4 (cR S) c) 5 (cR S) d) (I0_2 (by omega) (I0_2 (by omega) (I0_2 (by omega) (I0_2 (by omega) h.i0)))) hR
  have e : cR (p_addR S a b c d) = cR S + 1 := iN_nI (by omega)
  have hk : ∀ k, k < cN S → upd (S 3) (cR S) b (iN (S 9 k)) = S 3 (iN (S 9 k)) := fun k hk => by
    have := (aR_lt h hk).1
    unfold aR at this
    exact pk_un (by omega)
  have e3 : p_addR S a b c d 3 = upd (S 3) (cR S) b := rfl
  have e4 : p_addR S a b c d 4 = upd (S 4) (cR S) c := rfl
  refine ⟨⟨hI, h.now, h.need, ?_, h.bo, ?_⟩, ⟨h.sol, h.soon⟩, ⟨?_, ?_⟩, ?_, h.pay⟩
  · rw [e]
    intro k hk
    obtain ⟨h1, r, hr, h2⟩ := h.log k hk
    exact ⟨h1, r, by omega, h2⟩
  · rw [e]
    exact ⟨h.tou.1, fun r hb => by have := h.tou.2 r hb; omega⟩
  · rw [e3]; exact iLike_congr h.like hk
  · rw [e3]; exact iComm_congr h.comm hk
  · refine iRep_gen h rfl ⟨rfl, rfl, rfl⟩ ⟨rfl, rfl, rfl, rfl⟩ (fun k hk => ?_)
    have := (aR_lt h hk).1
    rw [e3, e4, pk_un (by omega), pk_un (by omega)]
    exact ⟨rfl, rfl, rfl⟩
theorem sim_addR {S M : Mem} (h : Rel S M) (a b c d : Int32) : Sim [xA, xS] S (oAddR S a b c d) (mAddR M a b c d) := by
  unfold oAddR mAddR
  by_cases c1 : okr a 1 50 = true
  · rw [if_pos c1, if_pos c1]
    by_cases c2 : okr b 0 9999 = true
    · rw [if_pos c2, if_pos c2]
      by_cases c3 : okr c 0 100 = true
      · rw [if_pos c3, if_pos c3]
        by_cases c4 : okr d 1 40 = true
        · rw [if_pos c4, if_pos c4, h.R, ← h.eE]
          have hR := h.inv.i0.R16
          by_cases c5 : S 0 11 = 0
          · rw [if_pos c5, if_pos c5]
            by_cases c6 : cR S < 16
            · rw [if_pos c6, if_neg (by omega)]
              refine .inl ⟨rfl, rfl, (nI_pred _).symm, Inv_addR h.inv c6 a b c d, ⟨⟨⟨h.eT, ?_, h.eN⟩, h.eW, h.eE, h.eB⟩, ⟨?_, ?_, ?_, ?_, h.e6⟩, h.2.1.2.2⟩, h.2.2⟩
              · show nI (cR S + 1) = nI (mR M + 1)
                rw [h.R]
              · show upd (S 2) (cR S) a = upd (M 1) (mR M) a
                rw [h.R, h.e2]
              · show upd (S 3) (cR S) b = upd (M 2) (mR M) b
                rw [h.R, h.e3]
              · show upd (S 4) (cR S) c = upd (M 3) (mR M) c
                rw [h.R, h.e4]
              · show upd (S 5) (cR S) d = upd (M 4) (mR M) d
                rw [h.R, h.e5]
            · rw [if_neg c6, if_pos (by omega)]; exact .inr ⟨1, xS, rfl, rfl, rfl, h⟩
          · rw [if_neg c5, if_neg c5]
            refine .inr ⟨1, xS, rfl, rfl, ?_, ?_⟩
            · split <;> rfl
            · split <;> exact h
        · rw [if_neg c4, if_neg c4]; exact .inr ⟨0, xA, rfl, rfl, rfl, h⟩
      · rw [if_neg c3, if_neg c3]; exact .inr ⟨0, xA, rfl, rfl, rfl, h⟩
    · rw [if_neg c2, if_neg c2]; exact .inr ⟨0, xA, rfl, rfl, rfl, h⟩
  · rw [if_neg c1, if_neg c1]; exact .inr ⟨0, xA, rfl, rfl, rfl, h⟩
/-! need -/
theorem m_tA_iff (M : Mem) (r : Nat) : ∀ n, m_tA M r n = true ↔ ∃ k, k < n ∧ M 12 k = nI r
  | 0 => ⟨fun z => (nomatch z), fun ⟨k, hk, _⟩ => absurd hk (by omega)⟩
  | n + 1 => by
    show (m_tA M r n || decide (M 12 n = nI r)) = true ↔ _
    rw [Bool.or_eq_true, m_tA_iff M r n, decide_eq_true_eq]
    constructor
    · rintro (⟨k, hk, z⟩ | z)
      · exact ⟨k, by omega, z⟩
      · exact ⟨n, by omega, z⟩
    · rintro ⟨k, hk, z⟩
      by_cases e : k = n
      · subst e; exact .inr z
      · exact .inl ⟨k, by omega, z⟩
theorem m_tB_iff (M : Mem) (r : Nat) : ∀ n, m_tB M r n = true ↔ m_tA M r (mN M) = true ∨ ∃ t, t < n ∧ 0 < M 9 (16 * t + r)
  | 0 => ⟨.inl, fun z => z.elim id fun ⟨k, hk, _⟩ => absurd hk (by omega)⟩
  | n + 1 => by
    show (m_tB M r n || decide (0 < M 9 (16 * n + r))) = true ↔ _
    rw [Bool.or_eq_true, m_tB_iff M r n, decide_eq_true_eq]
    constructor
    · rintro ((z | ⟨k, hk, z⟩) | z)
      · exact .inl z
      · exact .inr ⟨k, by omega, z⟩
      · exact .inr ⟨n, by omega, z⟩
    · rintro (z | ⟨k, hk, z⟩)
      · exact .inl (.inl z)
      · by_cases e : k = n
        · subst e; exact .inr z
        · exact .inl (.inr ⟨k, by omega, z⟩)
theorem r_touch {S M : Mem} (h : Rel S M) {r : Nat} (hr : r < 16) : m_touch M r = B (S 1 5) r := by
  have hT := h.inv.i0.T8
  apply Bool.eq_iff_iff.mpr
  rw [m_touch, m_tB_iff, m_tA_iff, h.inv.tou.1 r hr, h.N, h.T, ← h.e9, ← h.e13]
  constructor
  · rintro (z | ⟨t, ht, z⟩)
    · exact .inl z
    · exact .inr ⟨t, by omega, by rw [← ix16]; exact z⟩
  · rintro (z | ⟨t, ht, z⟩)
    · exact .inl z
    · by_cases c : t < cT S
      · exact .inr ⟨t, c, by rw [ix16]; exact z⟩
      · rw [h.inv.bo t r (by omega) ht hr] at z
        exact absurd z Int32.lt_irrefl
theorem Inv_need {S : Mem} (h : Inv S) {r o : Nat} (hr : r < 16) (ho : o < r) (hu : B (S 1 5) r = false) : Inv (needM S r o) := by
  have e6 : needM S r o 6 = upd (S 6) r (S 6 r ||| bt (nI o)) := rfl
  refine ⟨⟨I0_2 (by omega) h.i0, h.now, ?_, h.log, h.bo, h.tou⟩, ⟨?_, h.soon⟩, ⟨h.like, h.comm⟩, ?_, h.pay⟩
  · rw [e6]
    intro r' hr' o' hb
    by_cases e : r' = r
    · subst e
      rw [pk_us, B_or1t (by omega)] at hb
      rcases hb with hb | hb
      · exact h.need r' hr' o' hb
      · omega
    · rw [pk_un e] at hb; exact h.need r' hr' o' hb
  · rw [e6]
    intro t r' ht hb
    have hs := h.sol t r' ht hb
    have ne : ¬ r' = r := fun e => by subst e; rw [hu] at hs; exact absurd hs.2.1 (by decide)
    rw [pk_un ne]; exact hs
  · refine iRep_gen h rfl ⟨rfl, rfl, rfl⟩ ⟨rfl, rfl, rfl, rfl⟩ (fun k hk => ⟨rfl, rfl, ?_⟩)
    have a := aR_lt h hk
    have hR := h.i0.R16
    have hb : B (S 1 5) (aR S k) = true := (h.tou.1 _ (by omega)).mpr (.inl ⟨k, hk, a.2⟩)
    rw [e6]
    exact pk_un (fun e => by rw [e, hu] at hb; cases hb)
theorem sim_need {S M : Mem} (h : Rel S M) (x y : Int32) : Sim [xI, xA, xS] S (oNeed S x y) (mNeed M x y) := by
  unfold oNeed mNeed
  rw [h.R]
  refine sim_2 (f := hNeed S) h rfl h.inv.i0.R16 h.inv.i0.R16 fun r o hr ho => ?_
  have hR := h.inv.i0.R16
  unfold hNeed hmNeed
  by_cases c1 : o < r
  · have e1 : hs (S 1 5) (nI r) = m_touch M r := by rw [hs_B (by omega), r_touch h (by omega)]
    have e2 : hs (S 6 r) (nI o) = m_need M r o := by
      rw [hs_B (by omega), m_need, ← h.e6]; exact (b1_B (by omega)).symm
    rw [if_pos c1, if_pos c1, ← h.eE, e1, e2]
    by_cases c2 : S 0 11 = 0
    · rw [if_pos c2, if_pos c2]
      by_cases c3 : m_touch M r = true
      · rw [if_pos c3, if_pos c3]
        refine .inr ⟨2, xS, rfl, rfl, ?_, ?_⟩
        · split <;> rfl
        · split <;> exact h
      · rw [if_neg c3, if_neg c3]
        by_cases c4 : m_need M r o = true
        · rw [if_pos c4, if_pos c4]; exact .inr ⟨2, xS, rfl, rfl, rfl, h⟩
        · rw [if_neg c4, if_neg c4]
          have hu : B (S 1 5) r = false := by rw [← r_touch h (by omega)]; exact eq_false_of_ne_true c3
          have hI := Inv_need h.inv (show r < 16 by omega) c1 hu
          have e6 : needM S r o 6 = mneedM M r o 5 := by
            show upd (S 6) r (S 6 r ||| bt (nI o)) = upd (M 5) r (M 5 r ||| bt (nI o))
            rw [h.e6]
          refine .inl ⟨rfl, rfl, ?_, hI, ⟨h.2.1.1, ⟨h.e2, h.e3, h.e4, h.e5, e6⟩, h.2.1.2.2⟩, h.2.2⟩
          show p_bc (needM S r o 6 r) = m_bits (mneedM M r o 5 r) 16
          rw [← e6]
          refine r_bits (fun i hi => ?_)
          cases hb : B (needM S r o 6 r) i with
          | false => rfl
          | true => have := hI.need r (by omega) i hb; omega
    · rw [if_neg c2, if_neg c2]; exact .inr ⟨2, xS, rfl, rfl, rfl, h⟩
  · rw [if_neg c1, if_neg c1]; exact .inr ⟨1, xA, rfl, rfl, rfl, h⟩
/-! addTeam -/
theorem m_none_ne {M : Mem} {t c : Nat} (hc : ¬ c = 6) : ∀ n, m_none M t n c = M c
  | 0 => rfl
  | n + 1 => by
    show st (m_none M t n) 6 (16 * t + n) (-1) c = M c
    rw [st_ne hc]; exact m_none_ne hc n
theorem m_none_out {M : Mem} {t j : Nat} : ∀ n, (j < 16 * t ∨ 16 * t + n ≤ j) → m_none M t n 6 j = M 6 j
  | 0, _ => rfl
  | n + 1, h => by
    show st (m_none M t n) 6 (16 * t + n) (-1) 6 j = M 6 j
    rw [st_off (by omega)]; exact m_none_out n (by omega)
theorem m_none_in {M : Mem} {t i : Nat} : ∀ n, i < n → m_none M t n 6 (16 * t + i) = -1
  | 0, h => absurd h (by omega)
  | n + 1, h => by
    show st (m_none M t n) 6 (16 * t + n) (-1) 6 (16 * t + i) = -1
    by_cases e : i = n
    · subst e; exact st_at
    · rw [st_off (by omega)]; exact m_none_in n (by omega)
theorem I0_T {S : Mem} (h : I0 S) (hT : cT S < 8) : I0 (st S 0 9 (nI (cT S + 1))) := by
  have e : cT (st S 0 9 (nI (cT S + 1))) = cT S + 1 := iN_nI (by omega)
  refine ⟨?_, h.2.1, h.2.2.1, h.2.2.2.1, h.2.2.2.2⟩
  rw [e]; exact ⟨rfl, by omega⟩
theorem sim_addT {S M : Mem} (h : Rel S M) : Sim [xS] S (oAddT S) (mAddT M) := by
  unfold oAddT mAddT
  have hT := h.inv.i0.T8
  rw [h.T, ← h.eE]
  by_cases c1 : S 0 11 = 0
  · rw [if_pos c1, if_pos c1]
    by_cases c2 : cT S < 8
    · rw [if_pos c2, if_neg (by omega)]
      have hi := h.inv
      have e : cT (st S 0 9 (nI (cT S + 1))) = cT S + 1 := iN_nI (by omega)
      have hI : Inv (st S 0 9 (nI (cT S + 1))) := by
        refine ⟨⟨I0_T hi.i0 c2, hi.now, hi.need, ?_, ?_, hi.tou⟩, ⟨?_, hi.soon⟩, ⟨hi.like, hi.comm⟩, iRep_same hi ⟨⟨rfl, rfl, rfl⟩, ⟨rfl, rfl, rfl, rfl⟩, ⟨rfl, rfl, rfl⟩, rfl⟩, hi.pay⟩
        · rw [e]
          intro k hk
          obtain ⟨⟨t, ht, h1⟩, h2⟩ := hi.log k hk
          exact ⟨⟨t, by omega, h1⟩, h2⟩
        · rw [e]
          intro t r ht ht8 hr
          exact hi.bo t r (by omega) ht8 hr
        · rw [e]
          intro t r ht hb
          obtain ⟨h1, h2⟩ := hi.sol t r ht hb
          exact ⟨by omega, h2⟩
      have en : ∀ c, ¬ c = 6 → ¬ c = 0 → addTM M c = M c := fun c h6 h0 => by
        unfold addTM
        rw [st_ne h0, m_none_ne h6]
      have e0 : ∀ j, ¬ j = 8 → addTM M 0 j = M 0 j := fun j hj => by
        unfold addTM
        rw [st_off hj, m_none_0]
      have e6 : ∀ j, addTM M 6 j = m_none M (mT M) 16 6 j := fun j => by
        unfold addTM
        rw [st_ne (by omega)]
      refine .inl ⟨rfl, rfl, (nI_pred _).symm, hI, ?_, ?_, ?_, ?_, ?_⟩
      · refine ⟨⟨⟨?_, ?_, ?_⟩, ?_, ?_, ?_⟩, ⟨?_, ?_, ?_, ?_, ?_⟩, ⟨?_, ?_, ?_⟩, ?_, ?_, ?_⟩
        · show nI (cT S + 1) = nI (mT M + 1)
          rw [h.T]
        · exact h.eR.trans (e0 2 (by omega)).symm
        · exact h.eN.trans (e0 14 (by omega)).symm
        · exact h.eW.trans (e0 0 (by omega)).symm
        · exact h.eE.trans (e0 1 (by omega)).symm
        · exact h.eB.trans (e0 19 (by omega)).symm
        · exact h.e2.trans (en 1 (by omega) (by omega)).symm
        · exact h.e3.trans (en 2 (by omega) (by omega)).symm
        · exact h.e4.trans (en 3 (by omega) (by omega)).symm
        · exact h.e5.trans (en 4 (by omega) (by omega)).symm
        · exact h.e6.trans (en 5 (by omega) (by omega)).symm
        · exact h.e8.trans (en 11 (by omega) (by omega)).symm
        · exact h.e9.trans (en 12 (by omega) (by omega)).symm
        · exact h.e10.trans (en 13 (by omega) (by omega)).symm
        · exact h.e13.trans (en 9 (by omega) (by omega)).symm
        · exact h.e22.trans (en 10 (by omega) (by omega)).symm
        · exact h.e34.trans (en 15 (by omega) (by omega)).symm
      · rw [e]
        intro t r ht hr
        show B (S 19 t) r = !(decide (addTM M 6 (16 * t + r) = -1)) ∧ (B (S 19 t) r = true → S 21 (t * 16 + r) = addTM M 6 (16 * t + r))
        rw [e6, h.T]
        by_cases q : t = cT S
        · subst q
          have hb : B (S 19 (cT S)) r = false := by
            cases hb : B (S 19 (cT S)) r with
            | false => rfl
            | true => have := (hi.sol (cT S) r c2 hb).1; omega
          rw [m_none_in 16 hr, hb]
          exact ⟨rfl, fun z => nomatch z⟩
        · rw [m_none_out 16 (by omega)]
          exact h.sol t r (by omega) hr
      · show rBit (S 20) (addTM M 7)
        rw [en 7 (by omega) (by omega)]; exact h.ts
      · show rBit (S 16) (addTM M 8)
        rw [en 8 (by omega) (by omega)]; exact h.cl
      · show rPar (S 17) (addTM M 14)
        rw [en 14 (by omega) (by omega)]; exact h.par
    · rw [if_neg c2, if_pos (by omega)]; exact .inr ⟨0, xS, rfl, rfl, rfl, h⟩
  · rw [if_neg c1, if_neg c1]
    refine .inr ⟨0, xS, rfl, rfl, ?_, ?_⟩
    · split <;> rfl
    · split <;> exact h
end
end
section
section
/-! hint -/
theorem r_under {S M : Mem} (h : Rel S M) {t r : Nat} (ht : t < cT S) (hr : r < 16) : p_under S t r = !(m_done M t r) := by
  unfold p_under m_done
  rw [r_open h ht hr, hs_B (by omega), (h.sol t r ht hr).1, h.eE, decide_not, decide_not, decide_not]
  cases decide (M 0 1 = 0) <;> cases decide (m_opened M t r = -1) <;> cases decide (M 6 (16 * t + r) = -1) <;> rfl
theorem r_left {S M : Mem} (h : Rel S M) {t r : Nat} (ht : t < cT S) (hr : r < 16) : p_left S t r = !(decide (M 9 (16 * t + r) = 3)) := by
  have hT := h.inv.i0.T8
  have b3 := h.inv.i0.bo3 (c := t * 16 + r) (by omega)
  have bn := h.inv.i0.bo (c := t * 16 + r) (by omega)
  rw [ix16, ← h.e13]
  unfold p_left
  by_cases c2 : S 13 (t * 16 + r) = 3
  · rw [c2]; decide
  · have l : S 13 (t * 16 + r) < 3 := by
      rw [bn]
      refine (nI_ltI (b := 3) (by omega) (by omega)).mpr ?_
      have : iN (S 13 (t * 16 + r)) ≠ 3 := fun z => c2 (by rw [bn, z]; rfl)
      omega
    rw [decide_eq_true l, decide_eq_false c2]; rfl
theorem I0_b {S : Mem} (h : I0 S) {c n : Nat} (hn : n ≤ 3) : I0 (st S 13 c (nI n)) := by
  refine ⟨h.1, h.2.1, h.2.2.1, h.2.2.2.1, fun c' hc' => ?_⟩
  by_cases e : c' = c
  · subst e; rw [st_at, iN_nI (by omega)]; exact ⟨rfl, hn⟩
  · rw [st_off e]; exact h.2.2.2.2 c' hc'
theorem I0_14 {S : Mem} (h : I0 S) {j : Nat} {x : Int32} : I0 (st S 14 j x) := ⟨h.1, h.2.1, h.2.2.1, h.2.2.2.1, h.2.2.2.2⟩
theorem I0_m {S : Mem} (h : I0 S) {x : Int32} : I0 (st S 1 5 x) := ⟨h.1, h.2.1, h.2.2.1, h.2.2.2.1, h.2.2.2.2⟩
theorem iSol_x {so mi n6 : Fn} {x : Int32} {T r : Nat} (h : iSol so mi n6 x T) (hr : r < 32) : iSol so mi n6 (x ||| bt (nI r)) T := fun t i ht hb => by
  obtain ⟨h1, h2, h3, h4⟩ := h t i ht hb
  exact ⟨h1, (B_or1t hr).mpr (.inl h2), h3, h4⟩
theorem iPay_sold {pa pr bo : Fn} (h : iPay pa pr bo) {c n : Nat} {x : Int32} (hn : n < 3) (hb : iN (bo c) = n) (hc : c < 128) : iPay (upd pa c (pa c + x)) (upd pr (c * 3 + n) x) (upd bo c (nI (n + 1))) := by
  intro c' hc'
  by_cases e : c' = c
  · subst e
    obtain ⟨h1, h2⟩ := h c' hc'
    rw [hb] at h1
    rw [pk_us, pk_us, iN_nI (by omega)]
    refine ⟨fun m hm hnm => ?_, ?_⟩
    · rw [pk_un (by omega)]; exact h1 m hm (by omega)
    · rw [h2]
      by_cases n0 : n = 0
      · subst n0
        rw [pk_us, pk_un (by omega), pk_un (by omega), h1 0 (by omega) (by omega), h1 1 (by omega) (by omega), h1 2 (by omega) (by omega), Int32.add_zero, Int32.add_zero, Int32.zero_add, Int32.add_zero, Int32.add_zero]
      · by_cases n1 : n = 1
        · subst n1
          rw [pk_us, pk_un (by omega), pk_un (by omega), h1 1 (by omega) (by omega), h1 2 (by omega) (by omega), Int32.add_zero, Int32.add_zero, Int32.add_zero]
        · have n2 : n = 2 := by omega
          subst n2
          rw [pk_us, pk_un (by omega), pk_un (by omega), h1 2 (by omega) (by omega), Int32.add_zero]
  · obtain ⟨h1, h2⟩ := h c' hc'
    rw [pk_un e, pk_un e, pk_un (by omega), pk_un (by omega), pk_un (by omega)]
    exact ⟨fun m hm hnm => by rw [pk_un (by omega)]; exact h1 m hm hnm, h2⟩
theorem Inv_hint {S : Mem} (h : Inv S) {t r : Nat} (ht : t < cT S) (hr : r < cR S) (hl : iN (S 13 (t * 16 + r)) < 3) (x : Int32) : Inv (hintM S t r x) := by
  have hT := h.i0.T8
  have hR := h.i0.R16
  have e13 : hintM S t r x 13 = upd (S 13) (t * 16 + r) (nI (iN (S 13 (t * 16 + r)) + 1)) := rfl
  have e14 : hintM S t r x 14 = upd (S 14) ((t * 16 + r) * 3 + iN (S 13 (t * 16 + r))) x := rfl
  have e22 : hintM S t r x 22 = upd (S 22) (t * 16 + r) (S 22 (t * 16 + r) + x) := rfl
  have e15 : hintM S t r x 1 5 = S 1 5 ||| bt (nI r) := rfl
  have a1 : I0 (st (st S 14 ((t * 16 + r) * 3 + iN (S 13 (t * 16 + r))) x) 13 (t * 16 + r) (nI (iN (S 13 (t * 16 + r)) + 1))) := I0_b (I0_14 h.i0) (by omega)
  have hI : I0 (hintM S t r x) := I0_m (I0_2 (by omega) a1)
  refine ⟨⟨hI, h.now, h.need, h.log, ?_, ?_⟩, ⟨?_, h.soon⟩, ⟨h.like, h.comm⟩, iRep_same h ⟨⟨rfl, rfl, rfl⟩, ⟨rfl, rfl, rfl, rfl⟩, ⟨rfl, rfl, rfl⟩, rfl⟩, ?_⟩
  · rw [e13]
    intro t' r' h1 h2 h3
    have h4 : cT S ≤ t' := h1
    rw [pk_un (by omega)]; exact h.bo t' r' h4 h2 h3
  · rw [e13, e15]
    refine ⟨fun r' hr' => ?_, fun r' hb => ?_⟩
    · rw [B_or1t (by omega), h.tou.1 r' hr']
      by_cases e : r' = r
      · subst e
        refine ⟨fun _ => .inr ⟨t, by omega, ?_⟩, fun _ => .inr rfl⟩
        rw [pk_us]
        exact nI_lt (a := 0) (by omega) (by omega)
      · have e2 : ∀ t', upd (S 13) (t * 16 + r) (nI (iN (S 13 (t * 16 + r)) + 1)) (t' * 16 + r') = S 13 (t' * 16 + r') := fun t' => pk_un (by omega)
        simp only [e2]
        exact ⟨fun z => z.elim id (fun y => absurd y e), .inl⟩
    · rcases (B_or1t (by omega)).mp hb with z | z
      · exact h.tou.2 r' z
      · rw [z]; exact hr
  · rw [e15]; exact iSol_x h.sol (by omega)
  · rw [e13, e14, e22]; exact iPay_sold h.pay hl rfl (by omega)
theorem sim_hint {S M : Mem} (h : Rel S M) (x y : Int32) : Sim [xI, xS] S (oHint S x y) (mHint M x y) := by
  unfold oHint mHint
  rw [h.T, h.R]
  refine sim_o2 h rfl fun t r ht hr => ?_
  have hT := h.inv.i0.T8
  have hR := h.inv.i0.R16
  unfold hHint
  rw [r_under h ht (by omega), r_left h ht (by omega), r_price h ht (by omega)]
  by_cases c1 : m_done M t r = true
  · rw [c1, if_neg (by decide), if_pos rfl]; exact .inr ⟨1, xS, rfl, rfl, rfl, h⟩
  · rw [eq_false_of_ne_true c1, if_pos (show (!false) = true from rfl), if_neg (show ¬ false = true by decide)]
    by_cases c2 : M 9 (16 * t + r) = 3
    · rw [if_pos c2, decide_eq_true c2, if_neg (by decide)]; exact .inr ⟨1, xS, rfl, rfl, rfl, h⟩
    · have hl : iN (S 13 (t * 16 + r)) < 3 := left_lt h.inv.i0 (by omega) (by rw [r_left h ht (by omega), decide_eq_false c2]; rfl)
      rw [if_neg c2, decide_eq_false c2, if_pos (by decide)]
      have bn := h.inv.i0.bo (c := t * 16 + r) (by omega)
      refine .inl ⟨rfl, rfl, rfl, Inv_hint h.inv ht hr hl _, ⟨h.2.1.1, h.2.1.2.1, h.2.1.2.2.1, ?_, ?_, h.e34⟩, h.2.2⟩
      · show upd (S 13) (t * 16 + r) (nI (iN (S 13 (t * 16 + r)) + 1)) = upd (M 9) (16 * t + r) (M 9 (16 * t + r) + 1)
        rw [ix16, ← h.e13, nI_succ, ← bn]
      · show upd (S 22) (t * 16 + r) (S 22 (t * 16 + r) + m_price M t r) = upd (M 10) (16 * t + r) (M 10 (16 * t + r) + m_price M t r)
        rw [ix16, ← h.e22]
end
end
section
section
/-! an answer more in the log: likeness and riddles in common -/
theorem gB_low {g q w : Fn} {N n : Nat} {a b c x r v : Int32} (h : n ≤ N) : gB (upd g N a) (upd q N b) (upd w N c) x r v n = gB g q w x r v n := gB_congr fun k hk => ⟨pk_un (by omega), pk_un (by omega), pk_un (by omega)⟩
theorem gB_top {g q w : Fn} {N : Nat} {a b c x r v : Int32} : gB (upd g N a) (upd q N b) (upd w N c) x r v (N + 1) = (gB g q w x r v N || (decide (a = x) && (decide (b = r) && decide (c = v)))) := by
  show (gB (upd g N a) (upd q N b) (upd w N c) x r v N || (decide (upd g N a N = x) && (decide (upd q N b N = r) && decide (upd w N c N = v)))) = _
  rw [gB_low (Nat.le_refl N), pk_us, pk_us, pk_us]
theorem gB_topt {g q w : Fn} {N : Nat} {a b c x r v : Int32} : gB (upd g N a) (upd q N b) (upd w N c) x r v (N + 1) = true ↔ gB g q w x r v N = true ∨ (a = x ∧ b = r ∧ c = v) := by
  rw [gB_top, Bool.or_eq_true, Bool.and_eq_true, Bool.and_eq_true, decide_eq_true_eq, decide_eq_true_eq, decide_eq_true_eq]
theorem fB_low {g q w ke : Fn} {N k : Nat} {a b c : Int32} (h : k < N) : fB (upd g N a) (upd q N b) (upd w N c) ke k = fB g q w ke k := fB_congr (fun j hj => ⟨pk_un (by omega), pk_un (by omega), pk_un (by omega)⟩) rfl
theorem fB_new {g q w ke : Fn} {N : Nat} {a b c : Int32} : fB (upd g N a) (upd q N b) (upd w N c) ke N = (decide (¬ c = ke (iN b)) && !(gB g q w a b c N)) := by
  unfold fB
  rw [pk_us, pk_us, pk_us, gB_low (Nat.le_refl N)]
theorem lB_s {g q w ke : Fn} {N t o n : Nat} : lB g q w ke N t o (n + 1) = lB g q w ke N t o n + (if g n = nI t ∧ (fB g q w ke n && gB g q w (nI o) (q n) (w n) N) = true then 1 else 0) := rfl
theorem lB_same {g q w ke : Fn} {N x y : Nat} {a b c : Int32} (hk : ∀ k, k < N → g k = nI x → fB g q w ke k = true → a = nI y → b = q k → c = w k → gB g q w (nI y) (q k) (w k) N = true) : ∀ n, n ≤ N → lB (upd g N a) (upd q N b) (upd w N c) ke (N + 1) x y n = lB g q w ke N x y n
  | 0, _ => rfl
  | n + 1, hn => by
    rw [lB_s, lB_s, lB_same hk n (by omega), pk_un (by omega), pk_un (by omega), pk_un (by omega), fB_low (by omega)]
    by_cases d1 : g n = nI x
    · by_cases d2 : fB g q w ke n = true
      · have e : gB (upd g N a) (upd q N b) (upd w N c) (nI y) (q n) (w n) (N + 1) = gB g q w (nI y) (q n) (w n) N := by
          apply Bool.eq_iff_iff.mpr
          rw [gB_topt]
          exact ⟨fun z => z.elim id (fun z2 => hk n (by omega) d1 d2 z2.1 z2.2.1 z2.2.2), .inl⟩
        rw [e]
      · rw [eq_false_of_ne_true d2, Bool.false_and, Bool.false_and]
    · rw [if_neg (fun z => d1 z.1), if_neg (fun z => d1 z.1)]
theorem lB_plus {g q w ke : Fn} {N x t r : Nat} {v : Int32} (hx : x < 8) (ht : t < 8) (hr : r < 16) (hne : ¬ x = t) (hv : ¬ v = ke r) (hnew : gB g q w (nI t) (nI r) v N = false) : ∀ n, n ≤ N → lB (upd g N (nI t)) (upd q N (nI r)) (upd w N v) ke (N + 1) x t n = lB g q w ke N x t n + (if gB g q w (nI x) (nI r) v n = true then 1 else 0)
  | 0, _ => rfl
  | n + 1, hn => by
    have ih := lB_plus hx ht hr hne hv hnew n (by omega)
    have er : iN (nI r) = r := iN_nI (by omega)
    have es : gB g q w (nI x) (nI r) v (n + 1) = (gB g q w (nI x) (nI r) v n || (decide (g n = nI x) && (decide (q n = nI r) && decide (w n = v)))) := rfl
    rw [lB_s, lB_s, ih, pk_un (by omega), pk_un (by omega), pk_un (by omega), fB_low (by omega), es]
    by_cases d1 : g n = nI x
    · by_cases d2 : q n = nI r ∧ w n = v
      · have ef : fB g q w ke n = !(gB g q w (nI x) (nI r) v n) := by
          unfold fB
          rw [d1, d2.1, d2.2, er, decide_eq_true hv, Bool.true_and]
        have eg : gB (upd g N (nI t)) (upd q N (nI r)) (upd w N v) (nI t) (q n) (w n) (N + 1) = true := gB_topt.mpr (.inr ⟨rfl, d2.1.symm, d2.2.symm⟩)
        have t1 : ¬ (g n = nI x ∧ (fB g q w ke n && gB g q w (nI t) (q n) (w n) N) = true) := fun z => by
          have z2 := z.2
          rw [d2.1, d2.2, hnew, Bool.and_false] at z2
          cases z2
        have t2 : (gB g q w (nI x) (nI r) v n || (decide (g n = nI x) && (decide (q n = nI r) && decide (w n = v)))) = true := by
          rw [decide_eq_true d1, decide_eq_true d2.1, decide_eq_true d2.2, Bool.and_self, Bool.and_self, Bool.or_true]
        rw [eg, Bool.and_true, if_neg t1, if_pos t2, ef]
        by_cases c : gB g q w (nI x) (nI r) v n = true
        · have t3 : ¬ (g n = nI x ∧ (!(gB g q w (nI x) (nI r) v n)) = true) := fun z => by
            have z2 := z.2
            rw [c] at z2
            cases z2
          rw [if_pos c, if_neg t3]
        · have t3 : g n = nI x ∧ (!(gB g q w (nI x) (nI r) v n)) = true := ⟨d1, by rw [eq_false_of_ne_true c]; rfl⟩
          rw [if_neg c, if_pos t3]
      · have eg : gB (upd g N (nI t)) (upd q N (nI r)) (upd w N v) (nI t) (q n) (w n) (N + 1) = gB g q w (nI t) (q n) (w n) N := by
          apply Bool.eq_iff_iff.mpr
          rw [gB_topt]
          exact ⟨fun z => z.elim id (fun z2 => absurd ⟨z2.2.1.symm, z2.2.2.symm⟩ d2), .inl⟩
        have e0 : (decide (g n = nI x) && (decide (q n = nI r) && decide (w n = v))) = false := by
          cases hb : (decide (g n = nI x) && (decide (q n = nI r) && decide (w n = v))) with
          | false => rfl
          | true =>
            rw [Bool.and_eq_true, Bool.and_eq_true, decide_eq_true_eq, decide_eq_true_eq, decide_eq_true_eq] at hb
            exact absurd hb.2 d2
        rw [eg, e0, Bool.or_false]; omega
    · have t1 : ∀ b : Bool, ¬ (g n = nI x ∧ b = true) := fun b z => d1 z.1
      rw [if_neg (t1 (fB g q w ke n && gB g q w (nI t) (q n) (w n) N)), if_neg (t1 (fB g q w ke n && gB (upd g N (nI t)) (upd q N (nI r)) (upd w N v) (nI t) (q n) (w n) (N + 1))), decide_eq_false d1, Bool.false_and, Bool.or_false]; omega
theorem n_inj8 {a b : Nat} (ha : a < 16) (hb : b < 16) (h : nI a = nI b) : a = b := n_eq (by omega) (by omega) h
/-- a right answer changes nothing -/
theorem lB_right {g q w ke : Fn} {N x y t r : Nat} {v : Int32} (hr : r < 16) (hv : v = ke r) : lB (upd g N (nI t)) (upd q N (nI r)) (upd w N v) ke (N + 1) x y (N + 1) = lB g q w ke N x y N := by
  have er : iN (nI r) = r := iN_nI (by omega)
  have h1 := lB_same (g := g) (q := q) (w := w) (ke := ke) (N := N) (x := x) (y := y) (a := nI t) (b := nI r) (c := v) (fun k hk _ d2 _ e2 e3 => by
    unfold fB at d2
    rw [← e2, ← e3, er, hv, decide_eq_false (fun z => z rfl), Bool.false_and] at d2
    cases d2) N (Nat.le_refl N)
  rw [lB_s, h1, fB_new, er, decide_eq_false (fun z => z hv), Bool.false_and, Bool.false_and, if_neg (fun z => absurd z.2 (by decide)), Nat.add_zero]
theorem cP_right {g q w ke : Fn} {N x y t r z : Nat} {v : Int32} (hr : r < 16) (hz : z < 16) (hv : v = ke r) : cP (upd g N (nI t)) (upd q N (nI r)) (upd w N v) ke (N + 1) x y z ↔ cP g q w ke N x y z := by
  have key : ∀ (i : Nat) (u : Int32), (¬ u = ke z) → (gB (upd g N (nI t)) (upd q N (nI r)) (upd w N v) (nI i) (nI z) u (N + 1) = true ↔ gB g q w (nI i) (nI z) u N = true) := fun i u hu => by
    rw [gB_topt]
    refine ⟨fun q1 => q1.elim id (fun q2 => absurd ?_ hu), .inl⟩
    have := n_inj8 hr hz q2.2.1
    rw [← this, ← hv]; exact q2.2.2.symm
  unfold cP
  constructor
  · rintro ⟨u, h1, h2, h3⟩
    exact ⟨u, h1, (key x u h1).mp h2, (key y u h1).mp h3⟩
  · rintro ⟨u, h1, h2, h3⟩
    exact ⟨u, h1, (key x u h1).mpr h2, (key y u h1).mpr h3⟩
/-- nor does one that was given before -/
theorem gB_again {g q w : Fn} {N t r : Nat} {v : Int32} (hg : gB g q w (nI t) (nI r) v N = true) (x a u : Int32) : gB (upd g N (nI t)) (upd q N (nI r)) (upd w N v) x a u (N + 1) = gB g q w x a u N := by
  apply Bool.eq_iff_iff.mpr
  rw [gB_topt]
  refine ⟨fun z => z.elim id (fun z2 => ?_), .inl⟩
  rw [← z2.1, ← z2.2.1, ← z2.2.2]; exact hg
theorem lB_again {g q w ke : Fn} {N x y t r : Nat} {v : Int32} (hg : gB g q w (nI t) (nI r) v N = true) : lB (upd g N (nI t)) (upd q N (nI r)) (upd w N v) ke (N + 1) x y (N + 1) = lB g q w ke N x y N := by
  have h1 := lB_same (g := g) (q := q) (w := w) (ke := ke) (N := N) (x := x) (y := y) (a := nI t) (b := nI r) (c := v) (fun k hk _ _ e1 e2 e3 => by
    rw [← e1, ← e2, ← e3]; exact hg) N (Nat.le_refl N)
  rw [lB_s, h1, fB_new, hg, Bool.not_true, Bool.and_false, Bool.false_and, if_neg (fun z => absurd z.2 (by decide)), Nat.add_zero]
theorem cP_again {g q w ke : Fn} {N x y t r z : Nat} {v : Int32} (hg : gB g q w (nI t) (nI r) v N = true) : cP (upd g N (nI t)) (upd q N (nI r)) (upd w N v) ke (N + 1) x y z ↔ cP g q w ke N x y z := by
  unfold cP
  simp only [gB_again hg]
/-- a wrong one that is new to its team: one more with each team that gave it -/
theorem lB_wrong {g q w ke : Fn} {N x y t r : Nat} {v : Int32} (hx : x < 8) (hy : y < 8) (ht : t < 8) (hr : r < 16) (hxy : ¬ x = y) (hv : ¬ v = ke r) (hnew : gB g q w (nI t) (nI r) v N = false) : lB (upd g N (nI t)) (upd q N (nI r)) (upd w N v) ke (N + 1) x y (N + 1) = lB g q w ke N x y N + (if (x = t ∧ gB g q w (nI y) (nI r) v N = true) ∨ (y = t ∧ gB g q w (nI x) (nI r) v N = true) then 1 else 0) := by
  have er : iN (nI r) = r := iN_nI (by omega)
  rw [lB_s, fB_new, er, pk_us, pk_us, pk_us, hnew, decide_eq_true hv, Bool.not_false, Bool.true_and, Bool.true_and, gB_top]
  by_cases c1 : y = t
  · subst c1
    have h1 := lB_plus (g := g) (q := q) (w := w) (ke := ke) (N := N) hx ht hr hxy hv hnew N (Nat.le_refl N)
    have t1 : ∀ b : Bool, ¬ (nI y = nI x ∧ b = true) := fun b z => hxy (n_inj8 (by omega) (by omega) z.1).symm
    rw [h1, if_neg (t1 _)]
    by_cases c2 : gB g q w (nI x) (nI r) v N = true
    · have t2 : (x = y ∧ gB g q w (nI y) (nI r) v N = true) ∨ (y = y ∧ gB g q w (nI x) (nI r) v N = true) := .inr ⟨rfl, c2⟩
      rw [if_pos c2, if_pos t2]
    · have t2 : ¬ ((x = y ∧ gB g q w (nI y) (nI r) v N = true) ∨ (y = y ∧ gB g q w (nI x) (nI r) v N = true)) := fun z => z.elim (fun z2 => hxy z2.1) (fun z2 => c2 z2.2)
      rw [if_neg c2, if_neg t2]
  · have h1 := lB_same (g := g) (q := q) (w := w) (ke := ke) (N := N) (x := x) (y := y) (a := nI t) (b := nI r) (c := v) (fun k hk _ _ e1 _ _ => absurd (n_inj8 (by omega) (by omega) e1).symm c1) N (Nat.le_refl N)
    have e2 : decide (nI t = nI y) = false := decide_eq_false (fun z => c1 (n_inj8 (by omega) (by omega) z).symm)
    rw [h1, e2, Bool.false_and, Bool.or_false]
    by_cases c2 : x = t
    · subst c2
      by_cases c3 : gB g q w (nI y) (nI r) v N = true
      · rw [if_pos ⟨rfl, c3⟩, if_pos (.inl ⟨rfl, c3⟩)]
      · rw [if_neg (fun z => c3 z.2), if_neg (fun z => z.elim (fun z2 => c3 z2.2) (fun z2 => c1 z2.1))]
    · rw [if_neg (fun z => c2 (n_inj8 (by omega) (by omega) z.1).symm), if_neg (fun z => z.elim (fun z2 => c2 z2.1) (fun z2 => c1 z2.1))]
theorem cP_wrong {g q w ke : Fn} {N x y t r z : Nat} {v : Int32} (hx : x < 8) (hy : y < 8) (ht : t < 8) (hr : r < 16) (hz : z < 16) (hxy : ¬ x = y) (hv : ¬ v = ke r) : cP (upd g N (nI t)) (upd q N (nI r)) (upd w N v) ke (N + 1) x y z ↔ cP g q w ke N x y z ∨ (z = r ∧ ((x = t ∧ gB g q w (nI y) (nI r) v N = true) ∨ (y = t ∧ gB g q w (nI x) (nI r) v N = true))) := by
  unfold cP
  constructor
  · rintro ⟨u, h1, h2, h3⟩
    rw [gB_topt] at h2 h3
    rcases h2 with h2 | ⟨a1, a2, a3⟩
    · rcases h3 with h3 | ⟨b1, b2, b3⟩
      · exact .inl ⟨u, h1, h2, h3⟩
      · have e1 := n_inj8 (by omega) (by omega) b1
        have e2 := n_inj8 (by omega) (by omega) b2
        subst e2
        subst b3
        exact .inr ⟨rfl, .inr ⟨e1.symm, h2⟩⟩
    · have e1 := n_inj8 (by omega) (by omega) a1
      have e2 := n_inj8 (by omega) (by omega) a2
      subst e2
      subst a3
      rcases h3 with h3 | ⟨b1, b2, b3⟩
      · exact .inr ⟨rfl, .inl ⟨e1.symm, h3⟩⟩
      · exact absurd (e1.symm.trans (n_inj8 (by omega) (by omega) b1)) hxy
  · rintro (⟨u, h1, h2, h3⟩ | ⟨e, ⟨e1, h3⟩ | ⟨e1, h3⟩⟩)
    · exact ⟨u, h1, gB_topt.mpr (.inl h2), gB_topt.mpr (.inl h3)⟩
    · subst e
      subst e1
      exact ⟨v, hv, gB_topt.mpr (.inr ⟨rfl, rfl, rfl⟩), gB_topt.mpr (.inl h3)⟩
    · subst e
      subst e1
      exact ⟨v, hv, gB_topt.mpr (.inl h3), gB_topt.mpr (.inr ⟨rfl, rfl, rfl⟩)⟩
/-! the class's tables -/
theorem give_bit {S : Mem} (hI : I0 S) (r : Nat) (v : Int32) {o : Nat} (ho : o < 16) : ∀ n, n ≤ cN S → B (p_give S r v n) o = gB (S 8) (S 9) (S 10) (nI o) (nI r) v n
  | 0, _ => B_0 o
  | n + 1, hn => by
    have h8 := hI.xT (k := n) (by omega)
    have h88 := hI.xT8 (k := n) (by omega)
    rw [show p_give S r v (n + 1) = if S 9 n = nI r ∧ S 10 n = v then p_give S r v n ||| bt (S 8 n) else p_give S r v n from rfl, show gB (S 8) (S 9) (S 10) (nI o) (nI r) v (n + 1) = (gB (S 8) (S 9) (S 10) (nI o) (nI r) v n || (decide (S 8 n = nI o) && (decide (S 9 n = nI r) && decide (S 10 n = v)))) from rfl, ← give_bit hI r v ho n (by omega)]
    by_cases c : S 9 n = nI r ∧ S 10 n = v
    · rw [if_pos c, decide_eq_true c.1, decide_eq_true c.2, Bool.and_true, Bool.and_true, h8, B_or1 (by omega)]
      congr 1
      by_cases e : o = aT S n
      · rw [decide_eq_true e, decide_eq_true (by rw [e])]
      · rw [decide_eq_false e, decide_eq_false (fun z => e (n_inj8 (by omega) (by omega) z).symm)]
    · rw [if_neg c]
      cases hb : (decide (S 8 n = nI o) && (decide (S 9 n = nI r) && decide (S 10 n = v))) with
      | false => rw [Bool.or_false]
      | true =>
        rw [Bool.and_eq_true, Bool.and_eq_true, decide_eq_true_eq, decide_eq_true_eq, decide_eq_true_eq] at hb
        exact absurd hb.2 c
theorem like1_5 {S : Mem} {b t o : Nat} : p_like1 S b t o (b + 5) = upd (S (b + 5)) (t * 8 + o) (S (b + 5) (t * 8 + o) + 1) := st_same
theorem like1_6 {S : Mem} {b t o : Nat} : p_like1 S b t o (b + 6) = S (b + 6) := st_ne (by omega)
theorem comm1_5 {S : Mem} {b t o r : Nat} : p_comm1 S b t o r (b + 5) = S (b + 5) := st_ne (by omega)
theorem comm1_6 {S : Mem} {b t o r : Nat} : p_comm1 S b t o r (b + 6) = upd (S (b + 6)) (t * 8 + o) (S (b + 6) (t * 8 + o) ||| bt (nI r)) := st_same
theorem common_5 {S : Mem} {b t o r : Nat} (ht : t < 8) (ho : o < 8) (hne : ¬ t = o) : p_common S b t o r (b + 5) = upd (upd (S (b + 5)) (t * 8 + o) (S (b + 5) (t * 8 + o) + 1)) (o * 8 + t) (S (b + 5) (o * 8 + t) + 1) := by
  unfold p_common
  rw [comm1_5, comm1_5, like1_5, like1_5, pk_un (by omega)]
theorem common_6 {S : Mem} {b t o r : Nat} (ht : t < 8) (ho : o < 8) (hne : ¬ t = o) : p_common S b t o r (b + 6) = upd (upd (S (b + 6)) (t * 8 + o) (S (b + 6) (t * 8 + o) ||| bt (nI r))) (o * 8 + t) (S (b + 6) (o * 8 + t) ||| bt (nI r)) := by
  unfold p_common
  rw [comm1_6, comm1_6, like1_6, like1_6, pk_un (by omega)]
theorem upd2 {f : Fn} {t o x y : Nat} {p : Int32 → Int32} (ht : t < 8) (ho : o < 8) (hne : ¬ t = o) (hx : x < 8) (hy : y < 8) : upd (upd f (t * 8 + o) (p (f (t * 8 + o)))) (o * 8 + t) (p (f (o * 8 + t))) (x * 8 + y) = if (x = t ∧ y = o) ∨ (x = o ∧ y = t) then p (f (x * 8 + y)) else f (x * 8 + y) := by
  by_cases c1 : x = o ∧ y = t
  · rw [c1.1, c1.2, pk_us, if_pos (.inr ⟨rfl, rfl⟩)]
  · rw [pk_un (by omega)]
    by_cases c2 : x = t ∧ y = o
    · rw [c2.1, c2.2, pk_us, if_pos (.inl ⟨rfl, rfl⟩)]
    · rw [pk_un (by omega), if_neg (fun z => z.elim c2 c1)]
theorem nwl_val {S : Mem} {g : Int32} {t r c : Nat} {p : Int32 → Int32} (ht : t < 8) (hg : B g t = false) (hc : ∀ (Z : Mem) (o : Nat), o < 8 → (¬ t = o) → p_common Z 18 t o r c = upd (upd (Z c) (t * 8 + o) (p (Z c (t * 8 + o)))) (o * 8 + t) (p (Z c (o * 8 + t)))) {x y : Nat} (hx : x < 8) (hy : y < 8) : ∀ n, n ≤ 8 → p_nwl S g t r n c (x * 8 + y) = if (x = t ∧ y < n ∧ B g y = true) ∨ (y = t ∧ x < n ∧ B g x = true) then p (S c (x * 8 + y)) else S c (x * 8 + y)
  | 0, _ => by
    rw [if_neg (fun z => z.elim (fun z2 => absurd z2.2.1 (by omega)) (fun z2 => absurd z2.2.1 (by omega)))]; rfl
  | n + 1, hn => by
    have ih := nwl_val (S := S) ht hg hc hx hy n (by omega)
    rw [show p_nwl S g t r (n + 1) = if hs g (nI n) = true then p_common (p_nwl S g t r n) 18 t n r else p_nwl S g t r n from rfl, hs_B (by omega)]
    by_cases hb : B g n = true
    · have ne : ¬ t = n := fun e => by rw [e, hb] at hg; cases hg
      rw [if_pos hb, hc _ n (by omega) ne, upd2 ht (by omega) ne hx hy, ih]
      by_cases c1 : (x = t ∧ y = n) ∨ (x = n ∧ y = t)
      · rw [if_pos c1, if_neg (fun z => by rcases c1 with c1 | c1 <;> rcases z with z | z <;> omega)]
        rw [if_pos (by
          rcases c1 with c1 | c1
          · exact .inl ⟨c1.1, by omega, by rw [c1.2]; exact hb⟩
          · exact .inr ⟨c1.2, by omega, by rw [c1.1]; exact hb⟩)]
      · rw [if_neg c1]
        by_cases c2 : (x = t ∧ y < n ∧ B g y = true) ∨ (y = t ∧ x < n ∧ B g x = true)
        · rw [if_pos c2, if_pos (c2.imp (fun z => ⟨z.1, by omega, z.2.2⟩) (fun z => ⟨z.1, by omega, z.2.2⟩))]
        · rw [if_neg c2, if_neg (fun z => by
            rcases z with ⟨z1, z2, z3⟩ | ⟨z1, z2, z3⟩
            · by_cases e : y = n
              · exact c1 (.inl ⟨z1, e⟩)
              · exact c2 (.inl ⟨z1, by omega, z3⟩)
            · by_cases e : x = n
              · exact c1 (.inr ⟨e, z1⟩)
              · exact c2 (.inr ⟨z1, by omega, z3⟩))]
    · rw [if_neg hb, ih]
      by_cases c2 : (x = t ∧ y < n ∧ B g y = true) ∨ (y = t ∧ x < n ∧ B g x = true)
      · rw [if_pos c2, if_pos (c2.imp (fun z => ⟨z.1, by omega, z.2.2⟩) (fun z => ⟨z.1, by omega, z.2.2⟩))]
      · rw [if_neg c2, if_neg (fun z => by
          rcases z with ⟨z1, z2, z3⟩ | ⟨z1, z2, z3⟩
          · by_cases e : y = n
            · exact hb (by rw [← e]; exact z3)
            · exact c2 (.inl ⟨z1, by omega, z3⟩)
          · by_cases e : x = n
            · exact hb (by rw [← e]; exact z3)
            · exact c2 (.inr ⟨z1, by omega, z3⟩))]
end
end
section
section
/-! answer -/
theorem Inv_ans {S S1 : Mem} (h : Inv S) {t r : Nat} {w : Int32} (ht : t < cT S) (hr : r < cR S) (hN : cN S < 200) (e : ∀ c, (c < 19 ∨ c = 22 ∨ 24 < c) → S1 c = S c) (hsol : iSol (S1 19) (S1 21) (S 6) (S 1 5 ||| bt (nI r)) (cT S)) (hsoon : iSoon (S1 20) (S1 19)) (hlike : iLike (S1 23) (upd (S 8) (cN S) (nI t)) (upd (S 9) (cN S) (nI r)) (upd (S 10) (cN S) w) (S 3) (cN S + 1)) (hcomm : iComm (S1 24) (upd (S 8) (cN S) (nI t)) (upd (S 9) (cN S) (nI r)) (upd (S 10) (cN S) w) (S 3) (cN S + 1)) (hrep : iRep (ansN S S1 t r w)) : Inv (ansN S S1 t r w) := by
  have hT := h.i0.T8
  have hR := h.i0.R16
  have aN : cN S1 = cN S := cN_congr (e 7 (by omega))
  have x0 : ansN S S1 t r w 0 = S 0 := e 0 (by omega)
  have x3 : ansN S S1 t r w 3 = S 3 := e 3 (by omega)
  have x6 : ansN S S1 t r w 6 = S 6 := e 6 (by omega)
  have x13 : ansN S S1 t r w 13 = S 13 := e 13 (by omega)
  have x14 : ansN S S1 t r w 14 = S 14 := e 14 (by omega)
  have x22 : ansN S S1 t r w 22 = S 22 := e 22 (by omega)
  have x8 : ansN S S1 t r w 8 = upd (S 8) (cN S) (nI t) := by
    show upd (S1 8) (cN S1) (nI t) = _
    rw [aN, e 8 (by omega)]
  have x9 : ansN S S1 t r w 9 = upd (S 9) (cN S) (nI r) := by
    show upd (S1 9) (cN S1) (nI r) = _
    rw [aN, e 9 (by omega)]
  have x10 : ansN S S1 t r w 10 = upd (S 10) (cN S) w := by
    show upd (S1 10) (cN S1) w = _
    rw [aN, e 10 (by omega)]
  have x16 : ansN S S1 t r w 1 6 = S 1 6 := congrFun (e 1 (by omega)) 6
  have x15 : ansN S S1 t r w 1 5 = S 1 5 ||| bt (nI r) := by
    show S1 1 5 ||| bt (nI r) = _
    rw [e 1 (by omega)]
  have x7 : ansN S S1 t r w 7 4 = nI (cN S + 1) := by
    show nI (cN S1 + 1) = _
    rw [aN]
  have cN' : cN (ansN S S1 t r w) = cN S + 1 := by
    unfold cN at *
    rw [x7]; exact iN_nI (by omega)
  have cT' : cT (ansN S S1 t r w) = cT S := cT_congr x0
  have cR' : cR (ansN S S1 t r w) = cR S := by unfold cR; rw [x16]
  have hI : I0 (ansN S S1 t r w) := by
    refine ⟨by rw [cT', x0]; exact h.i0.1, by rw [cR', x16]; exact h.i0.2.1, by rw [cN', x7]; exact ⟨rfl, by omega⟩, fun k hk => ?_, by rw [x13]; exact h.i0.2.2.2.2⟩
    rw [cN'] at hk
    unfold aT aR
    rw [x8, x9]
    by_cases q : k = cN S
    · rw [q, pk_us, pk_us, iN_nI (by omega), iN_nI (by omega)]
      exact ⟨⟨rfl, by omega⟩, rfl, by omega⟩
    · rw [pk_un q, pk_un q]
      exact h.i0.2.2.2.1 k (by omega)
  refine ⟨⟨hI, by rw [x0]; exact h.now, by rw [x6]; exact h.need, ?_, by rw [x13, cT']; exact h.bo, ?_⟩, ⟨?_, hsoon⟩, ⟨?_, ?_⟩, hrep, by rw [x22, x14, x13]; exact h.pay⟩
  · rw [x8, x9, cT', cR', cN']
    intro k hk
    by_cases q : k = cN S
    · rw [q, pk_us, pk_us]; exact ⟨⟨t, ht, rfl⟩, r, hr, rfl⟩
    · rw [pk_un q, pk_un q]; exact h.log k (by omega)
  · rw [x15, x9, x13, cR', cN']
    refine ⟨fun r' hr' => ?_, fun r' hb => ?_⟩
    · rw [B_or1t (by omega), h.tou.1 r' hr']
      constructor
      · rintro ((⟨k, hk, z⟩ | z) | z)
        · exact .inl ⟨k, by omega, by rw [pk_un (by omega)]; exact z⟩
        · exact .inr z
        · exact .inl ⟨cN S, by omega, by rw [pk_us, z]⟩
      · rintro (⟨k, hk, z⟩ | z)
        · by_cases q : k = cN S
          · rw [q, pk_us] at z
            exact .inr (n_inj8 (by omega) (by omega) z).symm
          · rw [pk_un q] at z
            exact .inl (.inl ⟨k, by omega, z⟩)
        · exact .inl (.inr z)
    · rcases (B_or1t (by omega)).mp hb with z | z
      · exact h.tou.2 r' z
      · rw [z]; exact hr
  · rw [x6, x15, cT']; exact hsol
  · rw [x8, x9, x10, x3, cN']; exact hlike
  · rw [x8, x9, x10, x3, cN']; exact hcomm
/-- the replay of one answer more -/
theorem iRep_ans {S S1 : Mem} (h : Inv S) {t r : Nat} {w : Int32} (ht : t < cT S) (hr : r < cR S) (hN : cN S < 200) (e : ∀ c, (c < 19 ∨ c = 22 ∨ 24 < c) → S1 c = S c) (hs : (w = S 3 r ∧ S1 19 = p_noteS S 18 t r (S 0 10) 19 ∧ S1 20 = p_noteS S 18 t r (S 0 10) 20 ∧ S1 21 = p_noteS S 18 t r (S 0 10) 21) ∨ ((¬ w = S 3 r) ∧ S1 19 = S 19 ∧ S1 20 = S 20 ∧ S1 21 = S 21)) : iRep (ansN S S1 t r w) := by
  have hT := h.i0.T8
  have hR := h.i0.R16
  have aN : cN S1 = cN S := cN_congr (e 7 (by omega))
  have x3 : ansN S S1 t r w 3 = S 3 := e 3 (by omega)
  have x4 : ansN S S1 t r w 4 = S 4 := e 4 (by omega)
  have x6 : ansN S S1 t r w 6 = S 6 := e 6 (by omega)
  have x8 : ansN S S1 t r w 8 = upd (S 8) (cN S) (nI t) := by
    show upd (S1 8) (cN S1) (nI t) = _
    rw [aN, e 8 (by omega)]
  have x9 : ansN S S1 t r w 9 = upd (S 9) (cN S) (nI r) := by
    show upd (S1 9) (cN S1) (nI r) = _
    rw [aN, e 9 (by omega)]
  have x10 : ansN S S1 t r w 10 = upd (S 10) (cN S) w := by
    show upd (S1 10) (cN S1) w = _
    rw [aN, e 10 (by omega)]
  have x11 : ansN S S1 t r w 11 = upd (S 11) (cN S) (S 0 10) := by
    show upd (S1 11) (cN S1) (S1 0 10) = _
    rw [aN, e 11 (by omega), e 0 (by omega)]
  have x7 : ansN S S1 t r w 7 4 = nI (cN S + 1) := by
    show nI (cN S1 + 1) = _
    rw [aN]
  have cN' : cN (ansN S S1 t r w) = cN S + 1 := by
    unfold cN at *
    rw [x7]; exact iN_nI (by omega)
  have aT' : aT (ansN S S1 t r w) (cN S) = t := by
    unfold aT
    rw [x8, pk_us]; exact iN_nI (by omega)
  have aR' : aR (ansN S S1 t r w) (cN S) = r := by
    unfold aR
    rw [x9, pk_us]; exact iN_nI (by omega)
  have hpr : p_right (ansN S S1 t r w) (cN S) = decide (w = S 3 r) := by
    unfold p_right
    rw [aR', x10, x3, pk_us]
  have hrp : Eq3 (p_replay (p_wipe (ansN S S1 t r w)) (cN S)) 25 (p_replay (p_wipe S) (cN S)) 25 := rp_congr (cN S) (fun k hk => by
    rw [x8, x9, x10, x11, x3, x4, x6, pk_un (by omega), pk_un (by omega), pk_un (by omega), pk_un (by omega)]
    exact ⟨⟨rfl, rfl, rfl, rfl⟩, h.i0.xT8 hk, rfl, rfl, rfl⟩)
  have h18 : Eq3 S 18 (p_replay (p_wipe (ansN S S1 t r w)) (cN S)) 25 := h.rep.trans hrp.symm
  unfold iRep
  rw [cN', rp_step, hpr, aT', aR']
  rcases hs with ⟨hw, e19, e20, e21⟩ | ⟨hw, e19, e20, e21⟩
  · rw [decide_eq_true hw, if_pos rfl, x11, pk_us]
    have h2 := noteS_eq (m := S 0 10) h18 (show t < 8 by omega) (show S 4 r = p_replay (p_wipe (ansN S S1 t r w)) (cN S) 4 r by rw [rp_cell _ _ (by omega), x4]) (show S 6 r = p_replay (p_wipe (ansN S S1 t r w)) (cN S) 6 r by rw [rp_cell _ _ (by omega), x6])
    refine Eq3.trans ?_ h2
    exact ⟨fun i _ => ⟨congrFun e19 i, congrFun e20 i⟩, fun i _ => congrFun e21 i⟩
  · rw [decide_eq_false hw, if_neg (by decide)]
    refine Eq3.trans ?_ h18
    exact ⟨fun i _ => ⟨congrFun e19 i, congrFun e20 i⟩, fun i _ => congrFun e21 i⟩
theorem open_solved {S : Mem} {t r : Nat} (h : ¬ p_open S 18 t r = -1) {o : Nat} (ho : B (S 6 r) o = true) : B (S 19 t) o = true := by
  unfold p_open p_last at h
  by_cases c : S 6 r &&& (S (18 + 1) t ^^^ (-1)) = 0
  · have := B_zero.mp c o
    rw [B_diff, ho, Bool.true_and, Bool.not_eq_false'] at this
    exact this
  · rw [if_neg c] at h; exact absurd rfl h
theorem now_pos {S : Mem} (h : Inv S) : ¬ S 0 10 < 0 := by
  obtain ⟨n, hn, e⟩ := h.now
  rw [e]; exact nI_pos (by omega)
theorem Inv_right {S : Mem} (h : Inv S) {t r : Nat} {w : Int32} (ht : t < cT S) (hr : r < cR S) (hN : cN S < 200) (hw : w = S 3 r) (hop : ¬ p_open S 18 t r = -1) : Inv (ansN S (p_noteS S 18 t r (S 0 10)) t r w) := by
  have hT := h.i0.T8
  have hR := h.i0.R16
  have e : ∀ c, (c < 19 ∨ c = 22 ∨ 24 < c) → p_noteS S 18 t r (S 0 10) c = S c := fun c hc => fr_noteS (by omega)
  have s19 : p_noteS S 18 t r (S 0 10) 19 = upd (S 19) t (S 19 t ||| bt (nI r)) := solve_1 _
  have s20 : p_noteS S 18 t r (S 0 10) 20 = if decide (¬ S 4 r ≤ S 0 10 - p_open S 18 t r) = true then upd (S 20) t (S 20 t ||| bt (nI r)) else S 20 := solve_2 _
  have s21 : p_noteS S 18 t r (S 0 10) 21 = upd (S 21) (t * 16 + r) (S 0 10) := solve_3 _
  have s23 : p_noteS S 18 t r (S 0 10) 23 = S 23 := fr_noteS (by omega)
  have s24 : p_noteS S 18 t r (S 0 10) 24 = S 24 := fr_noteS (by omega)
  refine Inv_ans h ht hr hN e ?_ ?_ ?_ ?_ (iRep_ans h ht hr hN e (.inl ⟨hw, rfl, rfl, rfl⟩))
  · rw [s19, s21]
    intro t' i ht' hb
    by_cases q : t' = t
    · subst q
      rw [pk_us] at hb ⊢
      by_cases q2 : i = r
      · subst q2
        refine ⟨ht, (B_or1t (by omega)).mpr (.inr rfl), fun o ho => (B_or1t (by omega)).mpr (.inl (open_solved hop ho)), ?_⟩
        rw [pk_us]; exact now_pos h
      · have hb2 : B (S 19 t') i = true := ((B_or1t (by omega)).mp hb).elim id (fun z => absurd z q2)
        obtain ⟨h1, h2, h3, h4⟩ := h.sol t' i ht' hb2
        refine ⟨h1, (B_or1t (by omega)).mpr (.inl h2), fun o ho => (B_or1t (by omega)).mpr (.inl (h3 o ho)), ?_⟩
        rw [pk_un (by omega)]; exact h4
    · rw [pk_un q] at hb ⊢
      obtain ⟨h1, h2, h3, h4⟩ := h.sol t' i ht' hb
      have hi : i < cR S := h.solR ht' hb
      refine ⟨h1, (B_or1t (by omega)).mpr (.inl h2), h3, ?_⟩
      rw [pk_un (by omega)]; exact h4
  · rw [s19, s20]
    intro t' i ht' hb
    by_cases q : t' = t
    · subst q
      rw [pk_us]
      by_cases c : decide (¬ S 4 r ≤ S 0 10 - p_open S 18 t' r) = true
      · rw [if_pos c, pk_us] at hb
        exact (B_or1t (by omega)).mpr (((B_or1t (by omega)).mp hb).imp (h.soon t' i ht') id)
      · rw [if_neg c] at hb
        exact (B_or1t (by omega)).mpr (.inl (h.soon t' i ht' hb))
    · rw [pk_un q]
      by_cases c : decide (¬ S 4 r ≤ S 0 10 - p_open S 18 t r) = true
      · rw [if_pos c, pk_un q] at hb; exact h.soon t' i ht' hb
      · rw [if_neg c] at hb; exact h.soon t' i ht' hb
  · rw [s23]
    intro x y hx hy
    rw [h.like x y hx hy, lB_right (by omega) hw]
  · rw [s24]
    intro x y hx hy hxy z
    rw [h.comm x y hx hy hxy z]
    constructor
    · rintro ⟨h1, h2⟩; exact ⟨h1, (cP_right (by omega) h1 hw).mpr h2⟩
    · rintro ⟨h1, h2⟩; exact ⟨h1, (cP_right (by omega) h1 hw).mp h2⟩
theorem gB_T {S : Mem} (h : Inv S) {x : Nat} {a v : Int32} (hx : x < 16) (hb : gB (S 8) (S 9) (S 10) (nI x) a v (cN S) = true) : x < cT S := by
  have hT := h.i0.T8
  obtain ⟨k, hk, z, _⟩ := gB_iff.mp hb
  obtain ⟨t, ht, z2⟩ := (h.log k hk).1
  rw [z2] at z
  have := n_inj8 (by omega) hx z
  omega
theorem Inv_wrong {S : Mem} (h : Inv S) {t r : Nat} {w : Int32} (ht : t < cT S) (hr : r < cR S) (hN : cN S < 200) (hw : ¬ w = S 3 r) : Inv (ansN S (p_noteW S t r w) t r w) := by
  have hT := h.i0.T8
  have hR := h.i0.R16
  have e : ∀ c, (c < 19 ∨ c = 22 ∨ 24 < c) → p_noteW S t r w c = S c := fun c hc => fr_noteW (by omega)
  have s19 : p_noteW S t r w 19 = S 19 := fr_noteW (by omega)
  have s20 : p_noteW S t r w 20 = S 20 := fr_noteW (by omega)
  have s21 : p_noteW S t r w 21 = S 21 := fr_noteW (by omega)
  have hg : ∀ o, o < 16 → B (p_give S r w (cN S)) o = gB (S 8) (S 9) (S 10) (nI o) (nI r) w (cN S) := fun o ho => give_bit h.i0 r w ho (cN S) (Nat.le_refl _)
  refine Inv_ans h ht hr hN e (by rw [s19, s21]; exact iSol_x h.sol (by omega)) (by rw [s19, s20]; exact h.soon) ?_ ?_ (iRep_ans h ht hr hN e (.inr ⟨hw, s19, s20, s21⟩))
  · by_cases c : B (p_give S r w (cN S)) t = true
    · have e1 : p_noteW S t r w = S := by unfold p_noteW; rw [hs_B (by omega), if_pos c]
      rw [e1]
      rw [hg t (by omega)] at c
      intro x y hx hy
      rw [h.like x y hx hy, lB_again c]
    · have e1 : p_noteW S t r w = p_nwl S (p_give S r w (cN S)) t r (cT S) := by unfold p_noteW; rw [hs_B (by omega), if_neg c]
      have c' := eq_false_of_ne_true c
      rw [e1]
      intro x y hx hy
      have hv := nwl_val (S := S) (g := p_give S r w (cN S)) (t := t) (r := r) (c := 23) (p := fun z => z + 1) (by omega) c' (fun Z o ho hne => common_5 (b := 18) (by omega) ho hne) hx hy (cT S) hT
      rw [hv, hg x (by omega), hg y (by omega), h.like x y hx hy]
      rw [hg t (by omega)] at c'
      by_cases q : x = y
      · subst q
        rw [if_pos rfl, if_neg (fun z => z.elim (fun z2 => by rw [z2.1, c'] at z2; exact absurd z2.2.2 (by decide)) (fun z2 => by rw [z2.1, c'] at z2; exact absurd z2.2.2 (by decide))), if_pos rfl]
      · rw [if_neg q, if_neg q, lB_wrong hx hy (by omega) (by omega) q hw c']
        by_cases d : (x = t ∧ gB (S 8) (S 9) (S 10) (nI y) (nI r) w (cN S) = true) ∨ (y = t ∧ gB (S 8) (S 9) (S 10) (nI x) (nI r) w (cN S) = true)
        · rw [if_pos d, if_pos (d.imp (fun z => ⟨z.1, gB_T h (by omega) z.2, z.2⟩) (fun z => ⟨z.1, gB_T h (by omega) z.2, z.2⟩))]
          exact nI_1 _
        · rw [if_neg d, if_neg (fun z => d (z.imp (fun z2 => ⟨z2.1, z2.2.2⟩) (fun z2 => ⟨z2.1, z2.2.2⟩))), Nat.add_zero]
  · by_cases c : B (p_give S r w (cN S)) t = true
    · have e1 : p_noteW S t r w = S := by unfold p_noteW; rw [hs_B (by omega), if_pos c]
      rw [e1]
      rw [hg t (by omega)] at c
      intro x y hx hy hxy z
      rw [h.comm x y hx hy hxy z, cP_again c]
    · have e1 : p_noteW S t r w = p_nwl S (p_give S r w (cN S)) t r (cT S) := by unfold p_noteW; rw [hs_B (by omega), if_neg c]
      have c' := eq_false_of_ne_true c
      rw [e1]
      intro x y hx hy hxy z
      have hv := nwl_val (S := S) (g := p_give S r w (cN S)) (t := t) (r := r) (c := 24) (p := fun z => z ||| bt (nI r)) (by omega) c' (fun Z o ho hne => common_6 (b := 18) (by omega) ho hne) hx hy (cT S) hT
      rw [hv, hg x (by omega), hg y (by omega)]
      have hcm := h.comm x y hx hy hxy z
      by_cases d : (x = t ∧ gB (S 8) (S 9) (S 10) (nI y) (nI r) w (cN S) = true) ∨ (y = t ∧ gB (S 8) (S 9) (S 10) (nI x) (nI r) w (cN S) = true)
      · rw [if_pos (d.imp (fun z => ⟨z.1, gB_T h (by omega) z.2, z.2⟩) (fun z => ⟨z.1, gB_T h (by omega) z.2, z.2⟩))]
        rw [B_or1t (by omega), hcm]
        constructor
        · rintro (⟨z1, z2⟩ | z1)
          · exact ⟨z1, (cP_wrong hx hy (by omega) (by omega) z1 hxy hw).mpr (.inl z2)⟩
          · exact ⟨by omega, (cP_wrong hx hy (by omega) (by omega) (by omega) hxy hw).mpr (.inr ⟨z1, d⟩)⟩
        · rintro ⟨z1, z2⟩
          rcases (cP_wrong hx hy (by omega) (by omega) z1 hxy hw).mp z2 with z3 | z3
          · exact .inl ⟨z1, z3⟩
          · exact .inr z3.1
      · rw [if_neg (fun z => d (z.imp (fun z2 => ⟨z2.1, z2.2.2⟩) (fun z2 => ⟨z2.1, z2.2.2⟩))), hcm]
        constructor
        · rintro ⟨z1, z2⟩; exact ⟨z1, (cP_wrong hx hy (by omega) (by omega) z1 hxy hw).mpr (.inl z2)⟩
        · rintro ⟨z1, z2⟩
          rcases (cP_wrong hx hy (by omega) (by omega) z1 hxy hw).mp z2 with z3 | z3
          · exact ⟨z1, z3⟩
          · exact absurd z3.2 d
/-! the model's side -/
theorem opn_congr {M M' : Mem} (h5 : M' 5 = M 5) (h6 : M' 6 = M 6) (t r : Nat) : ∀ i, m_opn M' t r i = m_opn M t r i
  | 0 => rfl
  | i + 1 => by
    have en : m_need M' r i = m_need M r i := by unfold m_need; rw [h5]
    show (if m_need M' r i = true ∧ (¬ m_opn M' t r i = -1) ∧ (M' 6 (16 * t + i) = -1 ∨ m_opn M' t r i < M' 6 (16 * t + i)) then M' 6 (16 * t + i) else m_opn M' t r i) = (if m_need M r i = true ∧ (¬ m_opn M t r i = -1) ∧ (M 6 (16 * t + i) = -1 ∨ m_opn M t r i < M 6 (16 * t + i)) then M 6 (16 * t + i) else m_opn M t r i)
    rw [opn_congr h5 h6 t r i, en, h6]
theorem Req_ans {S S1 M M' : Mem} (h : Rel S M) {t r : Nat} {w : Int32} (e : ∀ c, (c < 19 ∨ c = 22 ∨ 24 < c) → S1 c = S c) (em : M' 0 = mapp M t r w 0 ∧ (M' 1 = M 1 ∧ M' 2 = M 2 ∧ M' 3 = M 3 ∧ M' 4 = M 4 ∧ M' 5 = M 5) ∧ (M' 11 = upd (M 11) (mN M) (nI t) ∧ M' 12 = upd (M 12) (mN M) (nI r) ∧ M' 13 = upd (M 13) (mN M) w) ∧ M' 9 = M 9 ∧ M' 10 = M 10 ∧ M' 15 = M 15) : Req (ansN S S1 t r w) M' := by
  have aN : cN S1 = cN S := cN_congr (e 7 (by omega))
  obtain ⟨m0, ⟨m1, m2, m3, m4, m5⟩, ⟨m11, m12, m13⟩, m9, m10, m15⟩ := em
  refine ⟨⟨⟨?_, ?_, ?_⟩, ?_, ?_, ?_⟩, ⟨?_, ?_, ?_, ?_, ?_⟩, ⟨?_, ?_, ?_⟩, ?_, ?_, ?_⟩
  · rw [m0]; exact (congrFun (e 0 (by omega)) 9).trans h.eT
  · rw [m0]; exact (congrFun (e 1 (by omega)) 6).trans h.eR
  · rw [m0]
    show nI (cN S1 + 1) = nI (mN M + 1)
    rw [aN, h.N]
  · rw [m0]; exact (congrFun (e 0 (by omega)) 10).trans h.eW
  · rw [m0]; exact (congrFun (e 0 (by omega)) 11).trans h.eE
  · rw [m0]; exact (congrFun (e 15 (by omega)) 2).trans h.eB
  · rw [m1]; exact (e 2 (by omega)).trans h.e2
  · rw [m2]; exact (e 3 (by omega)).trans h.e3
  · rw [m3]; exact (e 4 (by omega)).trans h.e4
  · rw [m4]; exact (e 5 (by omega)).trans h.e5
  · rw [m5]; exact (e 6 (by omega)).trans h.e6
  · rw [m11]
    show upd (S1 8) (cN S1) (nI t) = _
    rw [aN, e 8 (by omega), h.e8, h.N]
  · rw [m12]
    show upd (S1 9) (cN S1) (nI r) = _
    rw [aN, e 9 (by omega), h.e9, h.N]
  · rw [m13]
    show upd (S1 10) (cN S1) w = _
    rw [aN, e 10 (by omega), h.e10, h.N]
  · rw [m9]; exact (e 13 (by omega)).trans h.e13
  · rw [m10]; exact (e 22 (by omega)).trans h.e22
  · rw [m15]; exact (e 34 (by omega)).trans h.e34
theorem Rel_wrong {S M : Mem} (h : Rel S M) {t r : Nat} {w : Int32} (ht : t < cT S) (hr : r < cR S) (hN : cN S < 200) (hw : ¬ w = S 3 r) : Rel (ansN S (p_noteW S t r w) t r w) (mapp M t r w) := by
  have e : ∀ c, (c < 19 ∨ c = 22 ∨ 24 < c) → p_noteW S t r w c = S c := fun c hc => fr_noteW (by omega)
  have x0 : ansN S (p_noteW S t r w) t r w 0 = S 0 := e 0 (by omega)
  have x16 : ansN S (p_noteW S t r w) t r w 16 = S 16 := e 16 (by omega)
  have x17 : ansN S (p_noteW S t r w) t r w 17 = S 17 := e 17 (by omega)
  have x19 : ansN S (p_noteW S t r w) t r w 19 = S 19 := fr_noteW (by omega)
  have x20 : ansN S (p_noteW S t r w) t r w 20 = S 20 := fr_noteW (by omega)
  have x21 : ansN S (p_noteW S t r w) t r w 21 = S 21 := fr_noteW (by omega)
  refine ⟨Inv_wrong h.inv ht hr hN hw, Req_ans h e ⟨rfl, ⟨rfl, rfl, rfl, rfl, rfl⟩, ⟨rfl, rfl, rfl⟩, rfl, rfl, rfl⟩, ?_, ?_, ?_, ?_⟩
  · rw [x19, x21, cT_congr x0]; exact h.sol
  · rw [x20]; exact h.ts
  · rw [x16]; exact h.cl
  · rw [x17]; exact h.par
theorem Rel_right {S M : Mem} (h : Rel S M) {t r : Nat} {w s : Int32} (ht : t < cT S) (hr : r < cR S) (hN : cN S < 200) (hw : w = S 3 r) (hop : ¬ p_open S 18 t r = -1) (hns : B (S 19 t) r = false) (hs : decide (s = 0) = decide (S 4 r ≤ S 0 10 - p_open S 18 t r)) : Rel (ansN S (p_noteS S 18 t r (S 0 10)) t r w) (msol (mapp M t r w) t r s) := by
  have hT := h.inv.i0.T8
  have hR := h.inv.i0.R16
  have e : ∀ c, (c < 19 ∨ c = 22 ∨ 24 < c) → p_noteS S 18 t r (S 0 10) c = S c := fun c hc => fr_noteS (by omega)
  have x0 : ansN S (p_noteS S 18 t r (S 0 10)) t r w 0 = S 0 := e 0 (by omega)
  have x16 : ansN S (p_noteS S 18 t r (S 0 10)) t r w 16 = S 16 := e 16 (by omega)
  have x17 : ansN S (p_noteS S 18 t r (S 0 10)) t r w 17 = S 17 := e 17 (by omega)
  have x19 : ansN S (p_noteS S 18 t r (S 0 10)) t r w 19 = upd (S 19) t (S 19 t ||| bt (nI r)) := solve_1 (b := 18) _
  have x20 : ansN S (p_noteS S 18 t r (S 0 10)) t r w 20 = if decide (¬ S 4 r ≤ S 0 10 - p_open S 18 t r) = true then upd (S 20) t (S 20 t ||| bt (nI r)) else S 20 := solve_2 (b := 18) _
  have x21 : ansN S (p_noteS S 18 t r (S 0 10)) t r w 21 = upd (S 21) (t * 16 + r) (S 0 10) := solve_3 (b := 18) _
  have y6 : msol (mapp M t r w) t r s 6 = upd (M 6) (16 * t + r) (S 0 10) := by rw [h.eW]; rfl
  have y7 : msol (mapp M t r w) t r s 7 = upd (M 7) (16 * t + r) s := rfl
  refine ⟨Inv_right h.inv ht hr hN hw hop, Req_ans h e ⟨rfl, ⟨rfl, rfl, rfl, rfl, rfl⟩, ⟨rfl, rfl, rfl⟩, rfl, rfl, rfl⟩, ?_, ?_, ?_, ?_⟩
  · rw [x19, x21, y6, cT_congr x0]
    intro t' r' ht' hr'
    by_cases q : t' = t ∧ r' = r
    · rw [q.1, q.2, pk_us, pk_us, pk_us, (B_or1t (by omega)).mpr (.inr rfl)]
      refine ⟨?_, fun _ => rfl⟩
      rw [decide_eq_false (fun z => now_pos h.inv (by rw [z]; decide))]; rfl
    · have e1 : B (upd (S 19) t (S 19 t ||| bt (nI r)) t') r' = B (S 19 t') r' := by
        by_cases q1 : t' = t
        · rw [q1, pk_us, B_or1 (by omega), decide_eq_false (fun z => q ⟨q1, z⟩), Bool.or_false]
        · rw [pk_un q1]
      rw [e1, pk_un (by omega), pk_un (by omega)]
      exact h.sol t' r' ht' hr'
  · rw [x20, y7]
    by_cases c : S 4 r ≤ S 0 10 - p_open S 18 t r
    · rw [decide_eq_true c] at hs
      have s0 : s = 0 := of_decide_eq_true hs
      rw [decide_eq_false (fun z => z c), if_neg (by decide), s0]
      intro t' r' ht' hr'
      by_cases q : t' = t ∧ r' = r
      · rw [q.1, q.2, pk_us]
        cases hb : B (S 20 t) r with
        | false => rfl
        | true =>
          have := h.inv.soon t r (by omega) hb
          rw [hns] at this; cases this
      · rw [pk_un (by omega)]; exact h.ts t' r' ht' hr'
    · rw [decide_eq_false c] at hs
      have s1 : ¬ s = 0 := of_decide_eq_false hs
      rw [decide_eq_true c, if_pos rfl]
      exact rBit_set h.ts (by omega) (by omega) s1
  · rw [x16]; exact h.cl
  · rw [x17]; exact h.par
theorem sim_ans {S M : Mem} (h : Rel S M) (x y w : Int32) : Sim [xI, xA, xS] S (oAns S x y w) (mAns M x y w) := by
  unfold oAns mAns
  rw [h.T, h.R]
  refine sim_2 (f := fun t r => if okr w 0 9999 = true then hAns S t r w else (some xA, 0, S)) h rfl (T16 h.inv) h.inv.i0.R16 fun t r ht hr => ?_
  have hT := h.inv.i0.T8
  have hR := h.inv.i0.R16
  by_cases c0 : okr w 0 9999 = true
  · rw [if_pos c0, if_pos c0]
    unfold hAns hmAns
    have hu := r_under h ht (show r < 16 by omega)
    rw [hu]
    by_cases c1 : m_done M t r = true
    · rw [if_pos c1, c1, if_neg (show ¬ (!true) = true by decide)]; exact .inr ⟨2, xS, rfl, rfl, rfl, h⟩
    · rw [eq_false_of_ne_true c1] at hu
      rw [if_neg c1, eq_false_of_ne_true c1, if_pos (show (!false) = true from rfl), h.N]
      by_cases c2 : cN S < 200
      · rw [if_pos c2, if_neg (show ¬ cN S = 200 by omega)]
        unfold p_under at hu
        rw [Bool.not_false, Bool.and_eq_true, Bool.and_eq_true, decide_eq_true_eq, decide_eq_true_eq, hs_B (by omega), Bool.not_eq_true'] at hu
        obtain ⟨_, hop, hns⟩ := hu
        by_cases c3 : w = S 3 r
        · have eo : m_opened (mapp M t r w) t r = p_open S 18 t r := by
            rw [r_open h ht (by omega)]; exact opn_congr (M := M) (M' := mapp M t r w) rfl rfl t r r
          rw [if_pos c3, if_pos (show w = M 2 r by rw [← h.e3]; exact c3), eo, ← h.e4, ← h.eW]
          by_cases c4 : S 4 r ≤ S 0 10 - p_open S 18 t r
          · rw [if_pos c4]
            exact .inl ⟨rfl, rfl, rfl, Rel_right h ht hr c2 c3 hop hns (by rw [decide_eq_true c4]; rfl)⟩
          · rw [if_neg c4]
            exact .inl ⟨rfl, rfl, rfl, Rel_right h ht hr c2 c3 hop hns (by rw [decide_eq_false c4]; rfl)⟩
        · rw [if_neg c3, if_neg (show ¬ w = M 2 r by rw [← h.e3]; exact c3)]
          exact .inl ⟨rfl, rfl, rfl, Rel_wrong h ht hr c2 c3⟩
      · have := h.inv.i0.N200
        rw [if_neg c2, if_pos (show cN S = 200 by omega)]; exact .inr ⟨2, xS, rfl, rfl, rfl, h⟩
  · rw [if_neg c0, if_neg c0]; exact .inr ⟨1, xA, rfl, rfl, rfl, h⟩
end
end
section
section
/-! scoreAnew -/
theorem rep_gB (S : Mem) (a : Nat) : p_rep S a = gB (S 8) (S 9) (S 10) (S 8 a) (S 9 a) (S 10 a) a := by
  apply Bool.eq_iff_iff.mpr
  unfold p_rep
  rw [gB_iff, List.any_eq_true]
  constructor
  · rintro ⟨k, hk, hb⟩
    unfold p_again p_same at hb
    rw [Bool.and_eq_true, Bool.and_eq_true, decide_eq_true_eq, decide_eq_true_eq, decide_eq_true_eq] at hb
    exact ⟨k, List.mem_range.mp hk, hb⟩
  · rintro ⟨k, hk, h1, h2, h3⟩
    refine ⟨k, List.mem_range.mpr hk, ?_⟩
    unfold p_again p_same
    rw [decide_eq_true h1, decide_eq_true h2, decide_eq_true h3]; rfl
theorem cmpO_val {S Y : Mem} (hI : I0 S) (hY : ∀ k, k < 26 → Y k = S k) {a u o : Nat} (hu : aT S a = u) (hou : ¬ o = u) (ho : o < 8) (hu8 : u < 8) : ∀ n, n ≤ cN S → p_cmpO Y a n 30 (u * 8 + o) = (if gB (S 8) (S 9) (S 10) (nI o) (S 9 a) (S 10 a) n = true then Y 30 (u * 8 + o) + 1 else Y 30 (u * 8 + o)) ∧ (S 9 a = nI (aR S a) → aR S a < 16 → ∀ z, B (p_cmpO Y a n 31 (u * 8 + o)) z = true ↔ B (Y 31 (u * 8 + o)) z = true ∨ (z = aR S a ∧ gB (S 8) (S 9) (S 10) (nI o) (S 9 a) (S 10 a) n = true))
  | 0, _ => ⟨rfl, fun _ _ z => ⟨.inl, fun q => q.elim id (fun q2 => nomatch q2.2)⟩⟩
  | n + 1, hn => by
    obtain ⟨ih1, ih2⟩ := cmpO_val hI hY hu hou ho hu8 n (by omega)
    have h8 := hI.xT (k := n) (by omega)
    have h88 := hI.xT8 (k := n) (by omega)
    have hW : ∀ k, k < 26 → p_cmpO Y a n k = S k := fun k hk => by rw [fr_cmpO (by omega), hY k hk]
    have w8 := hW 8 (by omega)
    have w9 := hW 9 (by omega)
    have w10 := hW 10 (by omega)
    have eT : aT Y a = u := by
      rw [← hu]; unfold aT; rw [hY 8 (by omega)]
    have eTn : aT (p_cmpO Y a n) n = aT S n := by unfold aT; rw [w8]
    have eRn : aR (p_cmpO Y a n) n = aR S n := by unfold aR; rw [w9]
    have eS : p_same (p_cmpO Y a n) a n = (decide (S 9 a = S 9 n) && decide (S 10 a = S 10 n)) := by unfold p_same; rw [w9, w10]
    have eP : p_rep (p_cmpO Y a n) n = gB (S 8) (S 9) (S 10) (S 8 n) (S 9 n) (S 10 n) n := by rw [rep_gB, w8, w9, w10]
    have es : gB (S 8) (S 9) (S 10) (nI o) (S 9 a) (S 10 a) (n + 1) = (gB (S 8) (S 9) (S 10) (nI o) (S 9 a) (S 10 a) n || (decide (S 8 n = nI o) && (decide (S 9 n = S 9 a) && decide (S 10 n = S 10 a)))) := rfl
    have step : p_cmpO Y a (n + 1) = if (¬ p_cmpO Y a n 8 n = nI (aT Y a)) ∧ p_same (p_cmpO Y a n) a n = true ∧ p_rep (p_cmpO Y a n) n = false then p_common (p_cmpO Y a n) 25 (aT Y a) (aT (p_cmpO Y a n) n) (aR (p_cmpO Y a n) n) else p_cmpO Y a n := rfl
    rw [step, w8, eT, eTn, eRn, eS, eP]
    by_cases c : (¬ S 8 n = nI u) ∧ (decide (S 9 a = S 9 n) && decide (S 10 a = S 10 n)) = true ∧ gB (S 8) (S 9) (S 10) (S 8 n) (S 9 n) (S 10 n) n = false
    · obtain ⟨c1, c2, c3⟩ := c
      have hb : ¬ u = aT S n := fun z => c1 (by rw [h8, z])
      have c2' := c2
      rw [Bool.and_eq_true, decide_eq_true_eq, decide_eq_true_eq] at c2'
      have eR : aR S n = aR S a := by unfold aR; rw [c2'.1]
      rw [if_pos ⟨c1, c2, c3⟩, es, decide_eq_true c2'.1.symm, decide_eq_true c2'.2.symm, Bool.and_true, Bool.and_true, eR]
      have v5 : p_common (p_cmpO Y a n) 25 u (aT S n) (aR S a) 30 (u * 8 + o) = if o = aT S n then p_cmpO Y a n 30 (u * 8 + o) + 1 else p_cmpO Y a n 30 (u * 8 + o) := by
        have := common_5 (S := p_cmpO Y a n) (b := 25) (r := aR S a) hu8 h88 hb
        show p_common (p_cmpO Y a n) 25 u (aT S n) (aR S a) (25 + 5) (u * 8 + o) = _
        rw [this, upd2 (p := fun z => z + 1) hu8 h88 hb hu8 ho]
        by_cases q : o = aT S n
        · rw [if_pos (.inl ⟨rfl, q⟩), if_pos q]
        · rw [if_neg (fun z => z.elim (fun z2 => q z2.2) (fun z2 => hb z2.1)), if_neg q]
      have v6 : p_common (p_cmpO Y a n) 25 u (aT S n) (aR S a) 31 (u * 8 + o) = if o = aT S n then p_cmpO Y a n 31 (u * 8 + o) ||| bt (nI (aR S a)) else p_cmpO Y a n 31 (u * 8 + o) := by
        have := common_6 (S := p_cmpO Y a n) (b := 25) (r := aR S a) hu8 h88 hb
        show p_common (p_cmpO Y a n) 25 u (aT S n) (aR S a) (25 + 6) (u * 8 + o) = _
        rw [this, upd2 (p := fun z => z ||| bt (nI (aR S a))) hu8 h88 hb hu8 ho]
        by_cases q : o = aT S n
        · rw [if_pos (.inl ⟨rfl, q⟩), if_pos q]
        · rw [if_neg (fun z => z.elim (fun z2 => q z2.2) (fun z2 => hb z2.1)), if_neg q]
      rw [v5, v6]
      by_cases q : o = aT S n
      · have g0 : gB (S 8) (S 9) (S 10) (nI o) (S 9 a) (S 10 a) n = false := by
          rw [c2'.1, c2'.2, q, ← h8]; exact c3
        rw [if_pos q, if_pos q, g0, decide_eq_true (show S 8 n = nI o by rw [q]; exact h8), ih1, g0]
        refine ⟨rfl, fun hq hr z => ?_⟩
        rw [B_or1t (by omega), ih2 hq hr z, g0]
        exact ⟨fun y => y.elim (fun y2 => y2.elim .inl (fun y3 => nomatch y3.2)) (fun y2 => .inr ⟨y2, rfl⟩), fun y => y.elim (fun y2 => .inl (.inl y2)) (fun y2 => .inr y2.1)⟩
      · rw [if_neg q, if_neg q, decide_eq_false (show ¬ S 8 n = nI o from fun z => q (n_inj8 (by omega) (by omega) (h8.symm.trans z)).symm), Bool.or_false]
        exact ⟨ih1, ih2⟩
    · have g1 : gB (S 8) (S 9) (S 10) (nI o) (S 9 a) (S 10 a) (n + 1) = gB (S 8) (S 9) (S 10) (nI o) (S 9 a) (S 10 a) n := by
        rw [es]
        cases hb : (decide (S 8 n = nI o) && (decide (S 9 n = S 9 a) && decide (S 10 n = S 10 a))) with
        | false => rw [Bool.or_false]
        | true =>
          rw [Bool.and_eq_true, Bool.and_eq_true, decide_eq_true_eq, decide_eq_true_eq, decide_eq_true_eq] at hb
          obtain ⟨b1, b2, b3⟩ := hb
          have d1 : ¬ S 8 n = nI u := fun z => hou (n_inj8 (by omega) (by omega) (b1.symm.trans z))
          have d2 : (decide (S 9 a = S 9 n) && decide (S 10 a = S 10 n)) = true := by rw [decide_eq_true b2.symm, decide_eq_true b3.symm]; rfl
          have d3 : gB (S 8) (S 9) (S 10) (S 8 n) (S 9 n) (S 10 n) n = true := by
            cases hg : gB (S 8) (S 9) (S 10) (S 8 n) (S 9 n) (S 10 n) n with
            | true => rfl
            | false => exact absurd ⟨d1, d2, hg⟩ c
          rw [b1, b2, b3] at d3
          rw [d3]; rfl
      rw [if_neg c, g1]
      exact ⟨ih1, ih2⟩
theorem cmpP_val {S X : Mem} (h : Inv S) (hX : ∀ k, k < 26 → X k = S k) {u o : Nat} (hou : ¬ o = u) (ho : o < 8) (hu8 : u < 8) (h30 : X 30 (u * 8 + o) = 0) (h31 : X 31 (u * 8 + o) = 0) : ∀ n, n ≤ cN S → p_cmpP X u n 30 (u * 8 + o) = nI (lB (S 8) (S 9) (S 10) (S 3) (cN S) u o n) ∧ ∀ z, B (p_cmpP X u n 31 (u * 8 + o)) z = true ↔ ∃ a, a < n ∧ S 8 a = nI u ∧ (fB (S 8) (S 9) (S 10) (S 3) a && gB (S 8) (S 9) (S 10) (nI o) (S 9 a) (S 10 a) (cN S)) = true ∧ z = aR S a
  | 0, _ => by
    refine ⟨h30.trans nI_0.symm, fun z => ?_⟩
    show B (X 31 (u * 8 + o)) z = true ↔ _
    rw [h31, B_0]
    exact ⟨fun q => (nomatch q), fun ⟨a, ha, _⟩ => absurd ha (by omega)⟩
  | n + 1, hn => by
    obtain ⟨ih1, ih2⟩ := cmpP_val h hX hou ho hu8 h30 h31 n (by omega)
    have hV : ∀ k, k < 26 → p_cmpP X u n k = S k := fun k hk => by rw [fr_cmpP (by omega), hX k hk]
    have v3 := hV 3 (by omega)
    have v8 := hV 8 (by omega)
    have v9 := hV 9 (by omega)
    have v10 := hV 10 (by omega)
    have eN : cN (p_cmpP X u n) = cN S := cN_congr (hV 7 (by omega))
    have eR : aR (p_cmpP X u n) n = aR S n := by unfold aR; rw [v9]
    have e1 : p_right (p_cmpP X u n) n = decide (S 10 n = S 3 (iN (S 9 n))) := by
      unfold p_right
      rw [eR, v10, v3]; rfl
    have e2 : p_rep (p_cmpP X u n) n = gB (S 8) (S 9) (S 10) (S 8 n) (S 9 n) (S 10 n) n := by rw [rep_gB, v8, v9, v10]
    have ef : (decide (S 10 n = S 3 (iN (S 9 n))) = false ∧ gB (S 8) (S 9) (S 10) (S 8 n) (S 9 n) (S 10 n) n = false) ↔ fB (S 8) (S 9) (S 10) (S 3) n = true := by
      unfold fB
      rw [Bool.and_eq_true, decide_eq_true_eq, decide_eq_false_iff_not, Bool.not_eq_true']
    have step : p_cmpP X u (n + 1) = if p_cmpP X u n 8 n = nI u ∧ p_right (p_cmpP X u n) n = false ∧ p_rep (p_cmpP X u n) n = false then p_cmpO (p_cmpP X u n) n (cN (p_cmpP X u n)) else p_cmpP X u n := rfl
    rw [step, v8, e1, e2, eN, lB_s]
    by_cases c : S 8 n = nI u ∧ decide (S 10 n = S 3 (iN (S 9 n))) = false ∧ gB (S 8) (S 9) (S 10) (S 8 n) (S 9 n) (S 10 n) n = false
    · have cf := ef.mp c.2
      have hu : aT S n = u := by unfold aT; rw [c.1, iN_nI (by omega)]
      obtain ⟨o1, o2⟩ := cmpO_val h.i0 hV hu hou ho hu8 (cN S) (Nat.le_refl _)
      have o3 := o2 (h.i0.xR (by omega)) (h.i0.xR16 (by omega))
      rw [if_pos c, o1, ih1, cf, Bool.true_and]
      by_cases q : gB (S 8) (S 9) (S 10) (nI o) (S 9 n) (S 10 n) (cN S) = true
      · rw [if_pos q, if_pos ⟨c.1, q⟩]
        refine ⟨nI_1 _, fun z => ?_⟩
        rw [o3 z, ih2 z]
        constructor
        · rintro (⟨a, ha, b1, b2, b3⟩ | ⟨b1, b2⟩)
          · exact ⟨a, by omega, b1, b2, b3⟩
          · exact ⟨n, by omega, c.1, by rw [cf, q]; rfl, b1⟩
        · rintro ⟨a, ha, b1, b2, b3⟩
          by_cases e : a = n
          · subst e; exact .inr ⟨b3, q⟩
          · exact .inl ⟨a, by omega, b1, b2, b3⟩
      · rw [if_neg q, if_neg (fun z => q z.2)]
        refine ⟨rfl, fun z => ?_⟩
        rw [o3 z, ih2 z]
        constructor
        · rintro (⟨a, ha, b1, b2, b3⟩ | ⟨b1, b2⟩)
          · exact ⟨a, by omega, b1, b2, b3⟩
          · exact absurd b2 q
        · rintro ⟨a, ha, b1, b2, b3⟩
          by_cases e : a = n
          · subst e
            rw [cf, Bool.true_and] at b2
            exact absurd b2 q
          · exact .inl ⟨a, by omega, b1, b2, b3⟩
    · have nc : ¬ (S 8 n = nI u ∧ (fB (S 8) (S 9) (S 10) (S 3) n && gB (S 8) (S 9) (S 10) (nI o) (S 9 n) (S 10 n) (cN S)) = true) := fun z => by
        have z2 := z.2
        rw [Bool.and_eq_true] at z2
        exact c ⟨z.1, ef.mpr z2.1⟩
      rw [if_neg c, if_neg nc, ih1]
      refine ⟨rfl, fun z => ?_⟩
      rw [ih2 z]
      constructor
      · rintro ⟨a, ha, b1, b2, b3⟩
        exact ⟨a, by omega, b1, b2, b3⟩
      · rintro ⟨a, ha, b1, b2, b3⟩
        by_cases e : a = n
        · subst e; exact absurd ⟨b1, b2⟩ nc
        · exact ⟨a, by omega, b1, b2, b3⟩
theorem sal1_val {Y : Mem} {u r : Nat} : p_sal1 Y u r 3 29 = upd (Y 29) (u * 16 + r) (Y 29 (u * 16 + r) + Y 14 ((u * 16 + r) * 3 + 0) + Y 14 ((u * 16 + r) * 3 + 1) + Y 14 ((u * 16 + r) * 3 + 2)) := by
  have s : ∀ n, p_sal1 Y u r (n + 1) 29 = upd (p_sal1 Y u r n 29) (u * 16 + r) (p_sal1 Y u r n 29 (u * 16 + r) + Y 14 ((u * 16 + r) * 3 + n)) := fun n => by
    rw [← fr_sal1 (S := Y) (t := u) (r := r) (show 14 ≠ 29 by omega) n]
    show st (p_sal1 Y u r n) 29 (u * 16 + r) (p_sal1 Y u r n 29 (u * 16 + r) + p_sal1 Y u r n 14 ((u * 16 + r) * 3 + n)) 29 = _
    exact st_same
  funext j
  rw [s 2, s 1, s 0]
  by_cases q : j = u * 16 + r
  · rw [q, pk_us, pk_us, pk_us, pk_us]; rfl
  · rw [pk_un q, pk_un q, pk_un q, pk_un q]; rfl
theorem sals_val {X : Mem} {u r : Nat} (hr : r < 16) : ∀ n, n ≤ 16 → p_sals X u n 29 (u * 16 + r) = if r < n then X 29 (u * 16 + r) + X 14 ((u * 16 + r) * 3 + 0) + X 14 ((u * 16 + r) * 3 + 1) + X 14 ((u * 16 + r) * 3 + 2) else X 29 (u * 16 + r)
  | 0, _ => by rw [if_neg (by omega)]; rfl
  | n + 1, hn => by
    have ih := sals_val (X := X) (u := u) hr n (by omega)
    have e14 : p_sals X u n 14 = X 14 := fr_sals (by omega) n
    show p_sal1 (p_sals X u n) u n 3 29 (u * 16 + r) = _
    rw [sal1_val, e14]
    by_cases q : r = n
    · subst q
      rw [pk_us, ih, if_neg (Nat.lt_irrefl r), if_pos (by omega)]
    · rw [pk_un (by omega), ih]
      by_cases q2 : r < n
      · rw [if_pos q2, if_pos (by omega)]
      · rw [if_neg q2, if_neg (by omega)]
theorem spread_congr {S S' : Mem} (h6 : S' 6 = S 6) (x : Int32) : ∀ n, p_spread S' x n = p_spread S x n
  | 0 => rfl
  | n + 1 => by rw [p_spread_s, p_spread_s, spread_congr h6 x n, h6]
theorem free_congr {S S' : Mem} (h16 : S' 16 = S 16) (h2 : ∀ i, i < 8 → S' 27 i = S 20 i) : ∀ n, n ≤ 8 → p_free S' 25 n = p_free S 18 n
  | 0, _ => rfl
  | n + 1, hn => by
    show p_free S' 25 n ||| (S' 27 n &&& (S' 16 n ^^^ (-1))) = p_free S 18 n ||| (S 20 n &&& (S 16 n ^^^ (-1)))
    rw [free_congr h16 h2 n (by omega), h2 n (by omega), h16]
theorem cheat_congr {S S' : Mem} {u : Nat} (h15 : S' 15 = S 15) (h17 : S' 17 = S 17) (h5 : ∀ o, o < 8 → (¬ u = o) → S' 30 (u * 8 + o) = S 23 (u * 8 + o)) (h6 : ∀ o, o < 8 → (¬ u = o) → S' 31 (u * 8 + o) = S 24 (u * 8 + o)) : ∀ n, n ≤ 8 → p_cheat S' 25 u n = p_cheat S 18 u n
  | 0, _ => rfl
  | n + 1, hn => by
    show (if p_links S' u n (S' 30 (u * 8 + n)) = true then p_cheat S' 25 u n ||| S' 31 (u * 8 + n) else p_cheat S' 25 u n) = (if p_links S u n (S 23 (u * 8 + n)) = true then p_cheat S 18 u n ||| S 24 (u * 8 + n) else p_cheat S 18 u n)
    rw [cheat_congr h15 h17 h5 h6 n (by omega)]
    by_cases q : u = n
    · have l : ∀ (Z : Mem) (x : Int32), ¬ p_links Z u n x = true := fun Z x z => by
        unfold p_links at z
        rw [decide_eq_false (fun y => y q), Bool.false_and] at z
        cases z
      rw [if_neg (l _ _), if_neg (l _ _)]
    · rw [h5 n (by omega) q, h6 n (by omega) q]
      have l : p_links S' u n (S 23 (u * 8 + n)) = p_links S u n (S 23 (u * 8 + n)) := by
        unfold p_links
        rw [h15, h17]
      rw [l]
theorem sum_congr {S S' : Mem} {u : Nat} {cnt free : Int32} (h2 : S' 2 = S 2) : ∀ n, (∀ r, r < n → S' 29 (u * 16 + r) = S 22 (u * 16 + r)) → p_sum S' 25 u cnt free n = p_sum S 18 u cnt free n
  | 0, _ => rfl
  | n + 1, h => by
    have ih := sum_congr (cnt := cnt) (free := free) h2 n (fun r hr => h r (by omega))
    have e := h n (by omega)
    show (if hs cnt (nI n) = true then (if hs free (nI n) = true then p_sum S' 25 u cnt free n + S' 2 n else (p_sum S' 25 u cnt free n + S' 2 n) - S' 29 (u * 16 + n)) else (if hs free (nI n) = true then p_sum S' 25 u cnt free n else p_sum S' 25 u cnt free n - S' 29 (u * 16 + n))) = (if hs cnt (nI n) = true then (if hs free (nI n) = true then p_sum S 18 u cnt free n + S 2 n else (p_sum S 18 u cnt free n + S 2 n) - S 22 (u * 16 + n)) else (if hs free (nI n) = true then p_sum S 18 u cnt free n else p_sum S 18 u cnt free n - S 22 (u * 16 + n)))
    rw [ih, e, h2]
theorem anew_eq (S : Mem) (u : Nat) : p_anewM S u = p_sals (p_cmpP (p_replay (p_wipe S) (cN S)) u (cN S)) u (cR S) := by
  have e1 : cN (p_wipe S) = cN S := cN_congr (fr_wipe (by omega))
  have e2 : cN (p_replay (p_wipe S) (cN S)) = cN S := cN_congr (rp_cell S _ (by omega))
  have e3 : cR (p_cmpP (p_replay (p_wipe S) (cN S)) u (cN S)) = cR S := cR_congr (by rw [fr_cmpP (by omega), rp_cell S _ (by omega)])
  unfold p_anewM
  rw [e1, e2, e3]
theorem fr_anew (S : Mem) (u : Nat) {k : Nat} (hk : k < 26 ∨ 31 < k) : p_anewM S u k = S k := by rw [anew_eq, fr_sals (by omega), fr_cmpP (by omega), fr_replay (by omega), fr_wipe (by omega)]
theorem Rel_anew {S M : Mem} (h : Rel S M) (u : Nat) : Rel (p_anewM S u) M := Rel_congr (fun _ hk => fr_anew S u (by omega)) h
theorem r_anew {S M : Mem} (h : Rel S M) {u : Nat} (hu : u < cT S) : p_sumUp (p_anewM S u) 25 u (p_count (p_anewM S u) 25 u) = m_score M u := by
  have hT := h.inv.i0.T8
  have hR := h.inv.i0.R16
  have hu8 : u < 8 := by omega
  have q0 : p_anewM S u 0 = S 0 := fr_anew S u (by omega)
  have q1 : p_anewM S u 1 = S 1 := fr_anew S u (by omega)
  have q2 : p_anewM S u 2 = S 2 := fr_anew S u (by omega)
  have q6 : p_anewM S u 6 = S 6 := fr_anew S u (by omega)
  have q15 : p_anewM S u 15 = S 15 := fr_anew S u (by omega)
  have q16 : p_anewM S u 16 = S 16 := fr_anew S u (by omega)
  have q17 : p_anewM S u 17 = S 17 := fr_anew S u (by omega)
  have q26 : p_anewM S u 26 = p_replay (p_wipe S) (cN S) 26 := by rw [anew_eq, fr_sals (by omega), fr_cmpP (by omega)]
  have q27 : p_anewM S u 27 = p_replay (p_wipe S) (cN S) 27 := by rw [anew_eq, fr_sals (by omega), fr_cmpP (by omega)]
  have eT : cT (p_anewM S u) = cT S := cT_congr q0
  have eR : cR (p_anewM S u) = cR S := cR_congr q1
  have hX : ∀ k, k < 26 → p_replay (p_wipe S) (cN S) k = S k := fun k hk => rp_cell S _ hk
  have z30 : ∀ i, i < 64 → p_replay (p_wipe S) (cN S) 30 i = 0 := fun i hi => by rw [fr_replay (by omega)]; exact wipe_30 S hi
  have z31 : ∀ i, i < 64 → p_replay (p_wipe S) (cN S) 31 i = 0 := fun i hi => by rw [fr_replay (by omega)]; exact wipe_31 S hi
  have z29 : ∀ i, i < 128 → p_cmpP (p_replay (p_wipe S) (cN S)) u (cN S) 29 i = 0 := fun i hi => by rw [fr_cmpP (by omega), fr_replay (by omega)]; exact wipe_29 S hi
  have h5 : ∀ o, o < 8 → (¬ u = o) → p_anewM S u 30 (u * 8 + o) = S 23 (u * 8 + o) := fun o ho hne => by
    rw [anew_eq, fr_sals (by omega), (cmpP_val h.inv hX (fun z => hne z.symm) ho hu8 (z30 _ (by omega)) (z31 _ (by omega)) (cN S) (Nat.le_refl _)).1, h.inv.like u o hu8 ho, if_neg hne]
  have h6 : ∀ o, o < 8 → (¬ u = o) → p_anewM S u 31 (u * 8 + o) = S 24 (u * 8 + o) := fun o ho hne => by
    apply B_xt
    intro z
    rw [anew_eq, fr_sals (by omega), (cmpP_val h.inv hX (fun z => hne z.symm) ho hu8 (z30 _ (by omega)) (z31 _ (by omega)) (cN S) (Nat.le_refl _)).2 z, h.inv.comm u o hu8 ho hne z]
    have hc := m_comm_cP h.J u o z
    rw [h.N, ← h.e8, ← h.e9, ← h.e10, ← h.e3] at hc
    rw [← hc]
    constructor
    · rintro ⟨a, ha, b1, b2, b3⟩
      refine ⟨a, ha, b1, ?_, ?_⟩
      · rw [m_comm_B, h.N, ← h.e8, ← h.e9, ← h.e10, ← h.e3]; exact b2
      · rw [b3]; unfold aR mq; rw [h.e9]
    · rintro ⟨a, ha, b1, b2, b3⟩
      refine ⟨a, ha, b1, ?_, ?_⟩
      · rw [m_comm_B, h.N, ← h.e8, ← h.e9, ← h.e10, ← h.e3] at b2; exact b2
      · rw [b3]; unfold aR mq; rw [h.e9]
  have hpay : ∀ r, r < cR S → p_anewM S u 29 (u * 16 + r) = S 22 (u * 16 + r) := fun r hr => by
    have e14 : p_cmpP (p_replay (p_wipe S) (cN S)) u (cN S) 14 = S 14 := by rw [fr_cmpP (by omega), rp_cell S _ (by omega)]
    rw [anew_eq, sals_val (by omega) (cR S) hR, if_pos hr, z29 _ (by omega), e14, Int32.zero_add, (h.inv.pay (u * 16 + r) (by omega)).2]
  have eF : p_free (p_anewM S u) 25 (cT S) = p_free S 18 (cT S) := free_congr q16 (fun i hi => by
    rw [q27]; exact ((h.inv.rep.1 i hi).2).symm) _ hT
  have eC : p_cheat (p_anewM S u) 25 u (cT S) = p_cheat S 18 u (cT S) := cheat_congr q15 q17 h5 h6 _ hT
  have e26 : p_anewM S u 26 u = S 19 u := by rw [q26]; exact ((h.inv.rep.1 u hu8).1).symm
  have eV : p_void (p_anewM S u) 25 u = p_void S 18 u := by
    show p_spread (p_anewM S u) (p_cheat (p_anewM S u) 25 u (cT (p_anewM S u)) &&& p_anewM S u 26 u) (cR (p_anewM S u)) &&& p_anewM S u 26 u = p_spread S (p_cheat S 18 u (cT S) &&& S 19 u) (cR S) &&& S 19 u
    rw [eT, eR, eC, e26, spread_congr q6]
  have eK : p_count (p_anewM S u) 25 u = p_count S 18 u := by
    show (p_anewM S u 26 u &&& (p_void (p_anewM S u) 25 u ^^^ (-1))) &&& (p_free (p_anewM S u) 25 (cT (p_anewM S u)) ^^^ (-1)) = (S 19 u &&& (p_void S 18 u ^^^ (-1))) &&& (p_free S 18 (cT S) ^^^ (-1))
    rw [eT, eF, eV, e26]
  rw [← r_score h hu, eK]
  unfold p_sumUp
  rw [eT, eR, eF]
  exact sum_congr q2 _ hpay
theorem sim_ok {xs : List String} {S S2 M2 : Mem} {a b : Int32} (h : Rel S2 M2) (e : a = b) : Sim xs S (none, a, S2) (b, 0, M2) := .inl ⟨rfl, rfl, e, h⟩
theorem sim_1t {S M : Mem} (h : Rel S M) {xs : List String} {x : Int32} {a b : Nat → Int32} {c : Nat → Mem} (hx : xs[0]? = some xI) (hf : ∀ t, t < cT S → Sim xs S (none, a t, c t) (b t, 0, M)) : Sim xs S (o1 S x fun t => (none, a t, c t)) (mm1 M x (cT S) fun t => (b t, 0, M)) := sim_1 (f := fun t => (none, a t, c t)) h hx (T16 h.inv) hf
theorem sim_anew {S M : Mem} (h : Rel S M) (x : Int32) : Sim [xI] S (oAnew S x) (mScore M x) := by
  unfold oAnew mScore
  rw [h.T]
  exact sim_1t h rfl (fun t ht => sim_ok (Rel_anew h t) (r_anew h ht))
/-! what the model's prize asks -/
theorem r_hfm {S M : Mem} (h : Rel S M) : ∀ t o, t < mT M → o < mT M → m_ahead M o false = m_ahead M t false → m_ahead M t false + m_pm M (m_ahead M t false) o < 8 := by
  intro t o ht ho e
  have hT := h.inv.i0.T8
  rw [h.T] at ht ho
  rw [r_pm h ht o (by omega)]
  have e1 := r_ahead0 h ht
  have e2 := p_ba_le (p_rate S (cT S)) t (cT S)
  have e3 : p_alike (p_rate S (cT S)) t o < p_alike (p_rate S (cT S)) t (cT S) := by
    have hs : m_score M o = m_score M t ∧ m_last M o = m_last M t := by
      rw [m_ahead, m_ahead, h.T] at e
      exact (ah_iff ho ht).mp e
    have e4 := p_alike_s h ht ho
    rw [if_pos hs] at e4
    have mono : ∀ n, n ≤ cT S → o + 1 ≤ n → p_alike (p_rate S (cT S)) t (o + 1) ≤ p_alike (p_rate S (cT S)) t n := by
      intro n
      induction n with
      | zero => intro _ q; omega
      | succ n ih =>
        intro q1 q2
        by_cases q : o + 1 = n + 1
        · rw [q]; exact Nat.le_refl _
        · have := ih (by omega) (by omega)
          rw [p_alike_s h ht (show n < cT S by omega)]
          split <;> omega
    have := mono (cT S) (Nat.le_refl _) (by omega)
    omega
  omega
theorem r_hpos {S M : Mem} (h : Rel S M) : ∀ t, t < mT M → 0 < m_pm M (m_ahead M t false) (mT M) := by
  intro t ht
  rw [h.T] at ht ⊢
  rw [r_pm h ht _ (Nat.le_refl _)]
  exact alike_pos h ht (cT S) ht (Nat.le_refl _)
end
end
