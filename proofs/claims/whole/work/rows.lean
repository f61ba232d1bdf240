section
-- ===== PART A: goes FIRST, ahead of the names: the tables' words, and 'selects' of the private methods out of them =====
/-- a private method of a class that the tables say can be made, by its rows of tables_1 -/
def lw_okq (q : MethodName × Nat) : Prop := (q.1.cls ≠ "java/lang/invoke/MethodHandle" ∧ q.1.cls ≠ "java/lang/invoke/VarHandle") ∧ Cond.instantiable q.1.cls q.2 ∈ tables_1 ∧ Cond.privateMethod q.1 ∈ tables_1 ∧ Cond.instanceMethod q.1 ∈ tables_1
theorem lw_p0 : lw_okq (⟨"PuzzleRegistry", "rateTeams", "()V"⟩, 12) := ⟨⟨by decide +kernel, by decide +kernel⟩, List.mem_of_getElem? (i := 19) (by decide +kernel), List.mem_of_getElem? (i := 198) (by decide +kernel), List.mem_of_getElem? (i := 199) (by decide +kernel)⟩
theorem lw_p1 : lw_okq (⟨"PuzzleRegistry", "countingSet", "(LPuzzleRegistry$Records;I)I"⟩, 12) := ⟨⟨by decide +kernel, by decide +kernel⟩, List.mem_of_getElem? (i := 19) (by decide +kernel), List.mem_of_getElem? (i := 202) (by decide +kernel), List.mem_of_getElem? (i := 203) (by decide +kernel)⟩
theorem lw_p2 : lw_okq (⟨"PuzzleRegistry", "voidSet", "(LPuzzleRegistry$Records;I)I"⟩, 12) := ⟨⟨by decide +kernel, by decide +kernel⟩, List.mem_of_getElem? (i := 19) (by decide +kernel), List.mem_of_getElem? (i := 206) (by decide +kernel), List.mem_of_getElem? (i := 207) (by decide +kernel)⟩
theorem lw_p3 : lw_okq (⟨"PuzzleRegistry", "cheatedSet", "(LPuzzleRegistry$Records;I)I"⟩, 12) := ⟨⟨by decide +kernel, by decide +kernel⟩, List.mem_of_getElem? (i := 19) (by decide +kernel), List.mem_of_getElem? (i := 210) (by decide +kernel), List.mem_of_getElem? (i := 211) (by decide +kernel)⟩
theorem lw_p4 : lw_okq (⟨"PuzzleRegistry$Judge", "links", "(III)Z"⟩, 3) := ⟨⟨by decide +kernel, by decide +kernel⟩, List.mem_of_getElem? (i := 104) (by decide +kernel), List.mem_of_getElem? (i := 217) (by decide +kernel), List.mem_of_getElem? (i := 218) (by decide +kernel)⟩
theorem lw_p5 : lw_okq (⟨"PuzzleRegistry$Riddles", "spread", "(I)I"⟩, 7) := ⟨⟨by decide +kernel, by decide +kernel⟩, List.mem_of_getElem? (i := 27) (by decide +kernel), List.mem_of_getElem? (i := 224) (by decide +kernel), List.mem_of_getElem? (i := 225) (by decide +kernel)⟩
theorem lw_p6 : lw_okq (⟨"PuzzleRegistry", "freeSet", "(LPuzzleRegistry$Records;)I"⟩, 12) := ⟨⟨by decide +kernel, by decide +kernel⟩, List.mem_of_getElem? (i := 19) (by decide +kernel), List.mem_of_getElem? (i := 231) (by decide +kernel), List.mem_of_getElem? (i := 232) (by decide +kernel)⟩
theorem lw_p7 : lw_okq (⟨"PuzzleRegistry", "sumUp", "(LPuzzleRegistry$Records;II)I"⟩, 12) := ⟨⟨by decide +kernel, by decide +kernel⟩, List.mem_of_getElem? (i := 19) (by decide +kernel), List.mem_of_getElem? (i := 235) (by decide +kernel), List.mem_of_getElem? (i := 236) (by decide +kernel)⟩
theorem lw_p8 : lw_okq (⟨"PuzzleRegistry$Records", "lastSolveMinute", "(II)I"⟩, 6) := ⟨⟨by decide +kernel, by decide +kernel⟩, List.mem_of_getElem? (i := 122) (by decide +kernel), List.mem_of_getElem? (i := 243) (by decide +kernel), List.mem_of_getElem? (i := 244) (by decide +kernel)⟩
theorem lw_p9 : lw_okq (⟨"PuzzleRegistry", "countBetter", "(I)I"⟩, 12) := ⟨⟨by decide +kernel, by decide +kernel⟩, List.mem_of_getElem? (i := 19) (by decide +kernel), List.mem_of_getElem? (i := 252) (by decide +kernel), List.mem_of_getElem? (i := 253) (by decide +kernel)⟩
theorem lw_p10 : lw_okq (⟨"PuzzleRegistry", "countAlike", "(II)I"⟩, 12) := ⟨⟨by decide +kernel, by decide +kernel⟩, List.mem_of_getElem? (i := 19) (by decide +kernel), List.mem_of_getElem? (i := 256) (by decide +kernel), List.mem_of_getElem? (i := 257) (by decide +kernel)⟩
theorem lw_p11 : lw_okq (⟨"java/lang/Throwable", "fillInStackTrace", "(I)Ljava/lang/Throwable;"⟩, 6) := ⟨⟨by decide +kernel, by decide +kernel⟩, List.mem_of_getElem? (i := 311) (by decide +kernel), List.mem_of_getElem? (i := 309) (by decide +kernel), List.mem_of_getElem? (i := 310) (by decide +kernel)⟩
theorem lw_p12 : lw_okq (⟨"PuzzleRegistry$Riddles", "append", "(IIII)I"⟩, 7) := ⟨⟨by decide +kernel, by decide +kernel⟩, List.mem_of_getElem? (i := 27) (by decide +kernel), List.mem_of_getElem? (i := 365) (by decide +kernel), List.mem_of_getElem? (i := 366) (by decide +kernel)⟩
theorem lw_p13 : lw_okq (⟨"PuzzleRegistry", "requireRiddle", "(I)V"⟩, 12) := ⟨⟨by decide +kernel, by decide +kernel⟩, List.mem_of_getElem? (i := 19) (by decide +kernel), List.mem_of_getElem? (i := 377) (by decide +kernel), List.mem_of_getElem? (i := 378) (by decide +kernel)⟩
theorem lw_p14 : lw_okq (⟨"PuzzleRegistry", "requireTeam", "(I)V"⟩, 12) := ⟨⟨by decide +kernel, by decide +kernel⟩, List.mem_of_getElem? (i := 19) (by decide +kernel), List.mem_of_getElem? (i := 429) (by decide +kernel), List.mem_of_getElem? (i := 430) (by decide +kernel)⟩
theorem lw_p15 : lw_okq (⟨"PuzzleRegistry", "isUnderWay", "(II)Z"⟩, 12) := ⟨⟨by decide +kernel, by decide +kernel⟩, List.mem_of_getElem? (i := 19) (by decide +kernel), List.mem_of_getElem? (i := 434) (by decide +kernel), List.mem_of_getElem? (i := 435) (by decide +kernel)⟩
def lw_privs_1 : List (MethodName × Nat) := [(⟨"PuzzleRegistry", "rateTeams", "()V"⟩, 12), (⟨"PuzzleRegistry", "countingSet", "(LPuzzleRegistry$Records;I)I"⟩, 12), (⟨"PuzzleRegistry", "voidSet", "(LPuzzleRegistry$Records;I)I"⟩, 12), (⟨"PuzzleRegistry", "cheatedSet", "(LPuzzleRegistry$Records;I)I"⟩, 12), (⟨"PuzzleRegistry$Judge", "links", "(III)Z"⟩, 3), (⟨"PuzzleRegistry$Riddles", "spread", "(I)I"⟩, 7), (⟨"PuzzleRegistry", "freeSet", "(LPuzzleRegistry$Records;)I"⟩, 12), (⟨"PuzzleRegistry", "sumUp", "(LPuzzleRegistry$Records;II)I"⟩, 12), (⟨"PuzzleRegistry$Records", "lastSolveMinute", "(II)I"⟩, 6), (⟨"PuzzleRegistry", "countBetter", "(I)I"⟩, 12), (⟨"PuzzleRegistry", "countAlike", "(II)I"⟩, 12), (⟨"java/lang/Throwable", "fillInStackTrace", "(I)Ljava/lang/Throwable;"⟩, 6), (⟨"PuzzleRegistry$Riddles", "append", "(IIII)I"⟩, 7), (⟨"PuzzleRegistry", "requireRiddle", "(I)V"⟩, 12), (⟨"PuzzleRegistry", "requireTeam", "(I)V"⟩, 12), (⟨"PuzzleRegistry", "isUnderWay", "(II)Z"⟩, 12)]
theorem lw_r1 : ∀ q ∈ lw_privs_1, lw_okq q := List.forall_mem_cons.mpr ⟨lw_p0, List.forall_mem_cons.mpr ⟨lw_p1, List.forall_mem_cons.mpr ⟨lw_p2, List.forall_mem_cons.mpr ⟨lw_p3, List.forall_mem_cons.mpr ⟨lw_p4, List.forall_mem_cons.mpr ⟨lw_p5, List.forall_mem_cons.mpr ⟨lw_p6, List.forall_mem_cons.mpr ⟨lw_p7, List.forall_mem_cons.mpr ⟨lw_p8, List.forall_mem_cons.mpr ⟨lw_p9, List.forall_mem_cons.mpr ⟨lw_p10, List.forall_mem_cons.mpr ⟨lw_p11, List.forall_mem_cons.mpr ⟨lw_p12, List.forall_mem_cons.mpr ⟨lw_p13, List.forall_mem_cons.mpr ⟨lw_p14, List.forall_mem_cons.mpr ⟨lw_p15, fun _ h => absurd h List.not_mem_nil⟩⟩⟩⟩⟩⟩⟩⟩⟩⟩⟩⟩⟩⟩⟩⟩
theorem lw_p16 : lw_okq (⟨"PuzzleRegistry", "openMinute", "(LPuzzleRegistry$Records;II)I"⟩, 12) := ⟨⟨by decide +kernel, by decide +kernel⟩, List.mem_of_getElem? (i := 19) (by decide +kernel), List.mem_of_getElem? (i := 438) (by decide +kernel), List.mem_of_getElem? (i := 439) (by decide +kernel)⟩
theorem lw_p17 : lw_okq (⟨"PuzzleRegistry", "noteSolved", "(LPuzzleRegistry$Records;III)V"⟩, 12) := ⟨⟨by decide +kernel, by decide +kernel⟩, List.mem_of_getElem? (i := 19) (by decide +kernel), List.mem_of_getElem? (i := 443) (by decide +kernel), List.mem_of_getElem? (i := 444) (by decide +kernel)⟩
theorem lw_p18 : lw_okq (⟨"PuzzleRegistry$Records", "solve", "(IIIZ)V"⟩, 6) := ⟨⟨by decide +kernel, by decide +kernel⟩, List.mem_of_getElem? (i := 122) (by decide +kernel), List.mem_of_getElem? (i := 447) (by decide +kernel), List.mem_of_getElem? (i := 448) (by decide +kernel)⟩
theorem lw_p19 : lw_okq (⟨"PuzzleRegistry", "noteWrong", "(III)V"⟩, 12) := ⟨⟨by decide +kernel, by decide +kernel⟩, List.mem_of_getElem? (i := 19) (by decide +kernel), List.mem_of_getElem? (i := 452) (by decide +kernel), List.mem_of_getElem? (i := 453) (by decide +kernel)⟩
theorem lw_p20 : lw_okq (⟨"PuzzleRegistry$Answers", "giversOf", "(II)I"⟩, 5) := ⟨⟨by decide +kernel, by decide +kernel⟩, List.mem_of_getElem? (i := 62) (by decide +kernel), List.mem_of_getElem? (i := 456) (by decide +kernel), List.mem_of_getElem? (i := 457) (by decide +kernel)⟩
theorem lw_p21 : lw_okq (⟨"PuzzleRegistry$Records", "noteCommon", "(III)V"⟩, 6) := ⟨⟨by decide +kernel, by decide +kernel⟩, List.mem_of_getElem? (i := 122) (by decide +kernel), List.mem_of_getElem? (i := 461) (by decide +kernel), List.mem_of_getElem? (i := 462) (by decide +kernel)⟩
theorem lw_p22 : lw_okq (⟨"PuzzleRegistry$Answers", "append", "(IIII)V"⟩, 5) := ⟨⟨by decide +kernel, by decide +kernel⟩, List.mem_of_getElem? (i := 62) (by decide +kernel), List.mem_of_getElem? (i := 466) (by decide +kernel), List.mem_of_getElem? (i := 467) (by decide +kernel)⟩
theorem lw_p23 : lw_okq (⟨"PuzzleRegistry", "hasHintsLeft", "(II)Z"⟩, 12) := ⟨⟨by decide +kernel, by decide +kernel⟩, List.mem_of_getElem? (i := 19) (by decide +kernel), List.mem_of_getElem? (i := 477) (by decide +kernel), List.mem_of_getElem? (i := 478) (by decide +kernel)⟩
theorem lw_p24 : lw_okq (⟨"PuzzleRegistry", "nextPrice", "(II)I"⟩, 12) := ⟨⟨by decide +kernel, by decide +kernel⟩, List.mem_of_getElem? (i := 19) (by decide +kernel), List.mem_of_getElem? (i := 482) (by decide +kernel), List.mem_of_getElem? (i := 483) (by decide +kernel)⟩
theorem lw_p25 : lw_okq (⟨"PuzzleRegistry$Sales", "countBuyers", "(II)I"⟩, 2) := ⟨⟨by decide +kernel, by decide +kernel⟩, List.mem_of_getElem? (i := 89) (by decide +kernel), List.mem_of_getElem? (i := 486) (by decide +kernel), List.mem_of_getElem? (i := 487) (by decide +kernel)⟩
theorem lw_p26 : lw_okq (⟨"PuzzleRegistry$Sales", "append", "(III)V"⟩, 2) := ⟨⟨by decide +kernel, by decide +kernel⟩, List.mem_of_getElem? (i := 89) (by decide +kernel), List.mem_of_getElem? (i := 492) (by decide +kernel), List.mem_of_getElem? (i := 493) (by decide +kernel)⟩
theorem lw_p27 : lw_okq (⟨"PuzzleRegistry$Records", "pay", "(III)V"⟩, 6) := ⟨⟨by decide +kernel, by decide +kernel⟩, List.mem_of_getElem? (i := 122) (by decide +kernel), List.mem_of_getElem? (i := 499) (by decide +kernel), List.mem_of_getElem? (i := 500) (by decide +kernel)⟩
theorem lw_p28 : lw_okq (⟨"PuzzleRegistry$Judge", "switchPardon", "(II)Z"⟩, 3) := ⟨⟨by decide +kernel, by decide +kernel⟩, List.mem_of_getElem? (i := 104) (by decide +kernel), List.mem_of_getElem? (i := 557) (by decide +kernel), List.mem_of_getElem? (i := 558) (by decide +kernel)⟩
theorem lw_p29 : lw_okq (⟨"PuzzleRegistry$Riddles", "hangingOn", "(I)I"⟩, 7) := ⟨⟨by decide +kernel, by decide +kernel⟩, List.mem_of_getElem? (i := 27) (by decide +kernel), List.mem_of_getElem? (i := 611) (by decide +kernel), List.mem_of_getElem? (i := 612) (by decide +kernel)⟩
theorem lw_p30 : lw_okq (⟨"PuzzleRegistry$Records", "wipe", "()V"⟩, 6) := ⟨⟨by decide +kernel, by decide +kernel⟩, List.mem_of_getElem? (i := 122) (by decide +kernel), List.mem_of_getElem? (i := 630) (by decide +kernel), List.mem_of_getElem? (i := 631) (by decide +kernel)⟩
theorem lw_p31 : lw_okq (⟨"PuzzleRegistry", "replaySolutions", "()V"⟩, 12) := ⟨⟨by decide +kernel, by decide +kernel⟩, List.mem_of_getElem? (i := 19) (by decide +kernel), List.mem_of_getElem? (i := 637) (by decide +kernel), List.mem_of_getElem? (i := 638) (by decide +kernel)⟩
def lw_privs_2 : List (MethodName × Nat) := [(⟨"PuzzleRegistry", "openMinute", "(LPuzzleRegistry$Records;II)I"⟩, 12), (⟨"PuzzleRegistry", "noteSolved", "(LPuzzleRegistry$Records;III)V"⟩, 12), (⟨"PuzzleRegistry$Records", "solve", "(IIIZ)V"⟩, 6), (⟨"PuzzleRegistry", "noteWrong", "(III)V"⟩, 12), (⟨"PuzzleRegistry$Answers", "giversOf", "(II)I"⟩, 5), (⟨"PuzzleRegistry$Records", "noteCommon", "(III)V"⟩, 6), (⟨"PuzzleRegistry$Answers", "append", "(IIII)V"⟩, 5), (⟨"PuzzleRegistry", "hasHintsLeft", "(II)Z"⟩, 12), (⟨"PuzzleRegistry", "nextPrice", "(II)I"⟩, 12), (⟨"PuzzleRegistry$Sales", "countBuyers", "(II)I"⟩, 2), (⟨"PuzzleRegistry$Sales", "append", "(III)V"⟩, 2), (⟨"PuzzleRegistry$Records", "pay", "(III)V"⟩, 6), (⟨"PuzzleRegistry$Judge", "switchPardon", "(II)Z"⟩, 3), (⟨"PuzzleRegistry$Riddles", "hangingOn", "(I)I"⟩, 7), (⟨"PuzzleRegistry$Records", "wipe", "()V"⟩, 6), (⟨"PuzzleRegistry", "replaySolutions", "()V"⟩, 12)]
theorem lw_r2 : ∀ q ∈ lw_privs_2, lw_okq q := List.forall_mem_cons.mpr ⟨lw_p16, List.forall_mem_cons.mpr ⟨lw_p17, List.forall_mem_cons.mpr ⟨lw_p18, List.forall_mem_cons.mpr ⟨lw_p19, List.forall_mem_cons.mpr ⟨lw_p20, List.forall_mem_cons.mpr ⟨lw_p21, List.forall_mem_cons.mpr ⟨lw_p22, List.forall_mem_cons.mpr ⟨lw_p23, List.forall_mem_cons.mpr ⟨lw_p24, List.forall_mem_cons.mpr ⟨lw_p25, List.forall_mem_cons.mpr ⟨lw_p26, List.forall_mem_cons.mpr ⟨lw_p27, List.forall_mem_cons.mpr ⟨lw_p28, List.forall_mem_cons.mpr ⟨lw_p29, List.forall_mem_cons.mpr ⟨lw_p30, List.forall_mem_cons.mpr ⟨lw_p31, fun _ h => absurd h List.not_mem_nil⟩⟩⟩⟩⟩⟩⟩⟩⟩⟩⟩⟩⟩⟩⟩⟩
theorem lw_p32 : lw_okq (⟨"PuzzleRegistry", "isRight", "(I)Z"⟩, 12) := ⟨⟨by decide +kernel, by decide +kernel⟩, List.mem_of_getElem? (i := 19) (by decide +kernel), List.mem_of_getElem? (i := 641) (by decide +kernel), List.mem_of_getElem? (i := 642) (by decide +kernel)⟩
theorem lw_p33 : lw_okq (⟨"PuzzleRegistry", "comparePairs", "(I)V"⟩, 12) := ⟨⟨by decide +kernel, by decide +kernel⟩, List.mem_of_getElem? (i := 19) (by decide +kernel), List.mem_of_getElem? (i := 645) (by decide +kernel), List.mem_of_getElem? (i := 646) (by decide +kernel)⟩
theorem lw_p34 : lw_okq (⟨"PuzzleRegistry$Answers", "isRepeated", "(I)Z"⟩, 5) := ⟨⟨by decide +kernel, by decide +kernel⟩, List.mem_of_getElem? (i := 62) (by decide +kernel), List.mem_of_getElem? (i := 649) (by decide +kernel), List.mem_of_getElem? (i := 650) (by decide +kernel)⟩
theorem lw_p35 : lw_okq (⟨"PuzzleRegistry$Answers", "areSame", "(II)Z"⟩, 5) := ⟨⟨by decide +kernel, by decide +kernel⟩, List.mem_of_getElem? (i := 62) (by decide +kernel), List.mem_of_getElem? (i := 653) (by decide +kernel), List.mem_of_getElem? (i := 654) (by decide +kernel)⟩
theorem lw_p36 : lw_okq (⟨"PuzzleRegistry", "compareWithOthers", "(I)V"⟩, 12) := ⟨⟨by decide +kernel, by decide +kernel⟩, List.mem_of_getElem? (i := 19) (by decide +kernel), List.mem_of_getElem? (i := 657) (by decide +kernel), List.mem_of_getElem? (i := 658) (by decide +kernel)⟩
theorem lw_p37 : lw_okq (⟨"PuzzleRegistry", "replaySales", "(I)V"⟩, 12) := ⟨⟨by decide +kernel, by decide +kernel⟩, List.mem_of_getElem? (i := 19) (by decide +kernel), List.mem_of_getElem? (i := 662) (by decide +kernel), List.mem_of_getElem? (i := 663) (by decide +kernel)⟩
theorem lw_p38 : lw_okq (⟨"PuzzleRegistry", "sumPrizes", "(II)I"⟩, 12) := ⟨⟨by decide +kernel, by decide +kernel⟩, List.mem_of_getElem? (i := 19) (by decide +kernel), List.mem_of_getElem? (i := 689) (by decide +kernel), List.mem_of_getElem? (i := 690) (by decide +kernel)⟩
theorem lw_p39 : lw_okq (⟨"PuzzleRegistryModel", "goes", "(I)Z"⟩, 22) := ⟨⟨by decide +kernel, by decide +kernel⟩, List.mem_of_getElem? (i := 693) (by decide +kernel), List.mem_of_getElem? (i := 778) (by decide +kernel), List.mem_of_getElem? (i := 779) (by decide +kernel)⟩
theorem lw_p40 : lw_okq (⟨"PuzzleRegistryModel", "isRiddle", "(I)Z"⟩, 22) := ⟨⟨by decide +kernel, by decide +kernel⟩, List.mem_of_getElem? (i := 693) (by decide +kernel), List.mem_of_getElem? (i := 794) (by decide +kernel), List.mem_of_getElem? (i := 795) (by decide +kernel)⟩
theorem lw_p41 : lw_okq (⟨"PuzzleRegistryModel", "doesNeed", "(II)Z"⟩, 22) := ⟨⟨by decide +kernel, by decide +kernel⟩, List.mem_of_getElem? (i := 693) (by decide +kernel), List.mem_of_getElem? (i := 798) (by decide +kernel), List.mem_of_getElem? (i := 799) (by decide +kernel)⟩
theorem lw_p42 : lw_okq (⟨"PuzzleRegistryModel", "isTouched", "(I)Z"⟩, 22) := ⟨⟨by decide +kernel, by decide +kernel⟩, List.mem_of_getElem? (i := 693) (by decide +kernel), List.mem_of_getElem? (i := 802) (by decide +kernel), List.mem_of_getElem? (i := 803) (by decide +kernel)⟩
theorem lw_p43 : lw_okq (⟨"PuzzleRegistryModel", "isOpenToAll", "(I)Z"⟩, 22) := ⟨⟨by decide +kernel, by decide +kernel⟩, List.mem_of_getElem? (i := 693) (by decide +kernel), List.mem_of_getElem? (i := 820) (by decide +kernel), List.mem_of_getElem? (i := 821) (by decide +kernel)⟩
theorem lw_p44 : lw_okq (⟨"PuzzleRegistryModel", "wrong", "(II)I"⟩, 22) := ⟨⟨by decide +kernel, by decide +kernel⟩, List.mem_of_getElem? (i := 693) (by decide +kernel), List.mem_of_getElem? (i := 828) (by decide +kernel), List.mem_of_getElem? (i := 829) (by decide +kernel)⟩
theorem lw_p45 : lw_okq (⟨"PuzzleRegistryModel", "isTeam", "(I)Z"⟩, 22) := ⟨⟨by decide +kernel, by decide +kernel⟩, List.mem_of_getElem? (i := 693) (by decide +kernel), List.mem_of_getElem? (i := 832) (by decide +kernel), List.mem_of_getElem? (i := 833) (by decide +kernel)⟩
theorem lw_p46 : lw_okq (⟨"PuzzleRegistryModel", "isDone", "(II)Z"⟩, 22) := ⟨⟨by decide +kernel, by decide +kernel⟩, List.mem_of_getElem? (i := 693) (by decide +kernel), List.mem_of_getElem? (i := 836) (by decide +kernel), List.mem_of_getElem? (i := 837) (by decide +kernel)⟩
theorem lw_p47 : lw_okq (⟨"PuzzleRegistryModel", "opened", "(II)I"⟩, 22) := ⟨⟨by decide +kernel, by decide +kernel⟩, List.mem_of_getElem? (i := 693) (by decide +kernel), List.mem_of_getElem? (i := 840) (by decide +kernel), List.mem_of_getElem? (i := 841) (by decide +kernel)⟩
def lw_privs_3 : List (MethodName × Nat) := [(⟨"PuzzleRegistry", "isRight", "(I)Z"⟩, 12), (⟨"PuzzleRegistry", "comparePairs", "(I)V"⟩, 12), (⟨"PuzzleRegistry$Answers", "isRepeated", "(I)Z"⟩, 5), (⟨"PuzzleRegistry$Answers", "areSame", "(II)Z"⟩, 5), (⟨"PuzzleRegistry", "compareWithOthers", "(I)V"⟩, 12), (⟨"PuzzleRegistry", "replaySales", "(I)V"⟩, 12), (⟨"PuzzleRegistry", "sumPrizes", "(II)I"⟩, 12), (⟨"PuzzleRegistryModel", "goes", "(I)Z"⟩, 22), (⟨"PuzzleRegistryModel", "isRiddle", "(I)Z"⟩, 22), (⟨"PuzzleRegistryModel", "doesNeed", "(II)Z"⟩, 22), (⟨"PuzzleRegistryModel", "isTouched", "(I)Z"⟩, 22), (⟨"PuzzleRegistryModel", "isOpenToAll", "(I)Z"⟩, 22), (⟨"PuzzleRegistryModel", "wrong", "(II)I"⟩, 22), (⟨"PuzzleRegistryModel", "isTeam", "(I)Z"⟩, 22), (⟨"PuzzleRegistryModel", "isDone", "(II)Z"⟩, 22), (⟨"PuzzleRegistryModel", "opened", "(II)I"⟩, 22)]
theorem lw_r3 : ∀ q ∈ lw_privs_3, lw_okq q := List.forall_mem_cons.mpr ⟨lw_p32, List.forall_mem_cons.mpr ⟨lw_p33, List.forall_mem_cons.mpr ⟨lw_p34, List.forall_mem_cons.mpr ⟨lw_p35, List.forall_mem_cons.mpr ⟨lw_p36, List.forall_mem_cons.mpr ⟨lw_p37, List.forall_mem_cons.mpr ⟨lw_p38, List.forall_mem_cons.mpr ⟨lw_p39, List.forall_mem_cons.mpr ⟨lw_p40, List.forall_mem_cons.mpr ⟨lw_p41, List.forall_mem_cons.mpr ⟨lw_p42, List.forall_mem_cons.mpr ⟨lw_p43, List.forall_mem_cons.mpr ⟨lw_p44, List.forall_mem_cons.mpr ⟨lw_p45, List.forall_mem_cons.mpr ⟨lw_p46, List.forall_mem_cons.mpr ⟨lw_p47, fun _ h => absurd h List.not_mem_nil⟩⟩⟩⟩⟩⟩⟩⟩⟩⟩⟩⟩⟩⟩⟩⟩
theorem lw_p48 : lw_okq (⟨"PuzzleRegistryModel", "priceOf", "(II)I"⟩, 22) := ⟨⟨by decide +kernel, by decide +kernel⟩, List.mem_of_getElem? (i := 693) (by decide +kernel), List.mem_of_getElem? (i := 848) (by decide +kernel), List.mem_of_getElem? (i := 849) (by decide +kernel)⟩
theorem lw_p49 : lw_okq (⟨"PuzzleRegistryModel", "likenessOf", "(II)I"⟩, 22) := ⟨⟨by decide +kernel, by decide +kernel⟩, List.mem_of_getElem? (i := 693) (by decide +kernel), List.mem_of_getElem? (i := 884) (by decide +kernel), List.mem_of_getElem? (i := 885) (by decide +kernel)⟩
theorem lw_p50 : lw_okq (⟨"PuzzleRegistryModel", "isCommon", "(II)Z"⟩, 22) := ⟨⟨by decide +kernel, by decide +kernel⟩, List.mem_of_getElem? (i := 693) (by decide +kernel), List.mem_of_getElem? (i := 888) (by decide +kernel), List.mem_of_getElem? (i := 889) (by decide +kernel)⟩
theorem lw_p51 : lw_okq (⟨"PuzzleRegistryModel", "gave", "(IIII)Z"⟩, 22) := ⟨⟨by decide +kernel, by decide +kernel⟩, List.mem_of_getElem? (i := 693) (by decide +kernel), List.mem_of_getElem? (i := 892) (by decide +kernel), List.mem_of_getElem? (i := 893) (by decide +kernel)⟩
theorem lw_p52 : lw_okq (⟨"PuzzleRegistryModel", "are", "(II)Z"⟩, 22) := ⟨⟨by decide +kernel, by decide +kernel⟩, List.mem_of_getElem? (i := 693) (by decide +kernel), List.mem_of_getElem? (i := 900) (by decide +kernel), List.mem_of_getElem? (i := 901) (by decide +kernel)⟩
theorem lw_p53 : lw_okq (⟨"PuzzleRegistryModel", "cheated", "(I)I"⟩, 22) := ⟨⟨by decide +kernel, by decide +kernel⟩, List.mem_of_getElem? (i := 693) (by decide +kernel), List.mem_of_getElem? (i := 908) (by decide +kernel), List.mem_of_getElem? (i := 909) (by decide +kernel)⟩
theorem lw_p54 : lw_okq (⟨"PuzzleRegistryModel", "voids", "(I)I"⟩, 22) := ⟨⟨by decide +kernel, by decide +kernel⟩, List.mem_of_getElem? (i := 693) (by decide +kernel), List.mem_of_getElem? (i := 916) (by decide +kernel), List.mem_of_getElem? (i := 917) (by decide +kernel)⟩
theorem lw_p55 : lw_okq (⟨"PuzzleRegistryModel", "scored", "(I)I"⟩, 22) := ⟨⟨by decide +kernel, by decide +kernel⟩, List.mem_of_getElem? (i := 693) (by decide +kernel), List.mem_of_getElem? (i := 928) (by decide +kernel), List.mem_of_getElem? (i := 929) (by decide +kernel)⟩
theorem lw_p56 : lw_okq (⟨"PuzzleRegistryModel", "scoreOf", "(I)I"⟩, 22) := ⟨⟨by decide +kernel, by decide +kernel⟩, List.mem_of_getElem? (i := 693) (by decide +kernel), List.mem_of_getElem? (i := 932) (by decide +kernel), List.mem_of_getElem? (i := 933) (by decide +kernel)⟩
theorem lw_p57 : lw_okq (⟨"PuzzleRegistryModel", "counting", "(I)I"⟩, 22) := ⟨⟨by decide +kernel, by decide +kernel⟩, List.mem_of_getElem? (i := 693) (by decide +kernel), List.mem_of_getElem? (i := 936) (by decide +kernel), List.mem_of_getElem? (i := 937) (by decide +kernel)⟩
theorem lw_p58 : lw_okq (⟨"PuzzleRegistryModel", "ahead", "(IZ)I"⟩, 22) := ⟨⟨by decide +kernel, by decide +kernel⟩, List.mem_of_getElem? (i := 693) (by decide +kernel), List.mem_of_getElem? (i := 948) (by decide +kernel), List.mem_of_getElem? (i := 949) (by decide +kernel)⟩
theorem lw_p59 : lw_okq (⟨"PuzzleRegistryModel", "lastOf", "(I)I"⟩, 22) := ⟨⟨by decide +kernel, by decide +kernel⟩, List.mem_of_getElem? (i := 693) (by decide +kernel), List.mem_of_getElem? (i := 952) (by decide +kernel), List.mem_of_getElem? (i := 953) (by decide +kernel)⟩
def lw_privs_4 : List (MethodName × Nat) := [(⟨"PuzzleRegistryModel", "priceOf", "(II)I"⟩, 22), (⟨"PuzzleRegistryModel", "likenessOf", "(II)I"⟩, 22), (⟨"PuzzleRegistryModel", "isCommon", "(II)Z"⟩, 22), (⟨"PuzzleRegistryModel", "gave", "(IIII)Z"⟩, 22), (⟨"PuzzleRegistryModel", "are", "(II)Z"⟩, 22), (⟨"PuzzleRegistryModel", "cheated", "(I)I"⟩, 22), (⟨"PuzzleRegistryModel", "voids", "(I)I"⟩, 22), (⟨"PuzzleRegistryModel", "scored", "(I)I"⟩, 22), (⟨"PuzzleRegistryModel", "scoreOf", "(I)I"⟩, 22), (⟨"PuzzleRegistryModel", "counting", "(I)I"⟩, 22), (⟨"PuzzleRegistryModel", "ahead", "(IZ)I"⟩, 22), (⟨"PuzzleRegistryModel", "lastOf", "(I)I"⟩, 22)]
theorem lw_r4 : ∀ q ∈ lw_privs_4, lw_okq q := List.forall_mem_cons.mpr ⟨lw_p48, List.forall_mem_cons.mpr ⟨lw_p49, List.forall_mem_cons.mpr ⟨lw_p50, List.forall_mem_cons.mpr ⟨lw_p51, List.forall_mem_cons.mpr ⟨lw_p52, List.forall_mem_cons.mpr ⟨lw_p53, List.forall_mem_cons.mpr ⟨lw_p54, List.forall_mem_cons.mpr ⟨lw_p55, List.forall_mem_cons.mpr ⟨lw_p56, List.forall_mem_cons.mpr ⟨lw_p57, List.forall_mem_cons.mpr ⟨lw_p58, List.forall_mem_cons.mpr ⟨lw_p59, fun _ h => absurd h List.not_mem_nil⟩⟩⟩⟩⟩⟩⟩⟩⟩⟩⟩⟩
def lw_privs : List (MethodName × Nat) := lw_privs_1 ++ (lw_privs_2 ++ (lw_privs_3 ++ (lw_privs_4)))
def lw_tbl : List Cond := k2_sels lw_privs ++ tables_1
theorem lw_privs_ok : ∀ q ∈ lw_privs, lw_okq q := by
  show ∀ q ∈ lw_privs_1 ++ (lw_privs_2 ++ (lw_privs_3 ++ (lw_privs_4))), lw_okq q
  exact List.forall_mem_append.mpr ⟨lw_r1, List.forall_mem_append.mpr ⟨lw_r2, List.forall_mem_append.mpr ⟨lw_r3, lw_r4⟩⟩⟩
-- ===== end of PART A; then your names; then what follows =====
end
section
/-! ===== BEGIN words of one list among another's, by their places ===== -/
theorem goodIn_r {big : List Cond} (ws : List Cond) (ps : List Nat) (hp : ws = ps.filterMap (fun i => big[i]?)) (h : ws.all goodWord = true) : GoodIn big ws := by
  intro w hw
  have h1 := List.all_eq_true.mp h w hw
  rw [hp] at hw
  obtain ⟨i, -, hi⟩ := List.mem_filterMap.mp hw
  have hm : w ∈ big := by first | exact List.mem_of_getElem? hi | exact List.getElem?_mem hi
  exact ⟨hm, good_of_word h1⟩
theorem goodIn_app {big a b : List Cond} (ha : GoodIn big a) (hb : GoodIn big b) : GoodIn big (a ++ b) := fun w h => (List.mem_append.mp h).elim (ha w) (hb w)
theorem goodIn_ca {big a b : List Cond} {c : Cond} (ha : GoodIn big (c :: a)) (hb : GoodIn big b) : GoodIn big (c :: (a ++ b)) := fun w h => (List.mem_cons.mp h).elim (fun e => ha w (List.mem_cons.mpr (Or.inl e))) (fun h => (List.mem_append.mp h).elim (fun h => ha w (List.mem_cons.mpr (Or.inr h))) (hb w))
theorem goodIn_sub {big ws : List Cond} (hm : ∀ w ∈ ws, w ∈ big) (h : ws.all goodWord = true) : GoodIn big ws := fun w hw => ⟨hm w hw, good_of_word (List.all_eq_true.mp h w hw)⟩
/-! ===== END ===== -/

/-! ===== BEGIN exceptions that leave a method, and their catching by the caller (launches without stack traces) ===== -/
section VXA
/-! The laws vx_back, vx_callV, vx_callS, vx_callSW, vx_throw0, vx_throwS follow proofs of the library, with one case more: JvmDerived/Free/Laws.lean (Back.of_free), Shelf42/LK1.lean (callV, callS), Shelf/KitTraced.lean (throwNew0V, throwNewS). -/
/-- where a method has thrown q: the class by its name, the cell, what was written, the world -/
def vx_T (XC : String → State → State → Prop) (st : State) (q : Addr) (t : State) (mc ms : Nat) (free : Addr → Prop) : Prop :=
  ∃ (E : String) (ce : Cell) (L : List Loc), XC E st t ∧ t.heap[q]? = some ce ∧ ce.vm = .none ∧ st.vm.findClass E = some ce.cls ∧ st.WarmedH t.vm ∧ st.sameButNew ({ t with vm := st.vm } : State) L mc ms ∧ ∀ z ∈ L, free z.base
def vx_Q (Qc : Array Value → State → Outcome → State → Prop) (XC : String → State → State → Prop) (mc ms : Nat) (free : Addr → Prop) : Array Value → State → Outcome → State → Prop := fun a st o t =>
  (Qc a st o t ∧ ∃ L, FrameEnd st o t L mc ms ∧ ∀ q ∈ L, free q.base) ∨ ∃ q, o = .threw q ∧ vx_T XC st q t mc ms free
/-- a callee that returns or throws -/
def vx_Met (l : Launch) (y : MethodName) (ws : List Cond) (rm : Room) (Pc : Array Value → State → Prop) (Qc : Array Value → State → Outcome → State → Prop) (XC : String → State → State → Prop) (mc ms : Nat) (free : Addr → Prop) : Prop :=
  MetFree l y (headSpec ws rm) Pc (fun _ _ _ _ _ => True) (vx_Q Qc XC mc ms free)
def vx_Post (XC : String → State → State → Prop) (mc ms : Nat) (free : Addr → Prop) : Pt → Array Value → Addr → Pt → Prop := fun A a q B =>
  ∃ (g : JFrame) (mk : MethodId) (t : State) (L : List Loc) (E : String) (ce : Cell), B.U.heap = t.heap ∧ B.U.vm = t.vm ∧ XC E (A.U.calling g mk a) t ∧ t.heap[q]? = some ce ∧ ce.vm = .none ∧ A.U.vm.findClass E = some ce.cls ∧ B.locs = A.locs ++ L ∧ (∀ z ∈ L, free z.base) ∧ B.cells = A.cells + mc ∧ B.slots = A.slots + ms
def vx_Back (l : Launch) (R : Room) (p : Program) (e : Env) (below : List Frame) (s : State) (sargs : Array Value) (y : MethodName) (len W9 : Nat)
    (Pre : Pt → Array Value → Prop) (Post : Pt → Array Value → Option Value → Pt → Prop) (PostX : Pt → Array Value → Addr → Pt → Prop) : Prop :=
  ∀ (m : MethodId) (meth : Method) (c : Code) (A : Pt) (g : JFrame) (ig : Instr) (mk : MethodId) (a : Array Value),
    Stand p l e R s m sargs below meth c A.U A.locs A.cells A.slots → g.method = m → g.locals.size = c.maxLocals → decode c.code g.pc = .ok (ig, len) →
    2 * g.monitorRoom + (g.stack.map fun v => v.category).sum ≤ W9 → A.U.methodNamed? y = some mk → Pre A a →
    (∃ (v : Option Value) (B : Pt), Stand p l e R s m sargs below meth c B.U B.locs B.cells B.slots ∧ Post A a v B ∧
      Steps p.tables e below (doInvoke e (A.U.setTop g) [] mk a).1 (B.U.setTop { g with pc := g.pc + len, stack := v.toList ++ g.stack })) ∨
    (∃ (q : Addr) (B : Pt), Stand p l e R s m sargs below meth c B.U B.locs B.cells B.slots ∧ PostX A a q B ∧
      Steps p.tables e below (doInvoke e (A.U.setTop g) [] mk a).1 ((B.U.setTop g).pushFrame (.throwing q)))
section Payer
variable {l : Launch} {R : Room} {p : Program} {e : Env} {below : List Frame} {s : State} {sargs : Array Value} {y : MethodName} {len W9 : Nat}
theorem vx_back {ws : List Cond} {rm : Room} {Pc : Array Value → State → Prop} {Qc : Array Value → State → Outcome → State → Prop} {XC : String → State → State → Prop} {mc ms : Nat} {free : Addr → Prop} {bytes : ByteArray} {maxL : Nat} {ret : Option FieldType}
    (hM : vx_Met l y ws rm Pc Qc XC mc ms free) (hblind : FrameBlind Pc) (hrc : rm.cells = mc) (hrs : rm.slots = ms)
    (hframes : rm.frames + 1 ≤ R.frames) (hlocals : W9 + (maxL + 11) + rm.locals ≤ R.locals)
    (hws : ∀ w ∈ ws, ∀ a' U, s.WarmedH U.vm → w.before a' U = true) (hcode : Cond.code y bytes maxL ret ∈ ws) (hinit : ∀ a' U, s.WarmedH U.vm → (Cond.initialized y.cls).before a' U = true) :
    vx_Back l R p e below s sargs y len W9 (PreOf R mc ms Pc) (PostOf Qc mc ms free) (vx_Post XC mc ms free) := by
  intro m meth c A g ig mk a X hg hsize hdg hW hn hp
  have h1 : (headSpec ws rm).pre.before a A.U = true := atoms_intro fun w hw => hws w hw _ _ X.warmed
  have h2 : (Cond.code y bytes maxL ret).before a A.U = true := hws _ hcode _ _ X.warmed
  have h3 : (Cond.initialized y.cls).before a A.U = true := hinit _ _ X.warmed
  have h4 : A.cells + (headSpec ws rm).room.cells ≤ R.cells := by rw [show (headSpec ws rm).room.cells = mc from hrc]; exact hp.1
  have h5 : A.slots + (headSpec ws rm).room.slots ≤ R.slots := by rw [show (headSpec ws rm).room.slots = ms from hrs]; exact hp.2.1
  have hPc : Pc a (A.U.calling g mk a) := hblind _ _ _ _ hp.2.2
  obtain ⟨U, Ls, c0, s0⟩ := A
  dsimp only [Pt.U, Pt.locs, Pt.cells, Pt.slots] at h1 h2 h3 h4 h5 X hn hPc ⊢
  obtain ⟨methY, cY, hmY, hcY, -, hlY, -, -, -, -⟩ := Cond.code_spec hn h2
  obtain ⟨kY, hkY, -⟩ := className_of_methodNamed hn
  have hinitY : kY.init = .initialized := Cond.initialized_spec (findClass_of_methodNamed hn) hkY h3
  have h : At U g.method c below := by rw [hg]; exact X.here
  have hlocals9 : W9 + (maxL + 11) + (headSpec ws rm).room.locals ≤ R.locals := hlocals
  have happ : (headSpec ws rm).appliesLoose y e.platform (U.calling g mk a) = true :=
    Spec.appliesLoose_calling (g := g) h hdg hn hkY hinitY
      (X.room_calling (g := g) (R' := (headSpec ws rm).room) hsize hmY hcY hframes (by rw [hlY]; omega) h4 h5) h1
  obtain ⟨mid, hmid⟩ := h.above
  have hfr : (U.setTop g).frames = (.java g :: mid) ++ below := by rw [State.frames_setTop' g h.top, hmid]; rfl
  obtain ⟨o, s₂, hsteps, -, hend, hq⟩ := Steps.callFree hM p X.admits X.cas X.clock (acts := []) hfr happ hPc trivial
  have hq' : vx_Q Qc XC mc ms free a (U.calling g mk a) o s₂ := hq
  rw [State.frames_setTop' g h.top] at hend
  obtain ⟨g₀, hg0⟩ := Option.isSome_iff_exists.mp h.top
  obtain ⟨r, hr⟩ := State.topJava?_eq_some.mp hg0
  have hr' : (({ U with heap := s₂.heap, slotsUsed := s₂.slotsUsed } : State).setVm s₂.vm).frames = .java g₀ :: r := hr
  rcases hq' with ⟨hqc, L, hfe, hL⟩ | ⟨q, rfl, E, ce, L, hx, hce, hcv, hcl, hW₂, hsm, hL⟩
  · obtain ⟨⟨v, rfl⟩, hW₂, e2, q2, q3, q4, q5, q6⟩ := id hfe
    have e3 : s₂ = ({ (U.calling g mk a).setFrames s₂.frames with heap := s₂.heap, slotsUsed := s₂.slotsUsed } : State).setVm s₂.vm := by
      have : s₂ = ({ s₂ with vm := (U.calling g mk a).vm } : State).setVm s₂.vm := rfl
      rw [e2] at this
      exact this
    obtain ⟨c₂, i₂, len₂, hc₂, hd₂, hf₂⟩ := hend
    have hW' : U.WarmedH s₂.vm := hW₂
    have hcc : c₂ = c := by
      have h1 : s₂.code? g.method = U.code? g.method := by
        rw [State.code?_eq, State.code?_eq, hW'.alike.method?]
      exact Option.some.inj (hc₂.symm.trans (h1.trans h.code))
    subst hcc
    have hlen : len₂ = len := by rw [hdg] at hd₂; cases hd₂; rfl
    subst hlen
    have hs₂ : s₂ = (({ U with heap := s₂.heap, slotsUsed := s₂.slotsUsed } : State).setVm s₂.vm).setTop { g with pc := g.pc + len₂, stack := v.toList ++ g.stack } := by
      refine e3.trans ?_
      rw [hf₂, State.calling_eq h.top, State.setFrames_setFrames, State.setTop_of_frames _ hr', hr]
      rfl
    have hsame : U.sameButNew ({ U with heap := s₂.heap, slotsUsed := s₂.slotsUsed } : State) L mc ms := by
      refine ⟨?_, q2, q3, q4, q5, q6⟩
      obtain ⟨t, ht, -⟩ := State.frames_cons hr
      show ({ U with heap := s₂.heap, slotsUsed := s₂.slotsUsed } : State) = { U.setFrames U.frames with heap := s₂.heap, slotsUsed := s₂.slotsUsed }
      rw [State.setFrames_self ht]
    subst hg
    refine Or.inl ⟨v, ⟨(({ U with heap := s₂.heap, slotsUsed := s₂.slotsUsed } : State).setVm s₂.vm), Ls ++ L, c0 + mc, s0 + ms⟩,
      ⟨X.admits, X.cas, X.clock, X.frames, X.room, X.hears, X.method, X.code, (X.here.setHeapUsed s₂.heap s₂.slotsUsed).setVm hW'.alike, X.tail, State.WarmedH.trans X.warmed hW', X.limits, X.bytes, X.same.trans (hsame.setVm s.vm)⟩,
      ⟨g, mk, s₂, L, rfl, rfl, hqc, rfl, hL, rfl, rfl⟩, ?_⟩
    show Steps p.tables e below _ ((({ U with heap := s₂.heap, slotsUsed := s₂.slotsUsed } : State).setVm s₂.vm).setTop { g with pc := g.pc + len₂, stack := v.toList ++ g.stack })
    rw [← hs₂]
    exact hsteps
  · obtain ⟨e2, q2, q3, q4, q5, q6⟩ := id hsm
    have e3 : s₂ = ({ (U.calling g mk a).setFrames s₂.frames with heap := s₂.heap, slotsUsed := s₂.slotsUsed } : State).setVm s₂.vm := by
      have : s₂ = ({ s₂ with vm := (U.calling g mk a).vm } : State).setVm s₂.vm := rfl
      rw [e2] at this
      exact this
    have hf₂ : s₂.frames = .throwing q :: .java g :: U.frames.tail := hend
    have hW' : U.WarmedH s₂.vm := hW₂
    have hs₂ : s₂ = ((({ U with heap := s₂.heap, slotsUsed := s₂.slotsUsed } : State).setVm s₂.vm).setTop g).pushFrame (.throwing q) := by
      refine e3.trans ?_
      rw [hf₂, State.calling_eq h.top, State.setFrames_setFrames, State.pushFrame, State.frames_setTop _ hr', State.setTop_of_frames _ hr', State.setFrames_setFrames, hr]
      rfl
    have hsame : U.sameButNew ({ U with heap := s₂.heap, slotsUsed := s₂.slotsUsed } : State) L mc ms := by
      refine ⟨?_, q2, q3, q4, q5, q6⟩
      obtain ⟨t, ht, -⟩ := State.frames_cons hr
      show ({ U with heap := s₂.heap, slotsUsed := s₂.slotsUsed } : State) = { U.setFrames U.frames with heap := s₂.heap, slotsUsed := s₂.slotsUsed }
      rw [State.setFrames_self ht]
    subst hg
    refine Or.inr ⟨q, ⟨(({ U with heap := s₂.heap, slotsUsed := s₂.slotsUsed } : State).setVm s₂.vm), Ls ++ L, c0 + mc, s0 + ms⟩,
      ⟨X.admits, X.cas, X.clock, X.frames, X.room, X.hears, X.method, X.code, (X.here.setHeapUsed s₂.heap s₂.slotsUsed).setVm hW'.alike, X.tail, State.WarmedH.trans X.warmed hW', X.limits, X.bytes, X.same.trans (hsame.setVm s.vm)⟩,
      ⟨g, mk, s₂, L, E, ce, rfl, rfl, hx, hce, hcv, hcl, rfl, hL, rfl, rfl⟩, ?_⟩
    show Steps p.tables e below _ (((({ U with heap := s₂.heap, slotsUsed := s₂.slotsUsed } : State).setVm s₂.vm).setTop g).pushFrame (.throwing q))
    rw [← hs₂]
    exact hsteps
end Payer
section Calls
variable {p : Program} {l : Launch} {e : Env} {R : Room} {s : State} {m : MethodId} {args : Array Value} {below : List Frame} {meth : Method} {c : Code} {T : State} {locs : List Loc} {cells slots : Nat}
theorem vx_callV (X : Stand p l e R s m args below meth c T locs cells slots) (hexec : p.tables.exec = Jvm.exec) {own C : String} {index : Nat} {y : MethodName} {bytes : ByteArray} {maxL : Nat} {ret : Option FieldType}
    (hown : s.vm.findClass own = some m.cls) (hlink : (Cond.methodLink own index y).before args s = true) (hinst : (Cond.instanceMethod y).before args s = true) (hsel : (Cond.selects C y y).before args s = true)
    (hcode : (Cond.code y bytes maxL ret).before args s = true) (hy : y.cls ≠ "java/lang/invoke/MethodHandle" ∧ y.cls ≠ "java/lang/invoke/VarHandle")
    {W9 : Nat} {Pre : Pt → Array Value → Prop} {Post : Pt → Array Value → Option Value → Pt → Prop} {PostX : Pt → Array Value → Addr → Pt → Prop} (hK : vx_Back l R p e below s args y 3 W9 Pre Post PostX)
    {b : Addr} {cellB : Cell} (hcell : T.heap[b]? = some cellB) (hobj : cellB.vm.isStatics = false) (hcls : s.vm.findClass C = some cellB.cls)
    {g : JFrame} (hg : g.method = m) (hsize : g.locals.size = c.maxLocals) {argsL rest : List Value} (hlen : ∀ sig, parseMethodDescriptor y.desc = some sig → argsL.length = sig.parameters.length)
    (hstack : g.stack = argsL.reverse ++ .ref b :: rest) (hW : 2 * g.monitorRoom + (rest.map fun v => v.category).sum ≤ W9) (hdg : decode c.code g.pc = .ok (.invokevirtual index, 3))
    (hpre : ∀ vm₁, s.WarmedH vm₁ → Pre ⟨T.setVm vm₁, locs, cells, slots⟩ (Value.ref b :: argsL).toArray) :
    (∃ (v : Option Value) (vm₁ : Vm) (B : Pt), s.WarmedH vm₁ ∧ Stand p l e R s m args below meth c B.U B.locs B.cells B.slots ∧ Post ⟨T.setVm vm₁, locs, cells, slots⟩ (Value.ref b :: argsL).toArray v B ∧
      ∀ target, Steps p.tables e below (B.U.setTop { g with pc := g.pc + 3, stack := v.toList ++ rest }) target → Steps p.tables e below (T.setTop g) target) ∨
    (∃ (q : Addr) (vm₁ : Vm) (B : Pt), s.WarmedH vm₁ ∧ Stand p l e R s m args below meth c B.U B.locs B.cells B.slots ∧ PostX ⟨T.setVm vm₁, locs, cells, slots⟩ (Value.ref b :: argsL).toArray q B ∧
      Steps p.tables e below (T.setTop g) ((B.U.setTop { g with stack := rest }).pushFrame (.throwing q))) := by
  obtain ⟨mk, methM, hnamed, hmethM, hstM, habM⟩ := Cond.instanceMethod_spec hinst
  obtain ⟨methM', cM, hmethM', -, -, -, -, -, -, hsigM⟩ := Cond.code_spec hnamed hcode
  cases hmethM.symm.trans hmethM'
  obtain ⟨c2, r2, m2, q1, q2, q3, q4, kP, hkP, hkPi⟩ := Cond.selects_spec hsel
  cases hcls.symm.trans q1
  cases (State.methodFound?_of_named hnamed hy).symm.trans q2
  cases hnamed.symm.trans q3
  have hselP : selectMethod e.platform s.vm cellB.cls mk = .method mk := by rw [Launch.admits_selectMethod X.admits]; exact q4
  obtain ⟨vm₁, X₁, hstep₁⟩ := X.invokevirtual hexec hown hlink hnamed hmethM hstM hkP hkPi hy (a := b) (cell := cellB) hcell
    (fun z h => by rw [h] at hobj; cases hobj) hselP hmethM habM hkP hkPi (g := g) hg (argsL := argsL) (rest := rest) (hlen _ hsigM) hstack hdg
  rcases hK m meth c ⟨T.setVm vm₁, locs, cells, slots⟩ { g with stack := rest } (.invokevirtual index) mk (Value.ref b :: argsL).toArray X₁ hg hsize hdg hW (X₁.named hnamed) (hpre vm₁ X₁.warmed) with ⟨v, B, X', hpost, hsteps⟩ | ⟨q, B, X', hpost, hsteps⟩
  · exact Or.inl ⟨v, vm₁, B, X₁.warmed, X', hpost, fun target h => hstep₁ _ fun acts => by rw [doInvoke_state]; exact hsteps.trans h⟩
  · exact Or.inr ⟨q, vm₁, B, X₁.warmed, X', hpost, hstep₁ _ fun acts => by rw [doInvoke_state]; exact hsteps⟩
theorem vx_callS (X : Stand p l e R s m args below meth c T locs cells slots) (hexec : p.tables.exec = Jvm.exec) {own : String} {index : Nat} {y : MethodName} {bytes : ByteArray} {maxL : Nat} {ret : Option FieldType}
    (hown : s.vm.findClass own = some m.cls) (hlink : (Cond.methodLink own index y).before args s = true) (hstat : (Cond.static y).before args s = true) (hinit : (Cond.initialized y.cls).before args s = true)
    (hcode : (Cond.code y bytes maxL ret).before args s = true) (hy : y.cls ≠ "java/lang/invoke/MethodHandle" ∧ y.cls ≠ "java/lang/invoke/VarHandle")
    {W9 : Nat} {Pre : Pt → Array Value → Prop} {Post : Pt → Array Value → Option Value → Pt → Prop} {PostX : Pt → Array Value → Addr → Pt → Prop} (hK : vx_Back l R p e below s args y 3 W9 Pre Post PostX)
    {g : JFrame} (hg : g.method = m) (hsize : g.locals.size = c.maxLocals) {argsL rest : List Value} (hlen : ∀ sig, parseMethodDescriptor y.desc = some sig → argsL.length = sig.parameters.length)
    (hstack : g.stack = argsL.reverse ++ rest) (hW : 2 * g.monitorRoom + (rest.map fun v => v.category).sum ≤ W9) (hdg : decode c.code g.pc = .ok (.invokestatic index, 3))
    (hpre : ∀ vm₁, s.WarmedH vm₁ → Pre ⟨T.setVm vm₁, locs, cells, slots⟩ argsL.toArray) :
    (∃ (v : Option Value) (vm₁ : Vm) (B : Pt), s.WarmedH vm₁ ∧ Stand p l e R s m args below meth c B.U B.locs B.cells B.slots ∧ Post ⟨T.setVm vm₁, locs, cells, slots⟩ argsL.toArray v B ∧
      ∀ target, Steps p.tables e below (B.U.setTop { g with pc := g.pc + 3, stack := v.toList ++ rest }) target → Steps p.tables e below (T.setTop g) target) ∨
    (∃ (q : Addr) (vm₁ : Vm) (B : Pt), s.WarmedH vm₁ ∧ Stand p l e R s m args below meth c B.U B.locs B.cells B.slots ∧ PostX ⟨T.setVm vm₁, locs, cells, slots⟩ argsL.toArray q B ∧
      Steps p.tables e below (T.setTop g) ((B.U.setTop { g with stack := rest }).pushFrame (.throwing q))) := by
  obtain ⟨mk, hnamed⟩ := Cond.code_named hcode
  obtain ⟨methM, cM, hmethM, -, -, -, -, -, -, hsigM⟩ := Cond.code_spec hnamed hcode
  have hstatic : methM.isStatic = true := Cond.static_spec hnamed hmethM hstat
  obtain ⟨kP, hkP, -⟩ := className_of_methodNamed hnamed
  have hinitP : kP.init = .initialized := Cond.initialized_spec (findClass_of_methodNamed hnamed) hkP hinit
  obtain ⟨vm₁, X₁, hstep₁⟩ := X.invokestatic hexec hown hlink hnamed hmethM hstatic hkP hinitP hy (g := g) hg (argsL := argsL) (rest := rest) (hlen _ hsigM) hstack hdg
  rcases hK m meth c ⟨T.setVm vm₁, locs, cells, slots⟩ { g with stack := rest } (.invokestatic index) mk argsL.toArray X₁ hg hsize hdg hW (X₁.named hnamed) (hpre vm₁ X₁.warmed) with ⟨v, B, X', hpost, hsteps⟩ | ⟨q, B, X', hpost, hsteps⟩
  · exact Or.inl ⟨v, vm₁, B, X₁.warmed, X', hpost, fun target h => hstep₁ _ fun acts => by rw [doInvoke_state]; exact hsteps.trans h⟩
  · exact Or.inr ⟨q, vm₁, B, X₁.warmed, X', hpost, hstep₁ _ fun acts => by rw [doInvoke_state]; exact hsteps⟩
end Calls
theorem vx_cls {s : State} {T : State} {vm₁ : Vm} {E : String} {k : ClassId} (hW : s.WarmedH vm₁) (h : (T.setVm vm₁).vm.findClass E = some k) : s.vm.findClass E = some k := by
  have h1 : vm₁.findClass E = some k := h
  rw [hW.alike.findClass] at h1
  exact h1
/-- the method's frame g, with q thrown over it -/
def vx_W (p : Program) (l : Launch) (e : Env) (R : Room) (s : State) (m : MethodId) (args : Array Value) (below : List Frame) (meth : Method) (c : Code) (H : Heap) (locs : List Loc) (cells slots : Nat) (Q : State → Prop) (g : JFrame) (q : Addr) : Prop :=
  ∀ T : State, T.heap = H → Stand p l e R s m args below meth c T locs cells slots → ∃ t, Steps p.tables e below ((T.setTop g).pushFrame (.throwing q)) t ∧ Q t
def vx_Run (p : Program) (l : Launch) (e : Env) (R : Room) (s : State) (m : MethodId) (args : Array Value) (below : List Frame) (meth : Method) (c : Code) (H : Heap) (locs : List Loc) (cells slots mc ms : Nat) (g : JFrame) (rest : List Value) (Qa : State → Outcome → State → Prop) (XC : String → State → State → Prop) (free : Addr → Prop) : Prop :=
  ∀ T : State, T.heap = H → Stand p l e R s m args below meth c T locs cells slots →
    (∃ (v : Option Value) (st₀ t T' : State) (L : List Loc), st₀.heap = H ∧ Stand p l e R s m args below meth c T' (locs ++ L) (cells + mc) (slots + ms) ∧ (∀ q ∈ L, free q.base) ∧ T'.heap = t.heap ∧ T'.vm = t.vm ∧ Qa st₀ (.returned v) t ∧
      Goes p e below T g T' { g with pc := g.pc + 3, stack := v.toList ++ rest }) ∨
    (∃ (q : Addr) (st₀ t T' : State) (L : List Loc) (E : String) (ce : Cell), st₀.heap = H ∧ Stand p l e R s m args below meth c T' (locs ++ L) (cells + mc) (slots + ms) ∧ (∀ z ∈ L, free z.base) ∧ T'.heap = t.heap ∧ T'.vm = t.vm ∧ XC E st₀ t ∧ t.heap[q]? = some ce ∧ ce.vm = .none ∧ s.vm.findClass E = some ce.cls ∧
      Steps p.tables e below (T.setTop g) ((T'.setTop { g with stack := rest }).pushFrame (.throwing q)))
def vx_X {S : Type} (px : S → Prop) (B : String → S → State → Prop) (A : Nat → Prop) : String → State → State → Prop := fun E st t => ∃ u : S, px u ∧ B E u t ∧ va_F A st t
section Runs
variable {p : Program} {l : Launch} {e : Env} {R : Room} {s : State} {m : MethodId} {args : Array Value} {below : List Frame} {meth : Method} {c : Code} {H : Heap} {locs : List Loc} {cells slots : Nat}
variable {y : MethodName} {bytes cc : ByteArray} {maxL nL mc ms n index : Nat} {ret : Option FieldType} {ws : List Cond} {rm : Room} {Pc : Array Value → State → Prop} {Qc : Array Value → State → Outcome → State → Prop} {XC : String → State → State → Prop} {free : Addr → Prop} {Ts : List Cond} {own C : String} {b : Addr} {As rest : List Value} {g : JFrame}
theorem vx_callBack (cb : CallB R s args own index y bytes maxL ret ws rm mc ms n) (hM : vx_Met l y ws rm Pc Qc XC mc ms free) (hbl : FrameBlind Pc) : vx_Back l R p e below s args y 3 8 (PreOf R mc ms Pc) (PostOf Qc mc ms free) (vx_Post XC mc ms free) := by
  obtain ⟨hrc, hrs, hfr, hlo, hws, hcw, -, hini, -⟩ := cb
  exact vx_back (bytes := bytes) (maxL := maxL) (ret := ret) hM hbl hrc hrs hfr hlo hws hcw (fun a' U hW => word_at hW (Or.inl (by first | rfl | simp [Cond.onTables, Cond.keeps, Cond.steady])) hini)
theorem vx_runV (S : CallFix p m c cc nL s args Ts own) (hM : vx_Met l y ws rm Pc Qc XC mc ms free) (cw : CallW R s args own C index y bytes maxL ret ws rm mc ms n) (hp : PreV s H C b Pc As)
    (hg : g.method = m) (hn : As.length = n) (hsize : g.locals.size = nL) (hstack : g.stack = As.reverse ++ .ref b :: rest) (hW : 2 * g.monitorRoom + (rest.map fun v => v.category).sum ≤ 8) (hdg : decode cc g.pc = .ok (.invokevirtual index, 3)) (hf : cells + mc ≤ R.cells ∧ slots + ms ≤ R.slots) :
    vx_Run p l e R s m args below meth c H locs cells slots mc ms g rest (Qc (Value.ref b :: As).toArray) XC free := by
  have hK : vx_Back l R p e below s args y 3 8 (PreOf R mc ms Pc) (PostOf Qc mc ms free) (vx_Post XC mc ms free) := vx_callBack cw.1 hM hp.1
  obtain ⟨⟨-, -, -, -, -, -, hcode, -, hy, hlen, hl⟩, hin, hse⟩ := cw
  obtain ⟨hx, hb, hml, ho, -⟩ := S
  obtain ⟨-, ⟨cellB, hcB, hoB, hclB⟩, hPc⟩ := hp
  intro T hT X
  rcases vx_callV X hx (C := C) (bytes := bytes) (maxL := maxL) (ret := ret) ho hl hin hse hcode hy hK (by rw [hT]; exact hcB) hoB hclB hg (hsize.trans hml.symm) (argsL := As) (rest := rest) (fun sig h => hn.trans (hlen sig h)) hstack hW (by rw [hb]; exact hdg)
    (fun vm₁ hW₁ => ⟨hf.1, hf.2, hPc (T.setVm vm₁) hT hW₁⟩) with ⟨v, vm₁, ⟨U', l2, c2, s2⟩, hW₁, X', ⟨g', mk, t, L, e1, e2, hq, h1, hL, h2, h3⟩, st⟩ | ⟨q, vm₁, ⟨U', l2, c2, s2⟩, hW₁, X', ⟨g', mk, t, L, E, ce, e1, e2, hq, hce, hcv, hcl, h1, hL, h2, h3⟩, st⟩
  · dsimp only [Pt.U, Pt.locs, Pt.cells, Pt.slots] at X' e1 e2 h1 h2 h3 st
    subst h1; subst h2; subst h3
    exact Or.inl ⟨v, (T.setVm vm₁).calling g' mk (Value.ref b :: As).toArray, t, U', L, hT, X', hL, e1, e2, hq, st⟩
  · dsimp only [Pt.U, Pt.locs, Pt.cells, Pt.slots] at X' e1 e2 h1 h2 h3 st hcl
    subst h1; subst h2; subst h3
    exact Or.inr ⟨q, (T.setVm vm₁).calling g' mk (Value.ref b :: As).toArray, t, U', L, E, ce, hT, X', hL, e1, e2, hq, hce, hcv, vx_cls hW₁ hcl, st⟩
theorem vx_runS (S : CallFix p m c cc nL s args Ts own) (hM : vx_Met l y ws rm Pc Qc XC mc ms free) (cw : CallB R s args own index y bytes maxL ret ws rm mc ms n ∧ (Cond.static y).before args s = true) (hp : PreS s H Pc As)
    (hg : g.method = m) (hn : As.length = n) (hsize : g.locals.size = nL) (hstack : g.stack = As.reverse ++ rest) (hW : 2 * g.monitorRoom + (rest.map fun v => v.category).sum ≤ 8) (hdg : decode cc g.pc = .ok (.invokestatic index, 3)) (hf : cells + mc ≤ R.cells ∧ slots + ms ≤ R.slots) :
    vx_Run p l e R s m args below meth c H locs cells slots mc ms g rest (Qc As.toArray) XC free := by
  have hK : vx_Back l R p e below s args y 3 8 (PreOf R mc ms Pc) (PostOf Qc mc ms free) (vx_Post XC mc ms free) := vx_callBack cw.1 hM hp.1
  obtain ⟨⟨-, -, -, -, -, -, hcode, hini, hy, hlen, hl⟩, hstt⟩ := cw
  obtain ⟨hx, hb, hml, ho, -⟩ := S
  intro T hT X
  rcases vx_callS X hx (bytes := bytes) (maxL := maxL) (ret := ret) ho hl hstt hini hcode hy hK hg (hsize.trans hml.symm) (argsL := As) (rest := rest) (fun sig h => hn.trans (hlen sig h)) hstack hW (by rw [hb]; exact hdg)
    (fun vm₁ hW₁ => ⟨hf.1, hf.2, hp.2 (T.setVm vm₁) hT hW₁⟩) with ⟨v, vm₁, ⟨U', l2, c2, s2⟩, hW₁, X', ⟨g', mk, t, L, e1, e2, hq, h1, hL, h2, h3⟩, st⟩ | ⟨q, vm₁, ⟨U', l2, c2, s2⟩, hW₁, X', ⟨g', mk, t, L, E, ce, e1, e2, hq, hce, hcv, hcl, h1, hL, h2, h3⟩, st⟩
  · dsimp only [Pt.U, Pt.locs, Pt.cells, Pt.slots] at X' e1 e2 h1 h2 h3 st
    subst h1; subst h2; subst h3
    exact Or.inl ⟨v, (T.setVm vm₁).calling g' mk As.toArray, t, U', L, hT, X', hL, e1, e2, hq, st⟩
  · dsimp only [Pt.U, Pt.locs, Pt.cells, Pt.slots] at X' e1 e2 h1 h2 h3 st hcl
    subst h1; subst h2; subst h3
    exact Or.inr ⟨q, (T.setVm vm₁).calling g' mk As.toArray, t, U', L, E, ce, hT, X', hL, e1, e2, hq, hce, hcv, vx_cls hW₁ hcl, st⟩
end Runs
section Rows
variable {p : Program} {l : Launch} {e : Env} {R : Room} {s : State} {m : MethodId} {args : Array Value} {below : List Frame} {meth : Method} {c : Code} {H : Heap} {locs : List Loc} {cells slots : Nat} {Q : State → Prop}
variable {mc ms : Nat} {free : Addr → Prop} {A0 A1 : Nat → Prop} {H0 : Heap} {a : Array Value} {pc : Nat} {ls : Array Slot} {st0 rest : List Value}
theorem vx_keep {st₀ t T' : State} {L : List Loc} (h0 : st₀.heap = H) (e1 : T'.heap = t.heap) (hS : va_S A0 H0 H locs) (hA : ∀ q, q < H.size → A1 q → A0 q) (hf : ∀ q, free q → A0 q) (hL : ∀ q ∈ L, free q.base) (hF : va_F A1 st₀ t) :
    H.size ≤ T'.heap.size ∧ (∀ q : Nat, q < H.size → ¬ A1 q → T'.heap[q]? = H[q]?) ∧ va_S A0 H0 T'.heap (locs ++ L) := by
  obtain ⟨hz, hk⟩ := hF
  rw [h0] at hz hk
  exact ⟨by rw [e1]; exact hz, fun q h1 h2 => by rw [e1]; exact hk q h1 h2,
    ⟨Nat.le_trans hS.1 (by rw [e1]; exact hz), fun q h1 h2 => by rw [e1, hk q (Nat.lt_of_lt_of_le h1 hS.1) (fun z => h2 (hA q (Nat.lt_of_lt_of_le h1 hS.1) z))]; exact hS.2.1 q h1 h2, fun q hq => by
      rcases List.mem_append.mp hq with h | h
      · exact hS.2.2 q h
      · exact hf _ (hL q h)⟩⟩
theorem vx_calli {S SX : Type} {post : Int32 → S → Prop} {px : SX → Prop} {B : S → State → Prop} {BX : String → SX → State → Prop} {AX : Nat → Prop} (hr : vx_Run p l e R s m args below meth c H locs cells slots mc ms (F0 m pc ls st0) rest (va_Qi post B A1 a) (vx_X px BX AX) free) (hS : va_S A0 H0 H locs) (hA : ∀ q, q < H.size → A1 q → A0 q) (hf : ∀ q, free q → A0 q) (hAX : ∀ q, q < H.size → AX q → A0 q)
    (kx : ∀ (E : String) (ce : Cell) (q9 : Addr) (u : SX) (t : State) (H1 : Heap) (locs1 : List Loc), t.heap = H1 → s.vm.Alike t.vm → px u → BX E u t → H.size ≤ H1.size → (∀ q : Nat, q < H.size → ¬ AX q → H1[q]? = H[q]?) → va_S A0 H0 H1 locs1 → H1[q9]? = some ce → ce.vm = .none → s.vm.findClass E = some ce.cls → vx_W p l e R s m args below meth c H1 locs1 (cells + mc) (slots + ms) Q (F0 m pc ls rest) q9)
    (kk : ∀ (r : Int32) (u : S) (t : State) (H1 : Heap) (locs1 : List Loc), t.heap = H1 → s.vm.Alike t.vm → post r u → B u t → H.size ≤ H1.size → (∀ q : Nat, q < H.size → ¬ A1 q → H1[q]? = H[q]?) → va_S A0 H0 H1 locs1 → W p l e R s m args below meth c H1 locs1 (cells + mc) (slots + ms) Q (F0 m (pc + 3) ls (.int r :: rest))) : W p l e R s m args below meth c H locs cells slots Q (F0 m pc ls st0) := by
  intro T hT X
  rcases hr T hT X with ⟨v, st₀, t, T', L, h0, X', hL, e1, e2, ⟨⟨r, u, hv, hp, hb⟩, hF⟩, st⟩ | ⟨q, st₀, t, T', L, E, ce, h0, X', hL, e1, e2, ⟨u, hp, hb, hF⟩, hce, hcv, hcl, st⟩
  · cases hv
    obtain ⟨k1, k2, k3⟩ := vx_keep h0 e1 hS hA hf hL hF
    obtain ⟨t2, a1, b1⟩ := kk r u t T'.heap (locs ++ L) e1.symm (by rw [← e2]; exact X'.warmed.alike) hp hb k1 k2 k3 T' rfl X'
    exact ⟨t2, st t2 a1, b1⟩
  · obtain ⟨k1, k2, k3⟩ := vx_keep h0 e1 hS hAX hf hL hF
    obtain ⟨t2, a1, b1⟩ := kx E ce q u t T'.heap (locs ++ L) e1.symm (by rw [← e2]; exact X'.warmed.alike) hp hb k1 k2 k3 (by rw [e1]; exact hce) hcv hcl T' rfl X'
    exact ⟨t2, st.trans a1, b1⟩
theorem vx_calll {S SX : Type} {post : Int64 → S → Prop} {px : SX → Prop} {B : S → State → Prop} {BX : String → SX → State → Prop} {AX : Nat → Prop} (hr : vx_Run p l e R s m args below meth c H locs cells slots mc ms (F0 m pc ls st0) rest (va_Ql post B A1 a) (vx_X px BX AX) free) (hS : va_S A0 H0 H locs) (hA : ∀ q, q < H.size → A1 q → A0 q) (hf : ∀ q, free q → A0 q) (hAX : ∀ q, q < H.size → AX q → A0 q)
    (kx : ∀ (E : String) (ce : Cell) (q9 : Addr) (u : SX) (t : State) (H1 : Heap) (locs1 : List Loc), t.heap = H1 → s.vm.Alike t.vm → px u → BX E u t → H.size ≤ H1.size → (∀ q : Nat, q < H.size → ¬ AX q → H1[q]? = H[q]?) → va_S A0 H0 H1 locs1 → H1[q9]? = some ce → ce.vm = .none → s.vm.findClass E = some ce.cls → vx_W p l e R s m args below meth c H1 locs1 (cells + mc) (slots + ms) Q (F0 m pc ls rest) q9)
    (kk : ∀ (r : Int64) (u : S) (t : State) (H1 : Heap) (locs1 : List Loc), t.heap = H1 → s.vm.Alike t.vm → post r u → B u t → H.size ≤ H1.size → (∀ q : Nat, q < H.size → ¬ A1 q → H1[q]? = H[q]?) → va_S A0 H0 H1 locs1 → W p l e R s m args below meth c H1 locs1 (cells + mc) (slots + ms) Q (F0 m (pc + 3) ls (.long r :: rest))) : W p l e R s m args below meth c H locs cells slots Q (F0 m pc ls st0) := by
  intro T hT X
  rcases hr T hT X with ⟨v, st₀, t, T', L, h0, X', hL, e1, e2, ⟨⟨r, u, hv, hp, hb⟩, hF⟩, st⟩ | ⟨q, st₀, t, T', L, E, ce, h0, X', hL, e1, e2, ⟨u, hp, hb, hF⟩, hce, hcv, hcl, st⟩
  · cases hv
    obtain ⟨k1, k2, k3⟩ := vx_keep h0 e1 hS hA hf hL hF
    obtain ⟨t2, a1, b1⟩ := kk r u t T'.heap (locs ++ L) e1.symm (by rw [← e2]; exact X'.warmed.alike) hp hb k1 k2 k3 T' rfl X'
    exact ⟨t2, st t2 a1, b1⟩
  · obtain ⟨k1, k2, k3⟩ := vx_keep h0 e1 hS hAX hf hL hF
    obtain ⟨t2, a1, b1⟩ := kx E ce q u t T'.heap (locs ++ L) e1.symm (by rw [← e2]; exact X'.warmed.alike) hp hb k1 k2 k3 (by rw [e1]; exact hce) hcv hcl T' rfl X'
    exact ⟨t2, st.trans a1, b1⟩
theorem vx_callf {S SX : Type} {post : UInt32 → S → Prop} {px : SX → Prop} {B : S → State → Prop} {BX : String → SX → State → Prop} {AX : Nat → Prop} (hr : vx_Run p l e R s m args below meth c H locs cells slots mc ms (F0 m pc ls st0) rest (va_Qf post B A1 a) (vx_X px BX AX) free) (hS : va_S A0 H0 H locs) (hA : ∀ q, q < H.size → A1 q → A0 q) (hf : ∀ q, free q → A0 q) (hAX : ∀ q, q < H.size → AX q → A0 q)
    (kx : ∀ (E : String) (ce : Cell) (q9 : Addr) (u : SX) (t : State) (H1 : Heap) (locs1 : List Loc), t.heap = H1 → s.vm.Alike t.vm → px u → BX E u t → H.size ≤ H1.size → (∀ q : Nat, q < H.size → ¬ AX q → H1[q]? = H[q]?) → va_S A0 H0 H1 locs1 → H1[q9]? = some ce → ce.vm = .none → s.vm.findClass E = some ce.cls → vx_W p l e R s m args below meth c H1 locs1 (cells + mc) (slots + ms) Q (F0 m pc ls rest) q9)
    (kk : ∀ (r : UInt32) (u : S) (t : State) (H1 : Heap) (locs1 : List Loc), t.heap = H1 → s.vm.Alike t.vm → post r u → B u t → H.size ≤ H1.size → (∀ q : Nat, q < H.size → ¬ A1 q → H1[q]? = H[q]?) → va_S A0 H0 H1 locs1 → W p l e R s m args below meth c H1 locs1 (cells + mc) (slots + ms) Q (F0 m (pc + 3) ls (.float r :: rest))) : W p l e R s m args below meth c H locs cells slots Q (F0 m pc ls st0) := by
  intro T hT X
  rcases hr T hT X with ⟨v, st₀, t, T', L, h0, X', hL, e1, e2, ⟨⟨r, u, hv, hp, hb⟩, hF⟩, st⟩ | ⟨q, st₀, t, T', L, E, ce, h0, X', hL, e1, e2, ⟨u, hp, hb, hF⟩, hce, hcv, hcl, st⟩
  · cases hv
    obtain ⟨k1, k2, k3⟩ := vx_keep h0 e1 hS hA hf hL hF
    obtain ⟨t2, a1, b1⟩ := kk r u t T'.heap (locs ++ L) e1.symm (by rw [← e2]; exact X'.warmed.alike) hp hb k1 k2 k3 T' rfl X'
    exact ⟨t2, st t2 a1, b1⟩
  · obtain ⟨k1, k2, k3⟩ := vx_keep h0 e1 hS hAX hf hL hF
    obtain ⟨t2, a1, b1⟩ := kx E ce q u t T'.heap (locs ++ L) e1.symm (by rw [← e2]; exact X'.warmed.alike) hp hb k1 k2 k3 (by rw [e1]; exact hce) hcv hcl T' rfl X'
    exact ⟨t2, st.trans a1, b1⟩
theorem vx_calld {S SX : Type} {post : UInt64 → S → Prop} {px : SX → Prop} {B : S → State → Prop} {BX : String → SX → State → Prop} {AX : Nat → Prop} (hr : vx_Run p l e R s m args below meth c H locs cells slots mc ms (F0 m pc ls st0) rest (va_Qd post B A1 a) (vx_X px BX AX) free) (hS : va_S A0 H0 H locs) (hA : ∀ q, q < H.size → A1 q → A0 q) (hf : ∀ q, free q → A0 q) (hAX : ∀ q, q < H.size → AX q → A0 q)
    (kx : ∀ (E : String) (ce : Cell) (q9 : Addr) (u : SX) (t : State) (H1 : Heap) (locs1 : List Loc), t.heap = H1 → s.vm.Alike t.vm → px u → BX E u t → H.size ≤ H1.size → (∀ q : Nat, q < H.size → ¬ AX q → H1[q]? = H[q]?) → va_S A0 H0 H1 locs1 → H1[q9]? = some ce → ce.vm = .none → s.vm.findClass E = some ce.cls → vx_W p l e R s m args below meth c H1 locs1 (cells + mc) (slots + ms) Q (F0 m pc ls rest) q9)
    (kk : ∀ (r : UInt64) (u : S) (t : State) (H1 : Heap) (locs1 : List Loc), t.heap = H1 → s.vm.Alike t.vm → post r u → B u t → H.size ≤ H1.size → (∀ q : Nat, q < H.size → ¬ A1 q → H1[q]? = H[q]?) → va_S A0 H0 H1 locs1 → W p l e R s m args below meth c H1 locs1 (cells + mc) (slots + ms) Q (F0 m (pc + 3) ls (.double r :: rest))) : W p l e R s m args below meth c H locs cells slots Q (F0 m pc ls st0) := by
  intro T hT X
  rcases hr T hT X with ⟨v, st₀, t, T', L, h0, X', hL, e1, e2, ⟨⟨r, u, hv, hp, hb⟩, hF⟩, st⟩ | ⟨q, st₀, t, T', L, E, ce, h0, X', hL, e1, e2, ⟨u, hp, hb, hF⟩, hce, hcv, hcl, st⟩
  · cases hv
    obtain ⟨k1, k2, k3⟩ := vx_keep h0 e1 hS hA hf hL hF
    obtain ⟨t2, a1, b1⟩ := kk r u t T'.heap (locs ++ L) e1.symm (by rw [← e2]; exact X'.warmed.alike) hp hb k1 k2 k3 T' rfl X'
    exact ⟨t2, st t2 a1, b1⟩
  · obtain ⟨k1, k2, k3⟩ := vx_keep h0 e1 hS hAX hf hL hF
    obtain ⟨t2, a1, b1⟩ := kx E ce q u t T'.heap (locs ++ L) e1.symm (by rw [← e2]; exact X'.warmed.alike) hp hb k1 k2 k3 (by rw [e1]; exact hce) hcv hcl T' rfl X'
    exact ⟨t2, st.trans a1, b1⟩
theorem vx_callv {S SX : Type} {post : S → Prop} {px : SX → Prop} {B : S → State → Prop} {BX : String → SX → State → Prop} {AX : Nat → Prop} (hr : vx_Run p l e R s m args below meth c H locs cells slots mc ms (F0 m pc ls st0) rest (va_Qv post B A1 a) (vx_X px BX AX) free) (hS : va_S A0 H0 H locs) (hA : ∀ q, q < H.size → A1 q → A0 q) (hf : ∀ q, free q → A0 q) (hAX : ∀ q, q < H.size → AX q → A0 q)
    (kx : ∀ (E : String) (ce : Cell) (q9 : Addr) (u : SX) (t : State) (H1 : Heap) (locs1 : List Loc), t.heap = H1 → s.vm.Alike t.vm → px u → BX E u t → H.size ≤ H1.size → (∀ q : Nat, q < H.size → ¬ AX q → H1[q]? = H[q]?) → va_S A0 H0 H1 locs1 → H1[q9]? = some ce → ce.vm = .none → s.vm.findClass E = some ce.cls → vx_W p l e R s m args below meth c H1 locs1 (cells + mc) (slots + ms) Q (F0 m pc ls rest) q9)
    (kk : ∀ (u : S) (t : State) (H1 : Heap) (locs1 : List Loc), t.heap = H1 → s.vm.Alike t.vm → post u → B u t → H.size ≤ H1.size → (∀ q : Nat, q < H.size → ¬ A1 q → H1[q]? = H[q]?) → va_S A0 H0 H1 locs1 → W p l e R s m args below meth c H1 locs1 (cells + mc) (slots + ms) Q (F0 m (pc + 3) ls (rest))) : W p l e R s m args below meth c H locs cells slots Q (F0 m pc ls st0) := by
  intro T hT X
  rcases hr T hT X with ⟨v, st₀, t, T', L, h0, X', hL, e1, e2, ⟨⟨u, hv, hp, hb⟩, hF⟩, st⟩ | ⟨q, st₀, t, T', L, E, ce, h0, X', hL, e1, e2, ⟨u, hp, hb, hF⟩, hce, hcv, hcl, st⟩
  · cases hv
    obtain ⟨k1, k2, k3⟩ := vx_keep h0 e1 hS hA hf hL hF
    obtain ⟨t2, a1, b1⟩ := kk u t T'.heap (locs ++ L) e1.symm (by rw [← e2]; exact X'.warmed.alike) hp hb k1 k2 k3 T' rfl X'
    exact ⟨t2, st t2 a1, b1⟩
  · obtain ⟨k1, k2, k3⟩ := vx_keep h0 e1 hS hAX hf hL hF
    obtain ⟨t2, a1, b1⟩ := kx E ce q u t T'.heap (locs ++ L) e1.symm (by rw [← e2]; exact X'.warmed.alike) hp hb k1 k2 k3 (by rw [e1]; exact hce) hcv hcl T' rfl X'
    exact ⟨t2, st.trans a1, b1⟩
/-- caught by the row x of this method's table; the rows ahead don't take it -/
theorem vx_catch {own name : String} {E : String} {ce : Cell} {q : Addr} (hown : s.vm.findClass own = some m.cls) (pre : List ExceptionTableEntry) (x : ExceptionTableEntry) (suf : List ExceptionTableEntry) (hsplit : c.exceptionTable.toList = pre ++ x :: suf)
    (hpass : ∀ z ∈ pre, covers z pc = false ∨ (z.catchType ≠ 0 ∧ ∃ nm : String, (Cond.classLink own z.catchType nm).before args s = true ∧ va_Nc E nm s)) (hx : covers x pc = true) (h0 : x.catchType ≠ 0)
    (hlink : (Cond.classLink own x.catchType name).before args s = true) (hcast : (Cond.castable E name).before args s = true) (hcell : H[q]? = some ce) (hv : ce.vm = .none) (hcl : s.vm.findClass E = some ce.cls)
    (kk : W p l e R s m args below meth c H locs cells slots Q (F0 m x.handlerPc ls [.ref q])) : vx_W p l e R s m args below meth c H locs cells slots Q (F0 m pc ls rest) q := by
  intro T hT X
  have hpl : e.platform.magicAccessors = ({} : Platform).magicAccessors := by rw [X.admits.platform]
  obtain ⟨c3, c4, hc3, hc4, hasg⟩ := Cond.castable_spec hcast
  cases Option.some.inj (hc3.symm.trans hcl)
  obtain ⟨c5, hc5, hcl5⟩ := Cond.classLink_spec hown hlink e.platform hpl
  cases Option.some.inj (hc4.symm.trans hc5)
  obtain ⟨vm', X', st⟩ := X.thenCaughtThrough q (g := F0 m pc ls rest) rfl (Steps.refl _) (by rw [hT]; exact hcell) (by rw [hv]; rfl) (by obtain ⟨k9, h9, -⟩ := Vm.findClass_spec hcl; exact ⟨k9, h9⟩) pre x suf hsplit
    (fun z hz => by
      rcases hpass z hz with h | ⟨hz0, nm, hl1, hn1⟩
      · exact Or.inl h
      · obtain ⟨c6, hc6, hcl6⟩ := Cond.classLink_spec hown hl1 e.platform hpl
        obtain ⟨a8, b8, h1, h2, h3⟩ := hn1
        cases Option.some.inj (h1.symm.trans hcl)
        cases Option.some.inj (h2.symm.trans hc6)
        exact Or.inr ⟨hz0, _, hcl6, h3⟩) hx (Or.inr ⟨h0, c4, hcl5, hasg⟩)
  obtain ⟨t, a1, b1⟩ := kk (T.setVm vm') hT X'
  exact ⟨t, st.trans a1, b1⟩
end Rows
section Ends
variable {p : Program} {l : Launch} {e : Env} {R : Room} {s : State} {m : MethodId} {args : Array Value} {below : List Frame} {meth : Method} {c : Code} {H : Heap} {locs : List Loc} {cells slots : Nat} {Q : State → Prop}
variable {mc ms : Nat} {free : Addr → Prop} {A0 A1 : Nat → Prop} {H0 : Heap} {a : Array Value} {ls : Array Slot} {st0 rest : List Value}
variable {Qc : Array Value → State → Outcome → State → Prop} {XC : String → State → State → Prop}
/-- what a body that may throw owes at its end -/
def vx_MQ (below : List Frame) (Qc : Array Value → State → Outcome → State → Prop) (XC : String → State → State → Prop) (a : Array Value) (s : State) (mc ms : Nat) (free : Addr → Prop) : State → Prop := fun t =>
  ∃ o, t.status = .running ∧ Ended t below o ∧ vx_Q Qc XC mc ms free a s o t
theorem vx_ret {g : JFrame} {mc ms : Nat} (k : W p l e R s m args below meth c H locs cells slots (MQ below Qc args s mc ms free) g) : W p l e R s m args below meth c H locs cells slots (vx_MQ below Qc XC args s mc ms free) g := by
  intro T hT X
  obtain ⟨t, a1, o, b1, b2, b3, b4⟩ := k T hT X
  exact ⟨t, a1, o, b1, b2, Or.inl ⟨b3, b4⟩⟩
/-- not caught here: it goes on to the caller -/
theorem vx_widen {g : JFrame} {q : Addr} {k n : Nat} (h1 : cells ≤ k) (h2 : slots ≤ n) (kk : vx_W p l e R s m args below meth c H locs k n Q g q) : vx_W p l e R s m args below meth c H locs cells slots Q g q := fun T hT X => kk T hT (stand_widen X h1 h2)
theorem vx_out {pc : Nat} {E : String} {ce : Cell} {q : Addr} {mc ms : Nat} (hout : ∀ x ∈ c.exceptionTable.toList, covers x pc = false) (hlocks : meth.locks = false) (hcell : H[q]? = some ce) (hv : ce.vm = .none) (hcl : s.vm.findClass E = some ce.cls)
    (hx : ∀ t : State, t.heap = H → s.vm.Alike t.vm → XC E s t) (hf : ∀ z ∈ locs, free z.base) (hc : cells ≤ mc) (hs : slots ≤ ms) :
    vx_W p l e R s m args below meth c H locs cells slots (vx_MQ below Qc XC args s mc ms free) (F0 m pc ls rest) q := by
  intro T hT X
  obtain ⟨st1, hrun, hend, hW, hsm⟩ := X.leaveThrown q (g := F0 m pc ls rest) rfl rfl rfl hout hlocks
  have hcell9 : (T.setFrames (.throwing q :: below)).heap[q]? = some ce := by
    show T.heap[q]? = some ce
    rw [hT]; exact hcell
  exact ⟨_, st1, .threw q, hrun, hend, Or.inr ⟨q, rfl, E, ce, locs, hx _ hT hW.alike, hcell9, hv, hcl, hW, hsm.mono hc hs, hf⟩⟩
theorem vx_frame {U : State} {k n : Nat} (h : s.sameButNew ({ U with vm := s.vm } : State) locs k n) : s.heap.size ≤ U.heap.size ∧ ∀ q : Nat, q < s.heap.size → (∀ z ∈ locs, z.base ≠ q) → U.heap[q]? = s.heap[q]? := by
  obtain ⟨-, h2, -, -, -, h6⟩ := h
  refine ⟨h2, fun q hq hz => ?_⟩
  obtain ⟨c9, e1, e2, e3, e4⟩ := h6 q _ (Array.getElem?_eq_getElem hq)
  have hs : c9.slots = (s.heap[q]).slots := Array.ext_getElem? fun i => e4 i fun hm => hz _ hm rfl
  have h9 : c9 = s.heap[q] := by
    rw [hs] at e2
    exact e2
  have e5 : U.heap[q]? = some c9 := e1
  rw [e5, h9, Array.getElem?_eq_getElem hq]
/-- the words of a throw but the four that speak of the heap -/
def vx_no (w : Cond) : Bool := decide (w ≠ .isRef (.static Bundle.tN "UNASSIGNED_STACK" Bundle.steD)) && decide (w ≠ .isRef (.static Bundle.tN "SUPPRESSED_SENTINEL" Bundle.listD)) && decide (w ≠ .laysStatic Bundle.tN "UNASSIGNED_STACK" Bundle.steD) && decide (w ≠ .laysStatic Bundle.tN "SUPPRESSED_SENTINEL" Bundle.listD)
def vx_at0 (own : String) (ic : Nat) (X : String) (names : List String) : List Cond := (Bundle.ownAtoms0 own ic X names).filter vx_no
def vx_atS (own : String) (ic : Nat) (X : String) (names : List String) : List Cond := (Bundle.ownAtoms own ic X names).filter vx_no
/-- a word that the tables alone decide, or a good one -/
def vx_ot (w : Cond) : Bool := w.onTables || goodWord w
theorem vx_ot_at {args a' : Array Value} {s U : State} {w : Cond} (hW : s.WarmedH U.vm) (hvm : s.vm = U.vm) (hg : vx_ot w = true) (h : w.before args s = true) : w.before a' U = true := by
  simp only [vx_ot, Bool.or_eq_true] at hg
  rcases hg with hg | hg
  · exact va_tabs hg hvm h
  · exact word_at hW (good_of_word hg) h
/-- a list's words: the good ones out of the method's own list, the others by premises of their own -/
theorem vx_hat {args : Array Value} {s : State} {L B : List Cond} (h1 : ∀ w ∈ L.filter goodWord, w.before args s = true) (h2 : ∀ w ∈ L.filter (fun w => !goodWord w), w ∈ B) (h3 : ∀ w ∈ B, w.before args s = true) : ∀ w ∈ L, w.before args s = true := by
  intro w hw
  by_cases g : goodWord w = true
  · exact h1 w (List.mem_filter.mpr ⟨hw, g⟩)
  · refine h3 w (h2 w (List.mem_filter.mpr ⟨hw, ?_⟩))
    show (!goodWord w) = true
    cases hgw : goodWord w
    · rfl
    · exact absurd hgw g
theorem vx_c {args : Array Value} {s : State} {w : Cond} {B : List Cond} (h : w.before args s = true) (t : ∀ w ∈ B, w.before args s = true) : ∀ w' ∈ w :: B, w'.before args s = true := fun w' h' => (List.mem_cons.mp h').elim (fun e => by rw [e]; exact h) (t w')
theorem vx_n {args : Array Value} {s : State} : ∀ w ∈ ([] : List Cond), w.before args s = true := fun _ h => nomatch h
theorem vx_own {args : Array Value} {s : State} {L : List Cond} (h1 : ∀ w ∈ L.filter vx_no, w.before args s = true)
    (hU : (Cond.isRef (.static Bundle.tN "UNASSIGNED_STACK" Bundle.steD)).before args s = true) (hN : (Cond.isRef (.static Bundle.tN "SUPPRESSED_SENTINEL" Bundle.listD)).before args s = true)
    (lU : (Cond.laysStatic Bundle.tN "UNASSIGNED_STACK" Bundle.steD).before args s = true) (lN : (Cond.laysStatic Bundle.tN "SUPPRESSED_SENTINEL" Bundle.listD).before args s = true) : ∀ w ∈ L, w.before args s = true := by
  intro w hw
  by_cases e1 : w = .isRef (.static Bundle.tN "UNASSIGNED_STACK" Bundle.steD)
  · rw [e1]; exact hU
  · by_cases e2 : w = .isRef (.static Bundle.tN "SUPPRESSED_SENTINEL" Bundle.listD)
    · rw [e2]; exact hN
    · by_cases e3 : w = .laysStatic Bundle.tN "UNASSIGNED_STACK" Bundle.steD
      · rw [e3]; exact lU
      · by_cases e4 : w = .laysStatic Bundle.tN "SUPPRESSED_SENTINEL" Bundle.listD
        · rw [e4]; exact lN
        · exact h1 w (List.mem_filter.mpr ⟨hw, by unfold vx_no; rw [decide_eq_true e1, decide_eq_true e2, decide_eq_true e3, decide_eq_true e4]; rfl⟩)
/-- where a static field lies, its class's statics cell in H -/
def vx_L (C n d : String) (A : Nat → Prop) (U : State) (H : Heap) : Prop := ∃ (c : ClassId) (k : Class) (i : Nat) (f : Field) (a : Nat) (cell : Cell), U.vm.findClass C = some c ∧ U.fieldFound? C n d = some (c, k, i, f) ∧ f.isStatic = true ∧ k.statics = some a ∧ H[a]? = some cell ∧ cell.vm.isStatics = true ∧ cell.cls = c ∧ f.slot < cell.slots.size ∧ k.staticTypes[f.slot]? = some f.type ∧ ¬ A a
theorem vx_L.moved {C n d : String} {A : Nat → Prop} {u U : State} {H : Heap} (hvm : u.vm.Alike U.vm) (h : vx_L C n d A u H) : vx_L C n d A U H := by
  obtain ⟨c, k, i, f, a, cell, h1, h2, h3, h4, h5, h6, h7, h8, h9, h10⟩ := h
  obtain ⟨k', hi', he⟩ := State.fieldFound?_setVm hvm h2
  exact ⟨c, k', i, f, a, cell, by rw [hvm.findClass]; exact h1, hi', h3, by rw [he]; exact h4, h5, h6, h7, h8, by rw [he]; exact h9, h10⟩
theorem vx_L.kept {C n d : String} {A : Nat → Prop} {U : State} {H H1 : Heap} (h : vx_L C n d A U H) (hq : ∀ a : Nat, a < H.size → ¬ A a → H1[a]? = H[a]?) : vx_L C n d A U H1 := by
  obtain ⟨c, k, i, f, a, cell, h1, h2, h3, h4, h5, h6, h7, h8, h9, h10⟩ := h
  exact ⟨c, k, i, f, a, cell, h1, h2, h3, h4, by rw [hq a (Array.getElem?_eq_some_iff.mp h5).1 h10]; exact h5, h6, h7, h8, h9, h10⟩
theorem vx_L.narrow {C n d : String} {A B : Nat → Prop} {U : State} {H : Heap} (h : vx_L C n d A U H) (hAB : ∀ q, B q → A q) : vx_L C n d B U H := by
  obtain ⟨c, k, i, f, a, cell, h1, h2, h3, h4, h5, h6, h7, h8, h9, h10⟩ := h
  exact ⟨c, k, i, f, a, cell, h1, h2, h3, h4, h5, h6, h7, h8, h9, fun z => h10 (hAB _ z)⟩
theorem vx_L.word {C n d : String} {A : Nat → Prop} {s : State} {args : Array Value} (h : vx_L C n d A s s.heap) : (Cond.laysStatic C n d).before args s = true := by
  obtain ⟨c, k, i, f, a, cell, h1, h2, h3, h4, h5, h6, h7, h8, h9, -⟩ := h
  show (Cond.laysStatic C n d).holds args s none s [] = true
  exact Cond.laysStatic_of h1 h2 h3 h4 h5 h6 h7 h8 h9
/-- .. and what it holds: null or some reference -/
def vx_Zq (C n d : String) (A : Nat → Prop) (U : State) (H : Heap) : Prop := va_Zq C n d A U H ∧ vx_L C n d A U H
theorem vx_Zq.moved {C n d : String} {A : Nat → Prop} {u U : State} {H : Heap} (hvm : u.vm.Alike U.vm) (h : vx_Zq C n d A u H) : vx_Zq C n d A U H := ⟨va_Zq.moved hvm h.1, vx_L.moved hvm h.2⟩
theorem vx_Zq.kept {C n d : String} {A : Nat → Prop} {U : State} {H H1 : Heap} (h : vx_Zq C n d A U H) (hq : ∀ a : Nat, a < H.size → ¬ A a → H1[a]? = H[a]?) : vx_Zq C n d A U H1 := ⟨va_Zq.kept h.1 hq, vx_L.kept h.2 hq⟩
theorem vx_Zq.narrow {C n d : String} {A B : Nat → Prop} {U : State} {H : Heap} (h : vx_Zq C n d A U H) (hAB : ∀ q, B q → A q) : vx_Zq C n d B U H := ⟨va_Zq.narrow h.1 hAB, vx_L.narrow h.2 hAB⟩
theorem vx_Zqof {args : Array Value} {s : State} {C n d : String} {A : Nat → Prop} (hl : (Cond.laysStatic C n d).before args s = true) (hini : (Cond.initialized C).before args s = true) (h : (Cond.isRef (.static C n d)).before args s = true) (hA : ∀ a : Nat, a < s.heap.size → ¬ A a) : vx_Zq C n d A s s.heap := by
  refine ⟨va_Zqof hl hini h hA, ?_⟩
  obtain ⟨c, k, i, f, a, cell, h1, h2, h3, h4, h5, h6, h7, h8, h9⟩ := Cond.laysStatic_spec hl
  exact ⟨c, k, i, f, a, cell, h1, h2, h3, h4, h5, h6, h7, h8, h9, hA a (Array.getElem?_eq_some_iff.mp h5).1⟩
theorem vx_isRef {C n d : String} {v : Value} {A : Nat → Prop} {s : State} {args : Array Value} (h : va_Z C n d v A s s.heap) (hv : v.isRef = true) : (Cond.isRef (.static C n d)).before args s = true := by
  obtain ⟨cf, kf, fi, f, a, cell, h1, h2, h3, h4, h5, h6, h7, -⟩ := h
  have he : (Term.static C n d).eval args s none [] s = some v := by
    simp [Term.eval, State.fieldNamed?, h1, h2, h4, h5, h6, h7]
  simp only [Cond.before, Cond.holds, Cond.value, he]
  cases v <;> simp_all [Value.isRef]
theorem vx_isRefq {C n d : String} {A : Nat → Prop} {s : State} {args : Array Value} (h : va_Zq C n d A s s.heap) : (Cond.isRef (.static C n d)).before args s = true := by
  rcases h with h | ⟨t, h⟩
  · exact vx_isRef h rfl
  · exact vx_isRef h rfl
/-- the same frame, seen from here: as if the method were called anew in this heap -/
theorem vx_rebase {T : State} (X : Stand p l e R s m args below meth c T locs cells slots) {R' : Room} (hf : R'.frames ≤ R.frames) (hl : R'.locals ≤ R.locals) (hc : cells + R'.cells ≤ R.cells) (hs : slots + R'.slots ≤ R.slots) :
    Stand p l e R' ((T.setVm s.vm).setFrames (.invoking m args :: below)) m args below meth c T [] 0 0 := by
  have htop : (T.setVm s.vm).topJava?.isSome := X.here.top
  have hF : ((T.setVm s.vm).setFrames (.invoking m args :: below)).frames = .invoking m args :: below := State.frames_setFrames _ (State.cur_lt_of_top htop)
  obtain ⟨g₀, hg0⟩ := Option.isSome_iff_exists.mp htop
  obtain ⟨r, hr⟩ := State.topJava?_eq_some.mp hg0
  have hl9 : e.platform.stackLimits (T.setVm s.vm).me = e.platform.stackLimits s.me := X.limits
  have hb9 : (T.setVm s.vm).me.stackBytes = s.me.stackBytes := X.bytes
  refine ⟨X.admits, X.cas, X.clock, hF, ?_, X.hears, X.method, X.code, X.here, X.tail, X.warmed, ?_, ?_, ?_⟩
  · have h := X.room
    have hU : ((T.setVm s.vm).setFrames (.invoking m args :: below)).localsInUse = s.localsInUse := by
      rw [State.localsInUse_invoking hF (meth := meth) (c := c) X.method X.code, State.localsInUse_invoking X.frames X.method X.code]
    simp only [State.hasRoom, Bool.and_eq_true, decide_eq_true_eq] at h ⊢
    obtain ⟨⟨⟨⟨h1, h2, h3, h4, h5, h6⟩, h7⟩, h8⟩, h9⟩ := h
    rw [X.frames, List.length_cons] at h2 h3
    have q1 := X.heapSize
    have q2 := X.used
    simp only [hF, hU, List.length_cons, State.stackLimits_setFrames, State.stackBytes_setFrames, hl9, hb9]
    refine ⟨⟨⟨⟨by omega, by omega, by omega, by omega, by omega, h6⟩, ?_⟩, ?_⟩, X.book⟩
    · show T.heap.size + R'.cells ≤ e.platform.maxCells
      omega
    · show T.slotsUsed + R'.slots ≤ e.platform.maxSlots
      omega
  · rw [State.stackLimits_setFrames]; rfl
  · rw [State.stackBytes_setFrames]; rfl
  · refine ⟨?_, Nat.le_refl _, Nat.le_refl _, ?_, ?_, fun a c9 h9 => ⟨c9, h9, rfl, rfl, fun _ _ => rfl⟩⟩
    · obtain ⟨t, ht, -⟩ := State.frames_cons hr
      show T.setVm s.vm = { ((T.setVm s.vm).setFrames (.invoking m args :: below)).setFrames (T.setVm s.vm).frames with heap := T.heap, slotsUsed := T.slotsUsed }
      rw [State.setFrames_setFrames, State.setFrames_self ht]
      rfl
    · show T.slotsUsed = T.slotsUsed + ((T.heap.toList.drop T.heap.size).map (·.slots.size)).sum
      rw [List.drop_eq_nil_of_le (Nat.le_of_eq Array.length_toList)]
      rfl
    · show ((T.heap.toList.drop T.heap.size).map (·.slots.size)).sum ≤ 0
      rw [List.drop_eq_nil_of_le (Nat.le_of_eq Array.length_toList)]
      exact Nat.le_refl _
/-- 'throw new E()': new; dup; invokespecial; athrow -/
theorem vx_throw0 {cc : ByteArray} {pc : Nat} (hexec : p.tables.exec = Jvm.exec) (hb : c.code = cc) (hl : l.stackTraces = false) {own cls : String} {names : List String} {ik ic mc ms : Nat} {A : Nat → Prop}
    (hown : s.vm.findClass own = some m.cls) (hcls : Bundle.fit cls = true) (hnames : ∀ n ∈ names, Bundle.fit n = true)
    (hk : (Cond.classLink own ik cls).before args s = true) (hini : (Cond.initialized cls).before args s = true) (hat : ∀ w ∈ vx_at0 own ic cls names, w.before args s = true)
    (hgood : ∀ w ∈ Cond.classLink own ik cls :: Cond.initialized cls :: vx_at0 own ic cls names, vx_ot w = true)
    (hU : vx_Zq Bundle.tN "UNASSIGNED_STACK" Bundle.steD A s s.heap) (hN : vx_Zq Bundle.tN "SUPPRESSED_SENTINEL" Bundle.listD A s s.heap) (hS : va_S A s.heap H locs) (hsize : ls.size = c.maxLocals)
    (d0 : decode cc pc = .ok (.new ik, 3)) (d3 : decode cc (pc + 3) = .ok (.dup, 1)) (d4 : decode cc (pc + 4) = .ok (.invokespecial ic, 3)) (d7 : decode cc (pc + 7) = .ok (.athrow, 1))
    (hout : ∀ x ∈ c.exceptionTable.toList, covers x (pc + 7) = false)
    (hRframes : names.length + 3 < R.frames) (hRlocals : (rest.map fun v => v.category).sum + (13 * (names.length + 1) + 42) ≤ R.locals) (hRcells : cells + 1 ≤ R.cells) (hRslots : slots + 6 ≤ R.slots) (hlocks : meth.locks = false)
    (hx : ∀ t : State, s.vm.Alike t.vm → H.size ≤ t.heap.size → (∀ q : Nat, q < H.size → t.heap[q]? = H[q]?) → XC cls s t)
    (hf : ∀ z ∈ locs, free z.base) (hc : cells + 1 ≤ mc) (hs : slots + 6 ≤ ms) :
    W p l e R s m args below meth c H locs cells slots (vx_MQ below Qc XC args s mc ms free) (F0 m pc ls rest) := by
  intro T hT X
  have htr : e.platform.stackTraces = false := (show e.platform.stackTraces = l.stackTraces by rw [X.admits.platform]).trans hl
  have Y := vx_rebase X (R' := { frames := R.frames, locals := R.locals, cells := 1, slots := 6 }) (Nat.le_refl _) (Nat.le_refl _) hRcells hRslots
  obtain ⟨s', hA⟩ : ∃ z, z = (T.setVm s.vm).setFrames (.invoking m args :: below) := ⟨_, rfl⟩
  rw [← hA] at Y
  have hvm : s'.vm = s.vm := by rw [hA]; rfl
  have hhp : s'.heap = H := by rw [hA]; exact hT
  have hW0 : s.WarmedH s'.vm := by rw [hvm]; exact State.WarmedH.refl s
  have hat' : ∀ w ∈ vx_at0 own ic cls names, w.before args s' = true := fun w hw => vx_ot_at hW0 hvm.symm (hgood w (List.mem_cons_of_mem _ (List.mem_cons_of_mem _ hw))) (hat w hw)
  have hk' : (Cond.classLink own ik cls).before args s' = true := vx_ot_at hW0 hvm.symm (hgood _ List.mem_cons_self) hk
  have hini' : (Cond.initialized cls).before args s' = true := vx_ot_at hW0 hvm.symm (hgood _ (List.mem_cons_of_mem _ List.mem_cons_self)) hini
  have hU' : vx_Zq Bundle.tN "UNASSIGNED_STACK" Bundle.steD A s' s'.heap := by rw [hhp]; exact vx_Zq.moved hW0.alike (hU.kept hS.2.1)
  have hN' : vx_Zq Bundle.tN "SUPPRESSED_SENTINEL" Bundle.listD A s' s'.heap := by rw [hhp]; exact vx_Zq.moved hW0.alike (hN.kept hS.2.1)
  have h : ∀ w ∈ Bundle.ownAtoms0 own ic cls names, w.before args s' = true := vx_own hat' (vx_isRefq hU'.1) (vx_isRefq hN'.1) hU'.2.word hN'.2.word
  have hown' : s'.vm.findClass own = some m.cls := by rw [hvm]; exact hown
  have hins : (Cond.instantiable cls 6).before args s' = true := h _ (by simp [Bundle.ownAtoms0])
  obtain ⟨vm₁, cX, kX, hfX, hkX, -, -, X₁, st1⟩ := Y.newCold hexec (own := own) (C := cls) (index := ik) (n := 6) hown' hk' hins hini'
    (g := F0 m pc ls rest) rfl (by rw [hb]; exact d0) (Nat.le_refl _) (Nat.le_refl _)
  generalize hT1 : (T.setVm vm₁).pushCell { cls := cX, slots := kX.instanceTypes.map defaultValue, vm := .none } = T1 at X₁ st1
  have hcat : (Value.ref T.heap.size).category = 1 := rfl
  have hcellA : T1.heap[T.heap.size]? = some (freshCell cX kX) := by rw [← hT1]; exact State.heap_pushCell_size _ _
  have d3' : decode c.code (pc + 3) = .ok (.dup, 1) := by rw [hb]; exact d3
  obtain ⟨U, hsteps, hrun, hend, hW, hsame, ce, hce, hO⟩ := X₁.ctorThrow0 hexec htr (own := own) (cls := cls) (names := names) (ic := ic) hown' hcls hnames h (fun x hx => nomatch hx) hfX hkX hcellA (by rw [hhp, hT]; exact Nat.le_refl _)
    (g := { method := m, pc := pc + 4, locals := ls, stack := .ref T.heap.size :: .ref T.heap.size :: rest, locked := none }) rfl hsize rfl rfl (rest := rest) rfl
    (by rw [hb]; exact d4) (by rw [hb]; exact d7) hout hRframes (by simp only [List.map_cons, List.sum_cons, hcat]; omega) hlocks
  obtain ⟨f1, f2⟩ := vx_frame hsame
  rw [hhp] at f1 f2
  have hWs : s.WarmedH U.vm := State.WarmedH.trans hW0 hW
  have hcl : s.vm.findClass cls = some ce.cls := by
    have h9 := hO.cls
    rw [hvm] at h9
    exact h9
  have hall : s.sameButNew ({ U with vm := s.vm } : State) locs mc ms := by
    subst hA
    obtain ⟨e1, e2⟩ := hsame
    rw [State.setFrames_setFrames] at e1
    have h2 : (T.setVm s.vm).sameButNew ({ U with vm := s.vm } : State) [] (0 + 1) (0 + 6) := ⟨e1, e2⟩
    have h3 := X.same.trans h2
    rw [List.append_nil] at h3
    exact h3.mono hc hs
  refine ⟨U, ?_, .threw T.heap.size, hrun, hend, Or.inr ⟨T.heap.size, rfl, cls, ce, locs, hx U hWs.alike f1 (fun q hq => f2 q hq (fun z hz => nomatch hz)), hce, hO.vm, hcl, hWs, hall, hf⟩⟩
  refine st1 _ ?_
  show Steps p.tables e below (T1.setTop { method := m, pc := pc + 3, locals := ls, stack := .ref T.heap.size :: rest, locked := none }) _
  jvm_step X₁.here [X₁.here.top, hexec, d3', Value.category]
  exact hsteps
/-- 'throw new E("text")': new; dup; ldc; invokespecial; athrow -/
theorem vx_throwS {cc : ByteArray} {pc : Nat} (hexec : p.tables.exec = Jvm.exec) (hb : c.code = cc) (hl : l.stackTraces = false) {own cls text : String} {names : List String} {ik is ic mc ms sa : Nat} {A : Nat → Prop}
    (hown : s.vm.findClass own = some m.cls) (hcls : Bundle.fit cls = true) (hnames : ∀ n ∈ names, Bundle.fit n = true)
    (hk : (Cond.classLink own ik cls).before args s = true) (hini : (Cond.initialized cls).before args s = true) (hstr : vk_R own is text sa s) (hat : ∀ w ∈ vx_atS own ic cls names, w.before args s = true)
    (hgood : ∀ w ∈ Cond.classLink own ik cls :: Cond.initialized cls :: vx_atS own ic cls names, vx_ot w = true)
    (hU : vx_Zq Bundle.tN "UNASSIGNED_STACK" Bundle.steD A s s.heap) (hN : vx_Zq Bundle.tN "SUPPRESSED_SENTINEL" Bundle.listD A s s.heap) (hS : va_S A s.heap H locs) (hsize : ls.size = c.maxLocals)
    (d0 : decode cc pc = .ok (.new ik, 3)) (d3 : decode cc (pc + 3) = .ok (.dup, 1)) (d4 : decode cc (pc + 4) = .ok (.ldc is, 2)) (d6 : decode cc (pc + 6) = .ok (.invokespecial ic, 3)) (d9 : decode cc (pc + 9) = .ok (.athrow, 1))
    (hout : ∀ x ∈ c.exceptionTable.toList, covers x (pc + 9) = false)
    (hRframes : names.length + 3 < R.frames) (hRlocals : (rest.map fun v => v.category).sum + (13 * (names.length + 1) + 43) ≤ R.locals) (hRcells : cells + 1 ≤ R.cells) (hRslots : slots + 6 ≤ R.slots) (hlocks : meth.locks = false)
    (hx : ∀ t : State, s.vm.Alike t.vm → H.size ≤ t.heap.size → (∀ q : Nat, q < H.size → t.heap[q]? = H[q]?) → XC cls s t)
    (hf : ∀ z ∈ locs, free z.base) (hc : cells + 1 ≤ mc) (hs : slots + 6 ≤ ms) :
    W p l e R s m args below meth c H locs cells slots (vx_MQ below Qc XC args s mc ms free) (F0 m pc ls rest) := by
  intro T hT X
  have htr : e.platform.stackTraces = false := (show e.platform.stackTraces = l.stackTraces by rw [X.admits.platform]).trans hl
  have Y := vx_rebase X (R' := { frames := R.frames, locals := R.locals, cells := 1, slots := 6 }) (Nat.le_refl _) (Nat.le_refl _) hRcells hRslots
  obtain ⟨s', hA⟩ : ∃ z, z = (T.setVm s.vm).setFrames (.invoking m args :: below) := ⟨_, rfl⟩
  rw [← hA] at Y
  have hvm : s'.vm = s.vm := by rw [hA]; rfl
  have hhp : s'.heap = H := by rw [hA]; exact hT
  have hW0 : s.WarmedH s'.vm := by rw [hvm]; exact State.WarmedH.refl s
  have hat' : ∀ w ∈ vx_atS own ic cls names, w.before args s' = true := fun w hw => vx_ot_at hW0 hvm.symm (hgood w (List.mem_cons_of_mem _ (List.mem_cons_of_mem _ hw))) (hat w hw)
  have hk' : (Cond.classLink own ik cls).before args s' = true := vx_ot_at hW0 hvm.symm (hgood _ List.mem_cons_self) hk
  have hini' : (Cond.initialized cls).before args s' = true := vx_ot_at hW0 hvm.symm (hgood _ (List.mem_cons_of_mem _ List.mem_cons_self)) hini
  have hU' : vx_Zq Bundle.tN "UNASSIGNED_STACK" Bundle.steD A s' s'.heap := by rw [hhp]; exact vx_Zq.moved hW0.alike (hU.kept hS.2.1)
  have hN' : vx_Zq Bundle.tN "SUPPRESSED_SENTINEL" Bundle.listD A s' s'.heap := by rw [hhp]; exact vx_Zq.moved hW0.alike (hN.kept hS.2.1)
  have h : ∀ w ∈ Bundle.ownAtoms own ic cls names, w.before args s' = true := vx_own hat' (vx_isRefq hU'.1) (vx_isRefq hN'.1) hU'.2.word hN'.2.word
  have hown' : s'.vm.findClass own = some m.cls := by rw [hvm]; exact hown
  have hins : (Cond.instantiable cls 6).before args s' = true := h _ (by simp [Bundle.ownAtoms])
  obtain ⟨vm₁, cX, kX, hfX, hkX, -, -, X₁, st1⟩ := Y.newCold hexec (own := own) (C := cls) (index := ik) (n := 6) hown' hk' hins hini'
    (g := F0 m pc ls rest) rfl (by rw [hb]; exact d0) (Nat.le_refl _) (Nat.le_refl _)
  generalize hT1 : (T.setVm vm₁).pushCell { cls := cX, slots := kX.instanceTypes.map defaultValue, vm := .none } = T1 at X₁ st1
  have hcat : (Value.ref T.heap.size).category = 1 := rfl
  have hcellA : T1.heap[T.heap.size]? = some (freshCell cX kX) := by rw [← hT1]; exact State.heap_pushCell_size _ _
  have d3' : decode c.code (pc + 3) = .ok (.dup, 1) := by rw [hb]; exact d3
  have d4' : decode c.code (pc + 4) = .ok (.ldc is, 2) := by rw [hb]; exact d4
  have hstr' : vk_R own is text sa s' := vk_R.warm hW0 hstr
  obtain ⟨U, hsteps, hrun, hend, hW, hsame, ce, hce, hO⟩ := X₁.ctorThrowS hexec htr (own := own) (cls := cls) (names := names) (ic := ic) hown' hcls hnames h (fun x hx => nomatch hx) hfX hkX hcellA (by rw [hhp, hT]; exact Nat.le_refl _) (msg := .ref sa) rfl
    (g := { method := m, pc := pc + 6, locals := ls, stack := .ref sa :: .ref T.heap.size :: .ref T.heap.size :: rest, locked := none }) rfl hsize rfl rfl (rest := rest) rfl
    (by rw [hb]; exact d6) (by rw [hb]; exact d9) hout hRframes (by simp only [List.map_cons, List.sum_cons, hcat]; omega) hlocks
  obtain ⟨f1, f2⟩ := vx_frame hsame
  rw [hhp] at f1 f2
  have hWs : s.WarmedH U.vm := State.WarmedH.trans hW0 hW
  have hcl : s.vm.findClass cls = some ce.cls := by
    have h9 := hO.cls
    rw [hvm] at h9
    exact h9
  have hall : s.sameButNew ({ U with vm := s.vm } : State) locs mc ms := by
    subst hA
    obtain ⟨e1, e2⟩ := hsame
    rw [State.setFrames_setFrames] at e1
    have h2 : (T.setVm s.vm).sameButNew ({ U with vm := s.vm } : State) [] (0 + 1) (0 + 6) := ⟨e1, e2⟩
    have h3 := X.same.trans h2
    rw [List.append_nil] at h3
    exact h3.mono hc hs
  refine ⟨U, ?_, .threw T.heap.size, hrun, hend, Or.inr ⟨T.heap.size, rfl, cls, ce, locs, hx U hWs.alike f1 (fun q hq => f2 q hq (fun z hz => nomatch hz)), hce, hO.vm, hcl, hWs, hall, hf⟩⟩
  refine st1 _ ?_
  show Steps p.tables e below (T1.setTop { method := m, pc := pc + 3, locals := ls, stack := .ref T.heap.size :: rest, locked := none }) _
  jvm_step X₁.here [X₁.here.top, hexec, d3', Value.category]
  exact X₁.ldcString hexec (own := own) (text := text) (index := is) (a := sa) hown' hstr'.1 hstr'.2
    (g := { method := m, pc := pc + 4, locals := ls, stack := .ref T.heap.size :: .ref T.heap.size :: rest, locked := none }) rfl d4' _ hsteps
/-- 'throw new E("text")', the text by a wide index -/
theorem vx_throwSW {cc : ByteArray} {pc : Nat} (hexec : p.tables.exec = Jvm.exec) (hb : c.code = cc) (hl : l.stackTraces = false) {own cls text : String} {names : List String} {ik is ic mc ms sa : Nat} {A : Nat → Prop}
    (hown : s.vm.findClass own = some m.cls) (hcls : Bundle.fit cls = true) (hnames : ∀ n ∈ names, Bundle.fit n = true)
    (hk : (Cond.classLink own ik cls).before args s = true) (hini : (Cond.initialized cls).before args s = true) (hstr : vk_R own is text sa s) (hat : ∀ w ∈ vx_atS own ic cls names, w.before args s = true)
    (hgood : ∀ w ∈ Cond.classLink own ik cls :: Cond.initialized cls :: vx_atS own ic cls names, vx_ot w = true)
    (hU : vx_Zq Bundle.tN "UNASSIGNED_STACK" Bundle.steD A s s.heap) (hN : vx_Zq Bundle.tN "SUPPRESSED_SENTINEL" Bundle.listD A s s.heap) (hS : va_S A s.heap H locs) (hsize : ls.size = c.maxLocals)
    (d0 : decode cc pc = .ok (.new ik, 3)) (d3 : decode cc (pc + 3) = .ok (.dup, 1)) (d4 : decode cc (pc + 4) = .ok (.ldc_w is, 3)) (d7 : decode cc (pc + 7) = .ok (.invokespecial ic, 3)) (d10 : decode cc (pc + 10) = .ok (.athrow, 1))
    (hout : ∀ x ∈ c.exceptionTable.toList, covers x (pc + 10) = false)
    (hRframes : names.length + 3 < R.frames) (hRlocals : (rest.map fun v => v.category).sum + (13 * (names.length + 1) + 43) ≤ R.locals) (hRcells : cells + 1 ≤ R.cells) (hRslots : slots + 6 ≤ R.slots) (hlocks : meth.locks = false)
    (hx : ∀ t : State, s.vm.Alike t.vm → H.size ≤ t.heap.size → (∀ q : Nat, q < H.size → t.heap[q]? = H[q]?) → XC cls s t)
    (hf : ∀ z ∈ locs, free z.base) (hc : cells + 1 ≤ mc) (hs : slots + 6 ≤ ms) :
    W p l e R s m args below meth c H locs cells slots (vx_MQ below Qc XC args s mc ms free) (F0 m pc ls rest) := by
  intro T hT X
  have htr : e.platform.stackTraces = false := (show e.platform.stackTraces = l.stackTraces by rw [X.admits.platform]).trans hl
  have Y := vx_rebase X (R' := { frames := R.frames, locals := R.locals, cells := 1, slots := 6 }) (Nat.le_refl _) (Nat.le_refl _) hRcells hRslots
  obtain ⟨s', hA⟩ : ∃ z, z = (T.setVm s.vm).setFrames (.invoking m args :: below) := ⟨_, rfl⟩
  rw [← hA] at Y
  have hvm : s'.vm = s.vm := by rw [hA]; rfl
  have hhp : s'.heap = H := by rw [hA]; exact hT
  have hW0 : s.WarmedH s'.vm := by rw [hvm]; exact State.WarmedH.refl s
  have hat' : ∀ w ∈ vx_atS own ic cls names, w.before args s' = true := fun w hw => vx_ot_at hW0 hvm.symm (hgood w (List.mem_cons_of_mem _ (List.mem_cons_of_mem _ hw))) (hat w hw)
  have hk' : (Cond.classLink own ik cls).before args s' = true := vx_ot_at hW0 hvm.symm (hgood _ List.mem_cons_self) hk
  have hini' : (Cond.initialized cls).before args s' = true := vx_ot_at hW0 hvm.symm (hgood _ (List.mem_cons_of_mem _ List.mem_cons_self)) hini
  have hU' : vx_Zq Bundle.tN "UNASSIGNED_STACK" Bundle.steD A s' s'.heap := by rw [hhp]; exact vx_Zq.moved hW0.alike (hU.kept hS.2.1)
  have hN' : vx_Zq Bundle.tN "SUPPRESSED_SENTINEL" Bundle.listD A s' s'.heap := by rw [hhp]; exact vx_Zq.moved hW0.alike (hN.kept hS.2.1)
  have h : ∀ w ∈ Bundle.ownAtoms own ic cls names, w.before args s' = true := vx_own hat' (vx_isRefq hU'.1) (vx_isRefq hN'.1) hU'.2.word hN'.2.word
  have hown' : s'.vm.findClass own = some m.cls := by rw [hvm]; exact hown
  have hins : (Cond.instantiable cls 6).before args s' = true := h _ (by simp [Bundle.ownAtoms])
  obtain ⟨vm₁, cX, kX, hfX, hkX, -, -, X₁, st1⟩ := Y.newCold hexec (own := own) (C := cls) (index := ik) (n := 6) hown' hk' hins hini'
    (g := F0 m pc ls rest) rfl (by rw [hb]; exact d0) (Nat.le_refl _) (Nat.le_refl _)
  generalize hT1 : (T.setVm vm₁).pushCell { cls := cX, slots := kX.instanceTypes.map defaultValue, vm := .none } = T1 at X₁ st1
  have hcat : (Value.ref T.heap.size).category = 1 := rfl
  have hcellA : T1.heap[T.heap.size]? = some (freshCell cX kX) := by rw [← hT1]; exact State.heap_pushCell_size _ _
  have d3' : decode c.code (pc + 3) = .ok (.dup, 1) := by rw [hb]; exact d3
  have d4' : decode c.code (pc + 4) = .ok (.ldc_w is, 3) := by rw [hb]; exact d4
  have hstr' : vk_R own is text sa s' := vk_R.warm hW0 hstr
  obtain ⟨U, hsteps, hrun, hend, hW, hsame, ce, hce, hO⟩ := X₁.ctorThrowS hexec htr (own := own) (cls := cls) (names := names) (ic := ic) hown' hcls hnames h (fun x hx => nomatch hx) hfX hkX hcellA (by rw [hhp, hT]; exact Nat.le_refl _) (msg := .ref sa) rfl
    (g := { method := m, pc := pc + 7, locals := ls, stack := .ref sa :: .ref T.heap.size :: .ref T.heap.size :: rest, locked := none }) rfl hsize rfl rfl (rest := rest) rfl
    (by rw [hb]; exact d7) (by rw [hb]; exact d10) hout hRframes (by simp only [List.map_cons, List.sum_cons, hcat]; omega) hlocks
  obtain ⟨f1, f2⟩ := vx_frame hsame
  rw [hhp] at f1 f2
  have hWs : s.WarmedH U.vm := State.WarmedH.trans hW0 hW
  have hcl : s.vm.findClass cls = some ce.cls := by
    have h9 := hO.cls
    rw [hvm] at h9
    exact h9
  have hall : s.sameButNew ({ U with vm := s.vm } : State) locs mc ms := by
    subst hA
    obtain ⟨e1, e2⟩ := hsame
    rw [State.setFrames_setFrames] at e1
    have h2 : (T.setVm s.vm).sameButNew ({ U with vm := s.vm } : State) [] (0 + 1) (0 + 6) := ⟨e1, e2⟩
    have h3 := X.same.trans h2
    rw [List.append_nil] at h3
    exact h3.mono hc hs
  refine ⟨U, ?_, .threw T.heap.size, hrun, hend, Or.inr ⟨T.heap.size, rfl, cls, ce, locs, hx U hWs.alike f1 (fun q hq => f2 q hq (fun z hz => nomatch hz)), hce, hO.vm, hcl, hWs, hall, hf⟩⟩
  refine st1 _ ?_
  show Steps p.tables e below (T1.setTop { method := m, pc := pc + 3, locals := ls, stack := .ref T.heap.size :: rest, locked := none }) _
  jvm_step X₁.here [X₁.here.top, hexec, d3', Value.category]
  exact X₁.ldcStringW hexec (own := own) (text := text) (index := is) (a := sa) hown' hstr'.1 hstr'.2
    (g := { method := m, pc := pc + 4, locals := ls, stack := .ref T.heap.size :: .ref T.heap.size :: rest, locked := none }) rfl d4' _ hsteps
end Ends
section Bodies
variable {l : Launch}
theorem vx_ofW {y : MethodName} {ws ws' : List Cond} {rm : Room} {Pc : Array Value → State → Prop} {Qc : Array Value → State → Outcome → State → Prop} {XC : String → State → State → Prop} {mc ms : Nat} {free : Addr → Prop} {cc : ByteArray} {maxL : Nat} {ret : Option FieldType}
    (hy : plainName y.cls = true) (hw : ws = Cond.code y cc maxL ret :: ws')
    (body : ∀ p e s m args below meth c s₁, BodyLoose p l y (headSpec ws rm) cc maxL ret e s m args below meth c s₁ → c.maxLocals = maxL → (∀ x ∈ c.exceptionTable.toList, False) → Pc args s →
      W p l e (headSpec ws rm).room s m args below meth c s.heap [] 0 0 (vx_MQ below Qc XC args s mc ms free) (entryFrame m args maxL)) : vx_Met l y ws rm Pc Qc XC mc ms free := by
  refine MetFree.of_bodyS (code := cc) (maxLocals := maxL) (ret := ret) hy ?_ ?_
  · intro args s m h hn
    obtain ⟨meth, c, h1, h2, h3, h4, h5, h6, -, -⟩ := Cond.code_spec hn (atoms_spec (ws := ws) h _ (by rw [hw]; exact List.mem_cons_self))
    exact ⟨meth, c, h1, h2, h3, h4, h5, h6⟩
  · intro p e s m args below meth c s₁ B hml hP _
    have hh0 : s₁.heap = s.heap := by rw [B.state]; rfl
    have ht : ∀ x ∈ c.exceptionTable.toList, False := by
      obtain ⟨meth9, c9, h1, h2, -, -, -, -, h7, -⟩ := Cond.code_spec B.named (atoms_spec (ws := ws) B.pre _ (by rw [hw]; exact List.mem_cons_self))
      cases Option.some.inj (h1.symm.trans B.method)
      cases Option.some.inj (h2.symm.trans (Stand.of_body B).code)
      intro x hx
      rw [Array.isEmpty_iff.mp h7] at hx
      cases hx
    obtain ⟨t, a1, o, b1, b2, b3⟩ := body p e s m args below meth c s₁ B hml ht hP s₁ hh0 (Stand.of_body B)
    exact ⟨t, o, a1, b1, b2, b3⟩
/-- the table of a body with handlers -/
theorem vx_table {p : Program} {x y : MethodName} {S : Spec} {cc bytes : ByteArray} {maxL maxL' : Nat} {ret ret' : Option FieldType} {e : Env} {s s₁ : State} {m : MethodId} {args : Array Value} {below : List Frame} {meth : Method} {c : Code} {hh : List (Nat × Nat × Nat × Nat)}
    (B : BodyLoose p l y S cc maxL ret e s m args below meth c s₁) (h : (Cond.codeWith y bytes maxL' ret' hh).before args s = true) : c.exceptionTable.toList = tableOf hh := by
  obtain ⟨m9, meth9, c9, hn9, h1, h2, -, -, h6, -⟩ := Cond.codeWith_spec h
  cases Option.some.inj (hn9.symm.trans B.named)
  cases Option.some.inj (h1.symm.trans B.method)
  cases Option.some.inj (h2.symm.trans (Stand.of_body B).code)
  rw [← h6, table_eq]
end Bodies
end VXA
/-! ===== END ===== -/
/-! ===== BEGIN a static call of a method with an exception table ===== -/
section VXS
variable {p : Program} {l : Launch} {e : Env} {R : Room} {s : State} {m : MethodId} {args : Array Value} {below : List Frame} {meth : Method} {c : Code} {T : State} {H : Heap} {locs : List Loc} {cells slots : Nat}
abbrev vx_CSW (R : Room) (s : State) (args : Array Value) (own : String) (index : Nat) (y : MethodName) (bytes : ByteArray) (maxL : Nat) (ret : Option FieldType) (hh : List (Nat × Nat × Nat × Nat)) (ws : List Cond) (rm : Room) (mc ms n : Nat) : Prop :=
  (rm.cells = mc ∧ rm.slots = ms ∧ rm.frames + 1 ≤ R.frames ∧ 8 + (maxL + 11) + rm.locals ≤ R.locals ∧ (∀ w ∈ ws, ∀ (a' : Array Value) (U : State), s.WarmedH U.vm → w.before a' U = true) ∧ Cond.codeWith y bytes maxL ret hh ∈ ws) ∧
  (Cond.codeWith y bytes maxL ret hh).before args s = true ∧ (Cond.initialized y.cls).before args s = true ∧ (y.cls ≠ "java/lang/invoke/MethodHandle" ∧ y.cls ≠ "java/lang/invoke/VarHandle") ∧
  (∀ sig, parseMethodDescriptor y.desc = some sig → n = sig.parameters.length) ∧ (Cond.methodLink own index y).before args s = true ∧ (Cond.static y).before args s = true
theorem vx_cwSW {own : String} {index maxL mc ms : Nat} {y : MethodName} {bytes : ByteArray} {ret : Option FieldType} {hh : List (Nat × Nat × Nat × Nat)} {Ts ws ws' : List Cond} {rm : Room} (n : Nat) (ht : ∀ w ∈ Ts, w.before args s = true) (hT : GoodIn Ts (va_wsS own index y ws)) (hw : ws = Cond.codeWith y bytes maxL ret hh :: ws') (hrc : rm.cells = mc) (hrs : rm.slots = ms)
    (hd : y.cls ≠ "java/lang/invoke/MethodHandle" ∧ y.cls ≠ "java/lang/invoke/VarHandle" ∧ (parseMethodDescriptor y.desc).map (fun d => d.parameters.length) = some n) (hR : rm.frames + 1 ≤ R.frames ∧ 8 + (maxL + 11) + rm.locals ≤ R.locals) :
    vx_CSW R s args own index y bytes maxL ret hh ws rm mc ms n := by
  have ok : ∀ w ∈ va_wsS own index y ws, w.before args s = true := fun w h => ht w (hT w h).1
  have hG : GoodIn Ts ws := fun w h => hT w (by unfold va_wsS; exact List.mem_append_right _ h)
  have hc : Cond.codeWith y bytes maxL ret hh ∈ ws := by rw [hw]; exact List.mem_cons_self
  refine ⟨⟨hrc, hrs, hR.1, hR.2, pay_in ht hG, hc⟩, ht _ (hG _ hc).1, ok _ (by simp [va_wsS]), ⟨hd.1, hd.2.1⟩, fun sig h => ?_, ok _ (by simp [va_wsS]), ok _ (by simp [va_wsS])⟩
  have h2 := hd.2.2
  rw [h] at h2
  exact (Option.some.inj h2).symm
theorem vx_callSW (X : Stand p l e R s m args below meth c T locs cells slots) (hexec : p.tables.exec = Jvm.exec) {own : String} {index : Nat} {y : MethodName} {bytes : ByteArray} {maxL : Nat} {ret : Option FieldType} {hh : List (Nat × Nat × Nat × Nat)}
    (hown : s.vm.findClass own = some m.cls) (hlink : (Cond.methodLink own index y).before args s = true) (hstat : (Cond.static y).before args s = true) (hinit : (Cond.initialized y.cls).before args s = true)
    (hcode : (Cond.codeWith y bytes maxL ret hh).before args s = true) (hy : y.cls ≠ "java/lang/invoke/MethodHandle" ∧ y.cls ≠ "java/lang/invoke/VarHandle")
    {W9 : Nat} {Pre : Pt → Array Value → Prop} {Post : Pt → Array Value → Option Value → Pt → Prop} (hK : Back l R p e below s args y 3 W9 Pre Post)
    {g : JFrame} (hg : g.method = m) (hsize : g.locals.size = c.maxLocals) {argsL rest : List Value} (hlen : ∀ sig, parseMethodDescriptor y.desc = some sig → argsL.length = sig.parameters.length)
    (hstack : g.stack = argsL.reverse ++ rest) (hW : 2 * g.monitorRoom + (rest.map fun v => v.category).sum ≤ W9) (hdg : decode c.code g.pc = .ok (.invokestatic index, 3))
    (hpre : ∀ vm₁, s.WarmedH vm₁ → Pre ⟨T.setVm vm₁, locs, cells, slots⟩ argsL.toArray) :
    ∃ (v : Option Value) (vm₁ : Vm) (B : Pt), s.WarmedH vm₁ ∧ Stand p l e R s m args below meth c B.U B.locs B.cells B.slots ∧ Post ⟨T.setVm vm₁, locs, cells, slots⟩ argsL.toArray v B ∧
      ∀ target, Steps p.tables e below (B.U.setTop { g with pc := g.pc + 3, stack := v.toList ++ rest }) target → Steps p.tables e below (T.setTop g) target := by
  obtain ⟨mk, methM, cM, hnamed, hmethM, -, -, -, -, -, -, hsigM⟩ := Cond.codeWith_spec hcode
  have hstatic : methM.isStatic = true := Cond.static_spec hnamed hmethM hstat
  obtain ⟨kP, hkP, -⟩ := className_of_methodNamed hnamed
  have hinitP : kP.init = .initialized := Cond.initialized_spec (findClass_of_methodNamed hnamed) hkP hinit
  obtain ⟨vm₁, X₁, hstep₁⟩ := X.invokestatic hexec hown hlink hnamed hmethM hstatic hkP hinitP hy (g := g) hg (argsL := argsL) (rest := rest) (hlen _ hsigM) hstack hdg
  obtain ⟨v, B, X', hpost, hsteps⟩ := hK m meth c ⟨T.setVm vm₁, locs, cells, slots⟩ { g with stack := rest } (.invokestatic index) mk argsL.toArray X₁ hg hsize hdg hW (X₁.named hnamed) (hpre vm₁ X₁.warmed)
  exact ⟨v, vm₁, B, X₁.warmed, X', hpost, fun target h => hstep₁ _ fun acts => by rw [doInvoke_state]; exact hsteps.trans h⟩
theorem vx_runSW {y : MethodName} {bytes cc : ByteArray} {maxL nL mc ms n index : Nat} {ret : Option FieldType} {hh : List (Nat × Nat × Nat × Nat)} {ws : List Cond} {rm : Room} {Pc : Array Value → State → Prop} {Qc : Array Value → State → Outcome → State → Prop} {free : Addr → Prop} {Ts : List Cond} {own : String} {As rest : List Value} {g : JFrame}
    (S : CallFix p m c cc nL s args Ts own) (hM : Met l y ws rm Pc Qc mc ms free) (cw : vx_CSW R s args own index y bytes maxL ret hh ws rm mc ms n) (hp : PreS s H Pc As)
    (hg : g.method = m) (hn : As.length = n) (hsize : g.locals.size = nL) (hstack : g.stack = As.reverse ++ rest) (hW : 2 * g.monitorRoom + (rest.map fun v => v.category).sum ≤ 8) (hdg : decode cc g.pc = .ok (.invokestatic index, 3)) (hf : cells + mc ≤ R.cells ∧ slots + ms ≤ R.slots) :
    va_Run p l e R s m args below meth c H locs cells slots mc ms g rest (Qc As.toArray) (free) := by
  obtain ⟨⟨hrc, hrs, hfr, hlo, hws, hcw⟩, hcode, hini, hy, hlen, hl, hstt⟩ := cw
  have hK : Back l R p e below s args y 3 8 (PreOf R mc ms Pc) (PostOf Qc mc ms free) := va_backW (hh := hh) (bytes := bytes) (maxL := maxL) (ret := ret) hM hp.1 hrc hrs hfr hlo hws hcw (fun a' U hW => word_at hW (Or.inl (by first | rfl | simp [Cond.onTables, Cond.keeps, Cond.steady])) hini)
  obtain ⟨hx, hb, hml, ho, -⟩ := S
  intro T hT X
  obtain ⟨v, vm₁, ⟨U', l2, c2, s2⟩, hW₁, X', ⟨g', mk, t, L, e1, e2, hq, h1, hL, h2, h3⟩, st⟩ := vx_callSW X hx (hh := hh) (bytes := bytes) (maxL := maxL) (ret := ret) ho hl hstt hini hcode hy hK hg (hsize.trans hml.symm) (argsL := As) (rest := rest) (fun sig h => hn.trans (hlen sig h)) hstack hW (by rw [hb]; exact hdg)
    (fun vm₁ hW₁ => ⟨hf.1, hf.2, hp.2 (T.setVm vm₁) hT hW₁⟩)
  dsimp only [Pt.U, Pt.locs, Pt.cells, Pt.slots] at X' e1 e2 h1 h2 h3 st
  subst h1; subst h2; subst h3
  exact ⟨v, (T.setVm vm₁).calling g' mk As.toArray, t, U', L, hT, X', hL, e1, e2, hq, st⟩
/-- not caught here, past rows that name other classes: it goes on to the caller -/
theorem vx_outP {p : Program} {l : Launch} {e : Env} {R : Room} {s : State} {m : MethodId} {args : Array Value} {below : List Frame} {meth : Method} {c : Code} {H : Heap} {locs : List Loc} {cells slots : Nat} {free : Addr → Prop} {ls : Array Slot} {rest : List Value} {Qc : Array Value → State → Outcome → State → Prop} {XC : String → State → State → Prop}
    {pc : Nat} {own E : String} {ce : Cell} {q : Addr} {mc ms : Nat} (hown : s.vm.findClass own = some m.cls) (hlocks : meth.locks = false)
    (hpass : ∀ z ∈ c.exceptionTable.toList, covers z pc = false ∨ (z.catchType ≠ 0 ∧ ∃ nm : String, (Cond.classLink own z.catchType nm).before args s = true ∧ va_Nc E nm s)) (hcell : H[q]? = some ce) (hv : ce.vm = .none) (hcl : s.vm.findClass E = some ce.cls)
    (hx : ∀ t : State, t.heap = H → s.vm.Alike t.vm → XC E s t) (hf : ∀ z ∈ locs, free z.base) (hc : cells ≤ mc) (hs : slots ≤ ms) :
    vx_W p l e R s m args below meth c H locs cells slots (vx_MQ below Qc XC args s mc ms free) (F0 m pc ls rest) q := by
  intro T hT X
  have hpl : e.platform.magicAccessors = ({} : Platform).magicAccessors := by rw [X.admits.platform]
  obtain ⟨vm', hW', X', st⟩ := X.outThrough hlocks q (g := F0 m pc ls rest) rfl rfl rfl (cell := ce) (by rw [hT]; exact hcell) (by rw [hv]; rfl)
    (by obtain ⟨k9, h9, -⟩ := Vm.findClass_spec hcl; exact ⟨k9, h9⟩) (fun z hz => by
      rcases hpass z hz with h | ⟨hz0, nm, hl1, hn1⟩
      · exact Or.inl h
      · obtain ⟨c6, hc6, hcl6⟩ := Cond.classLink_spec hown hl1 e.platform hpl
        obtain ⟨a8, b8, h1, h2, h3⟩ := hn1
        cases Option.some.inj (h1.symm.trans hcl)
        cases Option.some.inj (h2.symm.trans hc6)
        exact Or.inr ⟨hz0, _, hcl6, h3⟩)
  obtain ⟨g₀, hfr⟩ := X'.frames_eq
  have hcell9 : ((T.setVm vm').setFrames (.throwing q :: below)).heap[q]? = some ce := by
    show T.heap[q]? = some ce
    rw [hT]; exact hcell
  have hend : Ended ((T.setVm vm').setFrames (.throwing q :: below)) below (.threw q) := State.frames_setFrames _ (State.cur_lt_of_frames hfr)
  refine ⟨(T.setVm vm').setFrames (.throwing q :: below), ?_, .threw q, X'.here.running, hend, Or.inr ⟨q, rfl, E, ce, locs, hx _ hT (X'.ends _).1.alike, hcell9, hv, hcl, (X'.ends _).1, (X'.ends _).2.mono hc hs, hf⟩⟩
  rw [X.pushThrowing_eq]
  exact st
/-- a thing of a world lies in the heap -/
theorem vx_lt {D : va_G} {cl : List vw_C} {ws : va_W} {H1 : Heap} (h : va_P D cl ws H1) {k : Nat} {q : Nat × va_E} (hk : ws[k]? = some q) : q.1 < H1.size := (h k q hk).lt
end VXS
/-! ===== END ===== -/
/-! ===== BEGIN methods with a table of their own: called by a name, returning or throwing ===== -/
section VXH
/-! vx_backW, vx_callVX, vx_callSX, vx_callVW, vx_runVW, vx_runVX, vx_runSX, vx_ofWH follow the same proofs as their sisters above (Free/Laws.lean, Shelf42/LK1.lean); vx_outP calls Shelf42/NT130.lean (outThrough). -/
section
variable {l : Launch} {R : Room} {p : Program} {e : Env} {below : List Frame} {s : State} {sargs : Array Value} {y : MethodName} {len W9 : Nat}
theorem vx_backW {ws : List Cond} {rm : Room} {Pc : Array Value → State → Prop} {Qc : Array Value → State → Outcome → State → Prop} {XC : String → State → State → Prop} {mc ms : Nat} {free : Addr → Prop} {bytes : ByteArray} {maxL : Nat} {ret : Option FieldType} {hh : List (Nat × Nat × Nat × Nat)}
    (hM : vx_Met l y ws rm Pc Qc XC mc ms free) (hblind : FrameBlind Pc) (hrc : rm.cells = mc) (hrs : rm.slots = ms)
    (hframes : rm.frames + 1 ≤ R.frames) (hlocals : W9 + (maxL + 11) + rm.locals ≤ R.locals)
    (hws : ∀ w ∈ ws, ∀ a' U, s.WarmedH U.vm → w.before a' U = true) (hcode : Cond.codeWith y bytes maxL ret hh ∈ ws) (hinit : ∀ a' U, s.WarmedH U.vm → (Cond.initialized y.cls).before a' U = true) :
    vx_Back l R p e below s sargs y len W9 (PreOf R mc ms Pc) (PostOf Qc mc ms free) (vx_Post XC mc ms free) := by
  intro m meth c A g ig mk a X hg hsize hdg hW hn hp
  have h1 : (headSpec ws rm).pre.before a A.U = true := atoms_intro fun w hw => hws w hw _ _ X.warmed
  have h2 : (Cond.codeWith y bytes maxL ret hh).before a A.U = true := hws _ hcode _ _ X.warmed
  have h3 : (Cond.initialized y.cls).before a A.U = true := hinit _ _ X.warmed
  have h4 : A.cells + (headSpec ws rm).room.cells ≤ R.cells := by rw [show (headSpec ws rm).room.cells = mc from hrc]; exact hp.1
  have h5 : A.slots + (headSpec ws rm).room.slots ≤ R.slots := by rw [show (headSpec ws rm).room.slots = ms from hrs]; exact hp.2.1
  have hPc : Pc a (A.U.calling g mk a) := hblind _ _ _ _ hp.2.2
  obtain ⟨U, Ls, c0, s0⟩ := A
  dsimp only [Pt.U, Pt.locs, Pt.cells, Pt.slots] at h1 h2 h3 h4 h5 X hn hPc ⊢
  obtain ⟨m9, methY, cY, hn9, hmY, hcY, -, hlY, -⟩ := Cond.codeWith_spec h2
  cases Option.some.inj (hn9.symm.trans hn)
  obtain ⟨kY, hkY, -⟩ := className_of_methodNamed hn
  have hinitY : kY.init = .initialized := Cond.initialized_spec (findClass_of_methodNamed hn) hkY h3
  have h : At U g.method c below := by rw [hg]; exact X.here
  have hlocals9 : W9 + (maxL + 11) + (headSpec ws rm).room.locals ≤ R.locals := hlocals
  have happ : (headSpec ws rm).appliesLoose y e.platform (U.calling g mk a) = true :=
    Spec.appliesLoose_calling (g := g) h hdg hn hkY hinitY
      (X.room_calling (g := g) (R' := (headSpec ws rm).room) hsize hmY hcY hframes (by rw [hlY]; omega) h4 h5) h1
  obtain ⟨mid, hmid⟩ := h.above
  have hfr : (U.setTop g).frames = (.java g :: mid) ++ below := by rw [State.frames_setTop' g h.top, hmid]; rfl
  obtain ⟨o, s₂, hsteps, -, hend, hq⟩ := Steps.callFree hM p X.admits X.cas X.clock (acts := []) hfr happ hPc trivial
  have hq' : vx_Q Qc XC mc ms free a (U.calling g mk a) o s₂ := hq
  rw [State.frames_setTop' g h.top] at hend
  obtain ⟨g₀, hg0⟩ := Option.isSome_iff_exists.mp h.top
  obtain ⟨r, hr⟩ := State.topJava?_eq_some.mp hg0
  have hr' : (({ U with heap := s₂.heap, slotsUsed := s₂.slotsUsed } : State).setVm s₂.vm).frames = .java g₀ :: r := hr
  rcases hq' with ⟨hqc, L, hfe, hL⟩ | ⟨q, rfl, E, ce, L, hx, hce, hcv, hcl, hW₂, hsm, hL⟩
  · obtain ⟨⟨v, rfl⟩, hW₂, e2, q2, q3, q4, q5, q6⟩ := id hfe
    have e3 : s₂ = ({ (U.calling g mk a).setFrames s₂.frames with heap := s₂.heap, slotsUsed := s₂.slotsUsed } : State).setVm s₂.vm := by
      have : s₂ = ({ s₂ with vm := (U.calling g mk a).vm } : State).setVm s₂.vm := rfl
      rw [e2] at this
      exact this
    obtain ⟨c₂, i₂, len₂, hc₂, hd₂, hf₂⟩ := hend
    have hW' : U.WarmedH s₂.vm := hW₂
    have hcc : c₂ = c := by
      have h1 : s₂.code? g.method = U.code? g.method := by
        rw [State.code?_eq, State.code?_eq, hW'.alike.method?]
      exact Option.some.inj (hc₂.symm.trans (h1.trans h.code))
    subst hcc
    have hlen : len₂ = len := by rw [hdg] at hd₂; cases hd₂; rfl
    subst hlen
    have hs₂ : s₂ = (({ U with heap := s₂.heap, slotsUsed := s₂.slotsUsed } : State).setVm s₂.vm).setTop { g with pc := g.pc + len₂, stack := v.toList ++ g.stack } := by
      refine e3.trans ?_
      rw [hf₂, State.calling_eq h.top, State.setFrames_setFrames, State.setTop_of_frames _ hr', hr]
      rfl
    have hsame : U.sameButNew ({ U with heap := s₂.heap, slotsUsed := s₂.slotsUsed } : State) L mc ms := by
      refine ⟨?_, q2, q3, q4, q5, q6⟩
      obtain ⟨t, ht, -⟩ := State.frames_cons hr
      show ({ U with heap := s₂.heap, slotsUsed := s₂.slotsUsed } : State) = { U.setFrames U.frames with heap := s₂.heap, slotsUsed := s₂.slotsUsed }
      rw [State.setFrames_self ht]
    subst hg
    refine Or.inl ⟨v, ⟨(({ U with heap := s₂.heap, slotsUsed := s₂.slotsUsed } : State).setVm s₂.vm), Ls ++ L, c0 + mc, s0 + ms⟩,
      ⟨X.admits, X.cas, X.clock, X.frames, X.room, X.hears, X.method, X.code, (X.here.setHeapUsed s₂.heap s₂.slotsUsed).setVm hW'.alike, X.tail, State.WarmedH.trans X.warmed hW', X.limits, X.bytes, X.same.trans (hsame.setVm s.vm)⟩,
      ⟨g, mk, s₂, L, rfl, rfl, hqc, rfl, hL, rfl, rfl⟩, ?_⟩
    show Steps p.tables e below _ ((({ U with heap := s₂.heap, slotsUsed := s₂.slotsUsed } : State).setVm s₂.vm).setTop { g with pc := g.pc + len₂, stack := v.toList ++ g.stack })
    rw [← hs₂]
    exact hsteps
  · obtain ⟨e2, q2, q3, q4, q5, q6⟩ := id hsm
    have e3 : s₂ = ({ (U.calling g mk a).setFrames s₂.frames with heap := s₂.heap, slotsUsed := s₂.slotsUsed } : State).setVm s₂.vm := by
      have : s₂ = ({ s₂ with vm := (U.calling g mk a).vm } : State).setVm s₂.vm := rfl
      rw [e2] at this
      exact this
    have hf₂ : s₂.frames = .throwing q :: .java g :: U.frames.tail := hend
    have hW' : U.WarmedH s₂.vm := hW₂
    have hs₂ : s₂ = ((({ U with heap := s₂.heap, slotsUsed := s₂.slotsUsed } : State).setVm s₂.vm).setTop g).pushFrame (.throwing q) := by
      refine e3.trans ?_
      rw [hf₂, State.calling_eq h.top, State.setFrames_setFrames, State.pushFrame, State.frames_setTop _ hr', State.setTop_of_frames _ hr', State.setFrames_setFrames, hr]
      rfl
    have hsame : U.sameButNew ({ U with heap := s₂.heap, slotsUsed := s₂.slotsUsed } : State) L mc ms := by
      refine ⟨?_, q2, q3, q4, q5, q6⟩
      obtain ⟨t, ht, -⟩ := State.frames_cons hr
      show ({ U with heap := s₂.heap, slotsUsed := s₂.slotsUsed } : State) = { U.setFrames U.frames with heap := s₂.heap, slotsUsed := s₂.slotsUsed }
      rw [State.setFrames_self ht]
    subst hg
    refine Or.inr ⟨q, ⟨(({ U with heap := s₂.heap, slotsUsed := s₂.slotsUsed } : State).setVm s₂.vm), Ls ++ L, c0 + mc, s0 + ms⟩,
      ⟨X.admits, X.cas, X.clock, X.frames, X.room, X.hears, X.method, X.code, (X.here.setHeapUsed s₂.heap s₂.slotsUsed).setVm hW'.alike, X.tail, State.WarmedH.trans X.warmed hW', X.limits, X.bytes, X.same.trans (hsame.setVm s.vm)⟩,
      ⟨g, mk, s₂, L, E, ce, rfl, rfl, hx, hce, hcv, hcl, rfl, hL, rfl, rfl⟩, ?_⟩
    show Steps p.tables e below _ (((({ U with heap := s₂.heap, slotsUsed := s₂.slotsUsed } : State).setVm s₂.vm).setTop g).pushFrame (.throwing q))
    rw [← hs₂]
    exact hsteps
end
variable {p : Program} {l : Launch} {e : Env} {R : Room} {s : State} {m : MethodId} {args : Array Value} {below : List Frame} {meth : Method} {c : Code} {T : State} {H : Heap} {locs : List Loc} {cells slots : Nat}
theorem vx_callVX (X : Stand p l e R s m args below meth c T locs cells slots) (hexec : p.tables.exec = Jvm.exec) {own C : String} {index : Nat} {y : MethodName} {bytes : ByteArray} {maxL : Nat} {ret : Option FieldType} {hh : List (Nat × Nat × Nat × Nat)}
    (hown : s.vm.findClass own = some m.cls) (hlink : (Cond.methodLink own index y).before args s = true) (hinst : (Cond.instanceMethod y).before args s = true) (hsel : (Cond.selects C y y).before args s = true)
    (hcode : (Cond.codeWith y bytes maxL ret hh).before args s = true) (hy : y.cls ≠ "java/lang/invoke/MethodHandle" ∧ y.cls ≠ "java/lang/invoke/VarHandle")
    {W9 : Nat} {Pre : Pt → Array Value → Prop} {Post : Pt → Array Value → Option Value → Pt → Prop} {PostX : Pt → Array Value → Addr → Pt → Prop} (hK : vx_Back l R p e below s args y 3 W9 Pre Post PostX)
    {b : Addr} {cellB : Cell} (hcell : T.heap[b]? = some cellB) (hobj : cellB.vm.isStatics = false) (hcls : s.vm.findClass C = some cellB.cls)
    {g : JFrame} (hg : g.method = m) (hsize : g.locals.size = c.maxLocals) {argsL rest : List Value} (hlen : ∀ sig, parseMethodDescriptor y.desc = some sig → argsL.length = sig.parameters.length)
    (hstack : g.stack = argsL.reverse ++ .ref b :: rest) (hW : 2 * g.monitorRoom + (rest.map fun v => v.category).sum ≤ W9) (hdg : decode c.code g.pc = .ok (.invokevirtual index, 3))
    (hpre : ∀ vm₁, s.WarmedH vm₁ → Pre ⟨T.setVm vm₁, locs, cells, slots⟩ (Value.ref b :: argsL).toArray) :
    (∃ (v : Option Value) (vm₁ : Vm) (B : Pt), s.WarmedH vm₁ ∧ Stand p l e R s m args below meth c B.U B.locs B.cells B.slots ∧ Post ⟨T.setVm vm₁, locs, cells, slots⟩ (Value.ref b :: argsL).toArray v B ∧
      ∀ target, Steps p.tables e below (B.U.setTop { g with pc := g.pc + 3, stack := v.toList ++ rest }) target → Steps p.tables e below (T.setTop g) target) ∨
    (∃ (q : Addr) (vm₁ : Vm) (B : Pt), s.WarmedH vm₁ ∧ Stand p l e R s m args below meth c B.U B.locs B.cells B.slots ∧ PostX ⟨T.setVm vm₁, locs, cells, slots⟩ (Value.ref b :: argsL).toArray q B ∧
      Steps p.tables e below (T.setTop g) ((B.U.setTop { g with stack := rest }).pushFrame (.throwing q))) := by
  obtain ⟨mk, methM, hnamed, hmethM, hstM, habM⟩ := Cond.instanceMethod_spec hinst
  obtain ⟨m8, methM', cM, hn8, hmethM', -, -, -, -, -, -, hsigM⟩ := Cond.codeWith_spec hcode
  cases Option.some.inj (hn8.symm.trans hnamed)
  cases hmethM.symm.trans hmethM'
  obtain ⟨c2, r2, m2, q1, q2, q3, q4, kP, hkP, hkPi⟩ := Cond.selects_spec hsel
  cases hcls.symm.trans q1
  cases (State.methodFound?_of_named hnamed hy).symm.trans q2
  cases hnamed.symm.trans q3
  have hselP : selectMethod e.platform s.vm cellB.cls mk = .method mk := by rw [Launch.admits_selectMethod X.admits]; exact q4
  obtain ⟨vm₁, X₁, hstep₁⟩ := X.invokevirtual hexec hown hlink hnamed hmethM hstM hkP hkPi hy (a := b) (cell := cellB) hcell
    (fun z h => by rw [h] at hobj; cases hobj) hselP hmethM habM hkP hkPi (g := g) hg (argsL := argsL) (rest := rest) (hlen _ hsigM) hstack hdg
  rcases hK m meth c ⟨T.setVm vm₁, locs, cells, slots⟩ { g with stack := rest } (.invokevirtual index) mk (Value.ref b :: argsL).toArray X₁ hg hsize hdg hW (X₁.named hnamed) (hpre vm₁ X₁.warmed) with ⟨v, B, X', hpost, hsteps⟩ | ⟨q, B, X', hpost, hsteps⟩
  · exact Or.inl ⟨v, vm₁, B, X₁.warmed, X', hpost, fun target h => hstep₁ _ fun acts => by rw [doInvoke_state]; exact hsteps.trans h⟩
  · exact Or.inr ⟨q, vm₁, B, X₁.warmed, X', hpost, hstep₁ _ fun acts => by rw [doInvoke_state]; exact hsteps⟩
theorem vx_callSX (X : Stand p l e R s m args below meth c T locs cells slots) (hexec : p.tables.exec = Jvm.exec) {own : String} {index : Nat} {y : MethodName} {bytes : ByteArray} {maxL : Nat} {ret : Option FieldType} {hh : List (Nat × Nat × Nat × Nat)}
    (hown : s.vm.findClass own = some m.cls) (hlink : (Cond.methodLink own index y).before args s = true) (hstat : (Cond.static y).before args s = true) (hinit : (Cond.initialized y.cls).before args s = true)
    (hcode : (Cond.codeWith y bytes maxL ret hh).before args s = true) (hy : y.cls ≠ "java/lang/invoke/MethodHandle" ∧ y.cls ≠ "java/lang/invoke/VarHandle")
    {W9 : Nat} {Pre : Pt → Array Value → Prop} {Post : Pt → Array Value → Option Value → Pt → Prop} {PostX : Pt → Array Value → Addr → Pt → Prop} (hK : vx_Back l R p e below s args y 3 W9 Pre Post PostX)
    {g : JFrame} (hg : g.method = m) (hsize : g.locals.size = c.maxLocals) {argsL rest : List Value} (hlen : ∀ sig, parseMethodDescriptor y.desc = some sig → argsL.length = sig.parameters.length)
    (hstack : g.stack = argsL.reverse ++ rest) (hW : 2 * g.monitorRoom + (rest.map fun v => v.category).sum ≤ W9) (hdg : decode c.code g.pc = .ok (.invokestatic index, 3))
    (hpre : ∀ vm₁, s.WarmedH vm₁ → Pre ⟨T.setVm vm₁, locs, cells, slots⟩ argsL.toArray) :
    (∃ (v : Option Value) (vm₁ : Vm) (B : Pt), s.WarmedH vm₁ ∧ Stand p l e R s m args below meth c B.U B.locs B.cells B.slots ∧ Post ⟨T.setVm vm₁, locs, cells, slots⟩ argsL.toArray v B ∧
      ∀ target, Steps p.tables e below (B.U.setTop { g with pc := g.pc + 3, stack := v.toList ++ rest }) target → Steps p.tables e below (T.setTop g) target) ∨
    (∃ (q : Addr) (vm₁ : Vm) (B : Pt), s.WarmedH vm₁ ∧ Stand p l e R s m args below meth c B.U B.locs B.cells B.slots ∧ PostX ⟨T.setVm vm₁, locs, cells, slots⟩ argsL.toArray q B ∧
      Steps p.tables e below (T.setTop g) ((B.U.setTop { g with stack := rest }).pushFrame (.throwing q))) := by
  obtain ⟨mk, methM, cM, hnamed, hmethM, -, -, -, -, -, -, hsigM⟩ := Cond.codeWith_spec hcode
  have hstatic : methM.isStatic = true := Cond.static_spec hnamed hmethM hstat
  obtain ⟨kP, hkP, -⟩ := className_of_methodNamed hnamed
  have hinitP : kP.init = .initialized := Cond.initialized_spec (findClass_of_methodNamed hnamed) hkP hinit
  obtain ⟨vm₁, X₁, hstep₁⟩ := X.invokestatic hexec hown hlink hnamed hmethM hstatic hkP hinitP hy (g := g) hg (argsL := argsL) (rest := rest) (hlen _ hsigM) hstack hdg
  rcases hK m meth c ⟨T.setVm vm₁, locs, cells, slots⟩ { g with stack := rest } (.invokestatic index) mk argsL.toArray X₁ hg hsize hdg hW (X₁.named hnamed) (hpre vm₁ X₁.warmed) with ⟨v, B, X', hpost, hsteps⟩ | ⟨q, B, X', hpost, hsteps⟩
  · exact Or.inl ⟨v, vm₁, B, X₁.warmed, X', hpost, fun target h => hstep₁ _ fun acts => by rw [doInvoke_state]; exact hsteps.trans h⟩
  · exact Or.inr ⟨q, vm₁, B, X₁.warmed, X', hpost, hstep₁ _ fun acts => by rw [doInvoke_state]; exact hsteps⟩
theorem vx_callVW (X : Stand p l e R s m args below meth c T locs cells slots) (hexec : p.tables.exec = Jvm.exec) {own C : String} {index : Nat} {y : MethodName} {bytes : ByteArray} {maxL : Nat} {ret : Option FieldType} {hh : List (Nat × Nat × Nat × Nat)}
    (hown : s.vm.findClass own = some m.cls) (hlink : (Cond.methodLink own index y).before args s = true) (hinst : (Cond.instanceMethod y).before args s = true) (hsel : (Cond.selects C y y).before args s = true)
    (hcode : (Cond.codeWith y bytes maxL ret hh).before args s = true) (hy : y.cls ≠ "java/lang/invoke/MethodHandle" ∧ y.cls ≠ "java/lang/invoke/VarHandle")
    {W9 : Nat} {Pre : Pt → Array Value → Prop} {Post : Pt → Array Value → Option Value → Pt → Prop} (hK : Back l R p e below s args y 3 W9 Pre Post)
    {b : Addr} {cellB : Cell} (hcell : T.heap[b]? = some cellB) (hobj : cellB.vm.isStatics = false) (hcls : s.vm.findClass C = some cellB.cls)
    {g : JFrame} (hg : g.method = m) (hsize : g.locals.size = c.maxLocals) {argsL rest : List Value} (hlen : ∀ sig, parseMethodDescriptor y.desc = some sig → argsL.length = sig.parameters.length)
    (hstack : g.stack = argsL.reverse ++ .ref b :: rest) (hW : 2 * g.monitorRoom + (rest.map fun v => v.category).sum ≤ W9) (hdg : decode c.code g.pc = .ok (.invokevirtual index, 3))
    (hpre : ∀ vm₁, s.WarmedH vm₁ → Pre ⟨T.setVm vm₁, locs, cells, slots⟩ (Value.ref b :: argsL).toArray) :
    ∃ (v : Option Value) (vm₁ : Vm) (B : Pt), s.WarmedH vm₁ ∧ Stand p l e R s m args below meth c B.U B.locs B.cells B.slots ∧ Post ⟨T.setVm vm₁, locs, cells, slots⟩ (Value.ref b :: argsL).toArray v B ∧
      ∀ target, Steps p.tables e below (B.U.setTop { g with pc := g.pc + 3, stack := v.toList ++ rest }) target → Steps p.tables e below (T.setTop g) target := by
  obtain ⟨mk, methM, hnamed, hmethM, hstM, habM⟩ := Cond.instanceMethod_spec hinst
  obtain ⟨m8, methM', cM, hn8, hmethM', -, -, -, -, -, -, hsigM⟩ := Cond.codeWith_spec hcode
  cases Option.some.inj (hn8.symm.trans hnamed)
  cases hmethM.symm.trans hmethM'
  obtain ⟨c2, r2, m2, q1, q2, q3, q4, kP, hkP, hkPi⟩ := Cond.selects_spec hsel
  cases hcls.symm.trans q1
  cases (State.methodFound?_of_named hnamed hy).symm.trans q2
  cases hnamed.symm.trans q3
  have hselP : selectMethod e.platform s.vm cellB.cls mk = .method mk := by rw [Launch.admits_selectMethod X.admits]; exact q4
  obtain ⟨vm₁, X₁, hstep₁⟩ := X.invokevirtual hexec hown hlink hnamed hmethM hstM hkP hkPi hy (a := b) (cell := cellB) hcell
    (fun z h => by rw [h] at hobj; cases hobj) hselP hmethM habM hkP hkPi (g := g) hg (argsL := argsL) (rest := rest) (hlen _ hsigM) hstack hdg
  obtain ⟨v, B, X', hpost, hsteps⟩ := hK m meth c ⟨T.setVm vm₁, locs, cells, slots⟩ { g with stack := rest } (.invokevirtual index) mk (Value.ref b :: argsL).toArray X₁ hg hsize hdg hW (X₁.named hnamed) (hpre vm₁ X₁.warmed)
  exact ⟨v, vm₁, B, X₁.warmed, X', hpost, fun target h => hstep₁ _ fun acts => by rw [doInvoke_state]; exact hsteps.trans h⟩
abbrev vx_CVW (R : Room) (s : State) (args : Array Value) (own C : String) (index : Nat) (y : MethodName) (bytes : ByteArray) (maxL : Nat) (ret : Option FieldType) (hh : List (Nat × Nat × Nat × Nat)) (ws : List Cond) (rm : Room) (mc ms n : Nat) : Prop :=
  (rm.cells = mc ∧ rm.slots = ms ∧ rm.frames + 1 ≤ R.frames ∧ 8 + (maxL + 11) + rm.locals ≤ R.locals ∧ (∀ w ∈ ws, ∀ (a' : Array Value) (U : State), s.WarmedH U.vm → w.before a' U = true) ∧ Cond.codeWith y bytes maxL ret hh ∈ ws) ∧
  (Cond.codeWith y bytes maxL ret hh).before args s = true ∧ (Cond.initialized y.cls).before args s = true ∧ (y.cls ≠ "java/lang/invoke/MethodHandle" ∧ y.cls ≠ "java/lang/invoke/VarHandle") ∧
  (∀ sig, parseMethodDescriptor y.desc = some sig → n = sig.parameters.length) ∧ (Cond.methodLink own index y).before args s = true ∧ (Cond.instanceMethod y).before args s = true ∧ (Cond.selects C y y).before args s = true
theorem vx_cwVW {own C : String} {index maxL mc ms : Nat} {y : MethodName} {bytes : ByteArray} {ret : Option FieldType} {hh : List (Nat × Nat × Nat × Nat)} {Ts ws ws' : List Cond} {rm : Room} (n : Nat) (ht : ∀ w ∈ Ts, w.before args s = true) (hT : GoodIn Ts (wsV own index C y ws)) (hw : ws = Cond.codeWith y bytes maxL ret hh :: ws') (hrc : rm.cells = mc) (hrs : rm.slots = ms)
    (hd : y.cls = C ∧ y.cls ≠ "java/lang/invoke/MethodHandle" ∧ y.cls ≠ "java/lang/invoke/VarHandle" ∧ (parseMethodDescriptor y.desc).map (fun d => d.parameters.length) = some n) (hR : rm.frames + 1 ≤ R.frames ∧ 8 + (maxL + 11) + rm.locals ≤ R.locals) :
    vx_CVW R s args own C index y bytes maxL ret hh ws rm mc ms n := by
  obtain ⟨hC, hd⟩ := hd
  subst hC
  have ok : ∀ w ∈ wsV own index y.cls y ws, w.before args s = true := fun w h => ht w (hT w h).1
  have hG : GoodIn Ts ws := fun w h => hT w (by unfold wsV; exact List.mem_append_right _ h)
  have hc : Cond.codeWith y bytes maxL ret hh ∈ ws := by rw [hw]; exact List.mem_cons_self
  refine ⟨⟨hrc, hrs, hR.1, hR.2, pay_in ht hG, hc⟩, ht _ (hG _ hc).1, ok _ (by simp [wsV]), ⟨hd.1, hd.2.1⟩, fun sig h => ?_, ok _ (by simp [wsV]), ok _ (by simp [wsV]), ok _ (by simp [wsV])⟩
  have h2 := hd.2.2
  rw [h] at h2
  exact (Option.some.inj h2).symm
theorem vx_runVW {y : MethodName} {bytes cc : ByteArray} {maxL nL mc ms n index : Nat} {ret : Option FieldType} {hh : List (Nat × Nat × Nat × Nat)} {ws : List Cond} {rm : Room} {Pc : Array Value → State → Prop} {Qc : Array Value → State → Outcome → State → Prop} {free : Addr → Prop} {Ts : List Cond} {own C : String} {b : Addr} {As rest : List Value} {g : JFrame}
    (S : CallFix p m c cc nL s args Ts own) (hM : Met l y ws rm Pc Qc mc ms free) (cw : vx_CVW R s args own C index y bytes maxL ret hh ws rm mc ms n) (hp : PreV s H C b Pc As)
    (hg : g.method = m) (hn : As.length = n) (hsize : g.locals.size = nL) (hstack : g.stack = As.reverse ++ .ref b :: rest) (hW : 2 * g.monitorRoom + (rest.map fun v => v.category).sum ≤ 8) (hdg : decode cc g.pc = .ok (.invokevirtual index, 3)) (hf : cells + mc ≤ R.cells ∧ slots + ms ≤ R.slots) :
    va_Run p l e R s m args below meth c H locs cells slots mc ms g rest (Qc (Value.ref b :: As).toArray) free := by
  obtain ⟨⟨hrc, hrs, hfr, hlo, hws, hcw⟩, hcode, hini, hy, hlen, hl, hin, hse⟩ := cw
  have hK : Back l R p e below s args y 3 8 (PreOf R mc ms Pc) (PostOf Qc mc ms free) := va_backW (hh := hh) (bytes := bytes) (maxL := maxL) (ret := ret) hM hp.1 hrc hrs hfr hlo hws hcw (fun a' U hW => word_at hW (Or.inl (by first | rfl | simp [Cond.onTables, Cond.keeps, Cond.steady])) hini)
  obtain ⟨hx, hb, hml, ho, -⟩ := S
  obtain ⟨-, ⟨cellB, hcB, hoB, hclB⟩, hPc⟩ := hp
  intro T hT X
  obtain ⟨v, vm₁, ⟨U', l2, c2, s2⟩, hW₁, X', ⟨g', mk, t, L, e1, e2, hq, h1, hL, h2, h3⟩, st⟩ := vx_callVW X hx (C := C) (hh := hh) (bytes := bytes) (maxL := maxL) (ret := ret) ho hl hin hse hcode hy hK (by rw [hT]; exact hcB) hoB hclB hg (hsize.trans hml.symm) (argsL := As) (rest := rest) (fun sig h => hn.trans (hlen sig h)) hstack hW (by rw [hb]; exact hdg)
    (fun vm₁ hW₁ => ⟨hf.1, hf.2, hPc (T.setVm vm₁) hT hW₁⟩)
  dsimp only [Pt.U, Pt.locs, Pt.cells, Pt.slots] at X' e1 e2 h1 h2 h3 st
  subst h1; subst h2; subst h3
  exact ⟨v, (T.setVm vm₁).calling g' mk (Value.ref b :: As).toArray, t, U', L, hT, X', hL, e1, e2, hq, st⟩
section
variable {y : MethodName} {bytes cc : ByteArray} {maxL nL mc ms n index : Nat} {ret : Option FieldType} {ws : List Cond} {rm : Room} {Pc : Array Value → State → Prop} {Qc : Array Value → State → Outcome → State → Prop} {XC : String → State → State → Prop} {free : Addr → Prop} {Ts : List Cond} {own C : String} {b : Addr} {As rest : List Value} {g : JFrame}
theorem vx_runVX {hh : List (Nat × Nat × Nat × Nat)} (S : CallFix p m c cc nL s args Ts own) (hM : vx_Met l y ws rm Pc Qc XC mc ms free) (cw : vx_CVW R s args own C index y bytes maxL ret hh ws rm mc ms n) (hp : PreV s H C b Pc As)
    (hg : g.method = m) (hn : As.length = n) (hsize : g.locals.size = nL) (hstack : g.stack = As.reverse ++ .ref b :: rest) (hW : 2 * g.monitorRoom + (rest.map fun v => v.category).sum ≤ 8) (hdg : decode cc g.pc = .ok (.invokevirtual index, 3)) (hf : cells + mc ≤ R.cells ∧ slots + ms ≤ R.slots) :
    vx_Run p l e R s m args below meth c H locs cells slots mc ms g rest (Qc (Value.ref b :: As).toArray) XC free := by
  obtain ⟨⟨hrc, hrs, hfr, hlo, hws, hcw⟩, hcode, hini, hy, hlen, hl, hin, hse⟩ := cw
  have hK : vx_Back l R p e below s args y 3 8 (PreOf R mc ms Pc) (PostOf Qc mc ms free) (vx_Post XC mc ms free) := vx_backW (hh := hh) (bytes := bytes) (maxL := maxL) (ret := ret) hM hp.1 hrc hrs hfr hlo hws hcw (fun a' U hW => word_at hW (Or.inl (by first | rfl | simp [Cond.onTables, Cond.keeps, Cond.steady])) hini)
  obtain ⟨hx, hb, hml, ho, -⟩ := S
  obtain ⟨-, ⟨cellB, hcB, hoB, hclB⟩, hPc⟩ := hp
  intro T hT X
  rcases vx_callVX X hx (C := C) (hh := hh) (bytes := bytes) (maxL := maxL) (ret := ret) ho hl hin hse hcode hy hK (by rw [hT]; exact hcB) hoB hclB hg (hsize.trans hml.symm) (argsL := As) (rest := rest) (fun sig h => hn.trans (hlen sig h)) hstack hW (by rw [hb]; exact hdg)
    (fun vm₁ hW₁ => ⟨hf.1, hf.2, hPc (T.setVm vm₁) hT hW₁⟩) with ⟨v, vm₁, ⟨U', l2, c2, s2⟩, hW₁, X', ⟨g', mk, t, L, e1, e2, hq, h1, hL, h2, h3⟩, st⟩ | ⟨q, vm₁, ⟨U', l2, c2, s2⟩, hW₁, X', ⟨g', mk, t, L, E, ce, e1, e2, hq, hce, hcv, hcl, h1, hL, h2, h3⟩, st⟩
  · dsimp only [Pt.U, Pt.locs, Pt.cells, Pt.slots] at X' e1 e2 h1 h2 h3 st
    subst h1; subst h2; subst h3
    exact Or.inl ⟨v, (T.setVm vm₁).calling g' mk (Value.ref b :: As).toArray, t, U', L, hT, X', hL, e1, e2, hq, st⟩
  · dsimp only [Pt.U, Pt.locs, Pt.cells, Pt.slots] at X' e1 e2 h1 h2 h3 st hcl
    subst h1; subst h2; subst h3
    exact Or.inr ⟨q, (T.setVm vm₁).calling g' mk (Value.ref b :: As).toArray, t, U', L, E, ce, hT, X', hL, e1, e2, hq, hce, hcv, vx_cls hW₁ hcl, st⟩
theorem vx_runSX {hh : List (Nat × Nat × Nat × Nat)} (S : CallFix p m c cc nL s args Ts own) (hM : vx_Met l y ws rm Pc Qc XC mc ms free) (cw : vx_CSW R s args own index y bytes maxL ret hh ws rm mc ms n) (hp : PreS s H Pc As)
    (hg : g.method = m) (hn : As.length = n) (hsize : g.locals.size = nL) (hstack : g.stack = As.reverse ++ rest) (hW : 2 * g.monitorRoom + (rest.map fun v => v.category).sum ≤ 8) (hdg : decode cc g.pc = .ok (.invokestatic index, 3)) (hf : cells + mc ≤ R.cells ∧ slots + ms ≤ R.slots) :
    vx_Run p l e R s m args below meth c H locs cells slots mc ms g rest (Qc As.toArray) XC free := by
  obtain ⟨⟨hrc, hrs, hfr, hlo, hws, hcw⟩, hcode, hini, hy, hlen, hl, hstt⟩ := cw
  have hK : vx_Back l R p e below s args y 3 8 (PreOf R mc ms Pc) (PostOf Qc mc ms free) (vx_Post XC mc ms free) := vx_backW (hh := hh) (bytes := bytes) (maxL := maxL) (ret := ret) hM hp.1 hrc hrs hfr hlo hws hcw (fun a' U hW => word_at hW (Or.inl (by first | rfl | simp [Cond.onTables, Cond.keeps, Cond.steady])) hini)
  obtain ⟨hx, hb, hml, ho, -⟩ := S
  intro T hT X
  rcases vx_callSX X hx (hh := hh) (bytes := bytes) (maxL := maxL) (ret := ret) ho hl hstt hini hcode hy hK hg (hsize.trans hml.symm) (argsL := As) (rest := rest) (fun sig h => hn.trans (hlen sig h)) hstack hW (by rw [hb]; exact hdg)
    (fun vm₁ hW₁ => ⟨hf.1, hf.2, hp.2 (T.setVm vm₁) hT hW₁⟩) with ⟨v, vm₁, ⟨U', l2, c2, s2⟩, hW₁, X', ⟨g', mk, t, L, e1, e2, hq, h1, hL, h2, h3⟩, st⟩ | ⟨q, vm₁, ⟨U', l2, c2, s2⟩, hW₁, X', ⟨g', mk, t, L, E, ce, e1, e2, hq, hce, hcv, hcl, h1, hL, h2, h3⟩, st⟩
  · dsimp only [Pt.U, Pt.locs, Pt.cells, Pt.slots] at X' e1 e2 h1 h2 h3 st
    subst h1; subst h2; subst h3
    exact Or.inl ⟨v, (T.setVm vm₁).calling g' mk As.toArray, t, U', L, hT, X', hL, e1, e2, hq, st⟩
  · dsimp only [Pt.U, Pt.locs, Pt.cells, Pt.slots] at X' e1 e2 h1 h2 h3 st hcl
    subst h1; subst h2; subst h3
    exact Or.inr ⟨q, (T.setVm vm₁).calling g' mk As.toArray, t, U', L, E, ce, hT, X', hL, e1, e2, hq, hce, hcv, vx_cls hW₁ hcl, st⟩
end
end VXH
theorem vx_ofWH {l : Launch} {y : MethodName} {ws ws' : List Cond} {rm : Room} {Pc : Array Value → State → Prop} {Qc : Array Value → State → Outcome → State → Prop} {XC : String → State → State → Prop} {mc ms : Nat} {free : Addr → Prop} {cc : ByteArray} {maxL : Nat} {ret : Option FieldType} {hh : List (Nat × Nat × Nat × Nat)}
    (hy : plainName y.cls = true) (hw : ws = Cond.codeWith y cc maxL ret hh :: ws')
    (body : ∀ p e s m args below meth c s₁, BodyLoose p l y (headSpec ws rm) cc maxL ret e s m args below meth c s₁ → c.maxLocals = maxL → Pc args s →
      W p l e (headSpec ws rm).room s m args below meth c s.heap [] 0 0 (vx_MQ below Qc XC args s mc ms free) (entryFrame m args maxL)) : vx_Met l y ws rm Pc Qc XC mc ms free := by
  refine MetFree.of_bodyS (code := cc) (maxLocals := maxL) (ret := ret) hy ?_ ?_
  · intro args s m h hn
    obtain ⟨m9, meth, c, hn9, h1, h2, h3, h4, -, h5, h6, -⟩ := Cond.codeWith_spec (atoms_spec (ws := ws) h _ (by rw [hw]; exact List.mem_cons_self))
    cases hn.symm.trans hn9
    exact ⟨meth, c, h1, h2, h3, h4, h5, h6⟩
  · intro p e s m args below meth c s₁ B hml hP _
    have hh0 : s₁.heap = s.heap := by rw [B.state]; rfl
    obtain ⟨t, a1, o, b1, b2, b3⟩ := body p e s m args below meth c s₁ B hml hP s₁ hh0 (Stand.of_body B)
    exact ⟨t, o, a1, b1, b2, b3⟩
/-! ===== END ===== -/
end
section
def RX0 : String := "PuzzleRegistry$Answers"
def TX0 : u_T := fun k => match k with
  | 0 => ("PuzzleRegistry$Answers", "teams", "[I", true)
  | 1 => ("PuzzleRegistry$Answers", "riddles", "[I", true)
  | 2 => ("PuzzleRegistry$Answers", "words", "[I", true)
  | 3 => ("PuzzleRegistry$Answers", "minutes", "[I", true)
  | _ => ("PuzzleRegistry$Answers", "count", "I", false)
def tyX0 : Nat → FieldType := fun k => match k with
  | 0 => .array .int
  | 1 => .array .int
  | 2 => .array .int
  | 3 => .array .int
  | _ => .int
abbrev wsX00 : List Cond := u_ws RX0 TX0 5
theorem nmX0 : ∀ a, a < 5 → ∀ b, b < 5 → a ≠ b → (TX0 a).2.1 ≠ (TX0 b).2.1 := by decide +kernel
theorem tyX0_ok : ∀ k, k < 5 → parseFieldDescriptor (TX0 k).2.2.1 = some (tyX0 k) := by decide +kernel
abbrev cX0_init : ByteArray := prog_2_method_1_code
def yX0_init : MethodName := ⟨RX0, "<init>", "()V"⟩
abbrev cX0_append : ByteArray := prog_2_method_2_code
def yX0_append : MethodName := ⟨RX0, "append", "(IIII)V"⟩
abbrev cX0_giversOf : ByteArray := prog_2_method_3_code
def yX0_giversOf : MethodName := ⟨RX0, "giversOf", "(II)I"⟩
abbrev cX0_areSame : ByteArray := prog_2_method_4_code
def yX0_areSame : MethodName := ⟨RX0, "areSame", "(II)Z"⟩
abbrev cX0_isRepeated : ByteArray := prog_2_method_5_code
def yX0_isRepeated : MethodName := ⟨RX0, "isRepeated", "(I)Z"⟩
def RX1 : String := "PuzzleRegistry$Judge"
def TX1 : u_T := fun k => match k with
  | 0 => ("PuzzleRegistry$Judge", "cleared", "[I", true)
  | 1 => ("PuzzleRegistry$Judge", "pardoned", "[I", true)
  | _ => ("PuzzleRegistry$Judge", "bound", "I", false)
def tyX1 : Nat → FieldType := fun k => match k with
  | 0 => .array .int
  | 1 => .array .int
  | _ => .int
abbrev wsX10 : List Cond := u_ws RX1 TX1 3
theorem nmX1 : ∀ a, a < 3 → ∀ b, b < 3 → a ≠ b → (TX1 a).2.1 ≠ (TX1 b).2.1 := by decide +kernel
theorem tyX1_ok : ∀ k, k < 3 → parseFieldDescriptor (TX1 k).2.2.1 = some (tyX1 k) := by decide +kernel
abbrev cX1_init : ByteArray := prog_3_method_1_code
def yX1_init : MethodName := ⟨RX1, "<init>", "()V"⟩
abbrev cX1_switchPardon : ByteArray := prog_3_method_2_code
def yX1_switchPardon : MethodName := ⟨RX1, "switchPardon", "(II)Z"⟩
abbrev cX1_links : ByteArray := prog_3_method_3_code
def yX1_links : MethodName := ⟨RX1, "links", "(III)Z"⟩
def RX2 : String := "PuzzleRegistry$Records"
def TX2 : u_T := fun k => match k with
  | 0 => ("PuzzleRegistry$Records", "solved", "[I", true)
  | 1 => ("PuzzleRegistry$Records", "tooSoon", "[I", true)
  | 2 => ("PuzzleRegistry$Records", "solveMinutes", "[I", true)
  | 3 => ("PuzzleRegistry$Records", "paid", "[I", true)
  | 4 => ("PuzzleRegistry$Records", "likenesses", "[I", true)
  | _ => ("PuzzleRegistry$Records", "commons", "[I", true)
def tyX2 : Nat → FieldType := fun k => match k with
  | 0 => .array .int
  | 1 => .array .int
  | 2 => .array .int
  | 3 => .array .int
  | 4 => .array .int
  | _ => .array .int
abbrev wsX20 : List Cond := u_ws RX2 TX2 6
theorem nmX2 : ∀ a, a < 6 → ∀ b, b < 6 → a ≠ b → (TX2 a).2.1 ≠ (TX2 b).2.1 := by decide +kernel
theorem tyX2_ok : ∀ k, k < 6 → parseFieldDescriptor (TX2 k).2.2.1 = some (tyX2 k) := by decide +kernel
abbrev cX2_init : ByteArray := prog_4_method_1_code
def yX2_init : MethodName := ⟨RX2, "<init>", "()V"⟩
abbrev cX2_wipe : ByteArray := prog_4_method_2_code
def yX2_wipe : MethodName := ⟨RX2, "wipe", "()V"⟩
abbrev cX2_solve : ByteArray := prog_4_method_3_code
def yX2_solve : MethodName := ⟨RX2, "solve", "(IIIZ)V"⟩
abbrev cX2_pay : ByteArray := prog_4_method_4_code
def yX2_pay : MethodName := ⟨RX2, "pay", "(III)V"⟩
abbrev cX2_noteCommon : ByteArray := prog_4_method_5_code
def yX2_noteCommon : MethodName := ⟨RX2, "noteCommon", "(III)V"⟩
abbrev cX2_lastSolveMinute : ByteArray := prog_4_method_6_code
def yX2_lastSolveMinute : MethodName := ⟨RX2, "lastSolveMinute", "(II)I"⟩
def RX3 : String := "PuzzleRegistry$Riddles"
def TX3 : u_T := fun k => match k with
  | 0 => ("PuzzleRegistry$Riddles", "points", "[I", true)
  | 1 => ("PuzzleRegistry$Riddles", "keys", "[I", true)
  | 2 => ("PuzzleRegistry$Riddles", "leastTimes", "[I", true)
  | 3 => ("PuzzleRegistry$Riddles", "firstPrices", "[I", true)
  | 4 => ("PuzzleRegistry$Riddles", "needs", "[I", true)
  | 5 => ("PuzzleRegistry$Riddles", "touched", "I", false)
  | _ => ("PuzzleRegistry$Riddles", "count", "I", false)
def tyX3 : Nat → FieldType := fun k => match k with
  | 0 => .array .int
  | 1 => .array .int
  | 2 => .array .int
  | 3 => .array .int
  | 4 => .array .int
  | 5 => .int
  | _ => .int
abbrev wsX30 : List Cond := u_ws RX3 TX3 7
theorem nmX3 : ∀ a, a < 7 → ∀ b, b < 7 → a ≠ b → (TX3 a).2.1 ≠ (TX3 b).2.1 := by decide +kernel
theorem tyX3_ok : ∀ k, k < 7 → parseFieldDescriptor (TX3 k).2.2.1 = some (tyX3 k) := by decide +kernel
abbrev cX3_init : ByteArray := prog_5_method_1_code
def yX3_init : MethodName := ⟨RX3, "<init>", "()V"⟩
abbrev cX3_append : ByteArray := prog_5_method_2_code
def yX3_append : MethodName := ⟨RX3, "append", "(IIII)I"⟩
abbrev cX3_hangingOn : ByteArray := prog_5_method_3_code
def yX3_hangingOn : MethodName := ⟨RX3, "hangingOn", "(I)I"⟩
abbrev cX3_spread : ByteArray := prog_5_method_4_code
def yX3_spread : MethodName := ⟨RX3, "spread", "(I)I"⟩
def RX4 : String := "PuzzleRegistry$Sales"
def TX4 : u_T := fun k => match k with
  | 0 => ("PuzzleRegistry$Sales", "bought", "[I", true)
  | _ => ("PuzzleRegistry$Sales", "prices", "[I", true)
def tyX4 : Nat → FieldType := fun k => match k with
  | 0 => .array .int
  | _ => .array .int
abbrev wsX40 : List Cond := u_ws RX4 TX4 2
theorem nmX4 : ∀ a, a < 2 → ∀ b, b < 2 → a ≠ b → (TX4 a).2.1 ≠ (TX4 b).2.1 := by decide +kernel
theorem tyX4_ok : ∀ k, k < 2 → parseFieldDescriptor (TX4 k).2.2.1 = some (tyX4 k) := by decide +kernel
abbrev cX4_init : ByteArray := prog_6_method_1_code
def yX4_init : MethodName := ⟨RX4, "<init>", "()V"⟩
abbrev cX4_append : ByteArray := prog_6_method_2_code
def yX4_append : MethodName := ⟨RX4, "append", "(III)V"⟩
abbrev cX4_countBuyers : ByteArray := prog_6_method_3_code
def yX4_countBuyers : MethodName := ⟨RX4, "countBuyers", "(II)I"⟩
def RX5 : String := "PuzzleRegistry"
def TX5 : u_T := fun k => match k with
  | 0 => ("PuzzleRegistry", "riddles", "LPuzzleRegistry$Riddles;", true)
  | 1 => ("PuzzleRegistry", "answers", "LPuzzleRegistry$Answers;", true)
  | 2 => ("PuzzleRegistry", "sales", "LPuzzleRegistry$Sales;", true)
  | 3 => ("PuzzleRegistry", "judge", "LPuzzleRegistry$Judge;", true)
  | 4 => ("PuzzleRegistry", "kept", "LPuzzleRegistry$Records;", true)
  | 5 => ("PuzzleRegistry", "anew", "LPuzzleRegistry$Records;", true)
  | 6 => ("PuzzleRegistry", "scores", "[I", true)
  | 7 => ("PuzzleRegistry", "lastMinutes", "[I", true)
  | 8 => ("PuzzleRegistry", "prizes", "[I", true)
  | 9 => ("PuzzleRegistry", "teamCount", "I", false)
  | 10 => ("PuzzleRegistry", "minute", "I", false)
  | _ => ("PuzzleRegistry", "ended", "Z", false)
def tyX5 : Nat → FieldType := fun k => match k with
  | 0 => .object "PuzzleRegistry$Riddles"
  | 1 => .object "PuzzleRegistry$Answers"
  | 2 => .object "PuzzleRegistry$Sales"
  | 3 => .object "PuzzleRegistry$Judge"
  | 4 => .object "PuzzleRegistry$Records"
  | 5 => .object "PuzzleRegistry$Records"
  | 6 => .array .int
  | 7 => .array .int
  | 8 => .array .int
  | 9 => .int
  | 10 => .int
  | _ => .boolean
abbrev wsX50 : List Cond := u_ws RX5 TX5 12
theorem nmX5 : ∀ a, a < 12 → ∀ b, b < 12 → a ≠ b → (TX5 a).2.1 ≠ (TX5 b).2.1 := by decide +kernel
theorem tyX5_ok : ∀ k, k < 12 → parseFieldDescriptor (TX5 k).2.2.1 = some (tyX5 k) := by decide +kernel
abbrev cX5_init : ByteArray := prog_1_method_1_code
def yX5_init : MethodName := ⟨RX5, "<init>", "()V"⟩
abbrev cX5_pass : ByteArray := prog_1_method_2_code
def yX5_pass : MethodName := ⟨RX5, "pass", "(I)I"⟩
abbrev cX5_now : ByteArray := prog_1_method_3_code
def yX5_now : MethodName := ⟨RX5, "now", "()I"⟩
abbrev cX5_addRiddle : ByteArray := prog_1_method_4_code
def yX5_addRiddle : MethodName := ⟨RX5, "addRiddle", "(IIII)I"⟩
abbrev cX5_need : ByteArray := prog_1_method_5_code
def yX5_need : MethodName := ⟨RX5, "need", "(II)I"⟩
abbrev cX5_addTeam : ByteArray := prog_1_method_6_code
def yX5_addTeam : MethodName := ⟨RX5, "addTeam", "()I"⟩
abbrev cX5_end : ByteArray := prog_1_method_7_code
def yX5_end : MethodName := ⟨RX5, "end", "()I"⟩
abbrev cX5_answer : ByteArray := prog_1_method_8_code
def yX5_answer : MethodName := ⟨RX5, "answer", "(III)Z"⟩
abbrev cX5_hint : ByteArray := prog_1_method_9_code
def yX5_hint : MethodName := ⟨RX5, "hint", "(II)I"⟩
abbrev cX5_price : ByteArray := prog_1_method_10_code
def yX5_price : MethodName := ⟨RX5, "price", "(II)I"⟩
abbrev cX5_openedAt : ByteArray := prog_1_method_11_code
def yX5_openedAt : MethodName := ⟨RX5, "openedAt", "(II)I"⟩
abbrev cX5_solvedAt : ByteArray := prog_1_method_12_code
def yX5_solvedAt : MethodName := ⟨RX5, "solvedAt", "(II)I"⟩
abbrev cX5_clear : ByteArray := prog_1_method_13_code
def yX5_clear : MethodName := ⟨RX5, "clear", "(II)Z"⟩
abbrev cX5_pardon : ByteArray := prog_1_method_14_code
def yX5_pardon : MethodName := ⟨RX5, "pardon", "(II)Z"⟩
abbrev cX5_setBound : ByteArray := prog_1_method_15_code
def yX5_setBound : MethodName := ⟨RX5, "setBound", "(I)I"⟩
abbrev cX5_isFree : ByteArray := prog_1_method_16_code
def yX5_isFree : MethodName := ⟨RX5, "isFree", "(I)Z"⟩
abbrev cX5_likeness : ByteArray := prog_1_method_17_code
def yX5_likeness : MethodName := ⟨RX5, "likeness", "(II)I"⟩
abbrev cX5_areLinked : ByteArray := prog_1_method_18_code
def yX5_areLinked : MethodName := ⟨RX5, "areLinked", "(II)Z"⟩
abbrev cX5_isCheated : ByteArray := prog_1_method_19_code
def yX5_isCheated : MethodName := ⟨RX5, "isCheated", "(II)Z"⟩
abbrev cX5_isVoid : ByteArray := prog_1_method_20_code
def yX5_isVoid : MethodName := ⟨RX5, "isVoid", "(II)Z"⟩
abbrev cX5_hanging : ByteArray := prog_1_method_21_code
def yX5_hanging : MethodName := ⟨RX5, "hanging", "(I)I"⟩
abbrev cX5_score : ByteArray := prog_1_method_22_code
def yX5_score : MethodName := ⟨RX5, "score", "(I)I"⟩
abbrev cX5_scoreAnew : ByteArray := prog_1_method_23_code
def yX5_scoreAnew : MethodName := ⟨RX5, "scoreAnew", "(I)I"⟩
abbrev cX5_place : ByteArray := prog_1_method_24_code
def yX5_place : MethodName := ⟨RX5, "place", "(I)I"⟩
abbrev cX5_teamAt : ByteArray := prog_1_method_25_code
def yX5_teamAt : MethodName := ⟨RX5, "teamAt", "(I)I"⟩
abbrev cX5_setPrize : ByteArray := prog_1_method_26_code
def yX5_setPrize : MethodName := ⟨RX5, "setPrize", "(II)I"⟩
abbrev cX5_prize : ByteArray := prog_1_method_27_code
def yX5_prize : MethodName := ⟨RX5, "prize", "(I)I"⟩
abbrev cX5_requireTeam : ByteArray := prog_1_method_28_code
def yX5_requireTeam : MethodName := ⟨RX5, "requireTeam", "(I)V"⟩
abbrev cX5_requireRiddle : ByteArray := prog_1_method_29_code
def yX5_requireRiddle : MethodName := ⟨RX5, "requireRiddle", "(I)V"⟩
abbrev cX5_requireRange : ByteArray := prog_1_method_30_code
def yX5_requireRange : MethodName := ⟨RX5, "requireRange", "(III)V"⟩
abbrev cX5_bit : ByteArray := prog_1_method_31_code
def yX5_bit : MethodName := ⟨RX5, "bit", "(I)I"⟩
abbrev cX5_has : ByteArray := prog_1_method_32_code
def yX5_has : MethodName := ⟨RX5, "has", "(II)Z"⟩
abbrev cX5_cell : ByteArray := prog_1_method_33_code
def yX5_cell : MethodName := ⟨RX5, "cell", "(II)I"⟩
abbrev cX5_sale : ByteArray := prog_1_method_34_code
def yX5_sale : MethodName := ⟨RX5, "sale", "(III)I"⟩
abbrev cX5_pair : ByteArray := prog_1_method_35_code
def yX5_pair : MethodName := ⟨RX5, "pair", "(II)I"⟩
abbrev cX5_openMinute : ByteArray := prog_1_method_36_code
def yX5_openMinute : MethodName := ⟨RX5, "openMinute", "(LPuzzleRegistry$Records;II)I"⟩
abbrev cX5_isUnderWay : ByteArray := prog_1_method_37_code
def yX5_isUnderWay : MethodName := ⟨RX5, "isUnderWay", "(II)Z"⟩
abbrev cX5_hasHintsLeft : ByteArray := prog_1_method_38_code
def yX5_hasHintsLeft : MethodName := ⟨RX5, "hasHintsLeft", "(II)Z"⟩
abbrev cX5_nextPrice : ByteArray := prog_1_method_39_code
def yX5_nextPrice : MethodName := ⟨RX5, "nextPrice", "(II)I"⟩
abbrev cX5_noteSolved : ByteArray := prog_1_method_40_code
def yX5_noteSolved : MethodName := ⟨RX5, "noteSolved", "(LPuzzleRegistry$Records;III)V"⟩
abbrev cX5_noteWrong : ByteArray := prog_1_method_41_code
def yX5_noteWrong : MethodName := ⟨RX5, "noteWrong", "(III)V"⟩
abbrev cX5_freeSet : ByteArray := prog_1_method_42_code
def yX5_freeSet : MethodName := ⟨RX5, "freeSet", "(LPuzzleRegistry$Records;)I"⟩
abbrev cX5_cheatedSet : ByteArray := prog_1_method_43_code
def yX5_cheatedSet : MethodName := ⟨RX5, "cheatedSet", "(LPuzzleRegistry$Records;I)I"⟩
abbrev cX5_voidSet : ByteArray := prog_1_method_44_code
def yX5_voidSet : MethodName := ⟨RX5, "voidSet", "(LPuzzleRegistry$Records;I)I"⟩
abbrev cX5_countingSet : ByteArray := prog_1_method_45_code
def yX5_countingSet : MethodName := ⟨RX5, "countingSet", "(LPuzzleRegistry$Records;I)I"⟩
abbrev cX5_sumUp : ByteArray := prog_1_method_46_code
def yX5_sumUp : MethodName := ⟨RX5, "sumUp", "(LPuzzleRegistry$Records;II)I"⟩
abbrev cX5_replaySolutions : ByteArray := prog_1_method_47_code
def yX5_replaySolutions : MethodName := ⟨RX5, "replaySolutions", "()V"⟩
abbrev cX5_comparePairs : ByteArray := prog_1_method_48_code
def yX5_comparePairs : MethodName := ⟨RX5, "comparePairs", "(I)V"⟩
abbrev cX5_compareWithOthers : ByteArray := prog_1_method_49_code
def yX5_compareWithOthers : MethodName := ⟨RX5, "compareWithOthers", "(I)V"⟩
abbrev cX5_replaySales : ByteArray := prog_1_method_50_code
def yX5_replaySales : MethodName := ⟨RX5, "replaySales", "(I)V"⟩
abbrev cX5_isRight : ByteArray := prog_1_method_51_code
def yX5_isRight : MethodName := ⟨RX5, "isRight", "(I)Z"⟩
abbrev cX5_rateTeams : ByteArray := prog_1_method_52_code
def yX5_rateTeams : MethodName := ⟨RX5, "rateTeams", "()V"⟩
abbrev cX5_countBetter : ByteArray := prog_1_method_53_code
def yX5_countBetter : MethodName := ⟨RX5, "countBetter", "(I)I"⟩
abbrev cX5_countAlike : ByteArray := prog_1_method_54_code
def yX5_countAlike : MethodName := ⟨RX5, "countAlike", "(II)I"⟩
abbrev cX5_sumPrizes : ByteArray := prog_1_method_55_code
def yX5_sumPrizes : MethodName := ⟨RX5, "sumPrizes", "(II)I"⟩
def RX6 : String := "PuzzleRegistryModel"
def TX6 : u_T := fun k => match k with
  | 0 => ("PuzzleRegistryModel", "now", "I", false)
  | 1 => ("PuzzleRegistryModel", "isOver", "Z", false)
  | 2 => ("PuzzleRegistryModel", "riddles", "I", false)
  | 3 => ("PuzzleRegistryModel", "points", "[I", true)
  | 4 => ("PuzzleRegistryModel", "keys", "[I", true)
  | 5 => ("PuzzleRegistryModel", "leasts", "[I", true)
  | 6 => ("PuzzleRegistryModel", "prices", "[I", true)
  | 7 => ("PuzzleRegistryModel", "needs", "[I", true)
  | 8 => ("PuzzleRegistryModel", "teams", "I", false)
  | 9 => ("PuzzleRegistryModel", "solved", "[I", true)
  | 10 => ("PuzzleRegistryModel", "isSoon", "[Z", true)
  | 11 => ("PuzzleRegistryModel", "isCleared", "[Z", true)
  | 12 => ("PuzzleRegistryModel", "hints", "[I", true)
  | 13 => ("PuzzleRegistryModel", "paid", "[I", true)
  | 14 => ("PuzzleRegistryModel", "answers", "I", false)
  | 15 => ("PuzzleRegistryModel", "givers", "[I", true)
  | 16 => ("PuzzleRegistryModel", "given", "[I", true)
  | 17 => ("PuzzleRegistryModel", "words", "[I", true)
  | 18 => ("PuzzleRegistryModel", "arePardoned", "[Z", true)
  | 19 => ("PuzzleRegistryModel", "bound", "I", false)
  | 20 => ("PuzzleRegistryModel", "prizes", "[I", true)
  | _ => ("PuzzleRegistryModel", "thrown", "I", false)
def tyX6 : Nat → FieldType := fun k => match k with
  | 0 => .int
  | 1 => .boolean
  | 2 => .int
  | 3 => .array .int
  | 4 => .array .int
  | 5 => .array .int
  | 6 => .array .int
  | 7 => .array .int
  | 8 => .int
  | 9 => .array .int
  | 10 => .array .boolean
  | 11 => .array .boolean
  | 12 => .array .int
  | 13 => .array .int
  | 14 => .int
  | 15 => .array .int
  | 16 => .array .int
  | 17 => .array .int
  | 18 => .array .boolean
  | 19 => .int
  | 20 => .array .int
  | _ => .int
abbrev wsX60 : List Cond := u_ws RX6 TX6 22
theorem nmX6 : ∀ a, a < 22 → ∀ b, b < 22 → a ≠ b → (TX6 a).2.1 ≠ (TX6 b).2.1 := by decide +kernel
theorem tyX6_ok : ∀ k, k < 22 → parseFieldDescriptor (TX6 k).2.2.1 = some (tyX6 k) := by decide +kernel
abbrev cX6_init : ByteArray := prog_8_method_1_code
def yX6_init : MethodName := ⟨RX6, "<init>", "()V"⟩
abbrev cX6_thrown : ByteArray := prog_8_method_2_code
def yX6_thrown : MethodName := ⟨RX6, "thrown", "()I"⟩
abbrev cX6_goes : ByteArray := prog_8_method_3_code
def yX6_goes : MethodName := ⟨RX6, "goes", "(I)Z"⟩
abbrev cX6_isIn : ByteArray := prog_8_method_4_code
def yX6_isIn : MethodName := ⟨RX6, "isIn", "(III)Z"⟩
abbrev cX6_isRiddle : ByteArray := prog_8_method_5_code
def yX6_isRiddle : MethodName := ⟨RX6, "isRiddle", "(I)Z"⟩
abbrev cX6_isTeam : ByteArray := prog_8_method_6_code
def yX6_isTeam : MethodName := ⟨RX6, "isTeam", "(I)Z"⟩
abbrev cX6_at : ByteArray := prog_8_method_7_code
def yX6_at : MethodName := ⟨RX6, "at", "(II)I"⟩
abbrev cX6_doesNeed : ByteArray := prog_8_method_8_code
def yX6_doesNeed : MethodName := ⟨RX6, "doesNeed", "(II)Z"⟩
abbrev cX6_pass : ByteArray := prog_8_method_9_code
def yX6_pass : MethodName := ⟨RX6, "pass", "(I)I"⟩
abbrev cX6_now : ByteArray := prog_8_method_10_code
def yX6_now : MethodName := ⟨RX6, "now", "()I"⟩
abbrev cX6_addRiddle : ByteArray := prog_8_method_11_code
def yX6_addRiddle : MethodName := ⟨RX6, "addRiddle", "(IIII)I"⟩
abbrev cX6_bits : ByteArray := prog_8_method_12_code
def yX6_bits : MethodName := ⟨RX6, "bits", "(I)I"⟩
abbrev cX6_isTouched : ByteArray := prog_8_method_13_code
def yX6_isTouched : MethodName := ⟨RX6, "isTouched", "(I)Z"⟩
abbrev cX6_need : ByteArray := prog_8_method_14_code
def yX6_need : MethodName := ⟨RX6, "need", "(II)I"⟩
abbrev cX6_addTeam : ByteArray := prog_8_method_15_code
def yX6_addTeam : MethodName := ⟨RX6, "addTeam", "()I"⟩
abbrev cX6_isOpenToAll : ByteArray := prog_8_method_16_code
def yX6_isOpenToAll : MethodName := ⟨RX6, "isOpenToAll", "(I)Z"⟩
abbrev cX6_end : ByteArray := prog_8_method_17_code
def yX6_end : MethodName := ⟨RX6, "end", "()I"⟩
abbrev cX6_opened : ByteArray := prog_8_method_18_code
def yX6_opened : MethodName := ⟨RX6, "opened", "(II)I"⟩
abbrev cX6_wrong : ByteArray := prog_8_method_19_code
def yX6_wrong : MethodName := ⟨RX6, "wrong", "(II)I"⟩
abbrev cX6_isDone : ByteArray := prog_8_method_20_code
def yX6_isDone : MethodName := ⟨RX6, "isDone", "(II)Z"⟩
abbrev cX6_answer : ByteArray := prog_8_method_21_code
def yX6_answer : MethodName := ⟨RX6, "answer", "(III)Z"⟩
abbrev cX6_priceOf : ByteArray := prog_8_method_22_code
def yX6_priceOf : MethodName := ⟨RX6, "priceOf", "(II)I"⟩
abbrev cX6_hint : ByteArray := prog_8_method_23_code
def yX6_hint : MethodName := ⟨RX6, "hint", "(II)I"⟩
abbrev cX6_price : ByteArray := prog_8_method_24_code
def yX6_price : MethodName := ⟨RX6, "price", "(II)I"⟩
abbrev cX6_openedAt : ByteArray := prog_8_method_25_code
def yX6_openedAt : MethodName := ⟨RX6, "openedAt", "(II)I"⟩
abbrev cX6_solvedAt : ByteArray := prog_8_method_26_code
def yX6_solvedAt : MethodName := ⟨RX6, "solvedAt", "(II)I"⟩
abbrev cX6_clear : ByteArray := prog_8_method_27_code
def yX6_clear : MethodName := ⟨RX6, "clear", "(II)Z"⟩
abbrev cX6_pardon : ByteArray := prog_8_method_28_code
def yX6_pardon : MethodName := ⟨RX6, "pardon", "(II)Z"⟩
abbrev cX6_setBound : ByteArray := prog_8_method_29_code
def yX6_setBound : MethodName := ⟨RX6, "setBound", "(I)I"⟩
abbrev cX6_isFree : ByteArray := prog_8_method_30_code
def yX6_isFree : MethodName := ⟨RX6, "isFree", "(I)Z"⟩
abbrev cX6_gave : ByteArray := prog_8_method_31_code
def yX6_gave : MethodName := ⟨RX6, "gave", "(IIII)Z"⟩
abbrev cX6_isCommon : ByteArray := prog_8_method_32_code
def yX6_isCommon : MethodName := ⟨RX6, "isCommon", "(II)Z"⟩
abbrev cX6_likenessOf : ByteArray := prog_8_method_33_code
def yX6_likenessOf : MethodName := ⟨RX6, "likenessOf", "(II)I"⟩
abbrev cX6_likeness : ByteArray := prog_8_method_34_code
def yX6_likeness : MethodName := ⟨RX6, "likeness", "(II)I"⟩
abbrev cX6_are : ByteArray := prog_8_method_35_code
def yX6_are : MethodName := ⟨RX6, "are", "(II)Z"⟩
abbrev cX6_areLinked : ByteArray := prog_8_method_36_code
def yX6_areLinked : MethodName := ⟨RX6, "areLinked", "(II)Z"⟩
abbrev cX6_cheated : ByteArray := prog_8_method_37_code
def yX6_cheated : MethodName := ⟨RX6, "cheated", "(I)I"⟩
abbrev cX6_isCheated : ByteArray := prog_8_method_38_code
def yX6_isCheated : MethodName := ⟨RX6, "isCheated", "(II)Z"⟩
abbrev cX6_voids : ByteArray := prog_8_method_39_code
def yX6_voids : MethodName := ⟨RX6, "voids", "(I)I"⟩
abbrev cX6_isVoid : ByteArray := prog_8_method_40_code
def yX6_isVoid : MethodName := ⟨RX6, "isVoid", "(II)Z"⟩
abbrev cX6_hanging : ByteArray := prog_8_method_41_code
def yX6_hanging : MethodName := ⟨RX6, "hanging", "(I)I"⟩
abbrev cX6_counting : ByteArray := prog_8_method_42_code
def yX6_counting : MethodName := ⟨RX6, "counting", "(I)I"⟩
abbrev cX6_scoreOf : ByteArray := prog_8_method_43_code
def yX6_scoreOf : MethodName := ⟨RX6, "scoreOf", "(I)I"⟩
abbrev cX6_lastOf : ByteArray := prog_8_method_44_code
def yX6_lastOf : MethodName := ⟨RX6, "lastOf", "(I)I"⟩
abbrev cX6_scored : ByteArray := prog_8_method_45_code
def yX6_scored : MethodName := ⟨RX6, "scored", "(I)I"⟩
abbrev cX6_score : ByteArray := prog_8_method_46_code
def yX6_score : MethodName := ⟨RX6, "score", "(I)I"⟩
abbrev cX6_scoreAnew : ByteArray := prog_8_method_47_code
def yX6_scoreAnew : MethodName := ⟨RX6, "scoreAnew", "(I)I"⟩
abbrev cX6_ahead : ByteArray := prog_8_method_48_code
def yX6_ahead : MethodName := ⟨RX6, "ahead", "(IZ)I"⟩
abbrev cX6_place : ByteArray := prog_8_method_49_code
def yX6_place : MethodName := ⟨RX6, "place", "(I)I"⟩
abbrev cX6_teamAt : ByteArray := prog_8_method_50_code
def yX6_teamAt : MethodName := ⟨RX6, "teamAt", "(I)I"⟩
abbrev cX6_setPrize : ByteArray := prog_8_method_51_code
def yX6_setPrize : MethodName := ⟨RX6, "setPrize", "(II)I"⟩
abbrev cX6_prize : ByteArray := prog_8_method_52_code
def yX6_prize : MethodName := ⟨RX6, "prize", "(I)I"⟩
def RJx145de : String := "java/io/Serializable"
def TJx145de : u_T := fun k => match k with
  | _ => ("", "", "", false)
def tyJx145de : Nat → FieldType := fun k => match k with
  | _ => .int
abbrev wsJx145de0 : List Cond := u_ws RJx145de TJx145de 0
theorem nmJx145de : ∀ a, a < 0 → ∀ b, b < 0 → a ≠ b → (TJx145de a).2.1 ≠ (TJx145de b).2.1 := by decide +kernel
theorem tyJx145de_ok : ∀ k, k < 0 → parseFieldDescriptor (TJx145de k).2.2.1 = some (tyJx145de k) := by decide +kernel
def RJ6 : String := "java/lang/Integer"
def TJ6 : u_T := fun k => match k with
  | _ => ("", "", "", false)
def tyJ6 : Nat → FieldType := fun k => match k with
  | _ => .int
abbrev wsJ60 : List Cond := u_ws RJ6 TJ6 0
theorem nmJ6 : ∀ a, a < 0 → ∀ b, b < 0 → a ≠ b → (TJ6 a).2.1 ≠ (TJ6 b).2.1 := by decide +kernel
theorem tyJ6_ok : ∀ k, k < 0 → parseFieldDescriptor (TJ6 k).2.2.1 = some (tyJ6 k) := by decide +kernel
abbrev cJ6_bitCount_0f7a4 : ByteArray := prog_14_method_49_code
def yJ6_bitCount_0f7a4 : MethodName := ⟨RJ6, "bitCount", "(I)I"⟩
def RJ9 : String := "java/lang/Math"
def TJ9 : u_T := fun k => match k with
  | _ => ("", "", "", false)
def tyJ9 : Nat → FieldType := fun k => match k with
  | _ => .int
abbrev wsJ90 : List Cond := u_ws RJ9 TJ9 0
theorem nmJ9 : ∀ a, a < 0 → ∀ b, b < 0 → a ≠ b → (TJ9 a).2.1 ≠ (TJ9 b).2.1 := by decide +kernel
theorem tyJ9_ok : ∀ k, k < 0 → parseFieldDescriptor (TJ9 k).2.2.1 = some (tyJ9 k) := by decide +kernel
abbrev cJ9_max_7cf53 : ByteArray := prog_15_method_65_code
def yJ9_max_7cf53 : MethodName := ⟨RJ9, "max", "(II)I"⟩
def RJ0 : String := "java/lang/String"
def TJ0 : u_T := fun k => match k with
  | _ => ("", "", "", false)
def tyJ0 : Nat → FieldType := fun k => match k with
  | _ => .int
abbrev wsJ00 : List Cond := u_ws RJ0 TJ0 0
theorem nmJ0 : ∀ a, a < 0 → ∀ b, b < 0 → a ≠ b → (TJ0 a).2.1 ≠ (TJ0 b).2.1 := by decide +kernel
theorem tyJ0_ok : ∀ k, k < 0 → parseFieldDescriptor (TJ0 k).2.2.1 = some (tyJ0 k) := by decide +kernel
def RJ7 : String := "java/util/Arrays"
def TJ7 : u_T := fun k => match k with
  | _ => ("", "", "", false)
def tyJ7 : Nat → FieldType := fun k => match k with
  | _ => .int
abbrev wsJ70 : List Cond := u_ws RJ7 TJ7 0
theorem nmJ7 : ∀ a, a < 0 → ∀ b, b < 0 → a ≠ b → (TJ7 a).2.1 ≠ (TJ7 b).2.1 := by decide +kernel
theorem tyJ7_ok : ∀ k, k < 0 → parseFieldDescriptor (TJ7 k).2.2.1 = some (tyJ7 k) := by decide +kernel
abbrev cJ7_fill_53178 : ByteArray := prog_19_method_103_code
def yJ7_fill_53178 : MethodName := ⟨RJ7, "fill", "([II)V"⟩
def RL : String := "PuzzleRegistryLaw"
abbrev cL_pass : ByteArray := method_3_code
def yL_pass : MethodName := ⟨RL, "pass", "(LPuzzleRegistry;I[J)I"⟩
abbrev cL_addRiddle : ByteArray := method_4_code
def yL_addRiddle : MethodName := ⟨RL, "addRiddle", "(LPuzzleRegistry;IIII[J)I"⟩
abbrev cL_need : ByteArray := method_5_code
def yL_need : MethodName := ⟨RL, "need", "(LPuzzleRegistry;II[J)I"⟩
abbrev cL_addTeam : ByteArray := method_6_code
def yL_addTeam : MethodName := ⟨RL, "addTeam", "(LPuzzleRegistry;[J)I"⟩
abbrev cL_end : ByteArray := method_7_code
def yL_end : MethodName := ⟨RL, "end", "(LPuzzleRegistry;[J)I"⟩
abbrev cL_answer : ByteArray := method_8_code
def yL_answer : MethodName := ⟨RL, "answer", "(LPuzzleRegistry;III[J)I"⟩
abbrev cL_hint : ByteArray := method_9_code
def yL_hint : MethodName := ⟨RL, "hint", "(LPuzzleRegistry;II[J)I"⟩
abbrev cL_price : ByteArray := method_10_code
def yL_price : MethodName := ⟨RL, "price", "(LPuzzleRegistry;II[J)I"⟩
abbrev cL_openedAt : ByteArray := method_11_code
def yL_openedAt : MethodName := ⟨RL, "openedAt", "(LPuzzleRegistry;II[J)I"⟩
abbrev cL_solvedAt : ByteArray := method_12_code
def yL_solvedAt : MethodName := ⟨RL, "solvedAt", "(LPuzzleRegistry;II[J)I"⟩
abbrev cL_clear : ByteArray := method_13_code
def yL_clear : MethodName := ⟨RL, "clear", "(LPuzzleRegistry;II[J)I"⟩
abbrev cL_pardon : ByteArray := method_14_code
def yL_pardon : MethodName := ⟨RL, "pardon", "(LPuzzleRegistry;II[J)I"⟩
abbrev cL_setBound : ByteArray := method_15_code
def yL_setBound : MethodName := ⟨RL, "setBound", "(LPuzzleRegistry;I[J)I"⟩
abbrev cL_isFree : ByteArray := method_16_code
def yL_isFree : MethodName := ⟨RL, "isFree", "(LPuzzleRegistry;I[J)I"⟩
abbrev cL_likeness : ByteArray := method_17_code
def yL_likeness : MethodName := ⟨RL, "likeness", "(LPuzzleRegistry;II[J)I"⟩
abbrev cL_areLinked : ByteArray := method_18_code
def yL_areLinked : MethodName := ⟨RL, "areLinked", "(LPuzzleRegistry;II[J)I"⟩
abbrev cL_isCheated : ByteArray := method_19_code
def yL_isCheated : MethodName := ⟨RL, "isCheated", "(LPuzzleRegistry;II[J)I"⟩
abbrev cL_isVoid : ByteArray := method_20_code
def yL_isVoid : MethodName := ⟨RL, "isVoid", "(LPuzzleRegistry;II[J)I"⟩
abbrev cL_hanging : ByteArray := method_21_code
def yL_hanging : MethodName := ⟨RL, "hanging", "(LPuzzleRegistry;I[J)I"⟩
abbrev cL_score : ByteArray := method_22_code
def yL_score : MethodName := ⟨RL, "score", "(LPuzzleRegistry;I[J)I"⟩
abbrev cL_scoreAnew : ByteArray := method_23_code
def yL_scoreAnew : MethodName := ⟨RL, "scoreAnew", "(LPuzzleRegistry;I[J)I"⟩
abbrev cL_place : ByteArray := method_24_code
def yL_place : MethodName := ⟨RL, "place", "(LPuzzleRegistry;I[J)I"⟩
abbrev cL_setPrize : ByteArray := method_25_code
def yL_setPrize : MethodName := ⟨RL, "setPrize", "(LPuzzleRegistry;II[J)I"⟩
abbrev cL_prize : ByteArray := method_26_code
def yL_prize : MethodName := ⟨RL, "prize", "(LPuzzleRegistry;I[J)I"⟩
abbrev cL_law : ByteArray := code
def yL_law : MethodName := ⟨RL, "law", "([I)Z"⟩
end
section
abbrev vwCl : List vw_C := [(RX0, TX0, 5), (RX1, TX1, 3), (RX2, TX2, 6), (RX3, TX3, 7), (RX4, TX4, 2), (RX5, TX5, 12), (RX6, TX6, 22)]
/-! my own rows over the kit: words that stay, rooms, three kinds of contracts, calls -/
def q_ok : Cond → Bool
  | .fieldLinkNest _ _ _ _ _ _ => true
  | .methodLinkNest _ _ _ _ => true
  | .declares _ => true
  | .castable _ _ => true
  | w => goodWord w
def TW : List Cond := lw_tbl.filter q_ok
theorem q_warm {s U : State} (hW : s.WarmedH U.vm) : ∀ (w : Cond) (A A' : Array Value), q_ok w = true → w.before A s = true → w.before A' U = true := by
  intro w A A' hq h
  have e : (s.setVm U.vm).vm = U.vm := rfl
  cases w with
  | fieldLinkNest a i b n d h9 => exact va_tabs rfl e (Cond.fieldLinkNest_warmed (args := A) hW h)
  | methodLinkNest a i x h9 => exact va_tabs rfl e (Cond.methodLinkNest_warmed (args := A) hW h)
  | declares x => exact va_tabs (u := s.setVm U.vm) (A := A) rfl e (by rw [Cond.declares_setVm hW.alike]; exact h)
  | castable a b => exact va_tabs (u := s.setVm U.vm) (A := A) rfl e (by rw [Cond.castable_setVm hW.alike]; exact h)
  | _ => exact word_at hW (good_of_word hq) h
def EN (U : State) : Prop := ∀ w ∈ TW, ∀ A : Array Value, w.before A U = true
theorem EN.warm {s U : State} (hW : s.WarmedH U.vm) (h : EN s) : EN U := fun w hw A => q_warm hW w A A ((List.mem_filter.mp hw).2) (h w hw A)
theorem q_mem {w : Cond} (i : Nat) (h : lw_tbl[i]? = some w) (hq : q_ok w = true) : w ∈ TW := List.mem_filter.mpr ⟨List.mem_of_getElem? h, hq⟩
def EV (D : va_G) (cI cZ cL : ClassId) (U : State) : Prop := EN U ∧ va_K D vwCl [(cI, .int), (cZ, .boolean), (cL, .long)] U
theorem EV.warm {D : va_G} {cI cZ cL : ClassId} {s U : State} (hW : s.WarmedH U.vm) (h : EV D cI cZ cL s) : EV D cI cZ cL U := ⟨EN.warm hW h.1, va_K.moved hW.alike h.2⟩
theorem EV.call {D : va_G} {cI cZ cL : ClassId} {U : State} {g : JFrame} {mk : MethodId} {a : Array Value} (h : EV D cI cZ cL U) : EV D cI cZ cL (U.calling g mk a) := EV.warm (s := U) (State.WarmedH.refl U) h
def ES (U : State) : Prop := ∀ (own : String) (k : Nat) (tx : String), Cond.stringRef own k tx ∈ lw_tbl → ∃ sa, vk_R own k tx sa U
theorem ES.warm {s U : State} (hW : s.WarmedH U.vm) (h : ES s) : ES U := fun own k tx hm => by
  obtain ⟨sa, hs⟩ := h own k tx hm
  exact ⟨sa, vk_R.warm hW hs⟩
def EZ (A : Nat → Prop) (U : State) (H : Heap) : Prop := vx_Zq Bundle.tN "UNASSIGNED_STACK" Bundle.steD A U H ∧ vx_Zq Bundle.tN "SUPPRESSED_SENTINEL" Bundle.listD A U H
theorem EZ.moved {A : Nat → Prop} {u U : State} {H : Heap} (hvm : u.vm.Alike U.vm) (h : EZ A u H) : EZ A U H := ⟨vx_Zq.moved hvm h.1, vx_Zq.moved hvm h.2⟩
theorem EZ.kept {A : Nat → Prop} {U : State} {H H1 : Heap} (h : EZ A U H) (hq : ∀ a : Nat, a < H.size → ¬ A a → H1[a]? = H[a]?) : EZ A U H1 := ⟨vx_Zq.kept h.1 hq, vx_Zq.kept h.2 hq⟩
theorem EZ.narrow {A B : Nat → Prop} {U : State} {H : Heap} (h : EZ A U H) (hAB : ∀ q, B q → A q) : EZ B U H := ⟨vx_Zq.narrow h.1 hAB, vx_Zq.narrow h.2 hAB⟩
def q_no : Nat → Prop := fun _ => False
def rm (k c n : Nat) : Room := { frames := k, cells := c, slots := n, locals := 30 * k }
/-- what a method asks of the state: the words, the classes, the world -/
def PcC (D : va_G) (cI cZ cL : ClassId) (av : List Value) (ws : va_W) : Array Value → State → Prop := va_Pc av (fun U => EV D cI cZ cL U ∧ va_P D vwCl ws U.heap)
/-- .. of one that throws: also the texts and two statics -/
def PcX (D : va_G) (cI cZ cL : ClassId) (av : List Value) (ws : va_W) : Array Value → State → Prop := va_Pc av (fun U => EV D cI cZ cL U ∧ ES U ∧ EZ q_no U U.heap ∧ va_P D vwCl ws U.heap)
def Qrd (v : Option Value) : Array Value → State → Outcome → State → Prop := fun _ st oc t => oc = .returned v ∧ t.heap = st.heap
def Qwr (D : va_G) (A : Nat → Prop) (ws : va_W) (v : Option Value) : Array Value → State → Outcome → State → Prop := fun _ st oc t => oc = .returned v ∧ va_P D vwCl ws t.heap ∧ va_F A st t
def Qth : Array Value → State → Outcome → State → Prop := fun _ _ _ _ => False
def Xth (E : String) : String → State → State → Prop := fun E' st t => E' = E ∧ va_F q_no st t
/-- it reads alone -/
def RD (l : Launch) (D : va_G) (cI cZ cL : ClassId) (y : MethodName) (b : ByteArray) (n : Nat) (ret : Option FieldType) (k : Nat) (av : List Value) (ws : va_W) (v : Option Value) : Prop := Met l y [Cond.code y b n ret] (rm k 0 0) (PcC D cI cZ cL av ws) (Qrd v) 0 0 q_no
/-- it writes: the world afterwards -/
def WR (l : Launch) (D : va_G) (cI cZ cL : ClassId) (y : MethodName) (b : ByteArray) (n : Nat) (ret : Option FieldType) (k : Nat) (av : List Value) (A : Nat → Prop) (ws ws' : va_W) (v : Option Value) : Prop := Met l y [Cond.code y b n ret] (rm k 0 0) (PcC D cI cZ cL av ws) (Qwr D A ws' v) 0 0 A
/-- it throws -/
def TH (l : Launch) (D : va_G) (cI cZ cL : ClassId) (y : MethodName) (b : ByteArray) (n : Nat) (ret : Option FieldType) (k : Nat) (av : List Value) (ws : va_W) (E : String) : Prop := vx_Met l y [Cond.code y b n ret] (rm k 1 6) (PcX D cI cZ cL av ws) Qth (Xth E) 1 6 q_no
theorem PcC.blind {D : va_G} {cI cZ cL : ClassId} {av : List Value} {ws : va_W} : FrameBlind (PcC D cI cZ cL av ws) := fun _ _ _ _ q => ⟨q.1, EV.call q.2.1, q.2.2⟩
theorem ES.call {U : State} {g : JFrame} {mk : MethodId} {a : Array Value} (h : ES U) : ES (U.calling g mk a) := ES.warm (s := U) (State.WarmedH.refl U) h
theorem EZ.call {A : Nat → Prop} {U : State} {H : Heap} {g : JFrame} {mk : MethodId} {a : Array Value} (h : EZ A U H) : EZ A (U.calling g mk a) H := EZ.moved (u := U) (Vm.Alike.refl U.vm) h
theorem PcX.blind {D : va_G} {cI cZ cL : ClassId} {av : List Value} {ws : va_W} : FrameBlind (PcX D cI cZ cL av ws) := fun _ _ _ _ q => ⟨q.1, EV.call q.2.1, ES.call q.2.2.1, EZ.call q.2.2.2.1, q.2.2.2.2⟩
section Bodies9
variable {l : Launch} {D : va_G} {cI cZ cL : ClassId} {y : MethodName} {b : ByteArray} {n : Nat} {ret : Option FieldType} {k : Nat} {av : List Value} {A : Nat → Prop} {ws ws' : va_W} {v : Option Value} {E : String}
theorem RD.of (hy : plainName y.cls = true) (hlen : (lg_sl av).length ≤ n)
    (body : ∀ (p : Program) (e : Env) (s : State) (m : MethodId) (args : Array Value) (below : List Frame) (meth : Method) (c : Code) (ls : Array Slot), p.tables.exec = Jvm.exec → c.code = b → meth.sig.returnType = ret → c.maxLocals = n → s.vm.findClass y.cls = some m.cls → meth.locks = false → EV D cI cZ cL s → va_P D vwCl ws s.heap → lv_has ls n (lv_args 0 av) →
      W p l e (rm k 0 0) s m args below meth c s.heap [] 0 0 (MQ below (Qrd v) args s 0 0 q_no) (F0 m 0 ls [])) : RD l D cI cZ cL y b n ret k av ws v := by
  refine Met.ofW (cc := b) (maxL := n) (ret := ret) hy rfl ?_
  intro p e s m args below meth c s₁ B hml hv
  obtain ⟨rfl, hE, hP⟩ := hv
  have hl := lv_entry av hlen
  rw [lg_entry_eq]
  generalize (lg_sl av ++ List.replicate (n - (lg_sl av).length) Slot.unset).toArray = ls at hl ⊢
  exact body p e s m _ below meth c ls B.exec B.bytes B.returns hml (findClass_of_methodNamed B.named) B.notSynchronized hE hP hl
theorem WR.of (hy : plainName y.cls = true) (hlen : (lg_sl av).length ≤ n)
    (body : ∀ (p : Program) (e : Env) (s : State) (m : MethodId) (args : Array Value) (below : List Frame) (meth : Method) (c : Code) (ls : Array Slot), p.tables.exec = Jvm.exec → c.code = b → meth.sig.returnType = ret → c.maxLocals = n → s.vm.findClass y.cls = some m.cls → meth.locks = false → EV D cI cZ cL s → va_P D vwCl ws s.heap → va_S A s.heap s.heap [] → lv_has ls n (lv_args 0 av) →
      W p l e (rm k 0 0) s m args below meth c s.heap [] 0 0 (MQ below (Qwr D A ws' v) args s 0 0 A) (F0 m 0 ls [])) : WR l D cI cZ cL y b n ret k av A ws ws' v := by
  refine Met.ofW (cc := b) (maxL := n) (ret := ret) hy rfl ?_
  intro p e s m args below meth c s₁ B hml hv
  obtain ⟨rfl, hE, hP⟩ := hv
  have hl := lv_entry av hlen
  rw [lg_entry_eq]
  generalize (lg_sl av ++ List.replicate (n - (lg_sl av).length) Slot.unset).toArray = ls at hl ⊢
  exact body p e s m _ below meth c ls B.exec B.bytes B.returns hml (findClass_of_methodNamed B.named) B.notSynchronized hE hP va_S.rf hl
theorem TH.of (hy : plainName y.cls = true) (hlen : (lg_sl av).length ≤ n)
    (body : ∀ (p : Program) (e : Env) (s : State) (m : MethodId) (args : Array Value) (below : List Frame) (meth : Method) (c : Code) (ls : Array Slot), p.tables.exec = Jvm.exec → c.code = b → meth.sig.returnType = ret → c.maxLocals = n → s.vm.findClass y.cls = some m.cls → meth.locks = false → (∀ x ∈ c.exceptionTable.toList, False) → EV D cI cZ cL s → ES s → EZ q_no s s.heap → va_P D vwCl ws s.heap → lv_has ls n (lv_args 0 av) →
      W p l e (rm k 1 6) s m args below meth c s.heap [] 0 0 (vx_MQ below Qth (Xth E) args s 1 6 q_no) (F0 m 0 ls [])) : TH l D cI cZ cL y b n ret k av ws E := by
  refine vx_ofW (cc := b) (maxL := n) (ret := ret) hy rfl ?_
  intro p e s m args below meth c s₁ B hml hxt hv
  obtain ⟨rfl, hE, hT, hZ, hP⟩ := hv
  have hl := lv_entry av hlen
  rw [lg_entry_eq]
  generalize (lg_sl av ++ List.replicate (n - (lg_sl av).length) Slot.unset).toArray = ls at hl ⊢
  exact body p e s m _ below meth c ls B.exec B.bytes B.returns hml (findClass_of_methodNamed B.named) B.notSynchronized hxt hE hT hZ hP hl
end Bodies9
section Rows9
variable {p : Program} {l : Launch} {e : Env} {R : Room} {s : State} {m : MethodId} {args : Array Value} {below : List Frame} {meth : Method} {c : Code} {H : Heap} {locs : List Loc} {cells slots : Nat} {Q : State → Prop}
variable {pc : Nat} {ls : Array Slot} {rest st0 : List Value} {a : Nat} {A : Nat → Prop} {H0 : Heap} {cc : ByteArray} {D : va_G} {cI cZ cL : ClassId} {ws ws' : va_W}
/-- ends -/
theorem e_ret {v : Int32} {ty : FieldType} (hx : p.tables.exec = Jvm.exec) (hb : c.code = cc) (hr : meth.sig.returnType = some ty) (hlk : meth.locks = false) (hn : narrow ty (.int v) = .int v) (hdg : decode cc pc = .ok (.ireturn, 1)) : W p l e R s m args below meth c s.heap [] 0 0 (MQ below (Qrd (some (.int v))) args s 0 0 q_no) (F0 m pc ls [.int v]) :=
  W.zret hx hb hr hn (fun t ht _ => ⟨rfl, ht⟩) (fun _ h => nomatch h) hdg hlk
theorem e_retv (hx : p.tables.exec = Jvm.exec) (hb : c.code = cc) (hr : meth.sig.returnType = none) (hlk : meth.locks = false) (hdg : decode cc pc = .ok (.return_, 1)) : W p l e R s m args below meth c s.heap [] 0 0 (MQ below (Qrd none) args s 0 0 q_no) (F0 m pc ls []) :=
  W.vret hx hb hr (fun t ht _ => ⟨rfl, ht⟩) (fun _ h => nomatch h) hdg hlk
theorem e_wret {v : Int32} {ty : FieldType} (hx : p.tables.exec = Jvm.exec) (hb : c.code = cc) (hr : meth.sig.returnType = some ty) (hlk : meth.locks = false) (hn : narrow ty (.int v) = .int v) (hP : va_P D vwCl ws H) (hS : va_S A s.heap H locs) (hdg : decode cc pc = .ok (.ireturn, 1)) : W p l e R s m args below meth c H locs cells slots (MQ below (Qwr D A ws (some (.int v))) args s cells slots A) (F0 m pc ls [.int v]) :=
  W.zret hx hb hr hn (fun t ht _ => ⟨rfl, by rw [ht]; exact hP, hS.F ht⟩) hS.2.2 hdg hlk
theorem e_wretv (hx : p.tables.exec = Jvm.exec) (hb : c.code = cc) (hr : meth.sig.returnType = none) (hlk : meth.locks = false) (hP : va_P D vwCl ws H) (hS : va_S A s.heap H locs) (hdg : decode cc pc = .ok (.return_, 1)) : W p l e R s m args below meth c H locs cells slots (MQ below (Qwr D A ws none) args s cells slots A) (F0 m pc ls []) :=
  W.vret hx hb hr (fun t ht _ => ⟨rfl, by rw [ht]; exact hP, hS.F ht⟩) hS.2.2 hdg hlk
/-- the top of the stack by another name -/
theorem q_top {x y : Int32} (h : x = y) (k : W p l e R s m args below meth c H locs cells slots Q (F0 m pc ls (.int y :: rest))) : W p l e R s m args below meth c H locs cells slots Q (F0 m pc ls (.int x :: rest)) := h ▸ k
/-- behind a call -/
theorem q_rd {v : Value} (hr : va_Run p l e R s m args below meth c H locs cells slots 0 0 (F0 m pc ls st0) rest (fun st oc t => oc = .returned (some v) ∧ t.heap = st.heap) q_no)
    (kk : W p l e R s m args below meth c H locs cells slots Q (F0 m (pc + 3) ls (v :: rest))) : W p l e R s m args below meth c H locs cells slots Q (F0 m pc ls st0) := by
  intro T hT X
  obtain ⟨v1, st₀, t, T', L, h0, X', hL, e1, e2, ⟨hv, hh⟩, st⟩ := hr T hT X
  have hL0 : L = [] := List.eq_nil_iff_forall_not_mem.mpr (fun q hq => hL q hq)
  subst hL0
  cases hv
  rw [List.append_nil] at X'
  obtain ⟨t2, a1, b1⟩ := kk T' (by rw [e1, hh, h0]) X'
  exact ⟨t2, st t2 a1, b1⟩
theorem q_rdv (hr : va_Run p l e R s m args below meth c H locs cells slots 0 0 (F0 m pc ls st0) rest (fun st oc t => oc = .returned none ∧ t.heap = st.heap) q_no)
    (kk : W p l e R s m args below meth c H locs cells slots Q (F0 m (pc + 3) ls rest)) : W p l e R s m args below meth c H locs cells slots Q (F0 m pc ls st0) := by
  intro T hT X
  obtain ⟨v1, st₀, t, T', L, h0, X', hL, e1, e2, ⟨hv, hh⟩, st⟩ := hr T hT X
  have hL0 : L = [] := List.eq_nil_iff_forall_not_mem.mpr (fun q hq => hL q hq)
  subst hL0
  cases hv
  rw [List.append_nil] at X'
  obtain ⟨t2, a1, b1⟩ := kk T' (by rw [e1, hh, h0]) X'
  exact ⟨t2, st t2 a1, b1⟩
theorem q_Sgo {st₀ t T' : State} {L : List Loc} (h0 : st₀.heap = H) (e1 : T'.heap = t.heap) (hS : va_S A H0 H locs) (hL : ∀ q ∈ L, A q.base) (hF : va_F A st₀ t) : va_S A H0 T'.heap (locs ++ L) :=
  (vx_keep (A1 := A) (free := A) h0 e1 hS (fun _ _ h => h) (fun _ h => h) hL hF).2.2
theorem q_wr {v : Value} {mc ms : Nat} (hr : va_Run p l e R s m args below meth c H locs cells slots mc ms (F0 m pc ls st0) rest (fun st oc t => oc = .returned (some v) ∧ va_P D vwCl ws' t.heap ∧ va_F A st t) A) (hS : va_S A H0 H locs)
    (kk : ∀ (H : Heap) (locs : List Loc), va_P D vwCl ws' H → va_S A H0 H locs → W p l e R s m args below meth c H locs (cells + mc) (slots + ms) Q (F0 m (pc + 3) ls (v :: rest))) : W p l e R s m args below meth c H locs cells slots Q (F0 m pc ls st0) := by
  intro T hT X
  obtain ⟨v1, st₀, t, T', L, h0, X', hL, e1, e2, ⟨hv, hp, hF⟩, st⟩ := hr T hT X
  cases hv
  obtain ⟨t2, a1, b1⟩ := kk T'.heap (locs ++ L) (by rw [e1]; exact hp) (q_Sgo h0 e1 hS hL hF) T' rfl X'
  exact ⟨t2, st t2 a1, b1⟩
theorem q_wrv {mc ms : Nat} (hr : va_Run p l e R s m args below meth c H locs cells slots mc ms (F0 m pc ls st0) rest (fun st oc t => oc = .returned none ∧ va_P D vwCl ws' t.heap ∧ va_F A st t) A) (hS : va_S A H0 H locs)
    (kk : ∀ (H : Heap) (locs : List Loc), va_P D vwCl ws' H → va_S A H0 H locs → W p l e R s m args below meth c H locs (cells + mc) (slots + ms) Q (F0 m (pc + 3) ls rest)) : W p l e R s m args below meth c H locs cells slots Q (F0 m pc ls st0) := by
  intro T hT X
  obtain ⟨v1, st₀, t, T', L, h0, X', hL, e1, e2, ⟨hv, hp, hF⟩, st⟩ := hr T hT X
  cases hv
  obtain ⟨t2, a1, b1⟩ := kk T'.heap (locs ++ L) (by rw [e1]; exact hp) (q_Sgo h0 e1 hS hL hF) T' rfl X'
  exact ⟨t2, st t2 a1, b1⟩
/-- behind a call of a method that throws -/
theorem q_th {mc ms : Nat} {E : String} {Qc : Array Value → State → Outcome → State → Prop} {XC : String → State → State → Prop} (hr : vx_Run p l e R s m args below meth c s.heap [] 0 0 1 6 (F0 m pc ls st0) rest (Qth args) (Xth E) q_no) (hlk : meth.locks = false) (hxt : ∀ x ∈ c.exceptionTable.toList, False) (hmc : 1 ≤ mc) (hms : 6 ≤ ms)
    (hx : ∀ t : State, s.vm.Alike t.vm → va_F q_no s t → XC E s t) : W p l e R s m args below meth c s.heap [] 0 0 (vx_MQ below Qc XC args s mc ms q_no) (F0 m pc ls st0) := by
  intro T hT X
  rcases hr T hT X with ⟨v, st₀, t, T', L, h0, X', hL, e1, e2, h9, st⟩ | ⟨q, st₀, t, T', L, E', ce, h0, X', hL, e1, e2, ⟨hE, hF⟩, hce, hcv, hcl, st⟩
  · exact absurd h9 (fun h => h)
  · subst hE
    obtain ⟨hz, hk⟩ := hF
    rw [h0] at hz hk
    obtain ⟨t2, a1, b1⟩ := vx_out (Qc := Qc) (XC := XC) (mc := mc) (ms := ms) (free := q_no) (rest := rest) (fun x hx => (hxt x hx).elim) hlk (by rw [e1]; exact hce) hcv hcl (fun t9 ht9 hv9 => hx t9 hv9 ⟨by rw [ht9, e1]; exact hz, fun q9 h1 h2 => by rw [ht9, e1]; exact hk q9 h1 h2⟩) (fun z hz => hL z (by simpa using hz)) (by omega) (by omega) T' rfl X'
    exact ⟨t2, st.trans a1, b1⟩
end Rows9
end
section
/-! calls, fields, arrays in my words -/
/-- what a call needs of the tables, of a static method, of an instance method -/
def CKs (y : MethodName) (b : ByteArray) (n : Nat) (ret : Option FieldType) (na : Nat) : Prop := Cond.code y b n ret ∈ TW ∧ Cond.initialized y.cls ∈ TW ∧ (y.cls ≠ "java/lang/invoke/MethodHandle" ∧ y.cls ≠ "java/lang/invoke/VarHandle") ∧ (parseMethodDescriptor y.desc).map (fun d => d.parameters.length) = some na ∧ Cond.static y ∈ TW
def CKv (y : MethodName) (b : ByteArray) (n : Nat) (ret : Option FieldType) (na : Nat) : Prop := Cond.code y b n ret ∈ TW ∧ Cond.initialized y.cls ∈ TW ∧ (y.cls ≠ "java/lang/invoke/MethodHandle" ∧ y.cls ≠ "java/lang/invoke/VarHandle") ∧ (parseMethodDescriptor y.desc).map (fun d => d.parameters.length) = some na ∧ Cond.instanceMethod y ∈ TW ∧ Cond.selects y.cls y y ∈ TW
def CKi (y : MethodName) (b : ByteArray) (n : Nat) (na : Nat) : Prop := Cond.code y b n none ∈ TW ∧ Cond.initialized y.cls ∈ TW ∧ (y.cls ≠ "java/lang/invoke/MethodHandle" ∧ y.cls ≠ "java/lang/invoke/VarHandle") ∧ (parseMethodDescriptor y.desc).map (fun d => d.parameters.length) = some na ∧ Cond.instanceMethod y ∈ TW ∧ y.name = "<init>"
theorem q_code {s : State} {y : MethodName} {b : ByteArray} {n : Nat} {ret : Option FieldType} (hE : EN s) (h : Cond.code y b n ret ∈ TW) : ∀ w ∈ [Cond.code y b n ret], ∀ (a' : Array Value) (U : State), s.WarmedH U.vm → w.before a' U = true := by
  intro w hw a' U hW
  cases List.mem_singleton.mp hw
  exact EN.warm hW hE _ h a'
theorem q_npar {y : MethodName} {na : Nat} (h : (parseMethodDescriptor y.desc).map (fun d => d.parameters.length) = some na) : ∀ sig, parseMethodDescriptor y.desc = some sig → na = sig.parameters.length := by
  intro sig hs
  rw [hs] at h
  exact (Option.some.inj h).symm
section Calls9
variable {p : Program} {l : Launch} {e : Env} {R : Room} {s : State} {m : MethodId} {args : Array Value} {below : List Frame} {meth : Method} {c : Code} {H : Heap} {locs : List Loc} {cells slots : Nat} {Q : State → Prop}
variable {pc : Nat} {ls : Array Slot} {rest st0 : List Value} {A : Nat → Prop} {H0 : Heap} {cc : ByteArray} {D : va_G} {cI cZ cL : ClassId} {ws ws' : va_W}
variable {nL idx n' k' mc ms : Nat} {own host : String} {y : MethodName} {b' : ByteArray} {ret' : Option FieldType} {av As : List Value} {Qc : Array Value → State → Outcome → State → Prop} {free : Addr → Prop} {a : Nat} {fs : List Value} {q0 ci N : Nat} {T : u_T}
theorem q_runS (hx : p.tables.exec = Jvm.exec) (hb : c.code = cc) (hml : c.maxLocals = nL) (hown : s.vm.findClass own = some m.cls) (hE : EV D cI cZ cL s)
    (hM : Met l y [Cond.code y b' n' ret'] (rm k' mc ms) (PcC D cI cZ cL av ws) Qc mc ms free) (ck : CKs y b' n' ret' av.length) (hl : Cond.methodLink own idx y ∈ TW) (hP : va_P D vwCl ws H) (hls : ls.size = nL) (hst : st0 = av.reverse ++ rest)
    (hR : k' + 1 ≤ R.frames ∧ 8 + (n' + 11) + 30 * k' ≤ R.locals) (hc : (rest.map fun v => v.category).sum ≤ 8) (hdg : decode cc pc = .ok (.invokestatic idx, 3)) (hf : cells + mc ≤ R.cells ∧ slots + ms ≤ R.slots) :
    va_Run p l e R s m args below meth c H locs cells slots mc ms (F0 m pc ls st0) rest (Qc av.toArray) free :=
  va_runS (Ts := []) ⟨hx, hb, hml, hown, fun _ h => nomatch h⟩ hM ⟨⟨rfl, rfl, hR.1, hR.2, q_code hE.1 ck.1, List.mem_singleton.mpr rfl, hE.1 _ ck.1 _, hE.1 _ ck.2.1 _, ck.2.2.1, q_npar ck.2.2.2.1, hE.1 _ hl _⟩, hE.1 _ ck.2.2.2.2 _⟩
    ⟨PcC.blind, fun U hU hW => ⟨rfl, EV.warm hW hE, by rw [hU]; exact hP⟩⟩ rfl rfl hls hst (lv_room hc) hdg hf
theorem q_runSN (hx : p.tables.exec = Jvm.exec) (hb : c.code = cc) (hml : c.maxLocals = nL) (hown : s.vm.findClass own = some m.cls) (hE : EV D cI cZ cL s)
    (hM : Met l y [Cond.code y b' n' ret'] (rm k' mc ms) (PcC D cI cZ cL av ws) Qc mc ms free) (ck : CKs y b' n' ret' av.length) (hl : Cond.methodLinkNest own idx y host ∈ TW) (hP : va_P D vwCl ws H) (hls : ls.size = nL) (hst : st0 = av.reverse ++ rest)
    (hR : k' + 1 ≤ R.frames ∧ 8 + (n' + 11) + 30 * k' ≤ R.locals) (hc : (rest.map fun v => v.category).sum ≤ 8) (hdg : decode cc pc = .ok (.invokestatic idx, 3)) (hf : cells + mc ≤ R.cells ∧ slots + ms ≤ R.slots) :
    va_Run p l e R s m args below meth c H locs cells slots mc ms (F0 m pc ls st0) rest (Qc av.toArray) free :=
  va_runSN (Ts := []) ⟨hx, hb, hml, hown, fun _ h => nomatch h⟩ hM ⟨⟨⟨rfl, rfl, hR.1, hR.2, q_code hE.1 ck.1, List.mem_singleton.mpr rfl⟩, hE.1 _ ck.1 _, hE.1 _ ck.2.1 _, ck.2.2.1, q_npar ck.2.2.2.1, hE.1 _ hl _⟩, hE.1 _ ck.2.2.2.2 _, trivial⟩
    ⟨PcC.blind, fun U hU hW => ⟨rfl, EV.warm hW hE, by rw [hU]; exact hP⟩⟩ rfl rfl hls hst (lv_room hc) hdg hf
theorem q_runV (hx : p.tables.exec = Jvm.exec) (hb : c.code = cc) (hml : c.maxLocals = nL) (hown : s.vm.findClass own = some m.cls) (hE : EV D cI cZ cL s)
    (hM : Met l y [Cond.code y b' n' ret'] (rm k' mc ms) (PcC D cI cZ cL (.ref a :: As) ws) Qc mc ms free) (ck : CKv y b' n' ret' As.length) (hl : Cond.methodLink own idx y ∈ TW) (hP : va_P D vwCl ws H) (q0 : Nat) (he : ws[q0]? = some (a, .inr (ci, fs))) (hci : vwCl[ci]? = some (y.cls, T, N)) (hls : ls.size = nL) (hst : st0 = As.reverse ++ .ref a :: rest)
    (hR : k' + 1 ≤ R.frames ∧ 8 + (n' + 11) + 30 * k' ≤ R.locals) (hc : (rest.map fun v => v.category).sum ≤ 8) (hdg : decode cc pc = .ok (.invokevirtual idx, 3)) (hf : cells + mc ≤ R.cells ∧ slots + ms ≤ R.slots) :
    va_Run p l e R s m args below meth c H locs cells slots mc ms (F0 m pc ls st0) rest (Qc (Value.ref a :: As).toArray) free :=
  va_runV (Ts := []) (C := y.cls) ⟨hx, hb, hml, hown, fun _ h => nomatch h⟩ hM ⟨⟨rfl, rfl, hR.1, hR.2, q_code hE.1 ck.1, List.mem_singleton.mpr rfl, hE.1 _ ck.1 _, hE.1 _ ck.2.1 _, ck.2.2.1, q_npar ck.2.2.2.1, hE.1 _ hl _⟩, hE.1 _ ck.2.2.2.2.1 _, hE.1 _ ck.2.2.2.2.2 _⟩
    ⟨PcC.blind, va_recv (q := (y.cls, T, N)) hE.2 hP hci he, fun U hU hW => ⟨rfl, EV.warm hW hE, by rw [hU]; exact hP⟩⟩ rfl rfl hls hst (lv_room hc) hdg hf
theorem q_runVN (hx : p.tables.exec = Jvm.exec) (hb : c.code = cc) (hml : c.maxLocals = nL) (hown : s.vm.findClass own = some m.cls) (hE : EV D cI cZ cL s)
    (hM : Met l y [Cond.code y b' n' ret'] (rm k' mc ms) (PcC D cI cZ cL (.ref a :: As) ws) Qc mc ms free) (ck : CKv y b' n' ret' As.length) (hl : Cond.methodLinkNest own idx y host ∈ TW) (hP : va_P D vwCl ws H) (q0 : Nat) (he : ws[q0]? = some (a, .inr (ci, fs))) (hci : vwCl[ci]? = some (y.cls, T, N)) (hls : ls.size = nL) (hst : st0 = As.reverse ++ .ref a :: rest)
    (hR : k' + 1 ≤ R.frames ∧ 8 + (n' + 11) + 30 * k' ≤ R.locals) (hc : (rest.map fun v => v.category).sum ≤ 8) (hdg : decode cc pc = .ok (.invokevirtual idx, 3)) (hf : cells + mc ≤ R.cells ∧ slots + ms ≤ R.slots) :
    va_Run p l e R s m args below meth c H locs cells slots mc ms (F0 m pc ls st0) rest (Qc (Value.ref a :: As).toArray) free :=
  va_runVN (Ts := []) (C := y.cls) ⟨hx, hb, hml, hown, fun _ h => nomatch h⟩ hM ⟨⟨⟨rfl, rfl, hR.1, hR.2, q_code hE.1 ck.1, List.mem_singleton.mpr rfl⟩, hE.1 _ ck.1 _, hE.1 _ ck.2.1 _, ck.2.2.1, q_npar ck.2.2.2.1, hE.1 _ hl _⟩, hE.1 _ ck.2.2.2.2.1 _, hE.1 _ ck.2.2.2.2.2 _⟩
    ⟨PcC.blind, va_recv (q := (y.cls, T, N)) hE.2 hP hci he, fun U hU hW => ⟨rfl, EV.warm hW hE, by rw [hU]; exact hP⟩⟩ rfl rfl hls hst (lv_room hc) hdg hf
/-- calls that throw -/
theorem q_thS {E : String} (hx : p.tables.exec = Jvm.exec) (hb : c.code = cc) (hml : c.maxLocals = nL) (hown : s.vm.findClass own = some m.cls) (hE : EV D cI cZ cL s) (hT : ES s) (hZ : EZ q_no s H)
    (hM : TH l D cI cZ cL y b' n' ret' k' av ws E) (ck : CKs y b' n' ret' av.length) (hl : Cond.methodLink own idx y ∈ TW) (hP : va_P D vwCl ws H) (hls : ls.size = nL) (hst : st0 = av.reverse ++ rest)
    (hR : k' + 1 ≤ R.frames ∧ 8 + (n' + 11) + 30 * k' ≤ R.locals) (hc : (rest.map fun v => v.category).sum ≤ 8) (hdg : decode cc pc = .ok (.invokestatic idx, 3)) (hf : cells + 1 ≤ R.cells ∧ slots + 6 ≤ R.slots) :
    vx_Run p l e R s m args below meth c H locs cells slots 1 6 (F0 m pc ls st0) rest (Qth av.toArray) (Xth E) q_no :=
  vx_runS (Ts := []) ⟨hx, hb, hml, hown, fun _ h => nomatch h⟩ hM ⟨⟨rfl, rfl, hR.1, hR.2, q_code hE.1 ck.1, List.mem_singleton.mpr rfl, hE.1 _ ck.1 _, hE.1 _ ck.2.1 _, ck.2.2.1, q_npar ck.2.2.2.1, hE.1 _ hl _⟩, hE.1 _ ck.2.2.2.2 _⟩
    ⟨PcX.blind, fun U hU hW => ⟨rfl, EV.warm hW hE, ES.warm hW hT, by rw [hU]; exact EZ.moved hW.alike hZ, by rw [hU]; exact hP⟩⟩ rfl rfl hls hst (lv_room hc) hdg hf
theorem q_thV {E : String} (hx : p.tables.exec = Jvm.exec) (hb : c.code = cc) (hml : c.maxLocals = nL) (hown : s.vm.findClass own = some m.cls) (hE : EV D cI cZ cL s) (hT : ES s) (hZ : EZ q_no s H)
    (hM : TH l D cI cZ cL y b' n' ret' k' (.ref a :: As) ws E) (ck : CKv y b' n' ret' As.length) (hl : Cond.methodLink own idx y ∈ TW) (hP : va_P D vwCl ws H) (q0 : Nat) (he : ws[q0]? = some (a, .inr (ci, fs))) (hci : vwCl[ci]? = some (y.cls, T, N)) (hls : ls.size = nL) (hst : st0 = As.reverse ++ .ref a :: rest)
    (hR : k' + 1 ≤ R.frames ∧ 8 + (n' + 11) + 30 * k' ≤ R.locals) (hc : (rest.map fun v => v.category).sum ≤ 8) (hdg : decode cc pc = .ok (.invokevirtual idx, 3)) (hf : cells + 1 ≤ R.cells ∧ slots + 6 ≤ R.slots) :
    vx_Run p l e R s m args below meth c H locs cells slots 1 6 (F0 m pc ls st0) rest (Qth (Value.ref a :: As).toArray) (Xth E) q_no :=
  vx_runV (Ts := []) (C := y.cls) ⟨hx, hb, hml, hown, fun _ h => nomatch h⟩ hM ⟨⟨rfl, rfl, hR.1, hR.2, q_code hE.1 ck.1, List.mem_singleton.mpr rfl, hE.1 _ ck.1 _, hE.1 _ ck.2.1 _, ck.2.2.1, q_npar ck.2.2.2.1, hE.1 _ hl _⟩, hE.1 _ ck.2.2.2.2.1 _, hE.1 _ ck.2.2.2.2.2 _⟩
    ⟨PcX.blind, va_recv (q := (y.cls, T, N)) hE.2 hP hci he, fun U hU hW => ⟨rfl, EV.warm hW hE, ES.warm hW hT, by rw [hU]; exact EZ.moved hW.alike hZ, by rw [hU]; exact hP⟩⟩ rfl rfl hls hst (lv_room hc) hdg hf
end Calls9
section Cells9
variable {p : Program} {l : Launch} {e : Env} {R : Room} {s : State} {m : MethodId} {args : Array Value} {below : List Frame} {meth : Method} {c : Code} {H : Heap} {locs : List Loc} {cells slots : Nat} {Q : State → Prop}
variable {pc : Nat} {ls : Array Slot} {rest st0 : List Value} {A : Nat → Prop} {H0 : Heap} {cc : ByteArray} {D : va_G} {cI cZ cL : ClassId} {ws ws' : va_W}
variable {idx n i a ci N : Nat} {own host C : String} {T : u_T} {fs : List Value} {v : Value} {f : Nat → Int32}
theorem q_get (hx : p.tables.exec = Jvm.exec) (hb : c.code = cc) (hown : s.vm.findClass own = some m.cls) (hE : EV D cI cZ cL s) (hin : ∀ w ∈ u_ws C T N, w ∈ TW) (hP : va_P D vwCl ws H) (q0 : Nat) (he : ws[q0]? = some (a, .inr (ci, fs))) (hc : vwCl[ci]? = some (C, T, N)) (k : Nat) (hk : k < N)
    (hl : Cond.fieldLink own idx (T k).1 (T k).2.1 (T k).2.2.1 ∈ TW) (hv : fs[k]? = some v) (hdg : decode cc pc = .ok (.getfield idx, 3)) (kk : W p l e R s m args below meth c H locs cells slots Q (F0 m (pc + 3) ls (v :: rest))) : W p l e R s m args below meth c H locs cells slots Q (F0 m pc ls (.ref a :: rest)) :=
  va_get (Ts := TW) hx hb (fun w h => hE.1 w h args) hin hown hE.2 hP q0 he hc k hk (hE.1 _ hl args) (fun _ h => h) hv hdg kk
theorem q_getN (hx : p.tables.exec = Jvm.exec) (hb : c.code = cc) (hown : s.vm.findClass own = some m.cls) (hE : EV D cI cZ cL s) (hin : ∀ w ∈ u_ws C T N, w ∈ TW) (hP : va_P D vwCl ws H) (q0 : Nat) (he : ws[q0]? = some (a, .inr (ci, fs))) (hc : vwCl[ci]? = some (C, T, N)) (k : Nat) (hk : k < N)
    (hl : Cond.fieldLinkNest own idx (T k).1 (T k).2.1 (T k).2.2.1 host ∈ TW) (hv : fs[k]? = some v) (hdg : decode cc pc = .ok (.getfield idx, 3)) (kk : W p l e R s m args below meth c H locs cells slots Q (F0 m (pc + 3) ls (v :: rest))) : W p l e R s m args below meth c H locs cells slots Q (F0 m pc ls (.ref a :: rest)) :=
  va_getN (Ts := TW) hx hb (fun w h => hE.1 w h args) hin hown hE.2 hP q0 he hc k hk (hE.1 _ hl args) (fun _ h => h) hv hdg kk
theorem q_put {ty0 : Nat → FieldType} (hx : p.tables.exec = Jvm.exec) (hb : c.code = cc) (hown : s.vm.findClass own = some m.cls) (hE : EV D cI cZ cL s) (hin : ∀ w ∈ u_ws C T N, w ∈ TW) (hty : ∀ k, k < N → parseFieldDescriptor (T k).2.2.1 = some (ty0 k)) (hnm : ∀ a, a < N → ∀ b, b < N → a ≠ b → (T a).2.1 ≠ (T b).2.1)
    (hP : va_P D vwCl ws H) (hD : va_D A ws) (hS : va_S A H0 H locs) (q0 : Nat) (he : ws[q0]? = some (a, .inr (ci, fs))) (hc : vwCl[ci]? = some (C, T, N)) (k : Nat) (hk : k < N)
    (hl : Cond.fieldLink own idx (T k).1 (T k).2.1 (T k).2.2.1 ∈ TW) (hfin : (T k).2.2.2 = false) (hn : narrow (ty0 k) v = v) (hfit : fits (ty0 k) v = true) (hlen : k < fs.length) (hws : ws.set q0 (a, .inr (ci, fs.set k v)) = ws') (hdg : decode cc pc = .ok (.putfield idx, 3))
    (kk : ∀ (H : Heap) (locs : List Loc), va_P D vwCl ws' H → va_S A H0 H locs → W p l e R s m args below meth c H locs cells slots Q (F0 m (pc + 3) ls rest)) : W p l e R s m args below meth c H locs cells slots Q (F0 m pc ls (v :: .ref a :: rest)) :=
  va_put (Ts := TW) hx hb (fun w h => hE.1 w h args) hin ty0 hty hnm hown hE.2 hP hD hS q0 he hc k hk (hE.1 _ hl args) (fun _ h => h) hfin (hty k hk) hn hfit hlen hdg (fun H1 locs1 hP1 hD1 hS1 => kk H1 locs1 (hws ▸ hP1) hS1)
theorem q_iald (hx : p.tables.exec = Jvm.exec) (hb : c.code = cc) (hE : EV D cI cZ cL s) (hP : va_P D vwCl ws H) (q0 : Nat) (he : ws[q0]? = some (a, .inl (cI, n, .inl f))) (hi : i < n) (hn : n < 2 ^ 31) (hdg : decode cc pc = .ok (.iaload, 1))
    (kk : W p l e R s m args below meth c H locs cells slots Q (F0 m (pc + 1) ls (.int (f i) :: rest))) : W p l e R s m args below meth c H locs cells slots Q (F0 m pc ls (.int (nI i) :: .ref a :: rest)) :=
  va_iald hx hb hE.2 hP q0 0 he rfl (vp_in_nI hi hn) hdg (by rw [nI_clamp (by omega)]; exact kk)
theorem q_zald (hx : p.tables.exec = Jvm.exec) (hb : c.code = cc) (hE : EV D cI cZ cL s) (hP : va_P D vwCl ws H) (q0 : Nat) (he : ws[q0]? = some (a, .inl (cZ, n, .inl f))) (hi : i < n) (hn : n < 2 ^ 31) (hdg : decode cc pc = .ok (.baload, 1))
    (kk : W p l e R s m args below meth c H locs cells slots Q (F0 m (pc + 1) ls (.int (f i) :: rest))) : W p l e R s m args below meth c H locs cells slots Q (F0 m pc ls (.int (nI i) :: .ref a :: rest)) :=
  va_zald hx hb hE.2 hP q0 1 he rfl (vp_in_nI hi hn) hdg (by rw [nI_clamp (by omega)]; exact kk)
theorem q_iast {x : Int32} (hx : p.tables.exec = Jvm.exec) (hb : c.code = cc) (hE : EV D cI cZ cL s) (hP : va_P D vwCl ws H) (hD : va_D A ws) (hS : va_S A H0 H locs) (q0 : Nat) (he : ws[q0]? = some (a, .inl (cI, n, .inl f))) (hi : i < n) (hn : n < 2 ^ 31) (hws : ws.set q0 (a, .inl (cI, n, .inl (upd f i x))) = ws') (hdg : decode cc pc = .ok (.iastore, 1))
    (kk : ∀ (H : Heap) (locs : List Loc), va_P D vwCl ws' H → va_S A H0 H locs → W p l e R s m args below meth c H locs cells slots Q (F0 m (pc + 1) ls rest)) : W p l e R s m args below meth c H locs cells slots Q (F0 m pc ls (.int x :: .int (nI i) :: .ref a :: rest)) :=
  va_iast hx hb hE.2 hP hD hS q0 0 he rfl (vp_in_nI hi hn) hdg (fun H1 locs1 hP1 hD1 hS1 => kk H1 locs1 (by rw [nI_clamp (by omega)] at hP1; exact hws ▸ hP1) hS1)
theorem q_zast {x : Int32} (hx : p.tables.exec = Jvm.exec) (hb : c.code = cc) (hE : EV D cI cZ cL s) (hP : va_P D vwCl ws H) (hD : va_D A ws) (hS : va_S A H0 H locs) (q0 : Nat) (he : ws[q0]? = some (a, .inl (cZ, n, .inl f))) (hi : i < n) (hn : n < 2 ^ 31) (hnx : vp_nar .boolean x = x) (hws : ws.set q0 (a, .inl (cZ, n, .inl (upd f i x))) = ws') (hdg : decode cc pc = .ok (.bastore, 1))
    (kk : ∀ (H : Heap) (locs : List Loc), va_P D vwCl ws' H → va_S A H0 H locs → W p l e R s m args below meth c H locs cells slots Q (F0 m (pc + 1) ls rest)) : W p l e R s m args below meth c H locs cells slots Q (F0 m pc ls (.int x :: .int (nI i) :: .ref a :: rest)) :=
  va_zast hx hb hE.2 hP hD hS q0 1 he rfl (vp_in_nI hi hn) hdg (fun H1 locs1 hP1 hD1 hS1 => kk H1 locs1 (by rw [nI_clamp (by omega), hnx] at hP1; exact hws ▸ hP1) hS1)
end Cells9
end
section
/-! worlds: the class (35 cells), the model (16 cells); S c i = what cell c holds at i -/
abbrev Mem : Type := Nat → Nat → Int32
def st (S : Mem) (c i : Nat) (x : Int32) : Mem := fun k => if k = c then upd (S k) i x else S k
def bI (b : Bool) : Int32 := if b = true then 1 else 0
def bt (x : Int32) : Int32 := 1 <<< (x &&& 31)
def ush (x y : Int32) : Int32 := (x.toUInt32 >>> (y.toUInt32 &&& Int32.toUInt32 31)).toInt32
def imax (x y : Int32) : Int32 := if x < y then y else x
def iN (x : Int32) : Nat := x.toNatClampNeg
theorem q_D {A : Nat → Prop} {ws ws' : va_W} (h : ws.map Prod.fst = ws'.map Prod.fst) (hD : va_D A ws) : va_D A ws' := by
  have key : ∀ (k : Nat) (q : Nat × va_E), ws'[k]? = some q → ∃ q0, ws[k]? = some q0 ∧ q0.1 = q.1 := by
    intro k q hk
    have h1 : (ws'.map Prod.fst)[k]? = some q.1 := by rw [List.getElem?_map, hk]; rfl
    rw [← h, List.getElem?_map] at h1
    cases h2 : ws[k]? with
    | none => rw [h2] at h1; cases h1
    | some q0 => rw [h2] at h1; exact ⟨q0, rfl, Option.some.inj h1⟩
  refine ⟨fun i j p q hi hj hpq => ?_, fun k q hk => ?_⟩
  · obtain ⟨p0, a1, a2⟩ := key i p hi
    obtain ⟨q0, b1, b2⟩ := key j q hj
    exact hD.1 i j p0 q0 a1 b1 (by rw [a2, b2]; exact hpq)
  · obtain ⟨q0, a1, a2⟩ := key k q hk
    rw [← a2]; exact hD.2 k q0 a1
theorem q_in {C : String} {T : u_T} {N : Nat} (ps : List Nat) (h : u_ws C T N = ps.filterMap (fun i => lw_tbl[i]?)) (hq : (u_ws C T N).all q_ok = true) : ∀ w ∈ u_ws C T N, w ∈ TW := by
  intro w hw
  have h1 := List.all_eq_true.mp hq w hw
  rw [h] at hw
  obtain ⟨i, -, hi⟩ := List.mem_filterMap.mp hw
  exact q_mem i hi h1
theorem n_eq {a b : Nat} (ha : a < 2 ^ 31) (hb : b < 2 ^ 31) (h : nI a = nI b) : a = b := (nI_eq ha hb).mp h
theorem n_ne {a b : Nat} (ha : a < 2 ^ 31) (hb : b < 2 ^ 31) (h : ¬ nI a = nI b) : ¬ a = b := fun q => h (by rw [q])
theorem n_le {a b : Nat} (ha : a < 2 ^ 31) (hb : b < 2 ^ 31) (h : nI a ≤ nI b) : a ≤ b := (nI_leI ha hb).mp h
theorem n_nle {a b : Nat} (ha : a < 2 ^ 31) (hb : b < 2 ^ 31) (h : ¬ nI a ≤ nI b) : b < a := Nat.lt_of_not_le fun q => h ((nI_leI ha hb).mpr q)
theorem n_lt {a b : Nat} (ha : a < 2 ^ 31) (hb : b < 2 ^ 31) (h : nI a < nI b) : a < b := (nI_ltI ha hb).mp h
theorem n_nlt {a b : Nat} (ha : a < 2 ^ 31) (hb : b < 2 ^ 31) (h : ¬ nI a < nI b) : b ≤ a := Nat.le_of_not_lt fun q => h ((nI_ltI ha hb).mpr q)
theorem b_f {b : Bool} (h : bI b = 0) : b = false := by cases b with | false => rfl | true => exact absurd h (by decide)
theorem b_t {b : Bool} (h : ¬ bI b = 0) : b = true := by cases b with | false => exact absurd rfl h | true => rfl
theorem n_bI (b : Bool) : narrow .boolean (.int (bI b)) = .int (bI b) := by cases b <;> decide
theorem v_bI (b : Bool) : vp_nar .boolean (bI b) = bI b := by cases b <;> decide
theorem iN_nI {n : Nat} (h : n < 2 ^ 31) : iN (nI n) = n := nI_clamp h
def wC (ad : Nat → Nat) (cI : ClassId) (S : Mem) : va_W := [(ad 0, .inr (5, [.ref (ad 1), .ref (ad 7), .ref (ad 12), .ref (ad 15), .ref (ad 18), .ref (ad 25), .ref (ad 32), .ref (ad 33), .ref (ad 34), .int (S 0 9), .int (S 0 10), .int (S 0 11)])), (ad 1, .inr (3, [.ref (ad 2), .ref (ad 3), .ref (ad 4), .ref (ad 5), .ref (ad 6), .int (S 1 5), .int (S 1 6)])), (ad 2, .inl (cI, 16, .inl (S 2))), (ad 3, .inl (cI, 16, .inl (S 3))), (ad 4, .inl (cI, 16, .inl (S 4))), (ad 5, .inl (cI, 16, .inl (S 5))), (ad 6, .inl (cI, 16, .inl (S 6))), (ad 7, .inr (0, [.ref (ad 8), .ref (ad 9), .ref (ad 10), .ref (ad 11), .int (S 7 4)])), (ad 8, .inl (cI, 200, .inl (S 8))), (ad 9, .inl (cI, 200, .inl (S 9))), (ad 10, .inl (cI, 200, .inl (S 10))), (ad 11, .inl (cI, 200, .inl (S 11))), (ad 12, .inr (4, [.ref (ad 13), .ref (ad 14)])), (ad 13, .inl (cI, 128, .inl (S 13))), (ad 14, .inl (cI, 384, .inl (S 14))), (ad 15, .inr (1, [.ref (ad 16), .ref (ad 17), .int (S 15 2)])), (ad 16, .inl (cI, 8, .inl (S 16))), (ad 17, .inl (cI, 8, .inl (S 17))), (ad 18, .inr (2, [.ref (ad 19), .ref (ad 20), .ref (ad 21), .ref (ad 22), .ref (ad 23), .ref (ad 24)])), (ad 19, .inl (cI, 8, .inl (S 19))), (ad 20, .inl (cI, 8, .inl (S 20))), (ad 21, .inl (cI, 128, .inl (S 21))), (ad 22, .inl (cI, 128, .inl (S 22))), (ad 23, .inl (cI, 64, .inl (S 23))), (ad 24, .inl (cI, 64, .inl (S 24))), (ad 25, .inr (2, [.ref (ad 26), .ref (ad 27), .ref (ad 28), .ref (ad 29), .ref (ad 30), .ref (ad 31)])), (ad 26, .inl (cI, 8, .inl (S 26))), (ad 27, .inl (cI, 8, .inl (S 27))), (ad 28, .inl (cI, 128, .inl (S 28))), (ad 29, .inl (cI, 128, .inl (S 29))), (ad 30, .inl (cI, 64, .inl (S 30))), (ad 31, .inl (cI, 64, .inl (S 31))), (ad 32, .inl (cI, 8, .inl (S 32))), (ad 33, .inl (cI, 8, .inl (S 33))), (ad 34, .inl (cI, 8, .inl (S 34)))]
theorem wC_D {ad : Nat → Nat} {cI : ClassId} {S S' : Mem} {A : Nat → Prop} (h : va_D A (wC ad cI S)) : va_D A (wC ad cI S') := q_D (ws := wC ad cI S) (ws' := wC ad cI S') rfl h
theorem wC_st_2 {ad : Nat → Nat} {cI : ClassId} {S : Mem} {i : Nat} {x : Int32} : (wC ad cI S).set 2 (ad 2, .inl (cI, 16, .inl (upd (S 2) i x))) = wC ad cI (st S 2 i x) := rfl
theorem wC_st_3 {ad : Nat → Nat} {cI : ClassId} {S : Mem} {i : Nat} {x : Int32} : (wC ad cI S).set 3 (ad 3, .inl (cI, 16, .inl (upd (S 3) i x))) = wC ad cI (st S 3 i x) := rfl
theorem wC_st_4 {ad : Nat → Nat} {cI : ClassId} {S : Mem} {i : Nat} {x : Int32} : (wC ad cI S).set 4 (ad 4, .inl (cI, 16, .inl (upd (S 4) i x))) = wC ad cI (st S 4 i x) := rfl
theorem wC_st_5 {ad : Nat → Nat} {cI : ClassId} {S : Mem} {i : Nat} {x : Int32} : (wC ad cI S).set 5 (ad 5, .inl (cI, 16, .inl (upd (S 5) i x))) = wC ad cI (st S 5 i x) := rfl
theorem wC_st_6 {ad : Nat → Nat} {cI : ClassId} {S : Mem} {i : Nat} {x : Int32} : (wC ad cI S).set 6 (ad 6, .inl (cI, 16, .inl (upd (S 6) i x))) = wC ad cI (st S 6 i x) := rfl
theorem wC_st_8 {ad : Nat → Nat} {cI : ClassId} {S : Mem} {i : Nat} {x : Int32} : (wC ad cI S).set 8 (ad 8, .inl (cI, 200, .inl (upd (S 8) i x))) = wC ad cI (st S 8 i x) := rfl
theorem wC_st_9 {ad : Nat → Nat} {cI : ClassId} {S : Mem} {i : Nat} {x : Int32} : (wC ad cI S).set 9 (ad 9, .inl (cI, 200, .inl (upd (S 9) i x))) = wC ad cI (st S 9 i x) := rfl
theorem wC_st_10 {ad : Nat → Nat} {cI : ClassId} {S : Mem} {i : Nat} {x : Int32} : (wC ad cI S).set 10 (ad 10, .inl (cI, 200, .inl (upd (S 10) i x))) = wC ad cI (st S 10 i x) := rfl
theorem wC_st_11 {ad : Nat → Nat} {cI : ClassId} {S : Mem} {i : Nat} {x : Int32} : (wC ad cI S).set 11 (ad 11, .inl (cI, 200, .inl (upd (S 11) i x))) = wC ad cI (st S 11 i x) := rfl
theorem wC_st_13 {ad : Nat → Nat} {cI : ClassId} {S : Mem} {i : Nat} {x : Int32} : (wC ad cI S).set 13 (ad 13, .inl (cI, 128, .inl (upd (S 13) i x))) = wC ad cI (st S 13 i x) := rfl
theorem wC_st_14 {ad : Nat → Nat} {cI : ClassId} {S : Mem} {i : Nat} {x : Int32} : (wC ad cI S).set 14 (ad 14, .inl (cI, 384, .inl (upd (S 14) i x))) = wC ad cI (st S 14 i x) := rfl
theorem wC_st_16 {ad : Nat → Nat} {cI : ClassId} {S : Mem} {i : Nat} {x : Int32} : (wC ad cI S).set 16 (ad 16, .inl (cI, 8, .inl (upd (S 16) i x))) = wC ad cI (st S 16 i x) := rfl
theorem wC_st_17 {ad : Nat → Nat} {cI : ClassId} {S : Mem} {i : Nat} {x : Int32} : (wC ad cI S).set 17 (ad 17, .inl (cI, 8, .inl (upd (S 17) i x))) = wC ad cI (st S 17 i x) := rfl
theorem wC_st_19 {ad : Nat → Nat} {cI : ClassId} {S : Mem} {i : Nat} {x : Int32} : (wC ad cI S).set 19 (ad 19, .inl (cI, 8, .inl (upd (S 19) i x))) = wC ad cI (st S 19 i x) := rfl
theorem wC_st_20 {ad : Nat → Nat} {cI : ClassId} {S : Mem} {i : Nat} {x : Int32} : (wC ad cI S).set 20 (ad 20, .inl (cI, 8, .inl (upd (S 20) i x))) = wC ad cI (st S 20 i x) := rfl
theorem wC_st_21 {ad : Nat → Nat} {cI : ClassId} {S : Mem} {i : Nat} {x : Int32} : (wC ad cI S).set 21 (ad 21, .inl (cI, 128, .inl (upd (S 21) i x))) = wC ad cI (st S 21 i x) := rfl
theorem wC_st_22 {ad : Nat → Nat} {cI : ClassId} {S : Mem} {i : Nat} {x : Int32} : (wC ad cI S).set 22 (ad 22, .inl (cI, 128, .inl (upd (S 22) i x))) = wC ad cI (st S 22 i x) := rfl
theorem wC_st_23 {ad : Nat → Nat} {cI : ClassId} {S : Mem} {i : Nat} {x : Int32} : (wC ad cI S).set 23 (ad 23, .inl (cI, 64, .inl (upd (S 23) i x))) = wC ad cI (st S 23 i x) := rfl
theorem wC_st_24 {ad : Nat → Nat} {cI : ClassId} {S : Mem} {i : Nat} {x : Int32} : (wC ad cI S).set 24 (ad 24, .inl (cI, 64, .inl (upd (S 24) i x))) = wC ad cI (st S 24 i x) := rfl
theorem wC_st_26 {ad : Nat → Nat} {cI : ClassId} {S : Mem} {i : Nat} {x : Int32} : (wC ad cI S).set 26 (ad 26, .inl (cI, 8, .inl (upd (S 26) i x))) = wC ad cI (st S 26 i x) := rfl
theorem wC_st_27 {ad : Nat → Nat} {cI : ClassId} {S : Mem} {i : Nat} {x : Int32} : (wC ad cI S).set 27 (ad 27, .inl (cI, 8, .inl (upd (S 27) i x))) = wC ad cI (st S 27 i x) := rfl
theorem wC_st_28 {ad : Nat → Nat} {cI : ClassId} {S : Mem} {i : Nat} {x : Int32} : (wC ad cI S).set 28 (ad 28, .inl (cI, 128, .inl (upd (S 28) i x))) = wC ad cI (st S 28 i x) := rfl
theorem wC_st_29 {ad : Nat → Nat} {cI : ClassId} {S : Mem} {i : Nat} {x : Int32} : (wC ad cI S).set 29 (ad 29, .inl (cI, 128, .inl (upd (S 29) i x))) = wC ad cI (st S 29 i x) := rfl
theorem wC_st_30 {ad : Nat → Nat} {cI : ClassId} {S : Mem} {i : Nat} {x : Int32} : (wC ad cI S).set 30 (ad 30, .inl (cI, 64, .inl (upd (S 30) i x))) = wC ad cI (st S 30 i x) := rfl
theorem wC_st_31 {ad : Nat → Nat} {cI : ClassId} {S : Mem} {i : Nat} {x : Int32} : (wC ad cI S).set 31 (ad 31, .inl (cI, 64, .inl (upd (S 31) i x))) = wC ad cI (st S 31 i x) := rfl
theorem wC_st_32 {ad : Nat → Nat} {cI : ClassId} {S : Mem} {i : Nat} {x : Int32} : (wC ad cI S).set 32 (ad 32, .inl (cI, 8, .inl (upd (S 32) i x))) = wC ad cI (st S 32 i x) := rfl
theorem wC_st_33 {ad : Nat → Nat} {cI : ClassId} {S : Mem} {i : Nat} {x : Int32} : (wC ad cI S).set 33 (ad 33, .inl (cI, 8, .inl (upd (S 33) i x))) = wC ad cI (st S 33 i x) := rfl
theorem wC_st_34 {ad : Nat → Nat} {cI : ClassId} {S : Mem} {i : Nat} {x : Int32} : (wC ad cI S).set 34 (ad 34, .inl (cI, 8, .inl (upd (S 34) i x))) = wC ad cI (st S 34 i x) := rfl
def wM (am : Nat → Nat) (cI cZ : ClassId) (M : Mem) : va_W := [(am 0, .inr (6, [.int (M 0 0), .int (M 0 1), .int (M 0 2), .ref (am 1), .ref (am 2), .ref (am 3), .ref (am 4), .ref (am 5), .int (M 0 8), .ref (am 6), .ref (am 7), .ref (am 8), .ref (am 9), .ref (am 10), .int (M 0 14), .ref (am 11), .ref (am 12), .ref (am 13), .ref (am 14), .int (M 0 19), .ref (am 15), .int (M 0 21)])), (am 1, .inl (cI, 16, .inl (M 1))), (am 2, .inl (cI, 16, .inl (M 2))), (am 3, .inl (cI, 16, .inl (M 3))), (am 4, .inl (cI, 16, .inl (M 4))), (am 5, .inl (cI, 16, .inl (M 5))), (am 6, .inl (cI, 128, .inl (M 6))), (am 7, .inl (cZ, 128, .inl (M 7))), (am 8, .inl (cZ, 128, .inl (M 8))), (am 9, .inl (cI, 128, .inl (M 9))), (am 10, .inl (cI, 128, .inl (M 10))), (am 11, .inl (cI, 200, .inl (M 11))), (am 12, .inl (cI, 200, .inl (M 12))), (am 13, .inl (cI, 200, .inl (M 13))), (am 14, .inl (cZ, 64, .inl (M 14))), (am 15, .inl (cI, 8, .inl (M 15)))]
theorem wM_D {am : Nat → Nat} {cI cZ : ClassId} {S S' : Mem} {A : Nat → Prop} (h : va_D A (wM am cI cZ S)) : va_D A (wM am cI cZ S') := q_D (ws := wM am cI cZ S) (ws' := wM am cI cZ S') rfl h
theorem wM_st_1 {am : Nat → Nat} {cI cZ : ClassId} {S : Mem} {i : Nat} {x : Int32} : (wM am cI cZ S).set 1 (am 1, .inl (cI, 16, .inl (upd (S 1) i x))) = wM am cI cZ (st S 1 i x) := rfl
theorem wM_st_2 {am : Nat → Nat} {cI cZ : ClassId} {S : Mem} {i : Nat} {x : Int32} : (wM am cI cZ S).set 2 (am 2, .inl (cI, 16, .inl (upd (S 2) i x))) = wM am cI cZ (st S 2 i x) := rfl
theorem wM_st_3 {am : Nat → Nat} {cI cZ : ClassId} {S : Mem} {i : Nat} {x : Int32} : (wM am cI cZ S).set 3 (am 3, .inl (cI, 16, .inl (upd (S 3) i x))) = wM am cI cZ (st S 3 i x) := rfl
theorem wM_st_4 {am : Nat → Nat} {cI cZ : ClassId} {S : Mem} {i : Nat} {x : Int32} : (wM am cI cZ S).set 4 (am 4, .inl (cI, 16, .inl (upd (S 4) i x))) = wM am cI cZ (st S 4 i x) := rfl
theorem wM_st_5 {am : Nat → Nat} {cI cZ : ClassId} {S : Mem} {i : Nat} {x : Int32} : (wM am cI cZ S).set 5 (am 5, .inl (cI, 16, .inl (upd (S 5) i x))) = wM am cI cZ (st S 5 i x) := rfl
theorem wM_st_6 {am : Nat → Nat} {cI cZ : ClassId} {S : Mem} {i : Nat} {x : Int32} : (wM am cI cZ S).set 6 (am 6, .inl (cI, 128, .inl (upd (S 6) i x))) = wM am cI cZ (st S 6 i x) := rfl
theorem wM_st_7 {am : Nat → Nat} {cI cZ : ClassId} {S : Mem} {i : Nat} {x : Int32} : (wM am cI cZ S).set 7 (am 7, .inl (cZ, 128, .inl (upd (S 7) i x))) = wM am cI cZ (st S 7 i x) := rfl
theorem wM_st_8 {am : Nat → Nat} {cI cZ : ClassId} {S : Mem} {i : Nat} {x : Int32} : (wM am cI cZ S).set 8 (am 8, .inl (cZ, 128, .inl (upd (S 8) i x))) = wM am cI cZ (st S 8 i x) := rfl
theorem wM_st_9 {am : Nat → Nat} {cI cZ : ClassId} {S : Mem} {i : Nat} {x : Int32} : (wM am cI cZ S).set 9 (am 9, .inl (cI, 128, .inl (upd (S 9) i x))) = wM am cI cZ (st S 9 i x) := rfl
theorem wM_st_10 {am : Nat → Nat} {cI cZ : ClassId} {S : Mem} {i : Nat} {x : Int32} : (wM am cI cZ S).set 10 (am 10, .inl (cI, 128, .inl (upd (S 10) i x))) = wM am cI cZ (st S 10 i x) := rfl
theorem wM_st_11 {am : Nat → Nat} {cI cZ : ClassId} {S : Mem} {i : Nat} {x : Int32} : (wM am cI cZ S).set 11 (am 11, .inl (cI, 200, .inl (upd (S 11) i x))) = wM am cI cZ (st S 11 i x) := rfl
theorem wM_st_12 {am : Nat → Nat} {cI cZ : ClassId} {S : Mem} {i : Nat} {x : Int32} : (wM am cI cZ S).set 12 (am 12, .inl (cI, 200, .inl (upd (S 12) i x))) = wM am cI cZ (st S 12 i x) := rfl
theorem wM_st_13 {am : Nat → Nat} {cI cZ : ClassId} {S : Mem} {i : Nat} {x : Int32} : (wM am cI cZ S).set 13 (am 13, .inl (cI, 200, .inl (upd (S 13) i x))) = wM am cI cZ (st S 13 i x) := rfl
theorem wM_st_14 {am : Nat → Nat} {cI cZ : ClassId} {S : Mem} {i : Nat} {x : Int32} : (wM am cI cZ S).set 14 (am 14, .inl (cZ, 64, .inl (upd (S 14) i x))) = wM am cI cZ (st S 14 i x) := rfl
theorem wM_st_15 {am : Nat → Nat} {cI cZ : ClassId} {S : Mem} {i : Nat} {x : Int32} : (wM am cI cZ S).set 15 (am 15, .inl (cI, 8, .inl (upd (S 15) i x))) = wM am cI cZ (st S 15 i x) := rfl
theorem inT_X5 : ∀ w ∈ u_ws RX5 TX5 12, w ∈ TW := q_in [224, 226, 228, 230, 232, 234, 236, 238, 240, 242, 244, 246] (by decide +kernel) (by decide +kernel)
theorem inT_X0 : ∀ w ∈ u_ws RX0 TX0 5, w ∈ TW := q_in [137, 139, 141, 143, 145] (by decide +kernel) (by decide +kernel)
theorem inT_X1 : ∀ w ∈ u_ws RX1 TX1 3, w ∈ TW := q_in [174, 176, 178] (by decide +kernel) (by decide +kernel)
theorem inT_X2 : ∀ w ∈ u_ws RX2 TX2 6, w ∈ TW := q_in [199, 201, 203, 205, 207, 209] (by decide +kernel) (by decide +kernel)
theorem inT_X3 : ∀ w ∈ u_ws RX3 TX3 7, w ∈ TW := q_in [105, 107, 109, 111, 113, 115, 117] (by decide +kernel) (by decide +kernel)
theorem inT_X4 : ∀ w ∈ u_ws RX4 TX4 2, w ∈ TW := q_in [158, 160] (by decide +kernel) (by decide +kernel)
theorem inT_X6 : ∀ w ∈ u_ws RX6 TX6 22, w ∈ TW := q_in [780, 782, 784, 786, 788, 790, 792, 794, 796, 798, 800, 802, 804, 806, 808, 810, 812, 814, 816, 818, 820, 822] (by decide +kernel) (by decide +kernel)
section W09
variable {p : Program} {l : Launch} {e : Env} {R : Room} {s : State} {m : MethodId} {args : Array Value} {below : List Frame} {meth : Method} {c : Code} {H : Heap} {locs : List Loc} {cells slots : Nat} {Q : State → Prop}
variable {pc : Nat} {ls : Array Slot} {rest st0 : List Value} {A : Nat → Prop} {H0 : Heap} {D : va_G} {ws' : va_W}
theorem q_w0 {v : Value} (hr : va_Run p l e R s m args below meth c H locs cells slots 0 0 (F0 m pc ls st0) rest (fun st oc t => oc = .returned (some v) ∧ va_P D vwCl ws' t.heap ∧ va_F A st t) A) (hS : va_S A H0 H locs)
    (kk : ∀ (H : Heap) (locs : List Loc), va_P D vwCl ws' H → va_S A H0 H locs → W p l e R s m args below meth c H locs cells slots Q (F0 m (pc + 3) ls (v :: rest))) : W p l e R s m args below meth c H locs cells slots Q (F0 m pc ls st0) := q_wr hr hS kk
theorem q_w0v (hr : va_Run p l e R s m args below meth c H locs cells slots 0 0 (F0 m pc ls st0) rest (fun st oc t => oc = .returned none ∧ va_P D vwCl ws' t.heap ∧ va_F A st t) A) (hS : va_S A H0 H locs)
    (kk : ∀ (H : Heap) (locs : List Loc), va_P D vwCl ws' H → va_S A H0 H locs → W p l e R s m args below meth c H locs cells slots Q (F0 m (pc + 3) ls rest)) : W p l e R s m args below meth c H locs cells slots Q (F0 m pc ls st0) := q_wrv hr hS kk
end W09
end
section
/-! words of the tables, by their places; what each method needs to be called -/
theorem w_0 : Cond.selects "PuzzleRegistry" yX5_rateTeams yX5_rateTeams ∈ TW := q_mem 0 (by decide +kernel) rfl
theorem w_1 : Cond.selects "PuzzleRegistry" yX5_countingSet yX5_countingSet ∈ TW := q_mem 1 (by decide +kernel) rfl
theorem w_2 : Cond.selects "PuzzleRegistry" yX5_voidSet yX5_voidSet ∈ TW := q_mem 2 (by decide +kernel) rfl
theorem w_3 : Cond.selects "PuzzleRegistry" yX5_cheatedSet yX5_cheatedSet ∈ TW := q_mem 3 (by decide +kernel) rfl
theorem w_4 : Cond.selects "PuzzleRegistry$Judge" yX1_links yX1_links ∈ TW := q_mem 4 (by decide +kernel) rfl
theorem w_5 : Cond.selects "PuzzleRegistry$Riddles" yX3_spread yX3_spread ∈ TW := q_mem 5 (by decide +kernel) rfl
theorem w_6 : Cond.selects "PuzzleRegistry" yX5_freeSet yX5_freeSet ∈ TW := q_mem 6 (by decide +kernel) rfl
theorem w_7 : Cond.selects "PuzzleRegistry" yX5_sumUp yX5_sumUp ∈ TW := q_mem 7 (by decide +kernel) rfl
theorem w_8 : Cond.selects "PuzzleRegistry$Records" yX2_lastSolveMinute yX2_lastSolveMinute ∈ TW := q_mem 8 (by decide +kernel) rfl
theorem w_9 : Cond.selects "PuzzleRegistry" yX5_countBetter yX5_countBetter ∈ TW := q_mem 9 (by decide +kernel) rfl
theorem w_10 : Cond.selects "PuzzleRegistry" yX5_countAlike yX5_countAlike ∈ TW := q_mem 10 (by decide +kernel) rfl
theorem w_12 : Cond.selects "PuzzleRegistry$Riddles" yX3_append yX3_append ∈ TW := q_mem 12 (by decide +kernel) rfl
theorem w_13 : Cond.selects "PuzzleRegistry" yX5_requireRiddle yX5_requireRiddle ∈ TW := q_mem 13 (by decide +kernel) rfl
theorem w_14 : Cond.selects "PuzzleRegistry" yX5_requireTeam yX5_requireTeam ∈ TW := q_mem 14 (by decide +kernel) rfl
theorem w_15 : Cond.selects "PuzzleRegistry" yX5_isUnderWay yX5_isUnderWay ∈ TW := q_mem 15 (by decide +kernel) rfl
theorem w_16 : Cond.selects "PuzzleRegistry" yX5_openMinute yX5_openMinute ∈ TW := q_mem 16 (by decide +kernel) rfl
theorem w_17 : Cond.selects "PuzzleRegistry" yX5_noteSolved yX5_noteSolved ∈ TW := q_mem 17 (by decide +kernel) rfl
theorem w_18 : Cond.selects "PuzzleRegistry$Records" yX2_solve yX2_solve ∈ TW := q_mem 18 (by decide +kernel) rfl
theorem w_19 : Cond.selects "PuzzleRegistry" yX5_noteWrong yX5_noteWrong ∈ TW := q_mem 19 (by decide +kernel) rfl
theorem w_20 : Cond.selects "PuzzleRegistry$Answers" yX0_giversOf yX0_giversOf ∈ TW := q_mem 20 (by decide +kernel) rfl
theorem w_21 : Cond.selects "PuzzleRegistry$Records" yX2_noteCommon yX2_noteCommon ∈ TW := q_mem 21 (by decide +kernel) rfl
theorem w_22 : Cond.selects "PuzzleRegistry$Answers" yX0_append yX0_append ∈ TW := q_mem 22 (by decide +kernel) rfl
theorem w_23 : Cond.selects "PuzzleRegistry" yX5_hasHintsLeft yX5_hasHintsLeft ∈ TW := q_mem 23 (by decide +kernel) rfl
theorem w_24 : Cond.selects "PuzzleRegistry" yX5_nextPrice yX5_nextPrice ∈ TW := q_mem 24 (by decide +kernel) rfl
theorem w_25 : Cond.selects "PuzzleRegistry$Sales" yX4_countBuyers yX4_countBuyers ∈ TW := q_mem 25 (by decide +kernel) rfl
theorem w_26 : Cond.selects "PuzzleRegistry$Sales" yX4_append yX4_append ∈ TW := q_mem 26 (by decide +kernel) rfl
theorem w_27 : Cond.selects "PuzzleRegistry$Records" yX2_pay yX2_pay ∈ TW := q_mem 27 (by decide +kernel) rfl
theorem w_28 : Cond.selects "PuzzleRegistry$Judge" yX1_switchPardon yX1_switchPardon ∈ TW := q_mem 28 (by decide +kernel) rfl
theorem w_29 : Cond.selects "PuzzleRegistry$Riddles" yX3_hangingOn yX3_hangingOn ∈ TW := q_mem 29 (by decide +kernel) rfl
theorem w_30 : Cond.selects "PuzzleRegistry$Records" yX2_wipe yX2_wipe ∈ TW := q_mem 30 (by decide +kernel) rfl
theorem w_31 : Cond.selects "PuzzleRegistry" yX5_replaySolutions yX5_replaySolutions ∈ TW := q_mem 31 (by decide +kernel) rfl
theorem w_32 : Cond.selects "PuzzleRegistry" yX5_isRight yX5_isRight ∈ TW := q_mem 32 (by decide +kernel) rfl
theorem w_33 : Cond.selects "PuzzleRegistry" yX5_comparePairs yX5_comparePairs ∈ TW := q_mem 33 (by decide +kernel) rfl
theorem w_34 : Cond.selects "PuzzleRegistry$Answers" yX0_isRepeated yX0_isRepeated ∈ TW := q_mem 34 (by decide +kernel) rfl
theorem w_35 : Cond.selects "PuzzleRegistry$Answers" yX0_areSame yX0_areSame ∈ TW := q_mem 35 (by decide +kernel) rfl
theorem w_36 : Cond.selects "PuzzleRegistry" yX5_compareWithOthers yX5_compareWithOthers ∈ TW := q_mem 36 (by decide +kernel) rfl
theorem w_37 : Cond.selects "PuzzleRegistry" yX5_replaySales yX5_replaySales ∈ TW := q_mem 37 (by decide +kernel) rfl
theorem w_38 : Cond.selects "PuzzleRegistry" yX5_sumPrizes yX5_sumPrizes ∈ TW := q_mem 38 (by decide +kernel) rfl
theorem w_39 : Cond.selects "PuzzleRegistryModel" yX6_goes yX6_goes ∈ TW := q_mem 39 (by decide +kernel) rfl
theorem w_40 : Cond.selects "PuzzleRegistryModel" yX6_isRiddle yX6_isRiddle ∈ TW := q_mem 40 (by decide +kernel) rfl
theorem w_41 : Cond.selects "PuzzleRegistryModel" yX6_doesNeed yX6_doesNeed ∈ TW := q_mem 41 (by decide +kernel) rfl
theorem w_42 : Cond.selects "PuzzleRegistryModel" yX6_isTouched yX6_isTouched ∈ TW := q_mem 42 (by decide +kernel) rfl
theorem w_43 : Cond.selects "PuzzleRegistryModel" yX6_isOpenToAll yX6_isOpenToAll ∈ TW := q_mem 43 (by decide +kernel) rfl
theorem w_44 : Cond.selects "PuzzleRegistryModel" yX6_wrong yX6_wrong ∈ TW := q_mem 44 (by decide +kernel) rfl
theorem w_45 : Cond.selects "PuzzleRegistryModel" yX6_isTeam yX6_isTeam ∈ TW := q_mem 45 (by decide +kernel) rfl
theorem w_46 : Cond.selects "PuzzleRegistryModel" yX6_isDone yX6_isDone ∈ TW := q_mem 46 (by decide +kernel) rfl
theorem w_47 : Cond.selects "PuzzleRegistryModel" yX6_opened yX6_opened ∈ TW := q_mem 47 (by decide +kernel) rfl
theorem w_48 : Cond.selects "PuzzleRegistryModel" yX6_priceOf yX6_priceOf ∈ TW := q_mem 48 (by decide +kernel) rfl
theorem w_49 : Cond.selects "PuzzleRegistryModel" yX6_likenessOf yX6_likenessOf ∈ TW := q_mem 49 (by decide +kernel) rfl
theorem w_50 : Cond.selects "PuzzleRegistryModel" yX6_isCommon yX6_isCommon ∈ TW := q_mem 50 (by decide +kernel) rfl
theorem w_51 : Cond.selects "PuzzleRegistryModel" yX6_gave yX6_gave ∈ TW := q_mem 51 (by decide +kernel) rfl
theorem w_52 : Cond.selects "PuzzleRegistryModel" yX6_are yX6_are ∈ TW := q_mem 52 (by decide +kernel) rfl
theorem w_53 : Cond.selects "PuzzleRegistryModel" yX6_cheated yX6_cheated ∈ TW := q_mem 53 (by decide +kernel) rfl
theorem w_54 : Cond.selects "PuzzleRegistryModel" yX6_voids yX6_voids ∈ TW := q_mem 54 (by decide +kernel) rfl
theorem w_55 : Cond.selects "PuzzleRegistryModel" yX6_scored yX6_scored ∈ TW := q_mem 55 (by decide +kernel) rfl
theorem w_56 : Cond.selects "PuzzleRegistryModel" yX6_scoreOf yX6_scoreOf ∈ TW := q_mem 56 (by decide +kernel) rfl
theorem w_57 : Cond.selects "PuzzleRegistryModel" yX6_counting yX6_counting ∈ TW := q_mem 57 (by decide +kernel) rfl
theorem w_58 : Cond.selects "PuzzleRegistryModel" yX6_ahead yX6_ahead ∈ TW := q_mem 58 (by decide +kernel) rfl
theorem w_59 : Cond.selects "PuzzleRegistryModel" yX6_lastOf yX6_lastOf ∈ TW := q_mem 59 (by decide +kernel) rfl
theorem w_60 : Cond.initialized "PuzzleRegistryLaw" ∈ TW := q_mem 60 (by decide +kernel) rfl
theorem w_61 : Cond.initialized "PuzzleRegistry" ∈ TW := q_mem 61 (by decide +kernel) rfl
theorem w_62 : Cond.initialized "PuzzleRegistry$Riddles" ∈ TW := q_mem 62 (by decide +kernel) rfl
theorem w_63 : Cond.initialized "PuzzleRegistry$Answers" ∈ TW := q_mem 63 (by decide +kernel) rfl
theorem w_64 : Cond.initialized "PuzzleRegistry$Sales" ∈ TW := q_mem 64 (by decide +kernel) rfl
theorem w_65 : Cond.initialized "PuzzleRegistry$Judge" ∈ TW := q_mem 65 (by decide +kernel) rfl
theorem w_66 : Cond.initialized "PuzzleRegistry$Records" ∈ TW := q_mem 66 (by decide +kernel) rfl
theorem w_67 : Cond.initialized "PuzzleRegistryModel" ∈ TW := q_mem 67 (by decide +kernel) rfl
theorem w_69 : Cond.initialized "java/lang/Exception" ∈ TW := q_mem 69 (by decide +kernel) rfl
theorem w_70 : Cond.initialized "java/lang/RuntimeException" ∈ TW := q_mem 70 (by decide +kernel) rfl
theorem w_71 : Cond.initialized "java/lang/IllegalArgumentException" ∈ TW := q_mem 71 (by decide +kernel) rfl
theorem w_72 : Cond.initialized "java/lang/IllegalStateException" ∈ TW := q_mem 72 (by decide +kernel) rfl
theorem w_73 : Cond.initialized "java/lang/IndexOutOfBoundsException" ∈ TW := q_mem 73 (by decide +kernel) rfl
theorem w_74 : Cond.initialized "java/lang/Integer" ∈ TW := q_mem 74 (by decide +kernel) rfl
theorem w_75 : Cond.initialized "java/lang/Math" ∈ TW := q_mem 75 (by decide +kernel) rfl
theorem w_76 : Cond.initialized "java/util/NoSuchElementException" ∈ TW := q_mem 76 (by decide +kernel) rfl
theorem w_77 : Cond.initialized "java/util/Arrays" ∈ TW := q_mem 77 (by decide +kernel) rfl
theorem w_78 : Cond.classLink "PuzzleRegistryLaw" 8 "PuzzleRegistry" ∈ TW := q_mem 78 (by decide +kernel) rfl
theorem w_79 : Cond.instantiable "PuzzleRegistry" 12 ∈ TW := q_mem 79 (by decide +kernel) rfl
theorem w_80 : Cond.methodLink "PuzzleRegistryLaw" 96 yX5_init ∈ TW := q_mem 80 (by decide +kernel) rfl
theorem w_81 : Cond.instanceMethod yX5_init ∈ TW := q_mem 81 (by decide +kernel) rfl
theorem w_82 : Cond.code yX5_init cX5_init 1 none ∈ TW := q_mem 82 (by decide +kernel) rfl
theorem w_83 : Cond.methodLink "PuzzleRegistry" 1 ⟨"java/lang/Object", "<init>", "()V"⟩ ∈ TW := q_mem 83 (by decide +kernel) rfl
theorem w_84 : Cond.instanceMethod ⟨"java/lang/Object", "<init>", "()V"⟩ ∈ TW := q_mem 84 (by decide +kernel) rfl
theorem w_85 : Cond.code ⟨"java/lang/Object", "<init>", "()V"⟩ object_method_1_code 1 none ∈ TW := q_mem 85 (by decide +kernel) rfl
theorem w_86 : Cond.classLink "PuzzleRegistry" 7 "PuzzleRegistry$Riddles" ∈ TW := q_mem 86 (by decide +kernel) rfl
theorem w_87 : Cond.instantiable "PuzzleRegistry$Riddles" 7 ∈ TW := q_mem 87 (by decide +kernel) rfl
theorem w_88 : Cond.methodLinkNest "PuzzleRegistry" 9 yX3_init "PuzzleRegistry" ∈ TW := q_mem 88 (by decide +kernel) rfl
theorem w_89 : Cond.instanceMethod yX3_init ∈ TW := q_mem 89 (by decide +kernel) rfl
theorem w_90 : Cond.code yX3_init cX3_init 1 none ∈ TW := q_mem 90 (by decide +kernel) rfl
theorem w_91 : Cond.methodLink "PuzzleRegistry$Riddles" 3 ⟨"java/lang/Object", "<init>", "()V"⟩ ∈ TW := q_mem 91 (by decide +kernel) rfl
theorem w_92 : Cond.fieldLink "PuzzleRegistry$Riddles" 9 "PuzzleRegistry$Riddles" "points" "[I" ∈ TW := q_mem 92 (by decide +kernel) rfl
theorem w_93 : Cond.fieldLinkNest "PuzzleRegistry" 293 "PuzzleRegistry$Riddles" "points" "[I" "PuzzleRegistry" ∈ TW := q_mem 93 (by decide +kernel) rfl
theorem w_94 : Cond.fieldLink "PuzzleRegistry$Riddles" 15 "PuzzleRegistry$Riddles" "keys" "[I" ∈ TW := q_mem 94 (by decide +kernel) rfl
theorem w_95 : Cond.fieldLinkNest "PuzzleRegistry" 135 "PuzzleRegistry$Riddles" "keys" "[I" "PuzzleRegistry" ∈ TW := q_mem 95 (by decide +kernel) rfl
theorem w_96 : Cond.fieldLink "PuzzleRegistry$Riddles" 18 "PuzzleRegistry$Riddles" "leastTimes" "[I" ∈ TW := q_mem 96 (by decide +kernel) rfl
theorem w_97 : Cond.fieldLinkNest "PuzzleRegistry" 274 "PuzzleRegistry$Riddles" "leastTimes" "[I" "PuzzleRegistry" ∈ TW := q_mem 97 (by decide +kernel) rfl
theorem w_98 : Cond.fieldLink "PuzzleRegistry$Riddles" 21 "PuzzleRegistry$Riddles" "firstPrices" "[I" ∈ TW := q_mem 98 (by decide +kernel) rfl
theorem w_99 : Cond.fieldLinkNest "PuzzleRegistry" 266 "PuzzleRegistry$Riddles" "firstPrices" "[I" "PuzzleRegistry" ∈ TW := q_mem 99 (by decide +kernel) rfl
theorem w_100 : Cond.fieldLink "PuzzleRegistry$Riddles" 24 "PuzzleRegistry$Riddles" "needs" "[I" ∈ TW := q_mem 100 (by decide +kernel) rfl
theorem w_101 : Cond.fieldLinkNest "PuzzleRegistry" 101 "PuzzleRegistry$Riddles" "needs" "[I" "PuzzleRegistry" ∈ TW := q_mem 101 (by decide +kernel) rfl
theorem w_102 : Cond.fieldLinkNest "PuzzleRegistry" 94 "PuzzleRegistry$Riddles" "touched" "I" "PuzzleRegistry" ∈ TW := q_mem 102 (by decide +kernel) rfl
theorem w_103 : Cond.fieldLink "PuzzleRegistry$Riddles" 27 "PuzzleRegistry$Riddles" "count" "I" ∈ TW := q_mem 103 (by decide +kernel) rfl
theorem w_104 : Cond.fieldLinkNest "PuzzleRegistry" 76 "PuzzleRegistry$Riddles" "count" "I" "PuzzleRegistry" ∈ TW := q_mem 104 (by decide +kernel) rfl
theorem w_120 : Cond.arrayClass .int ∈ TW := q_mem 120 (by decide +kernel) rfl
theorem w_121 : Cond.classLink "PuzzleRegistry" 16 "PuzzleRegistry$Answers" ∈ TW := q_mem 121 (by decide +kernel) rfl
theorem w_122 : Cond.instantiable "PuzzleRegistry$Answers" 5 ∈ TW := q_mem 122 (by decide +kernel) rfl
theorem w_123 : Cond.methodLinkNest "PuzzleRegistry" 18 yX0_init "PuzzleRegistry" ∈ TW := q_mem 123 (by decide +kernel) rfl
theorem w_124 : Cond.instanceMethod yX0_init ∈ TW := q_mem 124 (by decide +kernel) rfl
theorem w_125 : Cond.code yX0_init cX0_init 1 none ∈ TW := q_mem 125 (by decide +kernel) rfl
theorem w_126 : Cond.methodLink "PuzzleRegistry$Answers" 3 ⟨"java/lang/Object", "<init>", "()V"⟩ ∈ TW := q_mem 126 (by decide +kernel) rfl
theorem w_127 : Cond.fieldLink "PuzzleRegistry$Answers" 9 "PuzzleRegistry$Answers" "teams" "[I" ∈ TW := q_mem 127 (by decide +kernel) rfl
theorem w_128 : Cond.fieldLinkNest "PuzzleRegistry" 303 "PuzzleRegistry$Answers" "teams" "[I" "PuzzleRegistry" ∈ TW := q_mem 128 (by decide +kernel) rfl
theorem w_129 : Cond.fieldLink "PuzzleRegistry$Answers" 15 "PuzzleRegistry$Answers" "riddles" "[I" ∈ TW := q_mem 129 (by decide +kernel) rfl
theorem w_130 : Cond.fieldLinkNest "PuzzleRegistry" 306 "PuzzleRegistry$Answers" "riddles" "[I" "PuzzleRegistry" ∈ TW := q_mem 130 (by decide +kernel) rfl
theorem w_131 : Cond.fieldLink "PuzzleRegistry$Answers" 18 "PuzzleRegistry$Answers" "words" "[I" ∈ TW := q_mem 131 (by decide +kernel) rfl
theorem w_132 : Cond.fieldLinkNest "PuzzleRegistry" 327 "PuzzleRegistry$Answers" "words" "[I" "PuzzleRegistry" ∈ TW := q_mem 132 (by decide +kernel) rfl
theorem w_133 : Cond.fieldLink "PuzzleRegistry$Answers" 21 "PuzzleRegistry$Answers" "minutes" "[I" ∈ TW := q_mem 133 (by decide +kernel) rfl
theorem w_134 : Cond.fieldLinkNest "PuzzleRegistry" 308 "PuzzleRegistry$Answers" "minutes" "[I" "PuzzleRegistry" ∈ TW := q_mem 134 (by decide +kernel) rfl
theorem w_135 : Cond.fieldLink "PuzzleRegistry$Answers" 24 "PuzzleRegistry$Answers" "count" "I" ∈ TW := q_mem 135 (by decide +kernel) rfl
theorem w_136 : Cond.fieldLinkNest "PuzzleRegistry" 132 "PuzzleRegistry$Answers" "count" "I" "PuzzleRegistry" ∈ TW := q_mem 136 (by decide +kernel) rfl
theorem w_148 : Cond.classLink "PuzzleRegistry" 23 "PuzzleRegistry$Sales" ∈ TW := q_mem 148 (by decide +kernel) rfl
theorem w_149 : Cond.instantiable "PuzzleRegistry$Sales" 2 ∈ TW := q_mem 149 (by decide +kernel) rfl
theorem w_150 : Cond.methodLinkNest "PuzzleRegistry" 25 yX4_init "PuzzleRegistry" ∈ TW := q_mem 150 (by decide +kernel) rfl
theorem w_151 : Cond.instanceMethod yX4_init ∈ TW := q_mem 151 (by decide +kernel) rfl
theorem w_152 : Cond.code yX4_init cX4_init 1 none ∈ TW := q_mem 152 (by decide +kernel) rfl
theorem w_153 : Cond.methodLink "PuzzleRegistry$Sales" 3 ⟨"java/lang/Object", "<init>", "()V"⟩ ∈ TW := q_mem 153 (by decide +kernel) rfl
theorem w_154 : Cond.fieldLink "PuzzleRegistry$Sales" 9 "PuzzleRegistry$Sales" "bought" "[I" ∈ TW := q_mem 154 (by decide +kernel) rfl
theorem w_155 : Cond.fieldLinkNest "PuzzleRegistry" 260 "PuzzleRegistry$Sales" "bought" "[I" "PuzzleRegistry" ∈ TW := q_mem 155 (by decide +kernel) rfl
theorem w_156 : Cond.fieldLink "PuzzleRegistry$Sales" 15 "PuzzleRegistry$Sales" "prices" "[I" ∈ TW := q_mem 156 (by decide +kernel) rfl
theorem w_157 : Cond.fieldLinkNest "PuzzleRegistry" 320 "PuzzleRegistry$Sales" "prices" "[I" "PuzzleRegistry" ∈ TW := q_mem 157 (by decide +kernel) rfl
theorem w_163 : Cond.classLink "PuzzleRegistry" 30 "PuzzleRegistry$Judge" ∈ TW := q_mem 163 (by decide +kernel) rfl
theorem w_164 : Cond.instantiable "PuzzleRegistry$Judge" 3 ∈ TW := q_mem 164 (by decide +kernel) rfl
theorem w_165 : Cond.methodLinkNest "PuzzleRegistry" 32 yX1_init "PuzzleRegistry" ∈ TW := q_mem 165 (by decide +kernel) rfl
theorem w_166 : Cond.instanceMethod yX1_init ∈ TW := q_mem 166 (by decide +kernel) rfl
theorem w_167 : Cond.code yX1_init cX1_init 1 none ∈ TW := q_mem 167 (by decide +kernel) rfl
theorem w_168 : Cond.methodLink "PuzzleRegistry$Judge" 3 ⟨"java/lang/Object", "<init>", "()V"⟩ ∈ TW := q_mem 168 (by decide +kernel) rfl
theorem w_169 : Cond.fieldLink "PuzzleRegistry$Judge" 9 "PuzzleRegistry$Judge" "cleared" "[I" ∈ TW := q_mem 169 (by decide +kernel) rfl
theorem w_170 : Cond.fieldLinkNest "PuzzleRegistry" 183 "PuzzleRegistry$Judge" "cleared" "[I" "PuzzleRegistry" ∈ TW := q_mem 170 (by decide +kernel) rfl
theorem w_171 : Cond.fieldLink "PuzzleRegistry$Judge" 15 "PuzzleRegistry$Judge" "pardoned" "[I" ∈ TW := q_mem 171 (by decide +kernel) rfl
theorem w_172 : Cond.fieldLink "PuzzleRegistry$Judge" 18 "PuzzleRegistry$Judge" "bound" "I" ∈ TW := q_mem 172 (by decide +kernel) rfl
theorem w_173 : Cond.fieldLinkNest "PuzzleRegistry" 193 "PuzzleRegistry$Judge" "bound" "I" "PuzzleRegistry" ∈ TW := q_mem 173 (by decide +kernel) rfl
theorem w_181 : Cond.classLink "PuzzleRegistry" 37 "PuzzleRegistry$Records" ∈ TW := q_mem 181 (by decide +kernel) rfl
theorem w_182 : Cond.instantiable "PuzzleRegistry$Records" 6 ∈ TW := q_mem 182 (by decide +kernel) rfl
theorem w_183 : Cond.methodLinkNest "PuzzleRegistry" 39 yX2_init "PuzzleRegistry" ∈ TW := q_mem 183 (by decide +kernel) rfl
theorem w_184 : Cond.instanceMethod yX2_init ∈ TW := q_mem 184 (by decide +kernel) rfl
theorem w_185 : Cond.code yX2_init cX2_init 1 none ∈ TW := q_mem 185 (by decide +kernel) rfl
theorem w_186 : Cond.methodLink "PuzzleRegistry$Records" 3 ⟨"java/lang/Object", "<init>", "()V"⟩ ∈ TW := q_mem 186 (by decide +kernel) rfl
theorem w_187 : Cond.fieldLink "PuzzleRegistry$Records" 9 "PuzzleRegistry$Records" "solved" "[I" ∈ TW := q_mem 187 (by decide +kernel) rfl
theorem w_188 : Cond.fieldLinkNest "PuzzleRegistry" 171 "PuzzleRegistry$Records" "solved" "[I" "PuzzleRegistry" ∈ TW := q_mem 188 (by decide +kernel) rfl
theorem w_189 : Cond.fieldLink "PuzzleRegistry$Records" 15 "PuzzleRegistry$Records" "tooSoon" "[I" ∈ TW := q_mem 189 (by decide +kernel) rfl
theorem w_190 : Cond.fieldLinkNest "PuzzleRegistry" 180 "PuzzleRegistry$Records" "tooSoon" "[I" "PuzzleRegistry" ∈ TW := q_mem 190 (by decide +kernel) rfl
theorem w_191 : Cond.fieldLink "PuzzleRegistry$Records" 18 "PuzzleRegistry$Records" "solveMinutes" "[I" ∈ TW := q_mem 191 (by decide +kernel) rfl
theorem w_192 : Cond.fieldLinkNest "PuzzleRegistry" 174 "PuzzleRegistry$Records" "solveMinutes" "[I" "PuzzleRegistry" ∈ TW := q_mem 192 (by decide +kernel) rfl
theorem w_193 : Cond.fieldLink "PuzzleRegistry$Records" 21 "PuzzleRegistry$Records" "paid" "[I" ∈ TW := q_mem 193 (by decide +kernel) rfl
theorem w_194 : Cond.fieldLinkNest "PuzzleRegistry" 296 "PuzzleRegistry$Records" "paid" "[I" "PuzzleRegistry" ∈ TW := q_mem 194 (by decide +kernel) rfl
theorem w_195 : Cond.fieldLink "PuzzleRegistry$Records" 24 "PuzzleRegistry$Records" "likenesses" "[I" ∈ TW := q_mem 195 (by decide +kernel) rfl
theorem w_196 : Cond.fieldLinkNest "PuzzleRegistry" 196 "PuzzleRegistry$Records" "likenesses" "[I" "PuzzleRegistry" ∈ TW := q_mem 196 (by decide +kernel) rfl
theorem w_197 : Cond.fieldLink "PuzzleRegistry$Records" 27 "PuzzleRegistry$Records" "commons" "[I" ∈ TW := q_mem 197 (by decide +kernel) rfl
theorem w_198 : Cond.fieldLinkNest "PuzzleRegistry" 287 "PuzzleRegistry$Records" "commons" "[I" "PuzzleRegistry" ∈ TW := q_mem 198 (by decide +kernel) rfl
theorem w_212 : Cond.fieldLink "PuzzleRegistry" 10 "PuzzleRegistry" "riddles" "LPuzzleRegistry$Riddles;" ∈ TW := q_mem 212 (by decide +kernel) rfl
theorem w_213 : Cond.fieldLink "PuzzleRegistry" 19 "PuzzleRegistry" "answers" "LPuzzleRegistry$Answers;" ∈ TW := q_mem 213 (by decide +kernel) rfl
theorem w_214 : Cond.fieldLink "PuzzleRegistry" 26 "PuzzleRegistry" "sales" "LPuzzleRegistry$Sales;" ∈ TW := q_mem 214 (by decide +kernel) rfl
theorem w_215 : Cond.fieldLink "PuzzleRegistry" 33 "PuzzleRegistry" "judge" "LPuzzleRegistry$Judge;" ∈ TW := q_mem 215 (by decide +kernel) rfl
theorem w_216 : Cond.fieldLink "PuzzleRegistry" 40 "PuzzleRegistry" "kept" "LPuzzleRegistry$Records;" ∈ TW := q_mem 216 (by decide +kernel) rfl
theorem w_217 : Cond.fieldLink "PuzzleRegistry" 44 "PuzzleRegistry" "anew" "LPuzzleRegistry$Records;" ∈ TW := q_mem 217 (by decide +kernel) rfl
theorem w_218 : Cond.fieldLink "PuzzleRegistry" 47 "PuzzleRegistry" "scores" "[I" ∈ TW := q_mem 218 (by decide +kernel) rfl
theorem w_219 : Cond.fieldLink "PuzzleRegistry" 51 "PuzzleRegistry" "lastMinutes" "[I" ∈ TW := q_mem 219 (by decide +kernel) rfl
theorem w_220 : Cond.fieldLink "PuzzleRegistry" 54 "PuzzleRegistry" "prizes" "[I" ∈ TW := q_mem 220 (by decide +kernel) rfl
theorem w_221 : Cond.fieldLink "PuzzleRegistry" 115 "PuzzleRegistry" "teamCount" "I" ∈ TW := q_mem 221 (by decide +kernel) rfl
theorem w_222 : Cond.fieldLink "PuzzleRegistry" 61 "PuzzleRegistry" "minute" "I" ∈ TW := q_mem 222 (by decide +kernel) rfl
theorem w_223 : Cond.fieldLink "PuzzleRegistry" 72 "PuzzleRegistry" "ended" "Z" ∈ TW := q_mem 223 (by decide +kernel) rfl
theorem w_249 : Cond.methodLink "PuzzleRegistryLaw" 109 yX5_now ∈ TW := q_mem 249 (by decide +kernel) rfl
theorem w_250 : Cond.instanceMethod yX5_now ∈ TW := q_mem 250 (by decide +kernel) rfl
theorem w_251 : Cond.selects "PuzzleRegistry" yX5_now yX5_now ∈ TW := q_mem 251 (by decide +kernel) rfl
theorem w_252 : Cond.code yX5_now cX5_now 1 ((some .int)) ∈ TW := q_mem 252 (by decide +kernel) rfl
theorem w_253 : Cond.methodLink "PuzzleRegistryLaw" 180 yX5_teamAt ∈ TW := q_mem 253 (by decide +kernel) rfl
theorem w_254 : Cond.instanceMethod yX5_teamAt ∈ TW := q_mem 254 (by decide +kernel) rfl
theorem w_255 : Cond.selects "PuzzleRegistry" yX5_teamAt yX5_teamAt ∈ TW := q_mem 255 (by decide +kernel) rfl
theorem w_256 : Cond.code yX5_teamAt cX5_teamAt 3 ((some .int)) ∈ TW := q_mem 256 (by decide +kernel) rfl
theorem w_257 : Cond.methodLink "PuzzleRegistry" 234 yX5_rateTeams ∈ TW := q_mem 257 (by decide +kernel) rfl
theorem w_259 : Cond.instanceMethod yX5_rateTeams ∈ TW := q_mem 259 (by decide +kernel) rfl
theorem w_260 : Cond.code yX5_rateTeams cX5_rateTeams 3 none ∈ TW := q_mem 260 (by decide +kernel) rfl
theorem w_261 : Cond.methodLink "PuzzleRegistry" 216 yX5_countingSet ∈ TW := q_mem 261 (by decide +kernel) rfl
theorem w_263 : Cond.instanceMethod yX5_countingSet ∈ TW := q_mem 263 (by decide +kernel) rfl
theorem w_264 : Cond.code yX5_countingSet cX5_countingSet 3 ((some .int)) ∈ TW := q_mem 264 (by decide +kernel) rfl
theorem w_265 : Cond.methodLink "PuzzleRegistry" 210 yX5_voidSet ∈ TW := q_mem 265 (by decide +kernel) rfl
theorem w_267 : Cond.instanceMethod yX5_voidSet ∈ TW := q_mem 267 (by decide +kernel) rfl
theorem w_268 : Cond.code yX5_voidSet cX5_voidSet 3 ((some .int)) ∈ TW := q_mem 268 (by decide +kernel) rfl
theorem w_269 : Cond.methodLink "PuzzleRegistry" 206 yX5_cheatedSet ∈ TW := q_mem 269 (by decide +kernel) rfl
theorem w_271 : Cond.instanceMethod yX5_cheatedSet ∈ TW := q_mem 271 (by decide +kernel) rfl
theorem w_272 : Cond.code yX5_cheatedSet cX5_cheatedSet 5 ((some .int)) ∈ TW := q_mem 272 (by decide +kernel) rfl
theorem w_273 : Cond.methodLink "PuzzleRegistry" 199 yX5_pair ∈ TW := q_mem 273 (by decide +kernel) rfl
theorem w_274 : Cond.static yX5_pair ∈ TW := q_mem 274 (by decide +kernel) rfl
theorem w_275 : Cond.code yX5_pair cX5_pair 2 ((some .int)) ∈ TW := q_mem 275 (by decide +kernel) rfl
theorem w_276 : Cond.methodLinkNest "PuzzleRegistry" 202 yX1_links "PuzzleRegistry" ∈ TW := q_mem 276 (by decide +kernel) rfl
theorem w_278 : Cond.instanceMethod yX1_links ∈ TW := q_mem 278 (by decide +kernel) rfl
theorem w_279 : Cond.code yX1_links cX1_links 4 ((some .boolean)) ∈ TW := q_mem 279 (by decide +kernel) rfl
theorem w_280 : Cond.methodLinkNest "PuzzleRegistry$Judge" 26 yX5_has "PuzzleRegistry" ∈ TW := q_mem 280 (by decide +kernel) rfl
theorem w_281 : Cond.static yX5_has ∈ TW := q_mem 281 (by decide +kernel) rfl
theorem w_282 : Cond.code yX5_has cX5_has 2 ((some .boolean)) ∈ TW := q_mem 282 (by decide +kernel) rfl
theorem w_283 : Cond.methodLinkNest "PuzzleRegistry" 290 yX3_spread "PuzzleRegistry" ∈ TW := q_mem 283 (by decide +kernel) rfl
theorem w_285 : Cond.instanceMethod yX3_spread ∈ TW := q_mem 285 (by decide +kernel) rfl
theorem w_286 : Cond.code yX3_spread cX3_spread 4 ((some .int)) ∈ TW := q_mem 286 (by decide +kernel) rfl
theorem w_287 : Cond.methodLinkNest "PuzzleRegistry$Riddles" 31 yX5_bit "PuzzleRegistry" ∈ TW := q_mem 287 (by decide +kernel) rfl
theorem w_288 : Cond.static yX5_bit ∈ TW := q_mem 288 (by decide +kernel) rfl
theorem w_289 : Cond.code yX5_bit cX5_bit 1 ((some .int)) ∈ TW := q_mem 289 (by decide +kernel) rfl
theorem w_290 : Cond.methodLink "PuzzleRegistry" 122 yX5_freeSet ∈ TW := q_mem 290 (by decide +kernel) rfl
theorem w_292 : Cond.instanceMethod yX5_freeSet ∈ TW := q_mem 292 (by decide +kernel) rfl
theorem w_293 : Cond.code yX5_freeSet cX5_freeSet 4 ((some .int)) ∈ TW := q_mem 293 (by decide +kernel) rfl
theorem w_294 : Cond.methodLink "PuzzleRegistry" 219 yX5_sumUp ∈ TW := q_mem 294 (by decide +kernel) rfl
theorem w_296 : Cond.instanceMethod yX5_sumUp ∈ TW := q_mem 296 (by decide +kernel) rfl
theorem w_297 : Cond.code yX5_sumUp cX5_sumUp 7 ((some .int)) ∈ TW := q_mem 297 (by decide +kernel) rfl
theorem w_298 : Cond.methodLink "PuzzleRegistry" 97 yX5_has ∈ TW := q_mem 298 (by decide +kernel) rfl
theorem w_299 : Cond.methodLink "PuzzleRegistry" 177 yX5_cell ∈ TW := q_mem 299 (by decide +kernel) rfl
theorem w_300 : Cond.static yX5_cell ∈ TW := q_mem 300 (by decide +kernel) rfl
theorem w_301 : Cond.code yX5_cell cX5_cell 2 ((some .int)) ∈ TW := q_mem 301 (by decide +kernel) rfl
theorem w_302 : Cond.methodLinkNest "PuzzleRegistry" 257 yX2_lastSolveMinute "PuzzleRegistry" ∈ TW := q_mem 302 (by decide +kernel) rfl
theorem w_304 : Cond.instanceMethod yX2_lastSolveMinute ∈ TW := q_mem 304 (by decide +kernel) rfl
theorem w_305 : Cond.code yX2_lastSolveMinute cX2_lastSolveMinute 5 ((some .int)) ∈ TW := q_mem 305 (by decide +kernel) rfl
theorem w_306 : Cond.methodLinkNest "PuzzleRegistry$Records" 47 yX5_has "PuzzleRegistry" ∈ TW := q_mem 306 (by decide +kernel) rfl
theorem w_307 : Cond.methodLinkNest "PuzzleRegistry$Records" 40 yX5_cell "PuzzleRegistry" ∈ TW := q_mem 307 (by decide +kernel) rfl
theorem w_308 : Cond.methodLink "PuzzleRegistry$Records" 51 yJ9_max_7cf53 ∈ TW := q_mem 308 (by decide +kernel) rfl
theorem w_309 : Cond.static yJ9_max_7cf53 ∈ TW := q_mem 309 (by decide +kernel) rfl
theorem w_310 : Cond.code yJ9_max_7cf53 cJ9_max_7cf53 2 ((some .int)) ∈ TW := q_mem 310 (by decide +kernel) rfl
theorem w_311 : Cond.methodLink "PuzzleRegistry" 237 yX5_countBetter ∈ TW := q_mem 311 (by decide +kernel) rfl
theorem w_313 : Cond.instanceMethod yX5_countBetter ∈ TW := q_mem 313 (by decide +kernel) rfl
theorem w_314 : Cond.code yX5_countBetter cX5_countBetter 6 ((some .int)) ∈ TW := q_mem 314 (by decide +kernel) rfl
theorem w_315 : Cond.methodLink "PuzzleRegistry" 240 yX5_countAlike ∈ TW := q_mem 315 (by decide +kernel) rfl
theorem w_317 : Cond.instanceMethod yX5_countAlike ∈ TW := q_mem 317 (by decide +kernel) rfl
theorem w_318 : Cond.code yX5_countAlike cX5_countAlike 5 ((some .int)) ∈ TW := q_mem 318 (by decide +kernel) rfl
theorem w_319 : Cond.methodLink "PuzzleRegistryLaw" 100 yL_pass ∈ TW := q_mem 319 (by decide +kernel) rfl
theorem w_320 : Cond.static yL_pass ∈ TW := q_mem 320 (by decide +kernel) rfl
theorem w_322 : Cond.classLink "PuzzleRegistryLaw" 13 "java/lang/IllegalArgumentException" ∈ TW := q_mem 322 (by decide +kernel) rfl
theorem w_323 : Cond.classLink "PuzzleRegistryLaw" 15 "java/lang/IllegalStateException" ∈ TW := q_mem 323 (by decide +kernel) rfl
theorem w_324 : Cond.methodLink "PuzzleRegistryLaw" 7 yX5_pass ∈ TW := q_mem 324 (by decide +kernel) rfl
theorem w_325 : Cond.instanceMethod yX5_pass ∈ TW := q_mem 325 (by decide +kernel) rfl
theorem w_326 : Cond.selects "PuzzleRegistry" yX5_pass yX5_pass ∈ TW := q_mem 326 (by decide +kernel) rfl
theorem w_327 : Cond.code yX5_pass cX5_pass 2 ((some .int)) ∈ TW := q_mem 327 (by decide +kernel) rfl
theorem w_328 : Cond.methodLink "PuzzleRegistry" 57 yX5_requireRange ∈ TW := q_mem 328 (by decide +kernel) rfl
theorem w_329 : Cond.static yX5_requireRange ∈ TW := q_mem 329 (by decide +kernel) rfl
theorem w_330 : Cond.code yX5_requireRange cX5_requireRange 3 none ∈ TW := q_mem 330 (by decide +kernel) rfl
theorem w_331 : Cond.classLink "PuzzleRegistry" 89 "java/lang/IllegalArgumentException" ∈ TW := q_mem 331 (by decide +kernel) rfl
theorem w_332 : Cond.instantiable "java/lang/IllegalArgumentException" 6 ∈ TW := q_mem 332 (by decide +kernel) rfl
theorem w_399 : Cond.arrayClass .byte ∈ TW := q_mem 399 (by decide +kernel) rfl
theorem w_400 : Cond.classLink "PuzzleRegistry" 65 "java/lang/IllegalStateException" ∈ TW := q_mem 400 (by decide +kernel) rfl
theorem w_401 : Cond.instantiable "java/lang/IllegalStateException" 6 ∈ TW := q_mem 401 (by decide +kernel) rfl
theorem w_416 : Cond.methodLink "PuzzleRegistryLaw" 113 yL_addRiddle ∈ TW := q_mem 416 (by decide +kernel) rfl
theorem w_417 : Cond.static yL_addRiddle ∈ TW := q_mem 417 (by decide +kernel) rfl
theorem w_419 : Cond.methodLink "PuzzleRegistryLaw" 17 yX5_addRiddle ∈ TW := q_mem 419 (by decide +kernel) rfl
theorem w_420 : Cond.instanceMethod yX5_addRiddle ∈ TW := q_mem 420 (by decide +kernel) rfl
theorem w_421 : Cond.selects "PuzzleRegistry" yX5_addRiddle yX5_addRiddle ∈ TW := q_mem 421 (by decide +kernel) rfl
theorem w_422 : Cond.code yX5_addRiddle cX5_addRiddle 5 ((some .int)) ∈ TW := q_mem 422 (by decide +kernel) rfl
theorem w_424 : Cond.methodLinkNest "PuzzleRegistry" 81 yX3_append "PuzzleRegistry" ∈ TW := q_mem 424 (by decide +kernel) rfl
theorem w_426 : Cond.instanceMethod yX3_append ∈ TW := q_mem 426 (by decide +kernel) rfl
theorem w_427 : Cond.code yX3_append cX3_append 5 ((some .int)) ∈ TW := q_mem 427 (by decide +kernel) rfl
theorem w_428 : Cond.methodLink "PuzzleRegistryLaw" 117 yL_need ∈ TW := q_mem 428 (by decide +kernel) rfl
theorem w_429 : Cond.static yL_need ∈ TW := q_mem 429 (by decide +kernel) rfl
theorem w_431 : Cond.classLink "PuzzleRegistryLaw" 25 "java/lang/IndexOutOfBoundsException" ∈ TW := q_mem 431 (by decide +kernel) rfl
theorem w_432 : Cond.methodLink "PuzzleRegistryLaw" 21 yX5_need ∈ TW := q_mem 432 (by decide +kernel) rfl
theorem w_433 : Cond.instanceMethod yX5_need ∈ TW := q_mem 433 (by decide +kernel) rfl
theorem w_434 : Cond.selects "PuzzleRegistry" yX5_need yX5_need ∈ TW := q_mem 434 (by decide +kernel) rfl
theorem w_435 : Cond.code yX5_need cX5_need 3 ((some .int)) ∈ TW := q_mem 435 (by decide +kernel) rfl
theorem w_436 : Cond.methodLink "PuzzleRegistry" 85 yX5_requireRiddle ∈ TW := q_mem 436 (by decide +kernel) rfl
theorem w_438 : Cond.instanceMethod yX5_requireRiddle ∈ TW := q_mem 438 (by decide +kernel) rfl
theorem w_439 : Cond.code yX5_requireRiddle cX5_requireRiddle 2 none ∈ TW := q_mem 439 (by decide +kernel) rfl
theorem w_440 : Cond.classLink "PuzzleRegistry" 248 "java/lang/IndexOutOfBoundsException" ∈ TW := q_mem 440 (by decide +kernel) rfl
theorem w_441 : Cond.instantiable "java/lang/IndexOutOfBoundsException" 6 ∈ TW := q_mem 441 (by decide +kernel) rfl
theorem w_458 : Cond.methodLink "PuzzleRegistry" 106 yX5_bit ∈ TW := q_mem 458 (by decide +kernel) rfl
theorem w_459 : Cond.methodLink "PuzzleRegistry" 110 yJ6_bitCount_0f7a4 ∈ TW := q_mem 459 (by decide +kernel) rfl
theorem w_460 : Cond.static yJ6_bitCount_0f7a4 ∈ TW := q_mem 460 (by decide +kernel) rfl
theorem w_461 : Cond.code yJ6_bitCount_0f7a4 cJ6_bitCount_0f7a4 1 ((some .int)) ∈ TW := q_mem 461 (by decide +kernel) rfl
theorem w_462 : Cond.constant "java/lang/Integer" 265 (1431655765 : Int32) ∈ TW := q_mem 462 (by decide +kernel) rfl
theorem w_463 : Cond.constant "java/lang/Integer" 266 (858993459 : Int32) ∈ TW := q_mem 463 (by decide +kernel) rfl
theorem w_464 : Cond.constant "java/lang/Integer" 267 (252645135 : Int32) ∈ TW := q_mem 464 (by decide +kernel) rfl
theorem w_465 : Cond.methodLink "PuzzleRegistryLaw" 121 yL_addTeam ∈ TW := q_mem 465 (by decide +kernel) rfl
theorem w_466 : Cond.static yL_addTeam ∈ TW := q_mem 466 (by decide +kernel) rfl
theorem w_468 : Cond.methodLink "PuzzleRegistryLaw" 27 yX5_addTeam ∈ TW := q_mem 468 (by decide +kernel) rfl
theorem w_469 : Cond.instanceMethod yX5_addTeam ∈ TW := q_mem 469 (by decide +kernel) rfl
theorem w_470 : Cond.selects "PuzzleRegistry" yX5_addTeam yX5_addTeam ∈ TW := q_mem 470 (by decide +kernel) rfl
theorem w_471 : Cond.code yX5_addTeam cX5_addTeam 1 ((some .int)) ∈ TW := q_mem 471 (by decide +kernel) rfl
theorem w_473 : Cond.methodLink "PuzzleRegistryLaw" 125 yL_end ∈ TW := q_mem 473 (by decide +kernel) rfl
theorem w_474 : Cond.static yL_end ∈ TW := q_mem 474 (by decide +kernel) rfl
theorem w_476 : Cond.methodLink "PuzzleRegistryLaw" 31 yX5_end ∈ TW := q_mem 476 (by decide +kernel) rfl
theorem w_477 : Cond.instanceMethod yX5_end ∈ TW := q_mem 477 (by decide +kernel) rfl
theorem w_478 : Cond.selects "PuzzleRegistry" yX5_end yX5_end ∈ TW := q_mem 478 (by decide +kernel) rfl
theorem w_479 : Cond.code yX5_end cX5_end 1 ((some .int)) ∈ TW := q_mem 479 (by decide +kernel) rfl
theorem w_481 : Cond.methodLink "PuzzleRegistryLaw" 128 yL_answer ∈ TW := q_mem 481 (by decide +kernel) rfl
theorem w_482 : Cond.static yL_answer ∈ TW := q_mem 482 (by decide +kernel) rfl
theorem w_484 : Cond.methodLink "PuzzleRegistryLaw" 34 yX5_answer ∈ TW := q_mem 484 (by decide +kernel) rfl
theorem w_485 : Cond.instanceMethod yX5_answer ∈ TW := q_mem 485 (by decide +kernel) rfl
theorem w_486 : Cond.selects "PuzzleRegistry" yX5_answer yX5_answer ∈ TW := q_mem 486 (by decide +kernel) rfl
theorem w_487 : Cond.code yX5_answer cX5_answer 5 ((some .boolean)) ∈ TW := q_mem 487 (by decide +kernel) rfl
theorem w_488 : Cond.methodLink "PuzzleRegistry" 126 yX5_requireTeam ∈ TW := q_mem 488 (by decide +kernel) rfl
theorem w_490 : Cond.instanceMethod yX5_requireTeam ∈ TW := q_mem 490 (by decide +kernel) rfl
theorem w_491 : Cond.code yX5_requireTeam cX5_requireTeam 2 none ∈ TW := q_mem 491 (by decide +kernel) rfl
theorem w_493 : Cond.methodLink "PuzzleRegistry" 129 yX5_isUnderWay ∈ TW := q_mem 493 (by decide +kernel) rfl
theorem w_495 : Cond.instanceMethod yX5_isUnderWay ∈ TW := q_mem 495 (by decide +kernel) rfl
theorem w_496 : Cond.code yX5_isUnderWay cX5_isUnderWay 3 ((some .boolean)) ∈ TW := q_mem 496 (by decide +kernel) rfl
theorem w_497 : Cond.methodLink "PuzzleRegistry" 162 yX5_openMinute ∈ TW := q_mem 497 (by decide +kernel) rfl
theorem w_499 : Cond.instanceMethod yX5_openMinute ∈ TW := q_mem 499 (by decide +kernel) rfl
theorem w_500 : Cond.code yX5_openMinute cX5_openMinute 4 ((some .int)) ∈ TW := q_mem 500 (by decide +kernel) rfl
theorem w_502 : Cond.methodLink "PuzzleRegistry" 138 yX5_noteSolved ∈ TW := q_mem 502 (by decide +kernel) rfl
theorem w_504 : Cond.instanceMethod yX5_noteSolved ∈ TW := q_mem 504 (by decide +kernel) rfl
theorem w_505 : Cond.code yX5_noteSolved cX5_noteSolved 6 none ∈ TW := q_mem 505 (by decide +kernel) rfl
theorem w_506 : Cond.methodLinkNest "PuzzleRegistry" 277 yX2_solve "PuzzleRegistry" ∈ TW := q_mem 506 (by decide +kernel) rfl
theorem w_508 : Cond.instanceMethod yX2_solve ∈ TW := q_mem 508 (by decide +kernel) rfl
theorem w_509 : Cond.code yX2_solve cX2_solve 5 none ∈ TW := q_mem 509 (by decide +kernel) rfl
theorem w_510 : Cond.methodLinkNest "PuzzleRegistry$Records" 36 yX5_bit "PuzzleRegistry" ∈ TW := q_mem 510 (by decide +kernel) rfl
theorem w_511 : Cond.methodLink "PuzzleRegistry" 142 yX5_noteWrong ∈ TW := q_mem 511 (by decide +kernel) rfl
theorem w_513 : Cond.instanceMethod yX5_noteWrong ∈ TW := q_mem 513 (by decide +kernel) rfl
theorem w_514 : Cond.code yX5_noteWrong cX5_noteWrong 6 none ∈ TW := q_mem 514 (by decide +kernel) rfl
theorem w_515 : Cond.methodLinkNest "PuzzleRegistry" 281 yX0_giversOf "PuzzleRegistry" ∈ TW := q_mem 515 (by decide +kernel) rfl
theorem w_517 : Cond.instanceMethod yX0_giversOf ∈ TW := q_mem 517 (by decide +kernel) rfl
theorem w_518 : Cond.code yX0_giversOf cX0_giversOf 5 ((some .int)) ∈ TW := q_mem 518 (by decide +kernel) rfl
theorem w_519 : Cond.methodLinkNest "PuzzleRegistry$Answers" 28 yX5_bit "PuzzleRegistry" ∈ TW := q_mem 519 (by decide +kernel) rfl
theorem w_520 : Cond.methodLinkNest "PuzzleRegistry" 284 yX2_noteCommon "PuzzleRegistry" ∈ TW := q_mem 520 (by decide +kernel) rfl
theorem w_522 : Cond.instanceMethod yX2_noteCommon ∈ TW := q_mem 522 (by decide +kernel) rfl
theorem w_523 : Cond.code yX2_noteCommon cX2_noteCommon 4 none ∈ TW := q_mem 523 (by decide +kernel) rfl
theorem w_524 : Cond.methodLinkNest "PuzzleRegistry$Records" 44 yX5_pair "PuzzleRegistry" ∈ TW := q_mem 524 (by decide +kernel) rfl
theorem w_525 : Cond.methodLinkNest "PuzzleRegistry" 145 yX0_append "PuzzleRegistry" ∈ TW := q_mem 525 (by decide +kernel) rfl
theorem w_527 : Cond.instanceMethod yX0_append ∈ TW := q_mem 527 (by decide +kernel) rfl
theorem w_528 : Cond.code yX0_append cX0_append 5 none ∈ TW := q_mem 528 (by decide +kernel) rfl
theorem w_529 : Cond.methodLink "PuzzleRegistryLaw" 132 yL_hint ∈ TW := q_mem 529 (by decide +kernel) rfl
theorem w_530 : Cond.static yL_hint ∈ TW := q_mem 530 (by decide +kernel) rfl
theorem w_532 : Cond.methodLink "PuzzleRegistryLaw" 38 yX5_hint ∈ TW := q_mem 532 (by decide +kernel) rfl
theorem w_533 : Cond.instanceMethod yX5_hint ∈ TW := q_mem 533 (by decide +kernel) rfl
theorem w_534 : Cond.selects "PuzzleRegistry" yX5_hint yX5_hint ∈ TW := q_mem 534 (by decide +kernel) rfl
theorem w_535 : Cond.code yX5_hint cX5_hint 4 ((some .int)) ∈ TW := q_mem 535 (by decide +kernel) rfl
theorem w_536 : Cond.methodLink "PuzzleRegistry" 148 yX5_hasHintsLeft ∈ TW := q_mem 536 (by decide +kernel) rfl
theorem w_538 : Cond.instanceMethod yX5_hasHintsLeft ∈ TW := q_mem 538 (by decide +kernel) rfl
theorem w_539 : Cond.code yX5_hasHintsLeft cX5_hasHintsLeft 3 ((some .boolean)) ∈ TW := q_mem 539 (by decide +kernel) rfl
theorem w_541 : Cond.methodLink "PuzzleRegistry" 153 yX5_nextPrice ∈ TW := q_mem 541 (by decide +kernel) rfl
theorem w_543 : Cond.instanceMethod yX5_nextPrice ∈ TW := q_mem 543 (by decide +kernel) rfl
theorem w_544 : Cond.code yX5_nextPrice cX5_nextPrice 5 ((some .int)) ∈ TW := q_mem 544 (by decide +kernel) rfl
theorem w_545 : Cond.methodLinkNest "PuzzleRegistry" 263 yX4_countBuyers "PuzzleRegistry" ∈ TW := q_mem 545 (by decide +kernel) rfl
theorem w_547 : Cond.instanceMethod yX4_countBuyers ∈ TW := q_mem 547 (by decide +kernel) rfl
theorem w_548 : Cond.code yX4_countBuyers cX4_countBuyers 5 ((some .int)) ∈ TW := q_mem 548 (by decide +kernel) rfl
theorem w_549 : Cond.methodLinkNest "PuzzleRegistry$Sales" 18 yX5_cell "PuzzleRegistry" ∈ TW := q_mem 549 (by decide +kernel) rfl
theorem w_550 : Cond.methodLink "PuzzleRegistry" 269 yJ9_max_7cf53 ∈ TW := q_mem 550 (by decide +kernel) rfl
theorem w_551 : Cond.methodLinkNest "PuzzleRegistry" 157 yX4_append "PuzzleRegistry" ∈ TW := q_mem 551 (by decide +kernel) rfl
theorem w_553 : Cond.instanceMethod yX4_append ∈ TW := q_mem 553 (by decide +kernel) rfl
theorem w_554 : Cond.code yX4_append cX4_append 5 none ∈ TW := q_mem 554 (by decide +kernel) rfl
theorem w_555 : Cond.methodLinkNest "PuzzleRegistry$Sales" 22 yX5_sale "PuzzleRegistry" ∈ TW := q_mem 555 (by decide +kernel) rfl
theorem w_556 : Cond.static yX5_sale ∈ TW := q_mem 556 (by decide +kernel) rfl
theorem w_557 : Cond.code yX5_sale cX5_sale 3 ((some .int)) ∈ TW := q_mem 557 (by decide +kernel) rfl
theorem w_558 : Cond.methodLinkNest "PuzzleRegistry" 159 yX2_pay "PuzzleRegistry" ∈ TW := q_mem 558 (by decide +kernel) rfl
theorem w_560 : Cond.instanceMethod yX2_pay ∈ TW := q_mem 560 (by decide +kernel) rfl
theorem w_561 : Cond.code yX2_pay cX2_pay 4 none ∈ TW := q_mem 561 (by decide +kernel) rfl
theorem w_562 : Cond.methodLink "PuzzleRegistryLaw" 135 yL_price ∈ TW := q_mem 562 (by decide +kernel) rfl
theorem w_563 : Cond.static yL_price ∈ TW := q_mem 563 (by decide +kernel) rfl
theorem w_565 : Cond.classLink "PuzzleRegistryLaw" 44 "java/util/NoSuchElementException" ∈ TW := q_mem 565 (by decide +kernel) rfl
theorem w_566 : Cond.methodLink "PuzzleRegistryLaw" 41 yX5_price ∈ TW := q_mem 566 (by decide +kernel) rfl
theorem w_567 : Cond.instanceMethod yX5_price ∈ TW := q_mem 567 (by decide +kernel) rfl
theorem w_568 : Cond.selects "PuzzleRegistry" yX5_price yX5_price ∈ TW := q_mem 568 (by decide +kernel) rfl
theorem w_569 : Cond.code yX5_price cX5_price 3 ((some .int)) ∈ TW := q_mem 569 (by decide +kernel) rfl
theorem w_570 : Cond.classLink "PuzzleRegistry" 166 "java/util/NoSuchElementException" ∈ TW := q_mem 570 (by decide +kernel) rfl
theorem w_571 : Cond.instantiable "java/util/NoSuchElementException" 6 ∈ TW := q_mem 571 (by decide +kernel) rfl
theorem w_586 : Cond.methodLink "PuzzleRegistryLaw" 138 yL_openedAt ∈ TW := q_mem 586 (by decide +kernel) rfl
theorem w_587 : Cond.static yL_openedAt ∈ TW := q_mem 587 (by decide +kernel) rfl
theorem w_589 : Cond.methodLink "PuzzleRegistryLaw" 46 yX5_openedAt ∈ TW := q_mem 589 (by decide +kernel) rfl
theorem w_590 : Cond.instanceMethod yX5_openedAt ∈ TW := q_mem 590 (by decide +kernel) rfl
theorem w_591 : Cond.selects "PuzzleRegistry" yX5_openedAt yX5_openedAt ∈ TW := q_mem 591 (by decide +kernel) rfl
theorem w_592 : Cond.code yX5_openedAt cX5_openedAt 3 ((some .int)) ∈ TW := q_mem 592 (by decide +kernel) rfl
theorem w_593 : Cond.methodLink "PuzzleRegistryLaw" 141 yL_solvedAt ∈ TW := q_mem 593 (by decide +kernel) rfl
theorem w_594 : Cond.static yL_solvedAt ∈ TW := q_mem 594 (by decide +kernel) rfl
theorem w_596 : Cond.methodLink "PuzzleRegistryLaw" 49 yX5_solvedAt ∈ TW := q_mem 596 (by decide +kernel) rfl
theorem w_597 : Cond.instanceMethod yX5_solvedAt ∈ TW := q_mem 597 (by decide +kernel) rfl
theorem w_598 : Cond.selects "PuzzleRegistry" yX5_solvedAt yX5_solvedAt ∈ TW := q_mem 598 (by decide +kernel) rfl
theorem w_599 : Cond.code yX5_solvedAt cX5_solvedAt 3 ((some .int)) ∈ TW := q_mem 599 (by decide +kernel) rfl
theorem w_600 : Cond.methodLink "PuzzleRegistryLaw" 144 yL_clear ∈ TW := q_mem 600 (by decide +kernel) rfl
theorem w_601 : Cond.static yL_clear ∈ TW := q_mem 601 (by decide +kernel) rfl
theorem w_603 : Cond.methodLink "PuzzleRegistryLaw" 52 yX5_clear ∈ TW := q_mem 603 (by decide +kernel) rfl
theorem w_604 : Cond.instanceMethod yX5_clear ∈ TW := q_mem 604 (by decide +kernel) rfl
theorem w_605 : Cond.selects "PuzzleRegistry" yX5_clear yX5_clear ∈ TW := q_mem 605 (by decide +kernel) rfl
theorem w_606 : Cond.code yX5_clear cX5_clear 3 ((some .boolean)) ∈ TW := q_mem 606 (by decide +kernel) rfl
theorem w_608 : Cond.methodLink "PuzzleRegistryLaw" 147 yL_pardon ∈ TW := q_mem 608 (by decide +kernel) rfl
theorem w_609 : Cond.static yL_pardon ∈ TW := q_mem 609 (by decide +kernel) rfl
theorem w_611 : Cond.methodLink "PuzzleRegistryLaw" 56 yX5_pardon ∈ TW := q_mem 611 (by decide +kernel) rfl
theorem w_612 : Cond.instanceMethod yX5_pardon ∈ TW := q_mem 612 (by decide +kernel) rfl
theorem w_613 : Cond.selects "PuzzleRegistry" yX5_pardon yX5_pardon ∈ TW := q_mem 613 (by decide +kernel) rfl
theorem w_614 : Cond.code yX5_pardon cX5_pardon 3 ((some .boolean)) ∈ TW := q_mem 614 (by decide +kernel) rfl
theorem w_616 : Cond.methodLinkNest "PuzzleRegistry" 190 yX1_switchPardon "PuzzleRegistry" ∈ TW := q_mem 616 (by decide +kernel) rfl
theorem w_618 : Cond.instanceMethod yX1_switchPardon ∈ TW := q_mem 618 (by decide +kernel) rfl
theorem w_619 : Cond.code yX1_switchPardon cX1_switchPardon 3 ((some .boolean)) ∈ TW := q_mem 619 (by decide +kernel) rfl
theorem w_620 : Cond.methodLinkNest "PuzzleRegistry$Judge" 22 yX5_bit "PuzzleRegistry" ∈ TW := q_mem 620 (by decide +kernel) rfl
theorem w_621 : Cond.methodLink "PuzzleRegistryLaw" 150 yL_setBound ∈ TW := q_mem 621 (by decide +kernel) rfl
theorem w_622 : Cond.static yL_setBound ∈ TW := q_mem 622 (by decide +kernel) rfl
theorem w_624 : Cond.methodLink "PuzzleRegistryLaw" 59 yX5_setBound ∈ TW := q_mem 624 (by decide +kernel) rfl
theorem w_625 : Cond.instanceMethod yX5_setBound ∈ TW := q_mem 625 (by decide +kernel) rfl
theorem w_626 : Cond.selects "PuzzleRegistry" yX5_setBound yX5_setBound ∈ TW := q_mem 626 (by decide +kernel) rfl
theorem w_627 : Cond.code yX5_setBound cX5_setBound 3 ((some .int)) ∈ TW := q_mem 627 (by decide +kernel) rfl
theorem w_628 : Cond.methodLink "PuzzleRegistryLaw" 153 yL_isFree ∈ TW := q_mem 628 (by decide +kernel) rfl
theorem w_629 : Cond.static yL_isFree ∈ TW := q_mem 629 (by decide +kernel) rfl
theorem w_631 : Cond.methodLink "PuzzleRegistryLaw" 62 yX5_isFree ∈ TW := q_mem 631 (by decide +kernel) rfl
theorem w_632 : Cond.instanceMethod yX5_isFree ∈ TW := q_mem 632 (by decide +kernel) rfl
theorem w_633 : Cond.selects "PuzzleRegistry" yX5_isFree yX5_isFree ∈ TW := q_mem 633 (by decide +kernel) rfl
theorem w_634 : Cond.code yX5_isFree cX5_isFree 2 ((some .boolean)) ∈ TW := q_mem 634 (by decide +kernel) rfl
theorem w_635 : Cond.methodLink "PuzzleRegistryLaw" 156 yL_likeness ∈ TW := q_mem 635 (by decide +kernel) rfl
theorem w_636 : Cond.static yL_likeness ∈ TW := q_mem 636 (by decide +kernel) rfl
theorem w_638 : Cond.methodLink "PuzzleRegistryLaw" 66 yX5_likeness ∈ TW := q_mem 638 (by decide +kernel) rfl
theorem w_639 : Cond.instanceMethod yX5_likeness ∈ TW := q_mem 639 (by decide +kernel) rfl
theorem w_640 : Cond.selects "PuzzleRegistry" yX5_likeness yX5_likeness ∈ TW := q_mem 640 (by decide +kernel) rfl
theorem w_641 : Cond.code yX5_likeness cX5_likeness 3 ((some .int)) ∈ TW := q_mem 641 (by decide +kernel) rfl
theorem w_642 : Cond.methodLink "PuzzleRegistryLaw" 159 yL_areLinked ∈ TW := q_mem 642 (by decide +kernel) rfl
theorem w_643 : Cond.static yL_areLinked ∈ TW := q_mem 643 (by decide +kernel) rfl
theorem w_645 : Cond.methodLink "PuzzleRegistryLaw" 69 yX5_areLinked ∈ TW := q_mem 645 (by decide +kernel) rfl
theorem w_646 : Cond.instanceMethod yX5_areLinked ∈ TW := q_mem 646 (by decide +kernel) rfl
theorem w_647 : Cond.selects "PuzzleRegistry" yX5_areLinked yX5_areLinked ∈ TW := q_mem 647 (by decide +kernel) rfl
theorem w_648 : Cond.code yX5_areLinked cX5_areLinked 3 ((some .boolean)) ∈ TW := q_mem 648 (by decide +kernel) rfl
theorem w_649 : Cond.methodLink "PuzzleRegistryLaw" 162 yL_isCheated ∈ TW := q_mem 649 (by decide +kernel) rfl
theorem w_650 : Cond.static yL_isCheated ∈ TW := q_mem 650 (by decide +kernel) rfl
theorem w_652 : Cond.methodLink "PuzzleRegistryLaw" 72 yX5_isCheated ∈ TW := q_mem 652 (by decide +kernel) rfl
theorem w_653 : Cond.instanceMethod yX5_isCheated ∈ TW := q_mem 653 (by decide +kernel) rfl
theorem w_654 : Cond.selects "PuzzleRegistry" yX5_isCheated yX5_isCheated ∈ TW := q_mem 654 (by decide +kernel) rfl
theorem w_655 : Cond.code yX5_isCheated cX5_isCheated 3 ((some .boolean)) ∈ TW := q_mem 655 (by decide +kernel) rfl
theorem w_656 : Cond.methodLink "PuzzleRegistryLaw" 165 yL_isVoid ∈ TW := q_mem 656 (by decide +kernel) rfl
theorem w_657 : Cond.static yL_isVoid ∈ TW := q_mem 657 (by decide +kernel) rfl
theorem w_659 : Cond.methodLink "PuzzleRegistryLaw" 75 yX5_isVoid ∈ TW := q_mem 659 (by decide +kernel) rfl
theorem w_660 : Cond.instanceMethod yX5_isVoid ∈ TW := q_mem 660 (by decide +kernel) rfl
theorem w_661 : Cond.selects "PuzzleRegistry" yX5_isVoid yX5_isVoid ∈ TW := q_mem 661 (by decide +kernel) rfl
theorem w_662 : Cond.code yX5_isVoid cX5_isVoid 3 ((some .boolean)) ∈ TW := q_mem 662 (by decide +kernel) rfl
theorem w_663 : Cond.methodLink "PuzzleRegistryLaw" 168 yL_hanging ∈ TW := q_mem 663 (by decide +kernel) rfl
theorem w_664 : Cond.static yL_hanging ∈ TW := q_mem 664 (by decide +kernel) rfl
theorem w_666 : Cond.methodLink "PuzzleRegistryLaw" 78 yX5_hanging ∈ TW := q_mem 666 (by decide +kernel) rfl
theorem w_667 : Cond.instanceMethod yX5_hanging ∈ TW := q_mem 667 (by decide +kernel) rfl
theorem w_668 : Cond.selects "PuzzleRegistry" yX5_hanging yX5_hanging ∈ TW := q_mem 668 (by decide +kernel) rfl
theorem w_669 : Cond.code yX5_hanging cX5_hanging 2 ((some .int)) ∈ TW := q_mem 669 (by decide +kernel) rfl
theorem w_670 : Cond.methodLinkNest "PuzzleRegistry" 213 yX3_hangingOn "PuzzleRegistry" ∈ TW := q_mem 670 (by decide +kernel) rfl
theorem w_672 : Cond.instanceMethod yX3_hangingOn ∈ TW := q_mem 672 (by decide +kernel) rfl
theorem w_673 : Cond.code yX3_hangingOn cX3_hangingOn 2 ((some .int)) ∈ TW := q_mem 673 (by decide +kernel) rfl
theorem w_674 : Cond.methodLink "PuzzleRegistry$Riddles" 35 yX3_spread ∈ TW := q_mem 674 (by decide +kernel) rfl
theorem w_675 : Cond.methodLink "PuzzleRegistryLaw" 171 yL_score ∈ TW := q_mem 675 (by decide +kernel) rfl
theorem w_676 : Cond.static yL_score ∈ TW := q_mem 676 (by decide +kernel) rfl
theorem w_678 : Cond.methodLink "PuzzleRegistryLaw" 81 yX5_score ∈ TW := q_mem 678 (by decide +kernel) rfl
theorem w_679 : Cond.instanceMethod yX5_score ∈ TW := q_mem 679 (by decide +kernel) rfl
theorem w_680 : Cond.selects "PuzzleRegistry" yX5_score yX5_score ∈ TW := q_mem 680 (by decide +kernel) rfl
theorem w_681 : Cond.code yX5_score cX5_score 2 ((some .int)) ∈ TW := q_mem 681 (by decide +kernel) rfl
theorem w_682 : Cond.methodLink "PuzzleRegistryLaw" 174 yL_scoreAnew ∈ TW := q_mem 682 (by decide +kernel) rfl
theorem w_683 : Cond.static yL_scoreAnew ∈ TW := q_mem 683 (by decide +kernel) rfl
theorem w_685 : Cond.methodLink "PuzzleRegistryLaw" 84 yX5_scoreAnew ∈ TW := q_mem 685 (by decide +kernel) rfl
theorem w_686 : Cond.instanceMethod yX5_scoreAnew ∈ TW := q_mem 686 (by decide +kernel) rfl
theorem w_687 : Cond.selects "PuzzleRegistry" yX5_scoreAnew yX5_scoreAnew ∈ TW := q_mem 687 (by decide +kernel) rfl
theorem w_688 : Cond.code yX5_scoreAnew cX5_scoreAnew 2 ((some .int)) ∈ TW := q_mem 688 (by decide +kernel) rfl
theorem w_689 : Cond.methodLinkNest "PuzzleRegistry" 222 yX2_wipe "PuzzleRegistry" ∈ TW := q_mem 689 (by decide +kernel) rfl
theorem w_691 : Cond.instanceMethod yX2_wipe ∈ TW := q_mem 691 (by decide +kernel) rfl
theorem w_692 : Cond.code yX2_wipe cX2_wipe 1 none ∈ TW := q_mem 692 (by decide +kernel) rfl
theorem w_693 : Cond.methodLink "PuzzleRegistry$Records" 30 yJ7_fill_53178 ∈ TW := q_mem 693 (by decide +kernel) rfl
theorem w_694 : Cond.static yJ7_fill_53178 ∈ TW := q_mem 694 (by decide +kernel) rfl
theorem w_695 : Cond.code yJ7_fill_53178 cJ7_fill_53178 4 none ∈ TW := q_mem 695 (by decide +kernel) rfl
theorem w_696 : Cond.methodLink "PuzzleRegistry" 225 yX5_replaySolutions ∈ TW := q_mem 696 (by decide +kernel) rfl
theorem w_698 : Cond.instanceMethod yX5_replaySolutions ∈ TW := q_mem 698 (by decide +kernel) rfl
theorem w_699 : Cond.code yX5_replaySolutions cX5_replaySolutions 2 none ∈ TW := q_mem 699 (by decide +kernel) rfl
theorem w_700 : Cond.methodLink "PuzzleRegistry" 299 yX5_isRight ∈ TW := q_mem 700 (by decide +kernel) rfl
theorem w_702 : Cond.instanceMethod yX5_isRight ∈ TW := q_mem 702 (by decide +kernel) rfl
theorem w_703 : Cond.code yX5_isRight cX5_isRight 2 ((some .boolean)) ∈ TW := q_mem 703 (by decide +kernel) rfl
theorem w_704 : Cond.methodLink "PuzzleRegistry" 228 yX5_comparePairs ∈ TW := q_mem 704 (by decide +kernel) rfl
theorem w_706 : Cond.instanceMethod yX5_comparePairs ∈ TW := q_mem 706 (by decide +kernel) rfl
theorem w_707 : Cond.code yX5_comparePairs cX5_comparePairs 3 none ∈ TW := q_mem 707 (by decide +kernel) rfl
theorem w_708 : Cond.methodLinkNest "PuzzleRegistry" 311 yX0_isRepeated "PuzzleRegistry" ∈ TW := q_mem 708 (by decide +kernel) rfl
theorem w_710 : Cond.instanceMethod yX0_isRepeated ∈ TW := q_mem 710 (by decide +kernel) rfl
theorem w_711 : Cond.code yX0_isRepeated cX0_isRepeated 3 ((some .boolean)) ∈ TW := q_mem 711 (by decide +kernel) rfl
theorem w_712 : Cond.methodLink "PuzzleRegistry$Answers" 32 yX0_areSame ∈ TW := q_mem 712 (by decide +kernel) rfl
theorem w_714 : Cond.instanceMethod yX0_areSame ∈ TW := q_mem 714 (by decide +kernel) rfl
theorem w_715 : Cond.code yX0_areSame cX0_areSame 3 ((some .boolean)) ∈ TW := q_mem 715 (by decide +kernel) rfl
theorem w_716 : Cond.methodLink "PuzzleRegistry" 314 yX5_compareWithOthers ∈ TW := q_mem 716 (by decide +kernel) rfl
theorem w_718 : Cond.instanceMethod yX5_compareWithOthers ∈ TW := q_mem 718 (by decide +kernel) rfl
theorem w_719 : Cond.code yX5_compareWithOthers cX5_compareWithOthers 4 none ∈ TW := q_mem 719 (by decide +kernel) rfl
theorem w_720 : Cond.methodLinkNest "PuzzleRegistry" 317 yX0_areSame "PuzzleRegistry" ∈ TW := q_mem 720 (by decide +kernel) rfl
theorem w_721 : Cond.methodLink "PuzzleRegistry" 231 yX5_replaySales ∈ TW := q_mem 721 (by decide +kernel) rfl
theorem w_723 : Cond.instanceMethod yX5_replaySales ∈ TW := q_mem 723 (by decide +kernel) rfl
theorem w_724 : Cond.code yX5_replaySales cX5_replaySales 4 none ∈ TW := q_mem 724 (by decide +kernel) rfl
theorem w_725 : Cond.methodLink "PuzzleRegistry" 323 yX5_sale ∈ TW := q_mem 725 (by decide +kernel) rfl
theorem w_726 : Cond.methodLink "PuzzleRegistryLaw" 177 yL_place ∈ TW := q_mem 726 (by decide +kernel) rfl
theorem w_727 : Cond.static yL_place ∈ TW := q_mem 727 (by decide +kernel) rfl
theorem w_729 : Cond.methodLink "PuzzleRegistryLaw" 87 yX5_place ∈ TW := q_mem 729 (by decide +kernel) rfl
theorem w_730 : Cond.instanceMethod yX5_place ∈ TW := q_mem 730 (by decide +kernel) rfl
theorem w_731 : Cond.selects "PuzzleRegistry" yX5_place yX5_place ∈ TW := q_mem 731 (by decide +kernel) rfl
theorem w_732 : Cond.code yX5_place cX5_place 2 ((some .int)) ∈ TW := q_mem 732 (by decide +kernel) rfl
theorem w_733 : Cond.methodLink "PuzzleRegistryLaw" 184 yL_setPrize ∈ TW := q_mem 733 (by decide +kernel) rfl
theorem w_734 : Cond.static yL_setPrize ∈ TW := q_mem 734 (by decide +kernel) rfl
theorem w_736 : Cond.methodLink "PuzzleRegistryLaw" 90 yX5_setPrize ∈ TW := q_mem 736 (by decide +kernel) rfl
theorem w_737 : Cond.instanceMethod yX5_setPrize ∈ TW := q_mem 737 (by decide +kernel) rfl
theorem w_738 : Cond.selects "PuzzleRegistry" yX5_setPrize yX5_setPrize ∈ TW := q_mem 738 (by decide +kernel) rfl
theorem w_739 : Cond.code yX5_setPrize cX5_setPrize 4 ((some .int)) ∈ TW := q_mem 739 (by decide +kernel) rfl
theorem w_740 : Cond.methodLink "PuzzleRegistryLaw" 187 yL_prize ∈ TW := q_mem 740 (by decide +kernel) rfl
theorem w_741 : Cond.static yL_prize ∈ TW := q_mem 741 (by decide +kernel) rfl
theorem w_743 : Cond.methodLink "PuzzleRegistryLaw" 93 yX5_prize ∈ TW := q_mem 743 (by decide +kernel) rfl
theorem w_744 : Cond.instanceMethod yX5_prize ∈ TW := q_mem 744 (by decide +kernel) rfl
theorem w_745 : Cond.selects "PuzzleRegistry" yX5_prize yX5_prize ∈ TW := q_mem 745 (by decide +kernel) rfl
theorem w_746 : Cond.code yX5_prize cX5_prize 3 ((some .int)) ∈ TW := q_mem 746 (by decide +kernel) rfl
theorem w_748 : Cond.methodLink "PuzzleRegistry" 245 yX5_sumPrizes ∈ TW := q_mem 748 (by decide +kernel) rfl
theorem w_750 : Cond.instanceMethod yX5_sumPrizes ∈ TW := q_mem 750 (by decide +kernel) rfl
theorem w_751 : Cond.code yX5_sumPrizes cX5_sumPrizes 5 ((some .int)) ∈ TW := q_mem 751 (by decide +kernel) rfl
theorem w_752 : Cond.classLink "PuzzleRegistryLaw" 97 "PuzzleRegistryModel" ∈ TW := q_mem 752 (by decide +kernel) rfl
theorem w_753 : Cond.instantiable "PuzzleRegistryModel" 22 ∈ TW := q_mem 753 (by decide +kernel) rfl
theorem w_754 : Cond.methodLink "PuzzleRegistryLaw" 99 yX6_init ∈ TW := q_mem 754 (by decide +kernel) rfl
theorem w_755 : Cond.instanceMethod yX6_init ∈ TW := q_mem 755 (by decide +kernel) rfl
theorem w_756 : Cond.code yX6_init cX6_init 1 none ∈ TW := q_mem 756 (by decide +kernel) rfl
theorem w_757 : Cond.methodLink "PuzzleRegistryModel" 1 ⟨"java/lang/Object", "<init>", "()V"⟩ ∈ TW := q_mem 757 (by decide +kernel) rfl
theorem w_758 : Cond.fieldLink "PuzzleRegistryModel" 73 "PuzzleRegistryModel" "now" "I" ∈ TW := q_mem 758 (by decide +kernel) rfl
theorem w_759 : Cond.fieldLink "PuzzleRegistryModel" 80 "PuzzleRegistryModel" "isOver" "Z" ∈ TW := q_mem 759 (by decide +kernel) rfl
theorem w_760 : Cond.fieldLink "PuzzleRegistryModel" 63 "PuzzleRegistryModel" "riddles" "I" ∈ TW := q_mem 760 (by decide +kernel) rfl
theorem w_761 : Cond.fieldLink "PuzzleRegistryModel" 7 "PuzzleRegistryModel" "points" "[I" ∈ TW := q_mem 761 (by decide +kernel) rfl
theorem w_762 : Cond.fieldLink "PuzzleRegistryModel" 13 "PuzzleRegistryModel" "keys" "[I" ∈ TW := q_mem 762 (by decide +kernel) rfl
theorem w_763 : Cond.fieldLink "PuzzleRegistryModel" 16 "PuzzleRegistryModel" "leasts" "[I" ∈ TW := q_mem 763 (by decide +kernel) rfl
theorem w_764 : Cond.fieldLink "PuzzleRegistryModel" 19 "PuzzleRegistryModel" "prices" "[I" ∈ TW := q_mem 764 (by decide +kernel) rfl
theorem w_765 : Cond.fieldLink "PuzzleRegistryModel" 22 "PuzzleRegistryModel" "needs" "[I" ∈ TW := q_mem 765 (by decide +kernel) rfl
theorem w_766 : Cond.fieldLink "PuzzleRegistryModel" 70 "PuzzleRegistryModel" "teams" "I" ∈ TW := q_mem 766 (by decide +kernel) rfl
theorem w_767 : Cond.fieldLink "PuzzleRegistryModel" 25 "PuzzleRegistryModel" "solved" "[I" ∈ TW := q_mem 767 (by decide +kernel) rfl
theorem w_768 : Cond.fieldLink "PuzzleRegistryModel" 28 "PuzzleRegistryModel" "isSoon" "[Z" ∈ TW := q_mem 768 (by decide +kernel) rfl
theorem w_769 : Cond.fieldLink "PuzzleRegistryModel" 32 "PuzzleRegistryModel" "isCleared" "[Z" ∈ TW := q_mem 769 (by decide +kernel) rfl
theorem w_770 : Cond.fieldLink "PuzzleRegistryModel" 35 "PuzzleRegistryModel" "hints" "[I" ∈ TW := q_mem 770 (by decide +kernel) rfl
theorem w_771 : Cond.fieldLink "PuzzleRegistryModel" 38 "PuzzleRegistryModel" "paid" "[I" ∈ TW := q_mem 771 (by decide +kernel) rfl
theorem w_772 : Cond.fieldLink "PuzzleRegistryModel" 84 "PuzzleRegistryModel" "answers" "I" ∈ TW := q_mem 772 (by decide +kernel) rfl
theorem w_773 : Cond.fieldLink "PuzzleRegistryModel" 41 "PuzzleRegistryModel" "givers" "[I" ∈ TW := q_mem 773 (by decide +kernel) rfl
theorem w_774 : Cond.fieldLink "PuzzleRegistryModel" 44 "PuzzleRegistryModel" "given" "[I" ∈ TW := q_mem 774 (by decide +kernel) rfl
theorem w_775 : Cond.fieldLink "PuzzleRegistryModel" 47 "PuzzleRegistryModel" "words" "[I" ∈ TW := q_mem 775 (by decide +kernel) rfl
theorem w_776 : Cond.fieldLink "PuzzleRegistryModel" 50 "PuzzleRegistryModel" "arePardoned" "[Z" ∈ TW := q_mem 776 (by decide +kernel) rfl
theorem w_777 : Cond.fieldLink "PuzzleRegistryModel" 53 "PuzzleRegistryModel" "bound" "I" ∈ TW := q_mem 777 (by decide +kernel) rfl
theorem w_778 : Cond.fieldLink "PuzzleRegistryModel" 57 "PuzzleRegistryModel" "prizes" "[I" ∈ TW := q_mem 778 (by decide +kernel) rfl
theorem w_779 : Cond.fieldLink "PuzzleRegistryModel" 60 "PuzzleRegistryModel" "thrown" "I" ∈ TW := q_mem 779 (by decide +kernel) rfl
theorem w_825 : Cond.arrayClass .boolean ∈ TW := q_mem 825 (by decide +kernel) rfl
theorem w_826 : Cond.methodLink "PuzzleRegistryLaw" 106 yX6_thrown ∈ TW := q_mem 826 (by decide +kernel) rfl
theorem w_827 : Cond.instanceMethod yX6_thrown ∈ TW := q_mem 827 (by decide +kernel) rfl
theorem w_828 : Cond.selects "PuzzleRegistryModel" yX6_thrown yX6_thrown ∈ TW := q_mem 828 (by decide +kernel) rfl
theorem w_829 : Cond.code yX6_thrown cX6_thrown 1 ((some .int)) ∈ TW := q_mem 829 (by decide +kernel) rfl
theorem w_830 : Cond.methodLink "PuzzleRegistryLaw" 105 yX6_pass ∈ TW := q_mem 830 (by decide +kernel) rfl
theorem w_831 : Cond.instanceMethod yX6_pass ∈ TW := q_mem 831 (by decide +kernel) rfl
theorem w_832 : Cond.selects "PuzzleRegistryModel" yX6_pass yX6_pass ∈ TW := q_mem 832 (by decide +kernel) rfl
theorem w_833 : Cond.code yX6_pass cX6_pass 2 ((some .int)) ∈ TW := q_mem 833 (by decide +kernel) rfl
theorem w_834 : Cond.methodLink "PuzzleRegistryModel" 66 yX6_isIn ∈ TW := q_mem 834 (by decide +kernel) rfl
theorem w_835 : Cond.static yX6_isIn ∈ TW := q_mem 835 (by decide +kernel) rfl
theorem w_836 : Cond.code yX6_isIn cX6_isIn 3 ((some .boolean)) ∈ TW := q_mem 836 (by decide +kernel) rfl
theorem w_837 : Cond.methodLink "PuzzleRegistryModel" 76 yX6_goes ∈ TW := q_mem 837 (by decide +kernel) rfl
theorem w_839 : Cond.instanceMethod yX6_goes ∈ TW := q_mem 839 (by decide +kernel) rfl
theorem w_840 : Cond.code yX6_goes cX6_goes 2 ((some .boolean)) ∈ TW := q_mem 840 (by decide +kernel) rfl
theorem w_841 : Cond.methodLink "PuzzleRegistryLaw" 112 yX6_now ∈ TW := q_mem 841 (by decide +kernel) rfl
theorem w_842 : Cond.instanceMethod yX6_now ∈ TW := q_mem 842 (by decide +kernel) rfl
theorem w_843 : Cond.selects "PuzzleRegistryModel" yX6_now yX6_now ∈ TW := q_mem 843 (by decide +kernel) rfl
theorem w_844 : Cond.code yX6_now cX6_now 1 ((some .int)) ∈ TW := q_mem 844 (by decide +kernel) rfl
theorem w_845 : Cond.methodLink "PuzzleRegistryLaw" 116 yX6_addRiddle ∈ TW := q_mem 845 (by decide +kernel) rfl
theorem w_846 : Cond.instanceMethod yX6_addRiddle ∈ TW := q_mem 846 (by decide +kernel) rfl
theorem w_847 : Cond.selects "PuzzleRegistryModel" yX6_addRiddle yX6_addRiddle ∈ TW := q_mem 847 (by decide +kernel) rfl
theorem w_848 : Cond.code yX6_addRiddle cX6_addRiddle 6 ((some .int)) ∈ TW := q_mem 848 (by decide +kernel) rfl
theorem w_849 : Cond.methodLink "PuzzleRegistryLaw" 120 yX6_need ∈ TW := q_mem 849 (by decide +kernel) rfl
theorem w_850 : Cond.instanceMethod yX6_need ∈ TW := q_mem 850 (by decide +kernel) rfl
theorem w_851 : Cond.selects "PuzzleRegistryModel" yX6_need yX6_need ∈ TW := q_mem 851 (by decide +kernel) rfl
theorem w_852 : Cond.code yX6_need cX6_need 4 ((some .int)) ∈ TW := q_mem 852 (by decide +kernel) rfl
theorem w_853 : Cond.methodLink "PuzzleRegistryModel" 91 yX6_isRiddle ∈ TW := q_mem 853 (by decide +kernel) rfl
theorem w_855 : Cond.instanceMethod yX6_isRiddle ∈ TW := q_mem 855 (by decide +kernel) rfl
theorem w_856 : Cond.code yX6_isRiddle cX6_isRiddle 2 ((some .boolean)) ∈ TW := q_mem 856 (by decide +kernel) rfl
theorem w_857 : Cond.methodLink "PuzzleRegistryModel" 94 yX6_doesNeed ∈ TW := q_mem 857 (by decide +kernel) rfl
theorem w_859 : Cond.instanceMethod yX6_doesNeed ∈ TW := q_mem 859 (by decide +kernel) rfl
theorem w_860 : Cond.code yX6_doesNeed cX6_doesNeed 3 ((some .boolean)) ∈ TW := q_mem 860 (by decide +kernel) rfl
theorem w_861 : Cond.methodLink "PuzzleRegistryModel" 98 yX6_isTouched ∈ TW := q_mem 861 (by decide +kernel) rfl
theorem w_863 : Cond.instanceMethod yX6_isTouched ∈ TW := q_mem 863 (by decide +kernel) rfl
theorem w_864 : Cond.code yX6_isTouched cX6_isTouched 4 ((some .boolean)) ∈ TW := q_mem 864 (by decide +kernel) rfl
theorem w_865 : Cond.methodLink "PuzzleRegistryModel" 87 yX6_at ∈ TW := q_mem 865 (by decide +kernel) rfl
theorem w_866 : Cond.static yX6_at ∈ TW := q_mem 866 (by decide +kernel) rfl
theorem w_867 : Cond.code yX6_at cX6_at 2 ((some .int)) ∈ TW := q_mem 867 (by decide +kernel) rfl
theorem w_868 : Cond.methodLink "PuzzleRegistryModel" 101 yX6_bits ∈ TW := q_mem 868 (by decide +kernel) rfl
theorem w_869 : Cond.static yX6_bits ∈ TW := q_mem 869 (by decide +kernel) rfl
theorem w_870 : Cond.code yX6_bits cX6_bits 3 ((some .int)) ∈ TW := q_mem 870 (by decide +kernel) rfl
theorem w_871 : Cond.methodLink "PuzzleRegistryLaw" 124 yX6_addTeam ∈ TW := q_mem 871 (by decide +kernel) rfl
theorem w_872 : Cond.instanceMethod yX6_addTeam ∈ TW := q_mem 872 (by decide +kernel) rfl
theorem w_873 : Cond.selects "PuzzleRegistryModel" yX6_addTeam yX6_addTeam ∈ TW := q_mem 873 (by decide +kernel) rfl
theorem w_874 : Cond.code yX6_addTeam cX6_addTeam 2 ((some .int)) ∈ TW := q_mem 874 (by decide +kernel) rfl
theorem w_875 : Cond.methodLink "PuzzleRegistryLaw" 127 yX6_end ∈ TW := q_mem 875 (by decide +kernel) rfl
theorem w_876 : Cond.instanceMethod yX6_end ∈ TW := q_mem 876 (by decide +kernel) rfl
theorem w_877 : Cond.selects "PuzzleRegistryModel" yX6_end yX6_end ∈ TW := q_mem 877 (by decide +kernel) rfl
theorem w_878 : Cond.code yX6_end cX6_end 3 ((some .int)) ∈ TW := q_mem 878 (by decide +kernel) rfl
theorem w_879 : Cond.methodLink "PuzzleRegistryModel" 105 yX6_isOpenToAll ∈ TW := q_mem 879 (by decide +kernel) rfl
theorem w_881 : Cond.instanceMethod yX6_isOpenToAll ∈ TW := q_mem 881 (by decide +kernel) rfl
theorem w_882 : Cond.code yX6_isOpenToAll cX6_isOpenToAll 4 ((some .boolean)) ∈ TW := q_mem 882 (by decide +kernel) rfl
theorem w_883 : Cond.methodLink "PuzzleRegistryLaw" 131 yX6_answer ∈ TW := q_mem 883 (by decide +kernel) rfl
theorem w_884 : Cond.instanceMethod yX6_answer ∈ TW := q_mem 884 (by decide +kernel) rfl
theorem w_885 : Cond.selects "PuzzleRegistryModel" yX6_answer yX6_answer ∈ TW := q_mem 885 (by decide +kernel) rfl
theorem w_886 : Cond.code yX6_answer cX6_answer 5 ((some .boolean)) ∈ TW := q_mem 886 (by decide +kernel) rfl
theorem w_887 : Cond.methodLink "PuzzleRegistryModel" 114 yX6_wrong ∈ TW := q_mem 887 (by decide +kernel) rfl
theorem w_889 : Cond.instanceMethod yX6_wrong ∈ TW := q_mem 889 (by decide +kernel) rfl
theorem w_890 : Cond.code yX6_wrong cX6_wrong 3 ((some .int)) ∈ TW := q_mem 890 (by decide +kernel) rfl
theorem w_891 : Cond.methodLink "PuzzleRegistryModel" 108 yX6_isTeam ∈ TW := q_mem 891 (by decide +kernel) rfl
theorem w_893 : Cond.instanceMethod yX6_isTeam ∈ TW := q_mem 893 (by decide +kernel) rfl
theorem w_894 : Cond.code yX6_isTeam cX6_isTeam 2 ((some .boolean)) ∈ TW := q_mem 894 (by decide +kernel) rfl
theorem w_895 : Cond.methodLink "PuzzleRegistryModel" 117 yX6_isDone ∈ TW := q_mem 895 (by decide +kernel) rfl
theorem w_897 : Cond.instanceMethod yX6_isDone ∈ TW := q_mem 897 (by decide +kernel) rfl
theorem w_898 : Cond.code yX6_isDone cX6_isDone 3 ((some .boolean)) ∈ TW := q_mem 898 (by decide +kernel) rfl
theorem w_899 : Cond.methodLink "PuzzleRegistryModel" 111 yX6_opened ∈ TW := q_mem 899 (by decide +kernel) rfl
theorem w_901 : Cond.instanceMethod yX6_opened ∈ TW := q_mem 901 (by decide +kernel) rfl
theorem w_902 : Cond.code yX6_opened cX6_opened 7 ((some .int)) ∈ TW := q_mem 902 (by decide +kernel) rfl
theorem w_903 : Cond.methodLink "PuzzleRegistryLaw" 134 yX6_hint ∈ TW := q_mem 903 (by decide +kernel) rfl
theorem w_904 : Cond.instanceMethod yX6_hint ∈ TW := q_mem 904 (by decide +kernel) rfl
theorem w_905 : Cond.selects "PuzzleRegistryModel" yX6_hint yX6_hint ∈ TW := q_mem 905 (by decide +kernel) rfl
theorem w_906 : Cond.code yX6_hint cX6_hint 4 ((some .int)) ∈ TW := q_mem 906 (by decide +kernel) rfl
theorem w_907 : Cond.methodLink "PuzzleRegistryModel" 120 yX6_priceOf ∈ TW := q_mem 907 (by decide +kernel) rfl
theorem w_909 : Cond.instanceMethod yX6_priceOf ∈ TW := q_mem 909 (by decide +kernel) rfl
theorem w_910 : Cond.code yX6_priceOf cX6_priceOf 5 ((some .int)) ∈ TW := q_mem 910 (by decide +kernel) rfl
theorem w_911 : Cond.methodLink "PuzzleRegistryLaw" 137 yX6_price ∈ TW := q_mem 911 (by decide +kernel) rfl
theorem w_912 : Cond.instanceMethod yX6_price ∈ TW := q_mem 912 (by decide +kernel) rfl
theorem w_913 : Cond.selects "PuzzleRegistryModel" yX6_price yX6_price ∈ TW := q_mem 913 (by decide +kernel) rfl
theorem w_914 : Cond.code yX6_price cX6_price 3 ((some .int)) ∈ TW := q_mem 914 (by decide +kernel) rfl
theorem w_915 : Cond.methodLink "PuzzleRegistryLaw" 140 yX6_openedAt ∈ TW := q_mem 915 (by decide +kernel) rfl
theorem w_916 : Cond.instanceMethod yX6_openedAt ∈ TW := q_mem 916 (by decide +kernel) rfl
theorem w_917 : Cond.selects "PuzzleRegistryModel" yX6_openedAt yX6_openedAt ∈ TW := q_mem 917 (by decide +kernel) rfl
theorem w_918 : Cond.code yX6_openedAt cX6_openedAt 3 ((some .int)) ∈ TW := q_mem 918 (by decide +kernel) rfl
theorem w_919 : Cond.methodLink "PuzzleRegistryLaw" 143 yX6_solvedAt ∈ TW := q_mem 919 (by decide +kernel) rfl
theorem w_920 : Cond.instanceMethod yX6_solvedAt ∈ TW := q_mem 920 (by decide +kernel) rfl
theorem w_921 : Cond.selects "PuzzleRegistryModel" yX6_solvedAt yX6_solvedAt ∈ TW := q_mem 921 (by decide +kernel) rfl
theorem w_922 : Cond.code yX6_solvedAt cX6_solvedAt 3 ((some .int)) ∈ TW := q_mem 922 (by decide +kernel) rfl
theorem w_923 : Cond.methodLink "PuzzleRegistryLaw" 146 yX6_clear ∈ TW := q_mem 923 (by decide +kernel) rfl
theorem w_924 : Cond.instanceMethod yX6_clear ∈ TW := q_mem 924 (by decide +kernel) rfl
theorem w_925 : Cond.selects "PuzzleRegistryModel" yX6_clear yX6_clear ∈ TW := q_mem 925 (by decide +kernel) rfl
theorem w_926 : Cond.code yX6_clear cX6_clear 3 ((some .boolean)) ∈ TW := q_mem 926 (by decide +kernel) rfl
theorem w_927 : Cond.methodLink "PuzzleRegistryLaw" 149 yX6_pardon ∈ TW := q_mem 927 (by decide +kernel) rfl
theorem w_928 : Cond.instanceMethod yX6_pardon ∈ TW := q_mem 928 (by decide +kernel) rfl
theorem w_929 : Cond.selects "PuzzleRegistryModel" yX6_pardon yX6_pardon ∈ TW := q_mem 929 (by decide +kernel) rfl
theorem w_930 : Cond.code yX6_pardon cX6_pardon 4 ((some .boolean)) ∈ TW := q_mem 930 (by decide +kernel) rfl
theorem w_931 : Cond.methodLink "PuzzleRegistryLaw" 152 yX6_setBound ∈ TW := q_mem 931 (by decide +kernel) rfl
theorem w_932 : Cond.instanceMethod yX6_setBound ∈ TW := q_mem 932 (by decide +kernel) rfl
theorem w_933 : Cond.selects "PuzzleRegistryModel" yX6_setBound yX6_setBound ∈ TW := q_mem 933 (by decide +kernel) rfl
theorem w_934 : Cond.code yX6_setBound cX6_setBound 3 ((some .int)) ∈ TW := q_mem 934 (by decide +kernel) rfl
theorem w_935 : Cond.methodLink "PuzzleRegistryLaw" 155 yX6_isFree ∈ TW := q_mem 935 (by decide +kernel) rfl
theorem w_936 : Cond.instanceMethod yX6_isFree ∈ TW := q_mem 936 (by decide +kernel) rfl
theorem w_937 : Cond.selects "PuzzleRegistryModel" yX6_isFree yX6_isFree ∈ TW := q_mem 937 (by decide +kernel) rfl
theorem w_938 : Cond.code yX6_isFree cX6_isFree 2 ((some .boolean)) ∈ TW := q_mem 938 (by decide +kernel) rfl
theorem w_939 : Cond.methodLink "PuzzleRegistryLaw" 158 yX6_likeness ∈ TW := q_mem 939 (by decide +kernel) rfl
theorem w_940 : Cond.instanceMethod yX6_likeness ∈ TW := q_mem 940 (by decide +kernel) rfl
theorem w_941 : Cond.selects "PuzzleRegistryModel" yX6_likeness yX6_likeness ∈ TW := q_mem 941 (by decide +kernel) rfl
theorem w_942 : Cond.code yX6_likeness cX6_likeness 3 ((some .int)) ∈ TW := q_mem 942 (by decide +kernel) rfl
theorem w_943 : Cond.methodLink "PuzzleRegistryModel" 130 yX6_likenessOf ∈ TW := q_mem 943 (by decide +kernel) rfl
theorem w_945 : Cond.instanceMethod yX6_likenessOf ∈ TW := q_mem 945 (by decide +kernel) rfl
theorem w_946 : Cond.code yX6_likenessOf cX6_likenessOf 5 ((some .int)) ∈ TW := q_mem 946 (by decide +kernel) rfl
theorem w_947 : Cond.methodLink "PuzzleRegistryModel" 127 yX6_isCommon ∈ TW := q_mem 947 (by decide +kernel) rfl
theorem w_949 : Cond.instanceMethod yX6_isCommon ∈ TW := q_mem 949 (by decide +kernel) rfl
theorem w_950 : Cond.code yX6_isCommon cX6_isCommon 4 ((some .boolean)) ∈ TW := q_mem 950 (by decide +kernel) rfl
theorem w_951 : Cond.methodLink "PuzzleRegistryModel" 123 yX6_gave ∈ TW := q_mem 951 (by decide +kernel) rfl
theorem w_953 : Cond.instanceMethod yX6_gave ∈ TW := q_mem 953 (by decide +kernel) rfl
theorem w_954 : Cond.code yX6_gave cX6_gave 7 ((some .boolean)) ∈ TW := q_mem 954 (by decide +kernel) rfl
theorem w_955 : Cond.methodLink "PuzzleRegistryLaw" 161 yX6_areLinked ∈ TW := q_mem 955 (by decide +kernel) rfl
theorem w_956 : Cond.instanceMethod yX6_areLinked ∈ TW := q_mem 956 (by decide +kernel) rfl
theorem w_957 : Cond.selects "PuzzleRegistryModel" yX6_areLinked yX6_areLinked ∈ TW := q_mem 957 (by decide +kernel) rfl
theorem w_958 : Cond.code yX6_areLinked cX6_areLinked 3 ((some .boolean)) ∈ TW := q_mem 958 (by decide +kernel) rfl
theorem w_959 : Cond.methodLink "PuzzleRegistryModel" 133 yX6_are ∈ TW := q_mem 959 (by decide +kernel) rfl
theorem w_961 : Cond.instanceMethod yX6_are ∈ TW := q_mem 961 (by decide +kernel) rfl
theorem w_962 : Cond.code yX6_are cX6_are 3 ((some .boolean)) ∈ TW := q_mem 962 (by decide +kernel) rfl
theorem w_963 : Cond.methodLink "PuzzleRegistryLaw" 164 yX6_isCheated ∈ TW := q_mem 963 (by decide +kernel) rfl
theorem w_964 : Cond.instanceMethod yX6_isCheated ∈ TW := q_mem 964 (by decide +kernel) rfl
theorem w_965 : Cond.selects "PuzzleRegistryModel" yX6_isCheated yX6_isCheated ∈ TW := q_mem 965 (by decide +kernel) rfl
theorem w_966 : Cond.code yX6_isCheated cX6_isCheated 3 ((some .boolean)) ∈ TW := q_mem 966 (by decide +kernel) rfl
theorem w_967 : Cond.methodLink "PuzzleRegistryModel" 136 yX6_cheated ∈ TW := q_mem 967 (by decide +kernel) rfl
theorem w_969 : Cond.instanceMethod yX6_cheated ∈ TW := q_mem 969 (by decide +kernel) rfl
theorem w_970 : Cond.code yX6_cheated cX6_cheated 6 ((some .int)) ∈ TW := q_mem 970 (by decide +kernel) rfl
theorem w_971 : Cond.methodLink "PuzzleRegistryLaw" 167 yX6_isVoid ∈ TW := q_mem 971 (by decide +kernel) rfl
theorem w_972 : Cond.instanceMethod yX6_isVoid ∈ TW := q_mem 972 (by decide +kernel) rfl
theorem w_973 : Cond.selects "PuzzleRegistryModel" yX6_isVoid yX6_isVoid ∈ TW := q_mem 973 (by decide +kernel) rfl
theorem w_974 : Cond.code yX6_isVoid cX6_isVoid 3 ((some .boolean)) ∈ TW := q_mem 974 (by decide +kernel) rfl
theorem w_975 : Cond.methodLink "PuzzleRegistryModel" 139 yX6_voids ∈ TW := q_mem 975 (by decide +kernel) rfl
theorem w_977 : Cond.instanceMethod yX6_voids ∈ TW := q_mem 977 (by decide +kernel) rfl
theorem w_978 : Cond.code yX6_voids cX6_voids 6 ((some .int)) ∈ TW := q_mem 978 (by decide +kernel) rfl
theorem w_979 : Cond.methodLink "PuzzleRegistryLaw" 170 yX6_hanging ∈ TW := q_mem 979 (by decide +kernel) rfl
theorem w_980 : Cond.instanceMethod yX6_hanging ∈ TW := q_mem 980 (by decide +kernel) rfl
theorem w_981 : Cond.selects "PuzzleRegistryModel" yX6_hanging yX6_hanging ∈ TW := q_mem 981 (by decide +kernel) rfl
theorem w_982 : Cond.code yX6_hanging cX6_hanging 4 ((some .int)) ∈ TW := q_mem 982 (by decide +kernel) rfl
theorem w_983 : Cond.methodLink "PuzzleRegistryLaw" 173 yX6_score ∈ TW := q_mem 983 (by decide +kernel) rfl
theorem w_984 : Cond.instanceMethod yX6_score ∈ TW := q_mem 984 (by decide +kernel) rfl
theorem w_985 : Cond.selects "PuzzleRegistryModel" yX6_score yX6_score ∈ TW := q_mem 985 (by decide +kernel) rfl
theorem w_986 : Cond.code yX6_score cX6_score 2 ((some .int)) ∈ TW := q_mem 986 (by decide +kernel) rfl
theorem w_987 : Cond.methodLink "PuzzleRegistryModel" 148 yX6_scored ∈ TW := q_mem 987 (by decide +kernel) rfl
theorem w_989 : Cond.instanceMethod yX6_scored ∈ TW := q_mem 989 (by decide +kernel) rfl
theorem w_990 : Cond.code yX6_scored cX6_scored 2 ((some .int)) ∈ TW := q_mem 990 (by decide +kernel) rfl
theorem w_991 : Cond.methodLink "PuzzleRegistryModel" 145 yX6_scoreOf ∈ TW := q_mem 991 (by decide +kernel) rfl
theorem w_993 : Cond.instanceMethod yX6_scoreOf ∈ TW := q_mem 993 (by decide +kernel) rfl
theorem w_994 : Cond.code yX6_scoreOf cX6_scoreOf 5 ((some .int)) ∈ TW := q_mem 994 (by decide +kernel) rfl
theorem w_995 : Cond.methodLink "PuzzleRegistryModel" 142 yX6_counting ∈ TW := q_mem 995 (by decide +kernel) rfl
theorem w_997 : Cond.instanceMethod yX6_counting ∈ TW := q_mem 997 (by decide +kernel) rfl
theorem w_998 : Cond.code yX6_counting cX6_counting 6 ((some .int)) ∈ TW := q_mem 998 (by decide +kernel) rfl
theorem w_999 : Cond.methodLink "PuzzleRegistryLaw" 176 yX6_scoreAnew ∈ TW := q_mem 999 (by decide +kernel) rfl
theorem w_1000 : Cond.instanceMethod yX6_scoreAnew ∈ TW := q_mem 1000 (by decide +kernel) rfl
theorem w_1001 : Cond.selects "PuzzleRegistryModel" yX6_scoreAnew yX6_scoreAnew ∈ TW := q_mem 1001 (by decide +kernel) rfl
theorem w_1002 : Cond.code yX6_scoreAnew cX6_scoreAnew 2 ((some .int)) ∈ TW := q_mem 1002 (by decide +kernel) rfl
theorem w_1003 : Cond.methodLink "PuzzleRegistryLaw" 179 yX6_place ∈ TW := q_mem 1003 (by decide +kernel) rfl
theorem w_1004 : Cond.instanceMethod yX6_place ∈ TW := q_mem 1004 (by decide +kernel) rfl
theorem w_1005 : Cond.selects "PuzzleRegistryModel" yX6_place yX6_place ∈ TW := q_mem 1005 (by decide +kernel) rfl
theorem w_1006 : Cond.code yX6_place cX6_place 2 ((some .int)) ∈ TW := q_mem 1006 (by decide +kernel) rfl
theorem w_1007 : Cond.methodLink "PuzzleRegistryModel" 154 yX6_ahead ∈ TW := q_mem 1007 (by decide +kernel) rfl
theorem w_1009 : Cond.instanceMethod yX6_ahead ∈ TW := q_mem 1009 (by decide +kernel) rfl
theorem w_1010 : Cond.code yX6_ahead cX6_ahead 9 ((some .int)) ∈ TW := q_mem 1010 (by decide +kernel) rfl
theorem w_1011 : Cond.methodLink "PuzzleRegistryModel" 151 yX6_lastOf ∈ TW := q_mem 1011 (by decide +kernel) rfl
theorem w_1013 : Cond.instanceMethod yX6_lastOf ∈ TW := q_mem 1013 (by decide +kernel) rfl
theorem w_1014 : Cond.code yX6_lastOf cX6_lastOf 6 ((some .int)) ∈ TW := q_mem 1014 (by decide +kernel) rfl
theorem w_1015 : Cond.methodLink "PuzzleRegistryLaw" 183 yX6_teamAt ∈ TW := q_mem 1015 (by decide +kernel) rfl
theorem w_1016 : Cond.instanceMethod yX6_teamAt ∈ TW := q_mem 1016 (by decide +kernel) rfl
theorem w_1017 : Cond.selects "PuzzleRegistryModel" yX6_teamAt yX6_teamAt ∈ TW := q_mem 1017 (by decide +kernel) rfl
theorem w_1018 : Cond.code yX6_teamAt cX6_teamAt 4 ((some .int)) ∈ TW := q_mem 1018 (by decide +kernel) rfl
theorem w_1019 : Cond.methodLink "PuzzleRegistryLaw" 186 yX6_setPrize ∈ TW := q_mem 1019 (by decide +kernel) rfl
theorem w_1020 : Cond.instanceMethod yX6_setPrize ∈ TW := q_mem 1020 (by decide +kernel) rfl
theorem w_1021 : Cond.selects "PuzzleRegistryModel" yX6_setPrize yX6_setPrize ∈ TW := q_mem 1021 (by decide +kernel) rfl
theorem w_1022 : Cond.code yX6_setPrize cX6_setPrize 4 ((some .int)) ∈ TW := q_mem 1022 (by decide +kernel) rfl
theorem w_1023 : Cond.methodLink "PuzzleRegistryLaw" 189 yX6_prize ∈ TW := q_mem 1023 (by decide +kernel) rfl
theorem w_1024 : Cond.instanceMethod yX6_prize ∈ TW := q_mem 1024 (by decide +kernel) rfl
theorem w_1025 : Cond.selects "PuzzleRegistryModel" yX6_prize yX6_prize ∈ TW := q_mem 1025 (by decide +kernel) rfl
theorem w_1026 : Cond.code yX6_prize cX6_prize 6 ((some .int)) ∈ TW := q_mem 1026 (by decide +kernel) rfl
theorem w_1027 : Cond.arrayClass .long ∈ TW := q_mem 1027 (by decide +kernel) rfl
theorem ck_X0_append : CKv yX0_append cX0_append 5 none 4 := ⟨w_528, w_63, ⟨by decide +kernel, by decide +kernel⟩, by decide +kernel, w_527, w_22⟩
theorem ck_X0_giversOf : CKv yX0_giversOf cX0_giversOf 5 (some .int) 2 := ⟨w_518, w_63, ⟨by decide +kernel, by decide +kernel⟩, by decide +kernel, w_517, w_20⟩
theorem ck_X0_areSame : CKv yX0_areSame cX0_areSame 3 (some .boolean) 2 := ⟨w_715, w_63, ⟨by decide +kernel, by decide +kernel⟩, by decide +kernel, w_714, w_35⟩
theorem ck_X0_isRepeated : CKv yX0_isRepeated cX0_isRepeated 3 (some .boolean) 1 := ⟨w_711, w_63, ⟨by decide +kernel, by decide +kernel⟩, by decide +kernel, w_710, w_34⟩
theorem ck_X1_switchPardon : CKv yX1_switchPardon cX1_switchPardon 3 (some .boolean) 2 := ⟨w_619, w_65, ⟨by decide +kernel, by decide +kernel⟩, by decide +kernel, w_618, w_28⟩
theorem ck_X1_links : CKv yX1_links cX1_links 4 (some .boolean) 3 := ⟨w_279, w_65, ⟨by decide +kernel, by decide +kernel⟩, by decide +kernel, w_278, w_4⟩
theorem ck_X2_wipe : CKv yX2_wipe cX2_wipe 1 none 0 := ⟨w_692, w_66, ⟨by decide +kernel, by decide +kernel⟩, by decide +kernel, w_691, w_30⟩
theorem ck_X2_solve : CKv yX2_solve cX2_solve 5 none 4 := ⟨w_509, w_66, ⟨by decide +kernel, by decide +kernel⟩, by decide +kernel, w_508, w_18⟩
theorem ck_X2_pay : CKv yX2_pay cX2_pay 4 none 3 := ⟨w_561, w_66, ⟨by decide +kernel, by decide +kernel⟩, by decide +kernel, w_560, w_27⟩
theorem ck_X2_noteCommon : CKv yX2_noteCommon cX2_noteCommon 4 none 3 := ⟨w_523, w_66, ⟨by decide +kernel, by decide +kernel⟩, by decide +kernel, w_522, w_21⟩
theorem ck_X2_lastSolveMinute : CKv yX2_lastSolveMinute cX2_lastSolveMinute 5 (some .int) 2 := ⟨w_305, w_66, ⟨by decide +kernel, by decide +kernel⟩, by decide +kernel, w_304, w_8⟩
theorem ck_X3_append : CKv yX3_append cX3_append 5 (some .int) 4 := ⟨w_427, w_62, ⟨by decide +kernel, by decide +kernel⟩, by decide +kernel, w_426, w_12⟩
theorem ck_X3_hangingOn : CKv yX3_hangingOn cX3_hangingOn 2 (some .int) 1 := ⟨w_673, w_62, ⟨by decide +kernel, by decide +kernel⟩, by decide +kernel, w_672, w_29⟩
theorem ck_X3_spread : CKv yX3_spread cX3_spread 4 (some .int) 1 := ⟨w_286, w_62, ⟨by decide +kernel, by decide +kernel⟩, by decide +kernel, w_285, w_5⟩
theorem ck_X4_append : CKv yX4_append cX4_append 5 none 3 := ⟨w_554, w_64, ⟨by decide +kernel, by decide +kernel⟩, by decide +kernel, w_553, w_26⟩
theorem ck_X4_countBuyers : CKv yX4_countBuyers cX4_countBuyers 5 (some .int) 2 := ⟨w_548, w_64, ⟨by decide +kernel, by decide +kernel⟩, by decide +kernel, w_547, w_25⟩
theorem ck_X5_pass : CKv yX5_pass cX5_pass 2 (some .int) 1 := ⟨w_327, w_61, ⟨by decide +kernel, by decide +kernel⟩, by decide +kernel, w_325, w_326⟩
theorem ck_X5_now : CKv yX5_now cX5_now 1 (some .int) 0 := ⟨w_252, w_61, ⟨by decide +kernel, by decide +kernel⟩, by decide +kernel, w_250, w_251⟩
theorem ck_X5_addRiddle : CKv yX5_addRiddle cX5_addRiddle 5 (some .int) 4 := ⟨w_422, w_61, ⟨by decide +kernel, by decide +kernel⟩, by decide +kernel, w_420, w_421⟩
theorem ck_X5_need : CKv yX5_need cX5_need 3 (some .int) 2 := ⟨w_435, w_61, ⟨by decide +kernel, by decide +kernel⟩, by decide +kernel, w_433, w_434⟩
theorem ck_X5_addTeam : CKv yX5_addTeam cX5_addTeam 1 (some .int) 0 := ⟨w_471, w_61, ⟨by decide +kernel, by decide +kernel⟩, by decide +kernel, w_469, w_470⟩
theorem ck_X5_end : CKv yX5_end cX5_end 1 (some .int) 0 := ⟨w_479, w_61, ⟨by decide +kernel, by decide +kernel⟩, by decide +kernel, w_477, w_478⟩
theorem ck_X5_answer : CKv yX5_answer cX5_answer 5 (some .boolean) 3 := ⟨w_487, w_61, ⟨by decide +kernel, by decide +kernel⟩, by decide +kernel, w_485, w_486⟩
theorem ck_X5_hint : CKv yX5_hint cX5_hint 4 (some .int) 2 := ⟨w_535, w_61, ⟨by decide +kernel, by decide +kernel⟩, by decide +kernel, w_533, w_534⟩
theorem ck_X5_price : CKv yX5_price cX5_price 3 (some .int) 2 := ⟨w_569, w_61, ⟨by decide +kernel, by decide +kernel⟩, by decide +kernel, w_567, w_568⟩
theorem ck_X5_openedAt : CKv yX5_openedAt cX5_openedAt 3 (some .int) 2 := ⟨w_592, w_61, ⟨by decide +kernel, by decide +kernel⟩, by decide +kernel, w_590, w_591⟩
theorem ck_X5_solvedAt : CKv yX5_solvedAt cX5_solvedAt 3 (some .int) 2 := ⟨w_599, w_61, ⟨by decide +kernel, by decide +kernel⟩, by decide +kernel, w_597, w_598⟩
theorem ck_X5_clear : CKv yX5_clear cX5_clear 3 (some .boolean) 2 := ⟨w_606, w_61, ⟨by decide +kernel, by decide +kernel⟩, by decide +kernel, w_604, w_605⟩
theorem ck_X5_pardon : CKv yX5_pardon cX5_pardon 3 (some .boolean) 2 := ⟨w_614, w_61, ⟨by decide +kernel, by decide +kernel⟩, by decide +kernel, w_612, w_613⟩
theorem ck_X5_setBound : CKv yX5_setBound cX5_setBound 3 (some .int) 1 := ⟨w_627, w_61, ⟨by decide +kernel, by decide +kernel⟩, by decide +kernel, w_625, w_626⟩
theorem ck_X5_isFree : CKv yX5_isFree cX5_isFree 2 (some .boolean) 1 := ⟨w_634, w_61, ⟨by decide +kernel, by decide +kernel⟩, by decide +kernel, w_632, w_633⟩
theorem ck_X5_likeness : CKv yX5_likeness cX5_likeness 3 (some .int) 2 := ⟨w_641, w_61, ⟨by decide +kernel, by decide +kernel⟩, by decide +kernel, w_639, w_640⟩
theorem ck_X5_areLinked : CKv yX5_areLinked cX5_areLinked 3 (some .boolean) 2 := ⟨w_648, w_61, ⟨by decide +kernel, by decide +kernel⟩, by decide +kernel, w_646, w_647⟩
theorem ck_X5_isCheated : CKv yX5_isCheated cX5_isCheated 3 (some .boolean) 2 := ⟨w_655, w_61, ⟨by decide +kernel, by decide +kernel⟩, by decide +kernel, w_653, w_654⟩
theorem ck_X5_isVoid : CKv yX5_isVoid cX5_isVoid 3 (some .boolean) 2 := ⟨w_662, w_61, ⟨by decide +kernel, by decide +kernel⟩, by decide +kernel, w_660, w_661⟩
theorem ck_X5_hanging : CKv yX5_hanging cX5_hanging 2 (some .int) 1 := ⟨w_669, w_61, ⟨by decide +kernel, by decide +kernel⟩, by decide +kernel, w_667, w_668⟩
theorem ck_X5_score : CKv yX5_score cX5_score 2 (some .int) 1 := ⟨w_681, w_61, ⟨by decide +kernel, by decide +kernel⟩, by decide +kernel, w_679, w_680⟩
theorem ck_X5_scoreAnew : CKv yX5_scoreAnew cX5_scoreAnew 2 (some .int) 1 := ⟨w_688, w_61, ⟨by decide +kernel, by decide +kernel⟩, by decide +kernel, w_686, w_687⟩
theorem ck_X5_place : CKv yX5_place cX5_place 2 (some .int) 1 := ⟨w_732, w_61, ⟨by decide +kernel, by decide +kernel⟩, by decide +kernel, w_730, w_731⟩
theorem ck_X5_teamAt : CKv yX5_teamAt cX5_teamAt 3 (some .int) 1 := ⟨w_256, w_61, ⟨by decide +kernel, by decide +kernel⟩, by decide +kernel, w_254, w_255⟩
theorem ck_X5_setPrize : CKv yX5_setPrize cX5_setPrize 4 (some .int) 2 := ⟨w_739, w_61, ⟨by decide +kernel, by decide +kernel⟩, by decide +kernel, w_737, w_738⟩
theorem ck_X5_prize : CKv yX5_prize cX5_prize 3 (some .int) 1 := ⟨w_746, w_61, ⟨by decide +kernel, by decide +kernel⟩, by decide +kernel, w_744, w_745⟩
theorem ck_X5_requireTeam : CKv yX5_requireTeam cX5_requireTeam 2 none 1 := ⟨w_491, w_61, ⟨by decide +kernel, by decide +kernel⟩, by decide +kernel, w_490, w_14⟩
theorem ck_X5_requireRiddle : CKv yX5_requireRiddle cX5_requireRiddle 2 none 1 := ⟨w_439, w_61, ⟨by decide +kernel, by decide +kernel⟩, by decide +kernel, w_438, w_13⟩
theorem ck_X5_requireRange : CKs yX5_requireRange cX5_requireRange 3 none 3 := ⟨w_330, w_61, ⟨by decide +kernel, by decide +kernel⟩, by decide +kernel, w_329⟩
theorem ck_X5_bit : CKs yX5_bit cX5_bit 1 (some .int) 1 := ⟨w_289, w_61, ⟨by decide +kernel, by decide +kernel⟩, by decide +kernel, w_288⟩
theorem ck_X5_has : CKs yX5_has cX5_has 2 (some .boolean) 2 := ⟨w_282, w_61, ⟨by decide +kernel, by decide +kernel⟩, by decide +kernel, w_281⟩
theorem ck_X5_cell : CKs yX5_cell cX5_cell 2 (some .int) 2 := ⟨w_301, w_61, ⟨by decide +kernel, by decide +kernel⟩, by decide +kernel, w_300⟩
theorem ck_X5_sale : CKs yX5_sale cX5_sale 3 (some .int) 3 := ⟨w_557, w_61, ⟨by decide +kernel, by decide +kernel⟩, by decide +kernel, w_556⟩
theorem ck_X5_pair : CKs yX5_pair cX5_pair 2 (some .int) 2 := ⟨w_275, w_61, ⟨by decide +kernel, by decide +kernel⟩, by decide +kernel, w_274⟩
theorem ck_X5_openMinute : CKv yX5_openMinute cX5_openMinute 4 (some .int) 3 := ⟨w_500, w_61, ⟨by decide +kernel, by decide +kernel⟩, by decide +kernel, w_499, w_16⟩
theorem ck_X5_isUnderWay : CKv yX5_isUnderWay cX5_isUnderWay 3 (some .boolean) 2 := ⟨w_496, w_61, ⟨by decide +kernel, by decide +kernel⟩, by decide +kernel, w_495, w_15⟩
theorem ck_X5_hasHintsLeft : CKv yX5_hasHintsLeft cX5_hasHintsLeft 3 (some .boolean) 2 := ⟨w_539, w_61, ⟨by decide +kernel, by decide +kernel⟩, by decide +kernel, w_538, w_23⟩
theorem ck_X5_nextPrice : CKv yX5_nextPrice cX5_nextPrice 5 (some .int) 2 := ⟨w_544, w_61, ⟨by decide +kernel, by decide +kernel⟩, by decide +kernel, w_543, w_24⟩
theorem ck_X5_noteSolved : CKv yX5_noteSolved cX5_noteSolved 6 none 4 := ⟨w_505, w_61, ⟨by decide +kernel, by decide +kernel⟩, by decide +kernel, w_504, w_17⟩
theorem ck_X5_noteWrong : CKv yX5_noteWrong cX5_noteWrong 6 none 3 := ⟨w_514, w_61, ⟨by decide +kernel, by decide +kernel⟩, by decide +kernel, w_513, w_19⟩
theorem ck_X5_freeSet : CKv yX5_freeSet cX5_freeSet 4 (some .int) 1 := ⟨w_293, w_61, ⟨by decide +kernel, by decide +kernel⟩, by decide +kernel, w_292, w_6⟩
theorem ck_X5_cheatedSet : CKv yX5_cheatedSet cX5_cheatedSet 5 (some .int) 2 := ⟨w_272, w_61, ⟨by decide +kernel, by decide +kernel⟩, by decide +kernel, w_271, w_3⟩
theorem ck_X5_voidSet : CKv yX5_voidSet cX5_voidSet 3 (some .int) 2 := ⟨w_268, w_61, ⟨by decide +kernel, by decide +kernel⟩, by decide +kernel, w_267, w_2⟩
theorem ck_X5_countingSet : CKv yX5_countingSet cX5_countingSet 3 (some .int) 2 := ⟨w_264, w_61, ⟨by decide +kernel, by decide +kernel⟩, by decide +kernel, w_263, w_1⟩
theorem ck_X5_sumUp : CKv yX5_sumUp cX5_sumUp 7 (some .int) 3 := ⟨w_297, w_61, ⟨by decide +kernel, by decide +kernel⟩, by decide +kernel, w_296, w_7⟩
theorem ck_X5_replaySolutions : CKv yX5_replaySolutions cX5_replaySolutions 2 none 0 := ⟨w_699, w_61, ⟨by decide +kernel, by decide +kernel⟩, by decide +kernel, w_698, w_31⟩
theorem ck_X5_comparePairs : CKv yX5_comparePairs cX5_comparePairs 3 none 1 := ⟨w_707, w_61, ⟨by decide +kernel, by decide +kernel⟩, by decide +kernel, w_706, w_33⟩
theorem ck_X5_compareWithOthers : CKv yX5_compareWithOthers cX5_compareWithOthers 4 none 1 := ⟨w_719, w_61, ⟨by decide +kernel, by decide +kernel⟩, by decide +kernel, w_718, w_36⟩
theorem ck_X5_replaySales : CKv yX5_replaySales cX5_replaySales 4 none 1 := ⟨w_724, w_61, ⟨by decide +kernel, by decide +kernel⟩, by decide +kernel, w_723, w_37⟩
theorem ck_X5_isRight : CKv yX5_isRight cX5_isRight 2 (some .boolean) 1 := ⟨w_703, w_61, ⟨by decide +kernel, by decide +kernel⟩, by decide +kernel, w_702, w_32⟩
theorem ck_X5_rateTeams : CKv yX5_rateTeams cX5_rateTeams 3 none 0 := ⟨w_260, w_61, ⟨by decide +kernel, by decide +kernel⟩, by decide +kernel, w_259, w_0⟩
theorem ck_X5_countBetter : CKv yX5_countBetter cX5_countBetter 6 (some .int) 1 := ⟨w_314, w_61, ⟨by decide +kernel, by decide +kernel⟩, by decide +kernel, w_313, w_9⟩
theorem ck_X5_countAlike : CKv yX5_countAlike cX5_countAlike 5 (some .int) 2 := ⟨w_318, w_61, ⟨by decide +kernel, by decide +kernel⟩, by decide +kernel, w_317, w_10⟩
theorem ck_X5_sumPrizes : CKv yX5_sumPrizes cX5_sumPrizes 5 (some .int) 2 := ⟨w_751, w_61, ⟨by decide +kernel, by decide +kernel⟩, by decide +kernel, w_750, w_38⟩
theorem ck_X6_thrown : CKv yX6_thrown cX6_thrown 1 (some .int) 0 := ⟨w_829, w_67, ⟨by decide +kernel, by decide +kernel⟩, by decide +kernel, w_827, w_828⟩
theorem ck_X6_goes : CKv yX6_goes cX6_goes 2 (some .boolean) 1 := ⟨w_840, w_67, ⟨by decide +kernel, by decide +kernel⟩, by decide +kernel, w_839, w_39⟩
theorem ck_X6_isIn : CKs yX6_isIn cX6_isIn 3 (some .boolean) 3 := ⟨w_836, w_67, ⟨by decide +kernel, by decide +kernel⟩, by decide +kernel, w_835⟩
theorem ck_X6_isRiddle : CKv yX6_isRiddle cX6_isRiddle 2 (some .boolean) 1 := ⟨w_856, w_67, ⟨by decide +kernel, by decide +kernel⟩, by decide +kernel, w_855, w_40⟩
theorem ck_X6_isTeam : CKv yX6_isTeam cX6_isTeam 2 (some .boolean) 1 := ⟨w_894, w_67, ⟨by decide +kernel, by decide +kernel⟩, by decide +kernel, w_893, w_45⟩
theorem ck_X6_at : CKs yX6_at cX6_at 2 (some .int) 2 := ⟨w_867, w_67, ⟨by decide +kernel, by decide +kernel⟩, by decide +kernel, w_866⟩
theorem ck_X6_doesNeed : CKv yX6_doesNeed cX6_doesNeed 3 (some .boolean) 2 := ⟨w_860, w_67, ⟨by decide +kernel, by decide +kernel⟩, by decide +kernel, w_859, w_41⟩
theorem ck_X6_pass : CKv yX6_pass cX6_pass 2 (some .int) 1 := ⟨w_833, w_67, ⟨by decide +kernel, by decide +kernel⟩, by decide +kernel, w_831, w_832⟩
theorem ck_X6_now : CKv yX6_now cX6_now 1 (some .int) 0 := ⟨w_844, w_67, ⟨by decide +kernel, by decide +kernel⟩, by decide +kernel, w_842, w_843⟩
theorem ck_X6_addRiddle : CKv yX6_addRiddle cX6_addRiddle 6 (some .int) 4 := ⟨w_848, w_67, ⟨by decide +kernel, by decide +kernel⟩, by decide +kernel, w_846, w_847⟩
theorem ck_X6_bits : CKs yX6_bits cX6_bits 3 (some .int) 1 := ⟨w_870, w_67, ⟨by decide +kernel, by decide +kernel⟩, by decide +kernel, w_869⟩
theorem ck_X6_isTouched : CKv yX6_isTouched cX6_isTouched 4 (some .boolean) 1 := ⟨w_864, w_67, ⟨by decide +kernel, by decide +kernel⟩, by decide +kernel, w_863, w_42⟩
theorem ck_X6_need : CKv yX6_need cX6_need 4 (some .int) 2 := ⟨w_852, w_67, ⟨by decide +kernel, by decide +kernel⟩, by decide +kernel, w_850, w_851⟩
theorem ck_X6_addTeam : CKv yX6_addTeam cX6_addTeam 2 (some .int) 0 := ⟨w_874, w_67, ⟨by decide +kernel, by decide +kernel⟩, by decide +kernel, w_872, w_873⟩
theorem ck_X6_isOpenToAll : CKv yX6_isOpenToAll cX6_isOpenToAll 4 (some .boolean) 1 := ⟨w_882, w_67, ⟨by decide +kernel, by decide +kernel⟩, by decide +kernel, w_881, w_43⟩
theorem ck_X6_end : CKv yX6_end cX6_end 3 (some .int) 0 := ⟨w_878, w_67, ⟨by decide +kernel, by decide +kernel⟩, by decide +kernel, w_876, w_877⟩
theorem ck_X6_opened : CKv yX6_opened cX6_opened 7 (some .int) 2 := ⟨w_902, w_67, ⟨by decide +kernel, by decide +kernel⟩, by decide +kernel, w_901, w_47⟩
theorem ck_X6_wrong : CKv yX6_wrong cX6_wrong 3 (some .int) 2 := ⟨w_890, w_67, ⟨by decide +kernel, by decide +kernel⟩, by decide +kernel, w_889, w_44⟩
theorem ck_X6_isDone : CKv yX6_isDone cX6_isDone 3 (some .boolean) 2 := ⟨w_898, w_67, ⟨by decide +kernel, by decide +kernel⟩, by decide +kernel, w_897, w_46⟩
theorem ck_X6_answer : CKv yX6_answer cX6_answer 5 (some .boolean) 3 := ⟨w_886, w_67, ⟨by decide +kernel, by decide +kernel⟩, by decide +kernel, w_884, w_885⟩
theorem ck_X6_priceOf : CKv yX6_priceOf cX6_priceOf 5 (some .int) 2 := ⟨w_910, w_67, ⟨by decide +kernel, by decide +kernel⟩, by decide +kernel, w_909, w_48⟩
theorem ck_X6_hint : CKv yX6_hint cX6_hint 4 (some .int) 2 := ⟨w_906, w_67, ⟨by decide +kernel, by decide +kernel⟩, by decide +kernel, w_904, w_905⟩
theorem ck_X6_price : CKv yX6_price cX6_price 3 (some .int) 2 := ⟨w_914, w_67, ⟨by decide +kernel, by decide +kernel⟩, by decide +kernel, w_912, w_913⟩
theorem ck_X6_openedAt : CKv yX6_openedAt cX6_openedAt 3 (some .int) 2 := ⟨w_918, w_67, ⟨by decide +kernel, by decide +kernel⟩, by decide +kernel, w_916, w_917⟩
theorem ck_X6_solvedAt : CKv yX6_solvedAt cX6_solvedAt 3 (some .int) 2 := ⟨w_922, w_67, ⟨by decide +kernel, by decide +kernel⟩, by decide +kernel, w_920, w_921⟩
theorem ck_X6_clear : CKv yX6_clear cX6_clear 3 (some .boolean) 2 := ⟨w_926, w_67, ⟨by decide +kernel, by decide +kernel⟩, by decide +kernel, w_924, w_925⟩
theorem ck_X6_pardon : CKv yX6_pardon cX6_pardon 4 (some .boolean) 2 := ⟨w_930, w_67, ⟨by decide +kernel, by decide +kernel⟩, by decide +kernel, w_928, w_929⟩
theorem ck_X6_setBound : CKv yX6_setBound cX6_setBound 3 (some .int) 1 := ⟨w_934, w_67, ⟨by decide +kernel, by decide +kernel⟩, by decide +kernel, w_932, w_933⟩
theorem ck_X6_isFree : CKv yX6_isFree cX6_isFree 2 (some .boolean) 1 := ⟨w_938, w_67, ⟨by decide +kernel, by decide +kernel⟩, by decide +kernel, w_936, w_937⟩
theorem ck_X6_gave : CKv yX6_gave cX6_gave 7 (some .boolean) 4 := ⟨w_954, w_67, ⟨by decide +kernel, by decide +kernel⟩, by decide +kernel, w_953, w_51⟩
theorem ck_X6_isCommon : CKv yX6_isCommon cX6_isCommon 4 (some .boolean) 2 := ⟨w_950, w_67, ⟨by decide +kernel, by decide +kernel⟩, by decide +kernel, w_949, w_50⟩
theorem ck_X6_likenessOf : CKv yX6_likenessOf cX6_likenessOf 5 (some .int) 2 := ⟨w_946, w_67, ⟨by decide +kernel, by decide +kernel⟩, by decide +kernel, w_945, w_49⟩
theorem ck_X6_likeness : CKv yX6_likeness cX6_likeness 3 (some .int) 2 := ⟨w_942, w_67, ⟨by decide +kernel, by decide +kernel⟩, by decide +kernel, w_940, w_941⟩
theorem ck_X6_are : CKv yX6_are cX6_are 3 (some .boolean) 2 := ⟨w_962, w_67, ⟨by decide +kernel, by decide +kernel⟩, by decide +kernel, w_961, w_52⟩
theorem ck_X6_areLinked : CKv yX6_areLinked cX6_areLinked 3 (some .boolean) 2 := ⟨w_958, w_67, ⟨by decide +kernel, by decide +kernel⟩, by decide +kernel, w_956, w_957⟩
theorem ck_X6_cheated : CKv yX6_cheated cX6_cheated 6 (some .int) 1 := ⟨w_970, w_67, ⟨by decide +kernel, by decide +kernel⟩, by decide +kernel, w_969, w_53⟩
theorem ck_X6_isCheated : CKv yX6_isCheated cX6_isCheated 3 (some .boolean) 2 := ⟨w_966, w_67, ⟨by decide +kernel, by decide +kernel⟩, by decide +kernel, w_964, w_965⟩
theorem ck_X6_voids : CKv yX6_voids cX6_voids 6 (some .int) 1 := ⟨w_978, w_67, ⟨by decide +kernel, by decide +kernel⟩, by decide +kernel, w_977, w_54⟩
theorem ck_X6_isVoid : CKv yX6_isVoid cX6_isVoid 3 (some .boolean) 2 := ⟨w_974, w_67, ⟨by decide +kernel, by decide +kernel⟩, by decide +kernel, w_972, w_973⟩
theorem ck_X6_hanging : CKv yX6_hanging cX6_hanging 4 (some .int) 1 := ⟨w_982, w_67, ⟨by decide +kernel, by decide +kernel⟩, by decide +kernel, w_980, w_981⟩
theorem ck_X6_counting : CKv yX6_counting cX6_counting 6 (some .int) 1 := ⟨w_998, w_67, ⟨by decide +kernel, by decide +kernel⟩, by decide +kernel, w_997, w_57⟩
theorem ck_X6_scoreOf : CKv yX6_scoreOf cX6_scoreOf 5 (some .int) 1 := ⟨w_994, w_67, ⟨by decide +kernel, by decide +kernel⟩, by decide +kernel, w_993, w_56⟩
theorem ck_X6_lastOf : CKv yX6_lastOf cX6_lastOf 6 (some .int) 1 := ⟨w_1014, w_67, ⟨by decide +kernel, by decide +kernel⟩, by decide +kernel, w_1013, w_59⟩
theorem ck_X6_scored : CKv yX6_scored cX6_scored 2 (some .int) 1 := ⟨w_990, w_67, ⟨by decide +kernel, by decide +kernel⟩, by decide +kernel, w_989, w_55⟩
theorem ck_X6_score : CKv yX6_score cX6_score 2 (some .int) 1 := ⟨w_986, w_67, ⟨by decide +kernel, by decide +kernel⟩, by decide +kernel, w_984, w_985⟩
theorem ck_X6_scoreAnew : CKv yX6_scoreAnew cX6_scoreAnew 2 (some .int) 1 := ⟨w_1002, w_67, ⟨by decide +kernel, by decide +kernel⟩, by decide +kernel, w_1000, w_1001⟩
theorem ck_X6_ahead : CKv yX6_ahead cX6_ahead 9 (some .int) 2 := ⟨w_1010, w_67, ⟨by decide +kernel, by decide +kernel⟩, by decide +kernel, w_1009, w_58⟩
theorem ck_X6_place : CKv yX6_place cX6_place 2 (some .int) 1 := ⟨w_1006, w_67, ⟨by decide +kernel, by decide +kernel⟩, by decide +kernel, w_1004, w_1005⟩
theorem ck_X6_teamAt : CKv yX6_teamAt cX6_teamAt 4 (some .int) 1 := ⟨w_1018, w_67, ⟨by decide +kernel, by decide +kernel⟩, by decide +kernel, w_1016, w_1017⟩
theorem ck_X6_setPrize : CKv yX6_setPrize cX6_setPrize 4 (some .int) 2 := ⟨w_1022, w_67, ⟨by decide +kernel, by decide +kernel⟩, by decide +kernel, w_1020, w_1021⟩
theorem ck_X6_prize : CKv yX6_prize cX6_prize 6 (some .int) 1 := ⟨w_1026, w_67, ⟨by decide +kernel, by decide +kernel⟩, by decide +kernel, w_1024, w_1025⟩
theorem ck_J6_bitCount_0f7a4 : CKs yJ6_bitCount_0f7a4 cJ6_bitCount_0f7a4 1 (some .int) 1 := ⟨w_461, w_74, ⟨by decide +kernel, by decide +kernel⟩, by decide +kernel, w_460⟩
theorem ck_J9_max_7cf53 : CKs yJ9_max_7cf53 cJ9_max_7cf53 2 (some .int) 2 := ⟨w_310, w_75, ⟨by decide +kernel, by decide +kernel⟩, by decide +kernel, w_309⟩
theorem ck_J7_fill_53178 : CKs yJ7_fill_53178 cJ7_fill_53178 4 none 2 := ⟨w_695, w_77, ⟨by decide +kernel, by decide +kernel⟩, by decide +kernel, w_694⟩
end
section
/-! the class's methods as functions of its memory: sets, solving, what is left -/
def hs (x y : Int32) : Bool := decide (¬ (x >>> (y &&& 31)) &&& 1 = 0)
def cT (S : Mem) : Nat := iN (S 0 9)
def cR (S : Mem) : Nat := iN (S 1 6)
def cN (S : Mem) : Nat := iN (S 7 4)
def aT (S : Mem) (k : Nat) : Nat := iN (S 8 k)
def aR (S : Mem) (k : Nat) : Nat := iN (S 9 k)
/-- counts and places are in their ranges -/
def I0 (S : Mem) : Prop := (S 0 9 = nI (cT S) ∧ cT S ≤ 8) ∧ (S 1 6 = nI (cR S) ∧ cR S ≤ 16) ∧ (S 7 4 = nI (cN S) ∧ cN S ≤ 200) ∧ (∀ k, k < cN S → (S 8 k = nI (aT S k) ∧ aT S k < 8) ∧ S 9 k = nI (aR S k) ∧ aR S k < 16) ∧ (∀ c, c < 128 → S 13 c = nI (iN (S 13 c)) ∧ iN (S 13 c) ≤ 3)
theorem I0.T {S : Mem} (h : I0 S) : S 0 9 = nI (cT S) := h.1.1
theorem I0.R {S : Mem} (h : I0 S) : S 1 6 = nI (cR S) := h.2.1.1
theorem I0.N {S : Mem} (h : I0 S) : S 7 4 = nI (cN S) := h.2.2.1.1
theorem I0.T8 {S : Mem} (h : I0 S) : cT S ≤ 8 := h.1.2
theorem I0.R16 {S : Mem} (h : I0 S) : cR S ≤ 16 := h.2.1.2
theorem I0.N200 {S : Mem} (h : I0 S) : cN S ≤ 200 := h.2.2.1.2
theorem I0.xT {S : Mem} (h : I0 S) {k : Nat} (hk : k < cN S) : S 8 k = nI (aT S k) := (h.2.2.2.1 k hk).1.1
theorem I0.xT8 {S : Mem} (h : I0 S) {k : Nat} (hk : k < cN S) : aT S k < 8 := (h.2.2.2.1 k hk).1.2
theorem I0.xR {S : Mem} (h : I0 S) {k : Nat} (hk : k < cN S) : S 9 k = nI (aR S k) := (h.2.2.2.1 k hk).2.1
theorem I0.xR16 {S : Mem} (h : I0 S) {k : Nat} (hk : k < cN S) : aR S k < 16 := (h.2.2.2.1 k hk).2.2
theorem I0.bo {S : Mem} (h : I0 S) {c : Nat} (hc : c < 128) : S 13 c = nI (iN (S 13 c)) := (h.2.2.2.2 c hc).1
theorem I0.bo3 {S : Mem} (h : I0 S) {c : Nat} (hc : c < 128) : iN (S 13 c) ≤ 3 := (h.2.2.2.2 c hc).2
theorem I0_congr {S S' : Mem} (h : ∀ c, c < 15 → S' c = S c) (hI : I0 S) : I0 S' := by
  have e0 := h 0 (by decide)
  have e1 := h 1 (by decide)
  have e7 := h 7 (by decide)
  have e8 := h 8 (by decide)
  have e9 := h 9 (by decide)
  have e13 := h 13 (by decide)
  have a1 : cT S' = cT S := by unfold cT; rw [e0]
  have a2 : cR S' = cR S := by unfold cR; rw [e1]
  have a3 : cN S' = cN S := by unfold cN; rw [e7]
  have a4 : ∀ k, aT S' k = aT S k := fun k => by unfold aT; rw [e8]
  have a5 : ∀ k, aR S' k = aR S k := fun k => by unfold aR; rw [e9]
  refine ⟨?_, ?_, ?_, fun k hk => ?_, fun c hc => ?_⟩
  · rw [a1, e0]; exact hI.1
  · rw [a2, e1]; exact hI.2.1
  · rw [a3, e7]; exact hI.2.2.1
  · rw [a4, a5, e8, e9]; rw [a3] at hk; exact hI.2.2.2.1 k hk
  · rw [e13]; exact hI.2.2.2.2 c hc
/-- an int is a place below n -/
def okn (x : Int32) (n : Nat) : Bool := decide (0 ≤ x.toInt ∧ x.toInt < n)
/-- an int is in a range -/
def okr (x a b : Int32) : Bool := decide (¬ x < a) && decide (x ≤ b)
theorem okn_t {x : Int32} {n : Nat} (h : okn x n = true) : ∃ t : Nat, t < n ∧ x = nI t := by
  simp only [okn, decide_eq_true_eq] at h
  have hlt : ¬ x < 0 := by rw [Int32.lt_iff_toInt_lt, Int32.toInt_zero]; omega
  obtain ⟨j, hj, e⟩ := nI_of hlt
  refine ⟨j, ?_, e⟩
  rw [e, nI_toInt hj] at h; omega
theorem okn_nI {t n : Nat} (ht : t < 2 ^ 31) : okn (nI t) n = decide (t < n) := by
  unfold okn; rw [nI_toInt ht]; congr 1; apply propext; omega
theorem okn_c {x : Int32} {n : Nat} (hn : n < 2 ^ 31) (h1 : ¬ x < 0) (h2 : x < nI n) : okn x n = true := by
  rw [Int32.lt_iff_toInt_lt, Int32.toInt_zero] at h1
  rw [Int32.lt_iff_toInt_lt, nI_toInt hn] at h2
  simp only [okn, decide_eq_true_eq]; omega
theorem okn_n0 {x : Int32} {n : Nat} (h : okn x n = false) (h1 : ¬ x < 0) (hn : n < 2 ^ 31) : ¬ x < nI n := fun h2 => by rw [okn_c hn h1 h2] at h; cases h
/-! the class's methods as functions of its memory -/
def p_lsm (S : Mem) (b t : Nat) (set : Int32) : Nat → Int32
  | 0 => 0
  | i + 1 => if hs set (nI i) = true then imax (p_lsm S b t set i) (S (b + 3) (t * 16 + i)) else p_lsm S b t set i
def p_last (S : Mem) (b t : Nat) (set : Int32) : Int32 := if set &&& (S (b + 1) t ^^^ (-1)) = 0 then p_lsm S b t set 16 else -1
def p_open (S : Mem) (b t r : Nat) : Int32 := p_last S b t (S 6 r)
def p_under (S : Mem) (t r : Nat) : Bool := decide (S 0 11 = 0) && (decide (¬ p_open S 18 t r = -1) && !(hs (S 19 t) (nI r)))
def p_left (S : Mem) (t r : Nat) : Bool := decide (S 13 (t * 16 + r) < 3)
def p_buy (S : Mem) (r : Nat) (x : Int32) : Nat → Nat
  | 0 => 0
  | i + 1 => if x < S 13 (i * 16 + r) then p_buy S r x i + 1 else p_buy S r x i
def p_price (S : Mem) (t r : Nat) : Int32 := imax 1 (S 5 r - (S 0 10 - p_open S 18 t r) / 10 - nI (p_buy S r (S 13 (t * 16 + r)) 8))
def p_solve (S : Mem) (b t r : Nat) (m : Int32) (soon : Bool) : Mem :=
  let S2 := st (st S (b + 1) t (S (b + 1) t ||| bt (nI r))) (b + 3) (t * 16 + r) m
  if soon = true then st S2 (b + 2) t (S (b + 2) t ||| bt (nI r)) else S2
def p_noteS (S : Mem) (b t r : Nat) (m : Int32) : Mem := p_solve S b t r m (decide (¬ S 4 r ≤ m - p_open S b t r))
def p_pay (S : Mem) (b t r : Nat) (x : Int32) : Mem := st S (b + 4) (t * 16 + r) (S (b + 4) (t * 16 + r) + x)
def p_like1 (S : Mem) (b t o : Nat) : Mem := st S (b + 5) (t * 8 + o) (S (b + 5) (t * 8 + o) + 1)
def p_comm1 (S : Mem) (b t o r : Nat) : Mem := st S (b + 6) (t * 8 + o) (S (b + 6) (t * 8 + o) ||| bt (nI r))
def p_common (S : Mem) (b t o r : Nat) : Mem := p_comm1 (p_comm1 (p_like1 (p_like1 S b t o) b o t) b t o r) b o t r
def p_give (S : Mem) (r : Nat) (w : Int32) : Nat → Int32
  | 0 => 0
  | k + 1 => if S 9 k = nI r ∧ S 10 k = w then p_give S r w k ||| bt (S 8 k) else p_give S r w k
def p_nwl (S : Mem) (g : Int32) (t r : Nat) : Nat → Mem
  | 0 => S
  | o + 1 => if hs g (nI o) = true then p_common (p_nwl S g t r o) 18 t o r else p_nwl S g t r o
def p_noteW (S : Mem) (t r : Nat) (w : Int32) : Mem := if hs (p_give S r w (cN S)) (nI t) = true then S else p_nwl S (p_give S r w (cN S)) t r (cT S)
def p_app (S : Mem) (t r : Nat) (w m : Int32) : Mem := st (st (st (st (st S 8 (cN S) (nI t)) 9 (cN S) (nI r)) 10 (cN S) w) 11 (cN S) m) 7 4 (nI (cN S + 1))
def p_sold (S : Mem) (t r : Nat) (x : Int32) : Mem := st (st S 14 ((t * 16 + r) * 3 + iN (S 13 (t * 16 + r))) x) 13 (t * 16 + r) (nI (iN (S 13 (t * 16 + r)) + 1))
def p_free (S : Mem) (b : Nat) : Nat → Int32
  | 0 => 0
  | t + 1 => p_free S b t ||| (S (b + 2) t &&& (S 16 t ^^^ (-1)))
def p_links (S : Mem) (t o : Nat) (x : Int32) : Bool := decide (¬ t = o) && (decide (¬ x < S 15 2) && !(hs (S 17 t) (nI o)))
def p_cheat (S : Mem) (b t : Nat) : Nat → Int32
  | 0 => 0
  | o + 1 => if p_links S t o (S (b + 5) (t * 8 + o)) = true then p_cheat S b t o ||| S (b + 6) (t * 8 + o) else p_cheat S b t o
def p_spread (S : Mem) (set : Int32) : Nat → Int32
  | 0 => set
  | r + 1 => if S 6 r &&& p_spread S set r = 0 then p_spread S set r else p_spread S set r ||| bt (nI r)
def p_void (S : Mem) (b t : Nat) : Int32 := p_spread S (p_cheat S b t (cT S) &&& S (b + 1) t) (cR S) &&& S (b + 1) t
def p_count (S : Mem) (b t : Nat) : Int32 := (S (b + 1) t &&& (p_void S b t ^^^ (-1))) &&& (p_free S b (cT S) ^^^ (-1))
def p_sum (S : Mem) (b t : Nat) (cnt free : Int32) : Nat → Int32
  | 0 => 0
  | r + 1 => if hs cnt (nI r) = true then (if hs free (nI r) = true then p_sum S b t cnt free r + S 2 r else (p_sum S b t cnt free r + S 2 r) - S (b + 4) (t * 16 + r)) else (if hs free (nI r) = true then p_sum S b t cnt free r else p_sum S b t cnt free r - S (b + 4) (t * 16 + r))
def p_sumUp (S : Mem) (b t : Nat) (cnt : Int32) : Int32 := p_sum S b t cnt (p_free S b (cT S)) (cR S)
def p_hang (S : Mem) (r : Nat) : Int32 := p_spread S (bt (nI r)) (cR S) &&& (bt (nI r) ^^^ (-1))
def p_rate (S : Mem) : Nat → Mem
  | 0 => S
  | t + 1 => st (st (p_rate S t) 32 t (p_sumUp (p_rate S t) 18 t (p_count (p_rate S t) 18 t))) 33 t (p_last (st (p_rate S t) 32 t (p_sumUp (p_rate S t) 18 t (p_count (p_rate S t) 18 t))) 18 t (p_count (p_rate S t) 18 t))
def p_better (S : Mem) (t : Nat) : Nat → Nat
  | 0 => 0
  | o + 1 => if S 32 t < S 32 o ∨ (S 32 o = S 32 t ∧ S 33 o < S 33 t) then p_better S t o + 1 else p_better S t o
def p_alike (S : Mem) (t : Nat) : Nat → Nat
  | 0 => 0
  | o + 1 => if S 32 o = S 32 t ∧ S 33 o = S 33 t then p_alike S t o + 1 else p_alike S t o
def p_prz (S : Mem) (f : Nat) : Nat → Int32
  | 0 => 0
  | j + 1 => p_prz S f j + S 34 (f + j)
def p_same (S : Mem) (i j : Nat) : Bool := decide (S 9 i = S 9 j) && decide (S 10 i = S 10 j)
def p_again (S : Mem) (a k : Nat) : Bool := decide (S 8 k = S 8 a) && p_same S k a
def p_rep (S : Mem) (a : Nat) : Bool := (List.range a).any (p_again S a)
theorem p_rep_t {S : Mem} {a k : Nat} (hk : k < a) (h : p_again S a k = true) : p_rep S a = true := List.any_eq_true.mpr ⟨k, List.mem_range.mpr hk, h⟩
theorem p_rep_f {S : Mem} {a : Nat} (h : ∀ k, k < a → p_again S a k = false) : p_rep S a = false := by
  rw [p_rep, List.any_eq_false]; intro k hk; rw [h k (List.mem_range.mp hk)]; simp
def p_right (S : Mem) (k : Nat) : Bool := decide (S 10 k = S 3 (aR S k))
def p_addR (S : Mem) (a b c d : Int32) : Mem := st (st (st (st (st S 2 (cR S) a) 3 (cR S) b) 4 (cR S) c) 5 (cR S) d) 1 6 (nI (cR S + 1))
def p_swi (S : Mem) (t o : Nat) : Mem :=
  let S1 := st S 17 t (S 17 t ^^^ bt (nI o))
  st S1 17 o (S1 17 o ^^^ bt (nI t))
def fillS (S : Mem) (c n : Nat) : Mem := fun k => if k = c then (fun j => if j < n then 0 else S k j) else S k
def p_wipe (S : Mem) : Mem := fillS (fillS (fillS (fillS (fillS (fillS S 26 8) 27 8) 28 128) 29 128) 30 64) 31 64
def p_replay (S : Mem) : Nat → Mem
  | 0 => S
  | k + 1 => if p_right (p_replay S k) k = true then p_noteS (p_replay S k) 25 (aT (p_replay S k) k) (aR (p_replay S k) k) (p_replay S k 11 k) else p_replay S k
def p_cmpO (S : Mem) (a : Nat) : Nat → Mem
  | 0 => S
  | k + 1 => if (¬ p_cmpO S a k 8 k = nI (aT S a)) ∧ p_same (p_cmpO S a k) a k = true ∧ p_rep (p_cmpO S a k) k = false then p_common (p_cmpO S a k) 25 (aT S a) (aT (p_cmpO S a k) k) (aR (p_cmpO S a k) k) else p_cmpO S a k
def p_cmpP (S : Mem) (t : Nat) : Nat → Mem
  | 0 => S
  | k + 1 => if p_cmpP S t k 8 k = nI t ∧ p_right (p_cmpP S t k) k = false ∧ p_rep (p_cmpP S t k) k = false then p_cmpO (p_cmpP S t k) k (cN (p_cmpP S t k)) else p_cmpP S t k
def p_sal1 (S : Mem) (t r : Nat) : Nat → Mem
  | 0 => S
  | n + 1 => p_pay (p_sal1 S t r n) 25 t r (p_sal1 S t r n 14 ((t * 16 + r) * 3 + n))
def p_sals (S : Mem) (t : Nat) : Nat → Mem
  | 0 => S
  | r + 1 => p_sal1 (p_sals S t r) t r 3
def p_anewM (S : Mem) (t : Nat) : Mem := p_sals (p_cmpP (p_replay (p_wipe S) (cN (p_wipe S))) t (cN (p_replay (p_wipe S) (cN (p_wipe S))))) t (cR (p_cmpP (p_replay (p_wipe S) (cN (p_wipe S))) t (cN (p_replay (p_wipe S) (cN (p_wipe S))))))
theorem st_ne {S : Mem} {c i k : Nat} {x : Int32} (h : k ≠ c) : st S c i x k = S k := if_neg h
theorem st_same {S : Mem} {c i : Nat} {x : Int32} : st S c i x c = upd (S c) i x := if_pos rfl
theorem st_at {S : Mem} {c i : Nat} {x : Int32} : st S c i x c i = x := by rw [st_same]; exact if_pos rfl
theorem st_off {S : Mem} {c i j : Nat} {x : Int32} (h : j ≠ i) : st S c i x c j = S c j := by rw [st_same]; exact if_neg h
theorem fr_solve {S : Mem} {b t r k : Nat} {m : Int32} {soon : Bool} (h : k < b + 1 ∨ b + 3 < k) : p_solve S b t r m soon k = S k := by
  unfold p_solve
  split
  · rw [st_ne (by omega), st_ne (by omega), st_ne (by omega)]
  · rw [st_ne (by omega), st_ne (by omega)]
theorem fr_noteS {S : Mem} {b t r k : Nat} {m : Int32} (h : k < b + 1 ∨ b + 3 < k) : p_noteS S b t r m k = S k := fr_solve h
theorem fr_common {S : Mem} {b t o r k : Nat} (h : k < b + 5 ∨ b + 6 < k) : p_common S b t o r k = S k := by
  unfold p_common p_comm1 p_like1
  rw [st_ne (by omega), st_ne (by omega), st_ne (by omega), st_ne (by omega)]
theorem fr_nwl {S : Mem} {g : Int32} {t r k : Nat} (h : k < 23 ∨ 24 < k) : ∀ o, p_nwl S g t r o k = S k
  | 0 => rfl
  | o + 1 => by
    unfold p_nwl
    split
    · rw [fr_common (by omega)]; exact fr_nwl h o
    · exact fr_nwl h o
theorem fr_noteW {S : Mem} {t r k : Nat} {w : Int32} (h : k < 23 ∨ 24 < k) : p_noteW S t r w k = S k := by
  unfold p_noteW
  split
  · rfl
  · exact fr_nwl h _
theorem fr_pay {S : Mem} {b t r k : Nat} {x : Int32} (h : k ≠ b + 4) : p_pay S b t r x k = S k := st_ne h
theorem fr_replay {S : Mem} {k : Nat} (h : k < 26 ∨ 28 < k) : ∀ i, p_replay S i k = S k
  | 0 => rfl
  | i + 1 => by
    unfold p_replay
    split
    · rw [fr_noteS (by omega)]; exact fr_replay h i
    · exact fr_replay h i
theorem fr_cmpO {S : Mem} {a k : Nat} (h : k < 30 ∨ 31 < k) : ∀ i, p_cmpO S a i k = S k
  | 0 => rfl
  | i + 1 => by
    unfold p_cmpO
    split
    · rw [fr_common (by omega)]; exact fr_cmpO h i
    · exact fr_cmpO h i
theorem fr_cmpP {S : Mem} {t k : Nat} (h : k < 30 ∨ 31 < k) : ∀ i, p_cmpP S t i k = S k
  | 0 => rfl
  | i + 1 => by
    unfold p_cmpP
    split
    · rw [fr_cmpO h]; exact fr_cmpP h i
    · exact fr_cmpP h i
theorem fr_sal1 {S : Mem} {t r k : Nat} (h : k ≠ 29) : ∀ i, p_sal1 S t r i k = S k
  | 0 => rfl
  | i + 1 => by
    unfold p_sal1
    rw [fr_pay (by omega)]; exact fr_sal1 h i
theorem fr_sals {S : Mem} {t k : Nat} (h : k ≠ 29) : ∀ i, p_sals S t i k = S k
  | 0 => rfl
  | i + 1 => by
    unfold p_sals
    rw [fr_sal1 h]; exact fr_sals h i
theorem fr_fill {S : Mem} {c n k : Nat} (h : k ≠ c) : fillS S c n k = S k := if_neg h
theorem fr_wipe {S : Mem} {k : Nat} (h : k < 26 ∨ 31 < k) : p_wipe S k = S k := by
  unfold p_wipe
  rw [fr_fill (by omega), fr_fill (by omega), fr_fill (by omega), fr_fill (by omega), fr_fill (by omega), fr_fill (by omega)]
theorem fr_rate {S : Mem} {k : Nat} (h : k < 32 ∨ 33 < k) : ∀ i, p_rate S i k = S k
  | 0 => rfl
  | i + 1 => by
    unfold p_rate
    rw [st_ne (by omega), st_ne (by omega)]; exact fr_rate h i
theorem fill_step {S : Mem} {c i : Nat} : fillS S c (i + 1) = st (fillS S c i) c i 0 := by
  funext k j
  by_cases hk : k = c
  · subst hk
    simp only [fillS, st, upd, if_true]
    by_cases hj : j = i
    · subst hj; simp
    · rw [if_neg hj]; by_cases h2 : j < i
      · rw [if_pos h2, if_pos (by omega)]
      · rw [if_neg h2, if_neg (by omega)]
  · simp only [fillS, st, if_neg hk]
theorem fill_zero {S : Mem} {c : Nat} : fillS S c 0 = S := by
  funext k j
  simp [fillS]
theorem cT_congr {S S' : Mem} (h : S' 0 = S 0) : cT S' = cT S := by unfold cT; rw [h]
theorem cR_congr {S S' : Mem} (h : S' 1 = S 1) : cR S' = cR S := by unfold cR; rw [h]
theorem cN_congr {S S' : Mem} (h : S' 7 = S 7) : cN S' = cN S := by unfold cN; rw [h]
theorem p_better_le (S : Mem) (t : Nat) : ∀ n, p_better S t n ≤ n
  | 0 => Nat.le_refl 0
  | n + 1 => by unfold p_better; have := p_better_le S t n; split <;> omega
theorem p_alike_le (S : Mem) (t : Nat) : ∀ n, p_alike S t n ≤ n
  | 0 => Nat.le_refl 0
  | n + 1 => by unfold p_alike; have := p_alike_le S t n; split <;> omega
theorem p_ba_le (S : Mem) (t : Nat) : ∀ n, p_better S t n + p_alike S t n ≤ n
  | 0 => Nat.le_refl 0
  | n + 1 => by
    unfold p_better p_alike
    have := p_ba_le S t n
    by_cases h : S 32 n = S 32 t ∧ S 33 n = S 33 t
    · have h2 : ¬ (S 32 t < S 32 n ∨ (S 32 n = S 32 t ∧ S 33 n < S 33 t)) := by
        rw [h.1, h.2]; rintro (q | ⟨-, q⟩) <;> exact Int32.lt_irrefl q
      rw [if_pos h, if_neg h2]; omega
    · rw [if_neg h]; split <;> omega
theorem p_buy_le (S : Mem) (r : Nat) (x : Int32) : ∀ n, p_buy S r x n ≤ n
  | 0 => Nat.le_refl 0
  | n + 1 => by unfold p_buy; have := p_buy_le S r x n; split <;> omega
theorem I0_0 {S : Mem} {j : Nat} {x : Int32} (h : j ≠ 9) (hI : I0 S) : I0 (st S 0 j x) := by
  have e : cT (st S 0 j x) = cT S := by unfold cT; rw [st_off (by omega)]
  refine ⟨?_, hI.2.1, hI.2.2.1, hI.2.2.2.1, hI.2.2.2.2⟩
  rw [e, st_off (by omega)]; exact hI.1
theorem I0_2 {S : Mem} {c j : Nat} {x : Int32} (h : 14 < c ∨ (1 < c ∧ c < 7)) (hI : I0 S) : I0 (st S c j x) := by
  have e : ∀ k, (k = 0 ∨ k = 1 ∨ k = 7 ∨ k = 8 ∨ k = 9 ∨ k = 13) → st S c j x k = S k := fun k hk => st_ne (by omega)
  have e0 := e 0 (by omega); have e1 := e 1 (by omega); have e7 := e 7 (by omega); have e8 := e 8 (by omega); have e9 := e 9 (by omega); have e13 := e 13 (by omega)
  have a1 : cT (st S c j x) = cT S := cT_congr e0
  have a2 : cR (st S c j x) = cR S := cR_congr e1
  have a3 : cN (st S c j x) = cN S := cN_congr e7
  refine ⟨?_, ?_, ?_, fun k hk => ?_, fun k hk => ?_⟩
  · rw [a1, e0]; exact hI.1
  · rw [a2, e1]; exact hI.2.1
  · rw [a3, e7]; exact hI.2.2.1
  · have b1 : aT (st S c j x) k = aT S k := by unfold aT; rw [e8]
    have b2 : aR (st S c j x) k = aR S k := by unfold aR; rw [e9]
    rw [b1, b2, e8, e9]; rw [a3] at hk; exact hI.2.2.2.1 k hk
  · rw [e13]; exact hI.2.2.2.2 k hk
theorem okr_m1 {x : Int32} (h : okr x 1 8 = true) : x - 1 = nI (iN (x - 1)) ∧ iN (x - 1) < 8 := by
  simp only [okr, Bool.and_eq_true, decide_eq_true_eq] at h
  obtain ⟨h1, h2⟩ := h
  rw [Int32.lt_iff_toInt_lt] at h1
  rw [Int32.le_iff_toInt_le] at h2
  have e1 : (1 : Int32).toInt = 1 := by decide
  have e8 : (8 : Int32).toInt = 8 := by decide
  rw [e1] at h1; rw [e8] at h2
  obtain ⟨j, hj, e⟩ := nI_of (x := x) (by rw [Int32.lt_iff_toInt_lt, Int32.toInt_zero]; omega)
  subst e
  rw [nI_toInt hj] at h1 h2
  obtain ⟨j', rfl⟩ : ∃ j', j = j' + 1 := ⟨j - 1, by omega⟩
  have e9 : nI (j' + 1) - 1 = nI j' := nI_pred j'
  rw [e9, iN, nI_clamp (by omega)]
  exact ⟨rfl, by omega⟩
section Cells8
variable {p : Program} {l : Launch} {e : Env} {R : Room} {s : State} {m : MethodId} {args : Array Value} {below : List Frame} {meth : Method} {c : Code} {H : Heap} {locs : List Loc} {cells slots : Nat} {Q : State → Prop}
variable {pc : Nat} {ls : Array Slot} {rest st0 : List Value} {A : Nat → Prop} {H0 : Heap} {cc : ByteArray} {D : va_G} {cI cZ cL : ClassId} {ws ws' : va_W}
variable {idx n i a ci N : Nat} {own host C : String} {T : u_T} {fs : List Value} {v : Value} {f : Nat → Int32}
theorem q_putN {ty0 : Nat → FieldType} (hx : p.tables.exec = Jvm.exec) (hb : c.code = cc) (hown : s.vm.findClass own = some m.cls) (hE : EV D cI cZ cL s) (hin : ∀ w ∈ u_ws C T N, w ∈ TW) (hty : ∀ k, k < N → parseFieldDescriptor (T k).2.2.1 = some (ty0 k)) (hnm : ∀ a, a < N → ∀ b, b < N → a ≠ b → (T a).2.1 ≠ (T b).2.1)
    (hP : va_P D vwCl ws H) (hD : va_D A ws) (hS : va_S A H0 H locs) (q0 : Nat) (he : ws[q0]? = some (a, .inr (ci, fs))) (hc : vwCl[ci]? = some (C, T, N)) (k : Nat) (hk : k < N)
    (hl : Cond.fieldLinkNest own idx (T k).1 (T k).2.1 (T k).2.2.1 host ∈ TW) (hfin : (T k).2.2.2 = false) (hn : narrow (ty0 k) v = v) (hfit : fits (ty0 k) v = true) (hlen : k < fs.length) (hws : ws.set q0 (a, .inr (ci, fs.set k v)) = ws') (hdg : decode cc pc = .ok (.putfield idx, 3))
    (kk : ∀ (H : Heap) (locs : List Loc), va_P D vwCl ws' H → va_S A H0 H locs → W p l e R s m args below meth c H locs cells slots Q (F0 m (pc + 3) ls rest)) : W p l e R s m args below meth c H locs cells slots Q (F0 m pc ls (v :: .ref a :: rest)) :=
  va_putN (Ts := TW) hx hb (fun w h => hE.1 w h args) hin ty0 hty hnm hown hE.2 hP hD hS q0 he hc k hk (hE.1 _ hl args) (fun _ h => h) hfin (hty k hk) hn hfit hlen hdg (fun H1 locs1 hP1 hD1 hS1 => kk H1 locs1 (hws ▸ hP1) hS1)
end Cells8
end
section
theorem dX5_has_0 : decode cX5_has 0 = .ok (.iload_n 0, 1) := by decide +kernel
theorem dX5_has_1 : decode cX5_has 1 = .ok (.iload_n 1, 1) := by decide +kernel
theorem dX5_has_2 : decode cX5_has 2 = .ok (.ishr, 1) := by decide +kernel
theorem dX5_has_3 : decode cX5_has 3 = .ok (.iconst 1, 1) := by decide +kernel
theorem dX5_has_4 : decode cX5_has 4 = .ok (.iand, 1) := by decide +kernel
theorem dX5_has_5 : decode cX5_has 5 = .ok (.ifCond .eq 7, 3) := by decide +kernel
theorem dX5_has_8 : decode cX5_has 8 = .ok (.iconst 1, 1) := by decide +kernel
theorem dX5_has_9 : decode cX5_has 9 = .ok (.goto 4, 3) := by decide +kernel
theorem dX5_has_12 : decode cX5_has 12 = .ok (.iconst 0, 1) := by decide +kernel
theorem dX5_has_13 : decode cX5_has 13 = .ok (.ireturn, 1) := by decide +kernel
set_option maxHeartbeats 4000000 in
set_option maxRecDepth 100000 in
theorem c_X5_has (l : Launch) (D : va_G) (cI cZ cL : ClassId) (ws : va_W) (x : Int32) (y : Int32) : RD l D cI cZ cL yX5_has cX5_has 2 (some .boolean) 0 [.int x, .int y] ws (some (.int (bI (hs x y)))) := by
  refine RD.of (by decide) (Nat.le_of_ble_eq_true rfl) ?_
  intro p e s m args below meth c ls hx hb hr hml hown hlk hE hP hl
  have hl : lv_has ls 2 [(0, .int x), (1, .int y)] := hl
  refine lv_iload_n hx hb dX5_has_0 rfl (lv_at hl 0 rfl) ?_
  refine lv_iload_n hx hb dX5_has_1 rfl (lv_at hl 1 rfl) ?_
  refine lv_ishr hx hb dX5_has_2 ?_
  refine lv_iconst (v := 1) hx hb dX5_has_3 (by decide) ?_
  refine lv_iand hx hb dX5_has_4 ?_
  refine lv_if_eq (tgt := 12) hx hb dX5_has_5 (by decide) (fun c_1 => ?_) (fun c_1 => ?_)
  · skip
    refine lv_iconst (v := 0) hx hb dX5_has_12 (by decide) ?_
    refine q_top (y := bI (hs x y)) (by first | (simp only [bI, hs, c_1, ↓reduceIte]; done) | (simp [bI, hs, c_1]; done) | (simp_all [bI, hs]; done)) ?_
    exact e_ret hx hb hr hlk (n_bI _) dX5_has_13
  · skip
    refine lv_iconst (v := 1) hx hb dX5_has_8 (by decide) ?_
    refine lv_goto (tgt := 13) hx hb dX5_has_9 (by decide) ?_
    refine q_top (y := bI (hs x y)) (by first | (simp only [bI, hs, c_1, ↓reduceIte]; done) | (simp [bI, hs, c_1]; done) | (simp_all [bI, hs]; done)) ?_
    exact e_ret hx hb hr hlk (n_bI _) dX5_has_13

theorem dX5_bit_0 : decode cX5_bit 0 = .ok (.iconst 1, 1) := by decide +kernel
theorem dX5_bit_1 : decode cX5_bit 1 = .ok (.iload_n 0, 1) := by decide +kernel
theorem dX5_bit_2 : decode cX5_bit 2 = .ok (.ishl, 1) := by decide +kernel
theorem dX5_bit_3 : decode cX5_bit 3 = .ok (.ireturn, 1) := by decide +kernel
set_option maxHeartbeats 4000000 in
set_option maxRecDepth 100000 in
theorem c_X5_bit (l : Launch) (D : va_G) (cI cZ cL : ClassId) (ws : va_W) (x : Int32) : RD l D cI cZ cL yX5_bit cX5_bit 1 (some .int) 0 [.int x] ws (some (.int (bt x))) := by
  refine RD.of (by decide) (Nat.le_of_ble_eq_true rfl) ?_
  intro p e s m args below meth c ls hx hb hr hml hown hlk hE hP hl
  have hl : lv_has ls 1 [(0, .int x)] := hl
  refine lv_iconst (v := 1) hx hb dX5_bit_0 (by decide) ?_
  refine lv_iload_n hx hb dX5_bit_1 rfl (lv_at hl 0 rfl) ?_
  refine lv_ishl hx hb dX5_bit_2 ?_
  refine q_top (y := bt x) rfl ?_
  exact e_ret hx hb hr hlk rfl dX5_bit_3

theorem dX5_cell_0 : decode cX5_cell 0 = .ok (.iload_n 0, 1) := by decide +kernel
theorem dX5_cell_1 : decode cX5_cell 1 = .ok (.bipush 16, 2) := by decide +kernel
theorem dX5_cell_3 : decode cX5_cell 3 = .ok (.imul, 1) := by decide +kernel
theorem dX5_cell_4 : decode cX5_cell 4 = .ok (.iload_n 1, 1) := by decide +kernel
theorem dX5_cell_5 : decode cX5_cell 5 = .ok (.iadd, 1) := by decide +kernel
theorem dX5_cell_6 : decode cX5_cell 6 = .ok (.ireturn, 1) := by decide +kernel
set_option maxHeartbeats 4000000 in
set_option maxRecDepth 100000 in
theorem c_X5_cell (l : Launch) (D : va_G) (cI cZ cL : ClassId) (ws : va_W) (t : Nat) (r : Nat) : RD l D cI cZ cL yX5_cell cX5_cell 2 (some .int) 0 [.int (nI t), .int (nI r)] ws (some (.int (nI (t * 16 + r)))) := by
  refine RD.of (by decide) (Nat.le_of_ble_eq_true rfl) ?_
  intro p e s m args below meth c ls hx hb hr hml hown hlk hE hP hl
  have hl : lv_has ls 2 [(0, .int (nI t)), (1, .int (nI r))] := hl
  refine lv_iload_n hx hb dX5_cell_0 rfl (lv_at hl 0 rfl) ?_
  refine lv_bipush (v := 16) hx hb dX5_cell_1 (by decide) ?_
  refine lv_imul hx hb dX5_cell_3 ?_
  refine q_top (y := nI (t * 16)) (pk_mul t 16) ?_
  refine lv_iload_n hx hb dX5_cell_4 rfl (lv_at hl 1 rfl) ?_
  refine lv_iadd hx hb dX5_cell_5 ?_
  refine q_top (y := nI ((t * 16) + r)) (nI_add (t * 16) r) ?_
  refine q_top (y := nI (t * 16 + r)) (rfl) ?_
  exact e_ret hx hb hr hlk rfl dX5_cell_6

theorem dX5_sale_0 : decode cX5_sale 0 = .ok (.iload_n 0, 1) := by decide +kernel
theorem dX5_sale_1 : decode cX5_sale 1 = .ok (.iload_n 1, 1) := by decide +kernel
theorem dX5_sale_2 : decode cX5_sale 2 = .ok (.invokestatic 177, 3) := by decide +kernel
theorem dX5_sale_5 : decode cX5_sale 5 = .ok (.iconst 3, 1) := by decide +kernel
theorem dX5_sale_6 : decode cX5_sale 6 = .ok (.imul, 1) := by decide +kernel
theorem dX5_sale_7 : decode cX5_sale 7 = .ok (.iload_n 2, 1) := by decide +kernel
theorem dX5_sale_8 : decode cX5_sale 8 = .ok (.iadd, 1) := by decide +kernel
theorem dX5_sale_9 : decode cX5_sale 9 = .ok (.ireturn, 1) := by decide +kernel
set_option maxHeartbeats 4000000 in
set_option maxRecDepth 100000 in
theorem c_X5_sale (l : Launch) (D : va_G) (cI cZ cL : ClassId) (ws : va_W) (t : Nat) (r : Nat) (u : Nat) : RD l D cI cZ cL yX5_sale cX5_sale 3 (some .int) 1 [.int (nI t), .int (nI r), .int (nI u)] ws (some (.int (nI ((t * 16 + r) * 3 + u)))) := by
  refine RD.of (by decide) (Nat.le_of_ble_eq_true rfl) ?_
  intro p e s m args below meth c ls hx hb hr hml hown hlk hE hP hl
  have hl : lv_has ls 3 [(0, .int (nI t)), (1, .int (nI r)), (2, .int (nI u))] := hl
  refine lv_iload_n hx hb dX5_sale_0 rfl (lv_at hl 0 rfl) ?_
  refine lv_iload_n hx hb dX5_sale_1 rfl (lv_at hl 1 rfl) ?_
  refine q_rd (q_runS (rest := []) hx hb hml hown hE (c_X5_cell l D cI cZ cL _ t r) ck_X5_cell w_299 hP hl.1 rfl ⟨Nat.le_of_ble_eq_true rfl, Nat.le_of_ble_eq_true rfl⟩ (Nat.le_of_ble_eq_true rfl) dX5_sale_2 ⟨Nat.le_of_ble_eq_true rfl, Nat.le_of_ble_eq_true rfl⟩) ?_
  refine lv_iconst (v := 3) hx hb dX5_sale_5 (by decide) ?_
  refine lv_imul hx hb dX5_sale_6 ?_
  refine q_top (y := nI ((t * 16 + r) * 3)) (pk_mul (t * 16 + r) 3) ?_
  refine lv_iload_n hx hb dX5_sale_7 rfl (lv_at hl 2 rfl) ?_
  refine lv_iadd hx hb dX5_sale_8 ?_
  refine q_top (y := nI (((t * 16 + r) * 3) + u)) (nI_add ((t * 16 + r) * 3) u) ?_
  refine q_top (y := nI ((t * 16 + r) * 3 + u)) (rfl) ?_
  exact e_ret hx hb hr hlk rfl dX5_sale_9

theorem dX5_pair_0 : decode cX5_pair 0 = .ok (.iload_n 0, 1) := by decide +kernel
theorem dX5_pair_1 : decode cX5_pair 1 = .ok (.bipush 8, 2) := by decide +kernel
theorem dX5_pair_3 : decode cX5_pair 3 = .ok (.imul, 1) := by decide +kernel
theorem dX5_pair_4 : decode cX5_pair 4 = .ok (.iload_n 1, 1) := by decide +kernel
theorem dX5_pair_5 : decode cX5_pair 5 = .ok (.iadd, 1) := by decide +kernel
theorem dX5_pair_6 : decode cX5_pair 6 = .ok (.ireturn, 1) := by decide +kernel
set_option maxHeartbeats 4000000 in
set_option maxRecDepth 100000 in
theorem c_X5_pair (l : Launch) (D : va_G) (cI cZ cL : ClassId) (ws : va_W) (t : Nat) (o : Nat) : RD l D cI cZ cL yX5_pair cX5_pair 2 (some .int) 0 [.int (nI t), .int (nI o)] ws (some (.int (nI (t * 8 + o)))) := by
  refine RD.of (by decide) (Nat.le_of_ble_eq_true rfl) ?_
  intro p e s m args below meth c ls hx hb hr hml hown hlk hE hP hl
  have hl : lv_has ls 2 [(0, .int (nI t)), (1, .int (nI o))] := hl
  refine lv_iload_n hx hb dX5_pair_0 rfl (lv_at hl 0 rfl) ?_
  refine lv_bipush (v := 8) hx hb dX5_pair_1 (by decide) ?_
  refine lv_imul hx hb dX5_pair_3 ?_
  refine q_top (y := nI (t * 8)) (pk_mul t 8) ?_
  refine lv_iload_n hx hb dX5_pair_4 rfl (lv_at hl 1 rfl) ?_
  refine lv_iadd hx hb dX5_pair_5 ?_
  refine q_top (y := nI ((t * 8) + o)) (nI_add (t * 8) o) ?_
  refine q_top (y := nI (t * 8 + o)) (rfl) ?_
  exact e_ret hx hb hr hlk rfl dX5_pair_6

theorem dX1_links_0 : decode cX1_links 0 = .ok (.iload_n 1, 1) := by decide +kernel
theorem dX1_links_1 : decode cX1_links 1 = .ok (.iload_n 2, 1) := by decide +kernel
theorem dX1_links_2 : decode cX1_links 2 = .ok (.if_icmp .eq 28, 3) := by decide +kernel
theorem dX1_links_5 : decode cX1_links 5 = .ok (.iload_n 3, 1) := by decide +kernel
theorem dX1_links_6 : decode cX1_links 6 = .ok (.aload_n 0, 1) := by decide +kernel
theorem dX1_links_7 : decode cX1_links 7 = .ok (.getfield 18, 3) := by decide +kernel
theorem dX1_links_10 : decode cX1_links 10 = .ok (.if_icmp .lt 20, 3) := by decide +kernel
theorem dX1_links_13 : decode cX1_links 13 = .ok (.aload_n 0, 1) := by decide +kernel
theorem dX1_links_14 : decode cX1_links 14 = .ok (.getfield 15, 3) := by decide +kernel
theorem dX1_links_17 : decode cX1_links 17 = .ok (.iload_n 1, 1) := by decide +kernel
theorem dX1_links_18 : decode cX1_links 18 = .ok (.iaload, 1) := by decide +kernel
theorem dX1_links_19 : decode cX1_links 19 = .ok (.iload_n 2, 1) := by decide +kernel
theorem dX1_links_20 : decode cX1_links 20 = .ok (.invokestatic 26, 3) := by decide +kernel
theorem dX1_links_23 : decode cX1_links 23 = .ok (.ifCond .ne 7, 3) := by decide +kernel
theorem dX1_links_26 : decode cX1_links 26 = .ok (.iconst 1, 1) := by decide +kernel
theorem dX1_links_27 : decode cX1_links 27 = .ok (.goto 4, 3) := by decide +kernel
theorem dX1_links_30 : decode cX1_links 30 = .ok (.iconst 0, 1) := by decide +kernel
theorem dX1_links_31 : decode cX1_links 31 = .ok (.ireturn, 1) := by decide +kernel
set_option maxHeartbeats 4000000 in
set_option maxRecDepth 100000 in
theorem c_X1_links (l : Launch) (D : va_G) (cI cZ cL : ClassId) (ad : Nat → Nat) (S : Mem) (t : Nat) (o : Nat) (x : Int32) (ht : t < 8) (ho : o < 8) : RD l D cI cZ cL yX1_links cX1_links 4 (some .boolean) 1 [.ref (ad 15), .int (nI t), .int (nI o), .int x] (wC ad cI S) (some (.int (bI (p_links S t o x)))) := by
  refine RD.of (by decide) (Nat.le_of_ble_eq_true rfl) ?_
  intro p e s m args below meth c ls hx hb hr hml hown hlk hE hP hl
  have hl : lv_has ls 4 [(0, .ref (ad 15)), (1, .int (nI t)), (2, .int (nI o)), (3, .int x)] := hl
  refine lv_iload_n hx hb dX1_links_0 rfl (lv_at hl 1 rfl) ?_
  refine lv_iload_n hx hb dX1_links_1 rfl (lv_at hl 2 rfl) ?_
  refine lv_icmp_eq (tgt := 30) hx hb dX1_links_2 (by decide) (fun c_1 => ?_) (fun c_1 => ?_)
  · skip
    have c_1 : t = o := n_eq (a := t) (b := o) (by omega) (by omega) c_1
    refine lv_iconst (v := 0) hx hb dX1_links_30 (by decide) ?_
    refine q_top (y := bI (p_links S t o x)) (by first | (simp only [bI, p_links, c_1, ↓reduceIte]; done) | (simp [bI, p_links, c_1]; done) | (simp_all [bI, p_links]; done)) ?_
    exact e_ret hx hb hr hlk (n_bI _) dX1_links_31
  · skip
    have c_1 : ¬ t = o := n_ne (a := t) (b := o) (by omega) (by omega) c_1
    refine lv_iload_n hx hb dX1_links_5 rfl (lv_at hl 3 rfl) ?_
    refine lv_aload_n hx hb dX1_links_6 rfl (lv_at hl 0 rfl) ?_
    refine q_get (v := .int (S 15 2)) hx hb hown hE inT_X1 hP 15 rfl rfl 2 (by decide) w_172 rfl dX1_links_7 ?_
    refine lv_icmp_lt (tgt := 30) hx hb dX1_links_10 (by decide) (fun c_2 => ?_) (fun c_2 => ?_)
    · skip
      refine lv_iconst (v := 0) hx hb dX1_links_30 (by decide) ?_
      refine q_top (y := bI (p_links S t o x)) (by first | (simp only [bI, p_links, c_1, c_2, ↓reduceIte]; done) | (simp [bI, p_links, c_1, c_2]; done) | (simp_all [bI, p_links]; done)) ?_
      exact e_ret hx hb hr hlk (n_bI _) dX1_links_31
    · skip
      refine lv_aload_n hx hb dX1_links_13 rfl (lv_at hl 0 rfl) ?_
      refine q_get (v := .ref (ad 17)) hx hb hown hE inT_X1 hP 15 rfl rfl 1 (by decide) w_171 rfl dX1_links_14 ?_
      refine lv_iload_n hx hb dX1_links_17 rfl (lv_at hl 1 rfl) ?_
      refine q_iald (f := S 17) (i := t) hx hb hE hP 17 rfl (by omega) (Nat.le_of_ble_eq_true rfl) dX1_links_18 ?_
      refine lv_iload_n hx hb dX1_links_19 rfl (lv_at hl 2 rfl) ?_
      refine q_rd (q_runSN (rest := []) hx hb hml hown hE (c_X5_has l D cI cZ cL _ (S 17 t) (nI o)) ck_X5_has w_280 hP hl.1 rfl ⟨Nat.le_of_ble_eq_true rfl, Nat.le_of_ble_eq_true rfl⟩ (Nat.le_of_ble_eq_true rfl) dX1_links_20 ⟨Nat.le_of_ble_eq_true rfl, Nat.le_of_ble_eq_true rfl⟩) ?_
      refine lv_if_ne (tgt := 30) hx hb dX1_links_23 (by decide) (fun c_3 => ?_) (fun c_3 => ?_)
      · skip
        have c_3 : hs (S 17 t) (nI o) = true := b_t c_3
        refine lv_iconst (v := 0) hx hb dX1_links_30 (by decide) ?_
        refine q_top (y := bI (p_links S t o x)) (by first | (simp only [bI, p_links, c_1, c_2, c_3, ↓reduceIte]; done) | (simp [bI, p_links, c_1, c_2, c_3]; done) | (simp_all [bI, p_links]; done)) ?_
        exact e_ret hx hb hr hlk (n_bI _) dX1_links_31
      · skip
        have c_3 : hs (S 17 t) (nI o) = false := b_f c_3
        refine lv_iconst (v := 1) hx hb dX1_links_26 (by decide) ?_
        refine lv_goto (tgt := 31) hx hb dX1_links_27 (by decide) ?_
        refine q_top (y := bI (p_links S t o x)) (by first | (simp only [bI, p_links, c_1, c_2, c_3, ↓reduceIte]; done) | (simp [bI, p_links, c_1, c_2, c_3]; done) | (simp_all [bI, p_links]; done)) ?_
        exact e_ret hx hb hr hlk (n_bI _) dX1_links_31

theorem dX3_spread_0 : decode cX3_spread 0 = .ok (.iload_n 1, 1) := by decide +kernel
theorem dX3_spread_1 : decode cX3_spread 1 = .ok (.istore_n 2, 1) := by decide +kernel
theorem dX3_spread_2 : decode cX3_spread 2 = .ok (.iconst 0, 1) := by decide +kernel
theorem dX3_spread_3 : decode cX3_spread 3 = .ok (.istore_n 3, 1) := by decide +kernel
theorem dX3_spread_4 : decode cX3_spread 4 = .ok (.iload_n 3, 1) := by decide +kernel
theorem dX3_spread_5 : decode cX3_spread 5 = .ok (.aload_n 0, 1) := by decide +kernel
theorem dX3_spread_6 : decode cX3_spread 6 = .ok (.getfield 27, 3) := by decide +kernel
theorem dX3_spread_9 : decode cX3_spread 9 = .ok (.if_icmp .ge 27, 3) := by decide +kernel
theorem dX3_spread_12 : decode cX3_spread 12 = .ok (.aload_n 0, 1) := by decide +kernel
theorem dX3_spread_13 : decode cX3_spread 13 = .ok (.getfield 24, 3) := by decide +kernel
theorem dX3_spread_16 : decode cX3_spread 16 = .ok (.iload_n 3, 1) := by decide +kernel
theorem dX3_spread_17 : decode cX3_spread 17 = .ok (.iaload, 1) := by decide +kernel
theorem dX3_spread_18 : decode cX3_spread 18 = .ok (.iload_n 2, 1) := by decide +kernel
theorem dX3_spread_19 : decode cX3_spread 19 = .ok (.iand, 1) := by decide +kernel
theorem dX3_spread_20 : decode cX3_spread 20 = .ok (.ifCond .eq 10, 3) := by decide +kernel
theorem dX3_spread_23 : decode cX3_spread 23 = .ok (.iload_n 2, 1) := by decide +kernel
theorem dX3_spread_24 : decode cX3_spread 24 = .ok (.iload_n 3, 1) := by decide +kernel
theorem dX3_spread_25 : decode cX3_spread 25 = .ok (.invokestatic 31, 3) := by decide +kernel
theorem dX3_spread_28 : decode cX3_spread 28 = .ok (.ior, 1) := by decide +kernel
theorem dX3_spread_29 : decode cX3_spread 29 = .ok (.istore_n 2, 1) := by decide +kernel
theorem dX3_spread_30 : decode cX3_spread 30 = .ok (.iinc 3 1, 3) := by decide +kernel
theorem dX3_spread_33 : decode cX3_spread 33 = .ok (.goto (-29), 3) := by decide +kernel
theorem dX3_spread_36 : decode cX3_spread 36 = .ok (.iload_n 2, 1) := by decide +kernel
theorem dX3_spread_37 : decode cX3_spread 37 = .ok (.ireturn, 1) := by decide +kernel
set_option maxHeartbeats 4000000 in
set_option maxRecDepth 100000 in
theorem c_X3_spread (l : Launch) (D : va_G) (cI cZ cL : ClassId) (ad : Nat → Nat) (S : Mem) (set : Int32) (hI : I0 S) : RD l D cI cZ cL yX3_spread cX3_spread 4 (some .int) 1 [.ref (ad 1), .int set] (wC ad cI S) (some (.int (p_spread S set (cR S)))) := by
  refine RD.of (by decide) (Nat.le_of_ble_eq_true rfl) ?_
  intro p e s m args below meth c ls hx hb hr hml hown hlk hE hP hl
  have hl : lv_has ls 4 [(0, .ref (ad 1)), (1, .int set)] := hl
  have hT8 := hI.T8
  have hR16 := hI.R16
  have hN200 := hI.N200
  refine lv_iload_n hx hb dX3_spread_0 rfl (lv_at hl 1 rfl) ?_
  refine lv_istore_n (lv' := [(2, .int set), (0, .ref (ad 1)), (1, .int set)]) hx hb dX3_spread_1 rfl hl (by decide) rfl (fun ls hl => ?_)
  refine lv_iconst (v := 0) hx hb dX3_spread_2 (by decide) ?_
  refine lv_istore_n (lv' := [(3, .int 0), (2, .int set), (0, .ref (ad 1)), (1, .int set)]) hx hb dX3_spread_3 rfl hl (by decide) rfl (fun ls hl => ?_)
  have hloop_4 : ∀ (n i : Nat), i ≤ cR S → cR S < i + n → ∀ ls : Array Slot, lv_has ls 4 [(3, .int (nI i)), (2, .int (p_spread S set i)), (0, .ref (ad 1)), (1, .int set)] → W p l e (rm 1 0 0) s m args below meth c s.heap [] 0 0 (MQ below (Qrd (some (.int (p_spread S set (cR S))))) args s 0 0 q_no) (F0 m 4 ls []) := by
    intro n
    induction n with
    | zero => intro i h1 h2; exact absurd h2 (by omega)
    | succ n ih_4 =>
      intro i hi_4 hin_4  ls hl
      refine lv_iload_n hx hb dX3_spread_4 rfl (lv_at hl 0 rfl) ?_
      refine lv_aload_n hx hb dX3_spread_5 rfl (lv_at hl 2 rfl) ?_
      refine q_get (v := .int (S 1 6)) hx hb hown hE inT_X3 hP 1 rfl rfl 6 (by decide) w_103 rfl dX3_spread_6 ?_
      refine q_top (y := nI (cR S)) (I0.R hI) ?_
      refine lv_icmp_ge (tgt := 36) hx hb dX3_spread_9 (by decide) (fun c_1 => ?_) (fun c_1 => ?_)
      · skip
        have c_1 : (cR S) ≤ i := n_le (a := cR S) (b := i) (by omega) (by omega) c_1
        have hend_4 : cR S = i := by omega
        subst hend_4
        refine lv_iload_n hx hb dX3_spread_36 rfl (lv_at hl 1 rfl) ?_
        exact e_ret hx hb hr hlk rfl dX3_spread_37
      · skip
        have c_1 : i < (cR S) := n_nle (a := cR S) (b := i) (by omega) (by omega) c_1
        refine lv_aload_n hx hb dX3_spread_12 rfl (lv_at hl 2 rfl) ?_
        refine q_get (v := .ref (ad 6)) hx hb hown hE inT_X3 hP 1 rfl rfl 4 (by decide) w_100 rfl dX3_spread_13 ?_
        refine lv_iload_n hx hb dX3_spread_16 rfl (lv_at hl 0 rfl) ?_
        refine q_iald (f := S 6) (i := i) hx hb hE hP 6 rfl (by omega) (Nat.le_of_ble_eq_true rfl) dX3_spread_17 ?_
        refine lv_iload_n hx hb dX3_spread_18 rfl (lv_at hl 1 rfl) ?_
        refine lv_iand hx hb dX3_spread_19 ?_
        refine lv_if_eq (tgt := 30) hx hb dX3_spread_20 (by decide) (fun c_2 => ?_) (fun c_2 => ?_)
        · skip
          refine lv_iinc (v := nI (i + 1)) (lv' := [(3, .int (nI (i + 1))), (2, .int (p_spread S set i)), (0, .ref (ad 1)), (1, .int set)]) hx hb dX3_spread_30 hl (k := 0) rfl (nI_1 i) (by decide) rfl (fun ls hl => ?_)
          refine lv_goto (tgt := 4) hx hb dX3_spread_33 (by decide) ?_
          refine ih_4 (i + 1) (by omega) (by omega)  ls ?_
          rw [show p_spread S set (i + 1) = p_spread S set i from by first | (simp only [bI, p_spread, c_1, c_2, ↓reduceIte]; done) | (simp [bI, p_spread, c_1, c_2]; done) | (simp_all [bI, p_spread]; done)]
          exact lv_sub hl [0, 1, 2, 3] rfl
        · skip
          refine lv_iload_n hx hb dX3_spread_23 rfl (lv_at hl 1 rfl) ?_
          refine lv_iload_n hx hb dX3_spread_24 rfl (lv_at hl 0 rfl) ?_
          refine q_rd (q_runSN (rest := [.int (p_spread S set i)]) hx hb hml hown hE (c_X5_bit l D cI cZ cL _ (nI i)) ck_X5_bit w_287 hP hl.1 rfl ⟨Nat.le_of_ble_eq_true rfl, Nat.le_of_ble_eq_true rfl⟩ (Nat.le_of_ble_eq_true rfl) dX3_spread_25 ⟨Nat.le_of_ble_eq_true rfl, Nat.le_of_ble_eq_true rfl⟩) ?_
          refine lv_ior hx hb dX3_spread_28 ?_
          refine lv_istore_n (lv' := [(2, .int ((p_spread S set i) ||| (bt (nI i)))), (3, .int (nI i)), (0, .ref (ad 1)), (1, .int set)]) hx hb dX3_spread_29 rfl hl (by decide) rfl (fun ls hl => ?_)
          refine lv_iinc (v := nI (i + 1)) (lv' := [(3, .int (nI (i + 1))), (2, .int ((p_spread S set i) ||| (bt (nI i)))), (0, .ref (ad 1)), (1, .int set)]) hx hb dX3_spread_30 hl (k := 1) rfl (nI_1 i) (by decide) rfl (fun ls hl => ?_)
          refine lv_goto (tgt := 4) hx hb dX3_spread_33 (by decide) ?_
          refine ih_4 (i + 1) (by omega) (by omega)  ls ?_
          rw [show p_spread S set (i + 1) = (p_spread S set i) ||| (bt (nI i)) from by first | (simp only [bI, p_spread, c_1, c_2, ↓reduceIte]; done) | (simp [bI, p_spread, c_1, c_2]; done) | (simp_all [bI, p_spread]; done)]
          exact lv_sub hl [0, 1, 2, 3] rfl
  refine hloop_4 (cR S + 1) 0 (by omega) (by omega)  ls ?_
  rw [show p_spread S set 0 = set from by first | rfl | (first | (simp only [bI, p_spread, ↓reduceIte]; done) | (simp [bI, p_spread]; done) | (simp_all [bI, p_spread]; done))]
  exact lv_sub hl [0, 1, 2, 3] rfl

theorem dX3_hangingOn_0 : decode cX3_hangingOn 0 = .ok (.aload_n 0, 1) := by decide +kernel
theorem dX3_hangingOn_1 : decode cX3_hangingOn 1 = .ok (.iload_n 1, 1) := by decide +kernel
theorem dX3_hangingOn_2 : decode cX3_hangingOn 2 = .ok (.invokestatic 31, 3) := by decide +kernel
theorem dX3_hangingOn_5 : decode cX3_hangingOn 5 = .ok (.invokevirtual 35, 3) := by decide +kernel
theorem dX3_hangingOn_8 : decode cX3_hangingOn 8 = .ok (.iload_n 1, 1) := by decide +kernel
theorem dX3_hangingOn_9 : decode cX3_hangingOn 9 = .ok (.invokestatic 31, 3) := by decide +kernel
theorem dX3_hangingOn_12 : decode cX3_hangingOn 12 = .ok (.iconst (-1), 1) := by decide +kernel
theorem dX3_hangingOn_13 : decode cX3_hangingOn 13 = .ok (.ixor, 1) := by decide +kernel
theorem dX3_hangingOn_14 : decode cX3_hangingOn 14 = .ok (.iand, 1) := by decide +kernel
theorem dX3_hangingOn_15 : decode cX3_hangingOn 15 = .ok (.ireturn, 1) := by decide +kernel
set_option maxHeartbeats 4000000 in
set_option maxRecDepth 100000 in
theorem c_X3_hangingOn (l : Launch) (D : va_G) (cI cZ cL : ClassId) (ad : Nat → Nat) (S : Mem) (r : Nat) (hI : I0 S) : RD l D cI cZ cL yX3_hangingOn cX3_hangingOn 2 (some .int) 2 [.ref (ad 1), .int (nI r)] (wC ad cI S) (some (.int (p_hang S r))) := by
  refine RD.of (by decide) (Nat.le_of_ble_eq_true rfl) ?_
  intro p e s m args below meth c ls hx hb hr hml hown hlk hE hP hl
  have hl : lv_has ls 2 [(0, .ref (ad 1)), (1, .int (nI r))] := hl
  refine lv_aload_n hx hb dX3_hangingOn_0 rfl (lv_at hl 0 rfl) ?_
  refine lv_iload_n hx hb dX3_hangingOn_1 rfl (lv_at hl 1 rfl) ?_
  refine q_rd (q_runSN (rest := [.ref (ad 1)]) hx hb hml hown hE (c_X5_bit l D cI cZ cL _ (nI r)) ck_X5_bit w_287 hP hl.1 rfl ⟨Nat.le_of_ble_eq_true rfl, Nat.le_of_ble_eq_true rfl⟩ (Nat.le_of_ble_eq_true rfl) dX3_hangingOn_2 ⟨Nat.le_of_ble_eq_true rfl, Nat.le_of_ble_eq_true rfl⟩) ?_
  refine q_rd (q_runV (rest := []) hx hb hml hown hE (c_X3_spread l D cI cZ cL ad S (bt (nI r)) hI) ck_X3_spread w_674 hP 1 rfl rfl hl.1 rfl ⟨Nat.le_of_ble_eq_true rfl, Nat.le_of_ble_eq_true rfl⟩ (Nat.le_of_ble_eq_true rfl) dX3_hangingOn_5 ⟨Nat.le_of_ble_eq_true rfl, Nat.le_of_ble_eq_true rfl⟩) ?_
  refine lv_iload_n hx hb dX3_hangingOn_8 rfl (lv_at hl 1 rfl) ?_
  refine q_rd (q_runSN (rest := [.int (p_spread S (bt (nI r)) (cR S))]) hx hb hml hown hE (c_X5_bit l D cI cZ cL _ (nI r)) ck_X5_bit w_287 hP hl.1 rfl ⟨Nat.le_of_ble_eq_true rfl, Nat.le_of_ble_eq_true rfl⟩ (Nat.le_of_ble_eq_true rfl) dX3_hangingOn_9 ⟨Nat.le_of_ble_eq_true rfl, Nat.le_of_ble_eq_true rfl⟩) ?_
  refine lv_iconst (v := (-1)) hx hb dX3_hangingOn_12 (by decide) ?_
  refine lv_ixor hx hb dX3_hangingOn_13 ?_
  refine lv_iand hx hb dX3_hangingOn_14 ?_
  refine q_top (y := p_hang S r) (by rfl) ?_
  exact e_ret hx hb hr hlk rfl dX3_hangingOn_15

theorem dX0_giversOf_0 : decode cX0_giversOf 0 = .ok (.iconst 0, 1) := by decide +kernel
theorem dX0_giversOf_1 : decode cX0_giversOf 1 = .ok (.istore_n 3, 1) := by decide +kernel
theorem dX0_giversOf_2 : decode cX0_giversOf 2 = .ok (.iconst 0, 1) := by decide +kernel
theorem dX0_giversOf_3 : decode cX0_giversOf 3 = .ok (.istore 4, 2) := by decide +kernel
theorem dX0_giversOf_5 : decode cX0_giversOf 5 = .ok (.iload 4, 2) := by decide +kernel
theorem dX0_giversOf_7 : decode cX0_giversOf 7 = .ok (.aload_n 0, 1) := by decide +kernel
theorem dX0_giversOf_8 : decode cX0_giversOf 8 = .ok (.getfield 24, 3) := by decide +kernel
theorem dX0_giversOf_11 : decode cX0_giversOf 11 = .ok (.if_icmp .ge 44, 3) := by decide +kernel
theorem dX0_giversOf_14 : decode cX0_giversOf 14 = .ok (.aload_n 0, 1) := by decide +kernel
theorem dX0_giversOf_15 : decode cX0_giversOf 15 = .ok (.getfield 15, 3) := by decide +kernel
theorem dX0_giversOf_18 : decode cX0_giversOf 18 = .ok (.iload 4, 2) := by decide +kernel
theorem dX0_giversOf_20 : decode cX0_giversOf 20 = .ok (.iaload, 1) := by decide +kernel
theorem dX0_giversOf_21 : decode cX0_giversOf 21 = .ok (.iload_n 1, 1) := by decide +kernel
theorem dX0_giversOf_22 : decode cX0_giversOf 22 = .ok (.if_icmp .ne 27, 3) := by decide +kernel
theorem dX0_giversOf_25 : decode cX0_giversOf 25 = .ok (.aload_n 0, 1) := by decide +kernel
theorem dX0_giversOf_26 : decode cX0_giversOf 26 = .ok (.getfield 18, 3) := by decide +kernel
theorem dX0_giversOf_29 : decode cX0_giversOf 29 = .ok (.iload 4, 2) := by decide +kernel
theorem dX0_giversOf_31 : decode cX0_giversOf 31 = .ok (.iaload, 1) := by decide +kernel
theorem dX0_giversOf_32 : decode cX0_giversOf 32 = .ok (.iload_n 2, 1) := by decide +kernel
theorem dX0_giversOf_33 : decode cX0_giversOf 33 = .ok (.if_icmp .ne 16, 3) := by decide +kernel
theorem dX0_giversOf_36 : decode cX0_giversOf 36 = .ok (.iload_n 3, 1) := by decide +kernel
theorem dX0_giversOf_37 : decode cX0_giversOf 37 = .ok (.aload_n 0, 1) := by decide +kernel
theorem dX0_giversOf_38 : decode cX0_giversOf 38 = .ok (.getfield 9, 3) := by decide +kernel
theorem dX0_giversOf_41 : decode cX0_giversOf 41 = .ok (.iload 4, 2) := by decide +kernel
theorem dX0_giversOf_43 : decode cX0_giversOf 43 = .ok (.iaload, 1) := by decide +kernel
theorem dX0_giversOf_44 : decode cX0_giversOf 44 = .ok (.invokestatic 28, 3) := by decide +kernel
theorem dX0_giversOf_47 : decode cX0_giversOf 47 = .ok (.ior, 1) := by decide +kernel
theorem dX0_giversOf_48 : decode cX0_giversOf 48 = .ok (.istore_n 3, 1) := by decide +kernel
theorem dX0_giversOf_49 : decode cX0_giversOf 49 = .ok (.iinc 4 1, 3) := by decide +kernel
theorem dX0_giversOf_52 : decode cX0_giversOf 52 = .ok (.goto (-47), 3) := by decide +kernel
theorem dX0_giversOf_55 : decode cX0_giversOf 55 = .ok (.iload_n 3, 1) := by decide +kernel
theorem dX0_giversOf_56 : decode cX0_giversOf 56 = .ok (.ireturn, 1) := by decide +kernel
set_option maxHeartbeats 4000000 in
set_option maxRecDepth 100000 in
theorem c_X0_giversOf (l : Launch) (D : va_G) (cI cZ cL : ClassId) (ad : Nat → Nat) (S : Mem) (r : Nat) (w : Int32) (hI : I0 S) : RD l D cI cZ cL yX0_giversOf cX0_giversOf 5 (some .int) 1 [.ref (ad 7), .int (nI r), .int w] (wC ad cI S) (some (.int (p_give S r w (cN S)))) := by
  refine RD.of (by decide) (Nat.le_of_ble_eq_true rfl) ?_
  intro p e s m args below meth c ls hx hb hr hml hown hlk hE hP hl
  have hl : lv_has ls 5 [(0, .ref (ad 7)), (1, .int (nI r)), (2, .int w)] := hl
  have hT8 := hI.T8
  have hR16 := hI.R16
  have hN200 := hI.N200
  refine lv_iconst (v := 0) hx hb dX0_giversOf_0 (by decide) ?_
  refine lv_istore_n (lv' := [(3, .int 0), (0, .ref (ad 7)), (1, .int (nI r)), (2, .int w)]) hx hb dX0_giversOf_1 rfl hl (by decide) rfl (fun ls hl => ?_)
  refine lv_iconst (v := 0) hx hb dX0_giversOf_2 (by decide) ?_
  refine lv_istore (lv' := [(4, .int 0), (3, .int 0), (0, .ref (ad 7)), (1, .int (nI r)), (2, .int w)]) hx hb dX0_giversOf_3 hl (by decide) rfl (fun ls hl => ?_)
  have hloop_5 : ∀ (n i : Nat), i ≤ cN S → cN S < i + n → ∀ ls : Array Slot, lv_has ls 5 [(4, .int (nI i)), (3, .int (p_give S r w i)), (0, .ref (ad 7)), (1, .int (nI r)), (2, .int w)] → W p l e (rm 1 0 0) s m args below meth c s.heap [] 0 0 (MQ below (Qrd (some (.int (p_give S r w (cN S))))) args s 0 0 q_no) (F0 m 5 ls []) := by
    intro n
    induction n with
    | zero => intro i h1 h2; exact absurd h2 (by omega)
    | succ n ih_5 =>
      intro i hi_5 hin_5  ls hl
      refine lv_iload hx hb dX0_giversOf_5 (lv_at hl 0 rfl) ?_
      refine lv_aload_n hx hb dX0_giversOf_7 rfl (lv_at hl 2 rfl) ?_
      refine q_get (v := .int (S 7 4)) hx hb hown hE inT_X0 hP 7 rfl rfl 4 (by decide) w_135 rfl dX0_giversOf_8 ?_
      refine q_top (y := nI (cN S)) (I0.N hI) ?_
      refine lv_icmp_ge (tgt := 55) hx hb dX0_giversOf_11 (by decide) (fun c_1 => ?_) (fun c_1 => ?_)
      · skip
        have c_1 : (cN S) ≤ i := n_le (a := cN S) (b := i) (by omega) (by omega) c_1
        have hend_5 : cN S = i := by omega
        subst hend_5
        refine lv_iload_n hx hb dX0_giversOf_55 rfl (lv_at hl 1 rfl) ?_
        exact e_ret hx hb hr hlk rfl dX0_giversOf_56
      · skip
        have c_1 : i < (cN S) := n_nle (a := cN S) (b := i) (by omega) (by omega) c_1
        refine lv_aload_n hx hb dX0_giversOf_14 rfl (lv_at hl 2 rfl) ?_
        refine q_get (v := .ref (ad 9)) hx hb hown hE inT_X0 hP 7 rfl rfl 1 (by decide) w_129 rfl dX0_giversOf_15 ?_
        refine lv_iload hx hb dX0_giversOf_18 (lv_at hl 0 rfl) ?_
        refine q_iald (f := S 9) (i := i) hx hb hE hP 9 rfl (by omega) (Nat.le_of_ble_eq_true rfl) dX0_giversOf_20 ?_
        refine lv_iload_n hx hb dX0_giversOf_21 rfl (lv_at hl 3 rfl) ?_
        refine lv_icmp_ne (tgt := 49) hx hb dX0_giversOf_22 (by decide) (fun c_2 => ?_) (fun c_2 => ?_)
        · skip
          refine lv_iinc (v := nI (i + 1)) (lv' := [(4, .int (nI (i + 1))), (3, .int (p_give S r w i)), (0, .ref (ad 7)), (1, .int (nI r)), (2, .int w)]) hx hb dX0_giversOf_49 hl (k := 0) rfl (nI_1 i) (by decide) rfl (fun ls hl => ?_)
          refine lv_goto (tgt := 5) hx hb dX0_giversOf_52 (by decide) ?_
          refine ih_5 (i + 1) (by omega) (by omega)  ls ?_
          rw [show p_give S r w (i + 1) = p_give S r w i from by first | (simp only [bI, p_give, c_1, c_2, ↓reduceIte]; done) | (simp [bI, p_give, c_1, c_2]; done) | (simp_all [bI, p_give]; done)]
          exact lv_sub hl [0, 1, 2, 3, 4] rfl
        · skip
          refine lv_aload_n hx hb dX0_giversOf_25 rfl (lv_at hl 2 rfl) ?_
          refine q_get (v := .ref (ad 10)) hx hb hown hE inT_X0 hP 7 rfl rfl 2 (by decide) w_131 rfl dX0_giversOf_26 ?_
          refine lv_iload hx hb dX0_giversOf_29 (lv_at hl 0 rfl) ?_
          refine q_iald (f := S 10) (i := i) hx hb hE hP 10 rfl (by omega) (Nat.le_of_ble_eq_true rfl) dX0_giversOf_31 ?_
          refine lv_iload_n hx hb dX0_giversOf_32 rfl (lv_at hl 4 rfl) ?_
          refine lv_icmp_ne (tgt := 49) hx hb dX0_giversOf_33 (by decide) (fun c_3 => ?_) (fun c_3 => ?_)
          · skip
            refine lv_iinc (v := nI (i + 1)) (lv' := [(4, .int (nI (i + 1))), (3, .int (p_give S r w i)), (0, .ref (ad 7)), (1, .int (nI r)), (2, .int w)]) hx hb dX0_giversOf_49 hl (k := 0) rfl (nI_1 i) (by decide) rfl (fun ls hl => ?_)
            refine lv_goto (tgt := 5) hx hb dX0_giversOf_52 (by decide) ?_
            refine ih_5 (i + 1) (by omega) (by omega)  ls ?_
            rw [show p_give S r w (i + 1) = p_give S r w i from by first | (simp only [bI, p_give, c_1, c_2, c_3, ↓reduceIte]; done) | (simp [bI, p_give, c_1, c_2, c_3]; done) | (simp_all [bI, p_give]; done)]
            exact lv_sub hl [0, 1, 2, 3, 4] rfl
          · skip
            refine lv_iload_n hx hb dX0_giversOf_36 rfl (lv_at hl 1 rfl) ?_
            refine lv_aload_n hx hb dX0_giversOf_37 rfl (lv_at hl 2 rfl) ?_
            refine q_get (v := .ref (ad 8)) hx hb hown hE inT_X0 hP 7 rfl rfl 0 (by decide) w_127 rfl dX0_giversOf_38 ?_
            refine lv_iload hx hb dX0_giversOf_41 (lv_at hl 0 rfl) ?_
            refine q_iald (f := S 8) (i := i) hx hb hE hP 8 rfl (by omega) (Nat.le_of_ble_eq_true rfl) dX0_giversOf_43 ?_
            refine q_rd (q_runSN (rest := [.int (p_give S r w i)]) hx hb hml hown hE (c_X5_bit l D cI cZ cL _ (S 8 i)) ck_X5_bit w_519 hP hl.1 rfl ⟨Nat.le_of_ble_eq_true rfl, Nat.le_of_ble_eq_true rfl⟩ (Nat.le_of_ble_eq_true rfl) dX0_giversOf_44 ⟨Nat.le_of_ble_eq_true rfl, Nat.le_of_ble_eq_true rfl⟩) ?_
            refine lv_ior hx hb dX0_giversOf_47 ?_
            refine lv_istore_n (lv' := [(3, .int ((p_give S r w i) ||| (bt (S 8 i)))), (4, .int (nI i)), (0, .ref (ad 7)), (1, .int (nI r)), (2, .int w)]) hx hb dX0_giversOf_48 rfl hl (by decide) rfl (fun ls hl => ?_)
            refine lv_iinc (v := nI (i + 1)) (lv' := [(4, .int (nI (i + 1))), (3, .int ((p_give S r w i) ||| (bt (S 8 i)))), (0, .ref (ad 7)), (1, .int (nI r)), (2, .int w)]) hx hb dX0_giversOf_49 hl (k := 1) rfl (nI_1 i) (by decide) rfl (fun ls hl => ?_)
            refine lv_goto (tgt := 5) hx hb dX0_giversOf_52 (by decide) ?_
            refine ih_5 (i + 1) (by omega) (by omega)  ls ?_
            rw [show p_give S r w (i + 1) = (p_give S r w i) ||| (bt (S 8 i)) from by first | (simp only [bI, p_give, c_1, c_2, c_3, ↓reduceIte]; done) | (simp [bI, p_give, c_1, c_2, c_3]; done) | (simp_all [bI, p_give]; done)]
            exact lv_sub hl [0, 1, 2, 3, 4] rfl
  refine hloop_5 (cN S + 1) 0 (by omega) (by omega)  ls ?_
  rw [show p_give S r w 0 = 0 from by first | rfl | (first | (simp only [bI, p_give, ↓reduceIte]; done) | (simp [bI, p_give]; done) | (simp_all [bI, p_give]; done))]
  exact lv_sub hl [0, 1, 2, 3, 4] rfl

theorem dX0_areSame_0 : decode cX0_areSame 0 = .ok (.aload_n 0, 1) := by decide +kernel
theorem dX0_areSame_1 : decode cX0_areSame 1 = .ok (.getfield 15, 3) := by decide +kernel
theorem dX0_areSame_4 : decode cX0_areSame 4 = .ok (.iload_n 1, 1) := by decide +kernel
theorem dX0_areSame_5 : decode cX0_areSame 5 = .ok (.iaload, 1) := by decide +kernel
theorem dX0_areSame_6 : decode cX0_areSame 6 = .ok (.aload_n 0, 1) := by decide +kernel
theorem dX0_areSame_7 : decode cX0_areSame 7 = .ok (.getfield 15, 3) := by decide +kernel
theorem dX0_areSame_10 : decode cX0_areSame 10 = .ok (.iload_n 2, 1) := by decide +kernel
theorem dX0_areSame_11 : decode cX0_areSame 11 = .ok (.iaload, 1) := by decide +kernel
theorem dX0_areSame_12 : decode cX0_areSame 12 = .ok (.if_icmp .ne 22, 3) := by decide +kernel
theorem dX0_areSame_15 : decode cX0_areSame 15 = .ok (.aload_n 0, 1) := by decide +kernel
theorem dX0_areSame_16 : decode cX0_areSame 16 = .ok (.getfield 18, 3) := by decide +kernel
theorem dX0_areSame_19 : decode cX0_areSame 19 = .ok (.iload_n 1, 1) := by decide +kernel
theorem dX0_areSame_20 : decode cX0_areSame 20 = .ok (.iaload, 1) := by decide +kernel
theorem dX0_areSame_21 : decode cX0_areSame 21 = .ok (.aload_n 0, 1) := by decide +kernel
theorem dX0_areSame_22 : decode cX0_areSame 22 = .ok (.getfield 18, 3) := by decide +kernel
theorem dX0_areSame_25 : decode cX0_areSame 25 = .ok (.iload_n 2, 1) := by decide +kernel
theorem dX0_areSame_26 : decode cX0_areSame 26 = .ok (.iaload, 1) := by decide +kernel
theorem dX0_areSame_27 : decode cX0_areSame 27 = .ok (.if_icmp .ne 7, 3) := by decide +kernel
theorem dX0_areSame_30 : decode cX0_areSame 30 = .ok (.iconst 1, 1) := by decide +kernel
theorem dX0_areSame_31 : decode cX0_areSame 31 = .ok (.goto 4, 3) := by decide +kernel
theorem dX0_areSame_34 : decode cX0_areSame 34 = .ok (.iconst 0, 1) := by decide +kernel
theorem dX0_areSame_35 : decode cX0_areSame 35 = .ok (.ireturn, 1) := by decide +kernel
set_option maxHeartbeats 4000000 in
set_option maxRecDepth 100000 in
theorem c_X0_areSame (l : Launch) (D : va_G) (cI cZ cL : ClassId) (ad : Nat → Nat) (S : Mem) (i : Nat) (j : Nat) (hi : i < 200) (hj : j < 200) : RD l D cI cZ cL yX0_areSame cX0_areSame 3 (some .boolean) 0 [.ref (ad 7), .int (nI i), .int (nI j)] (wC ad cI S) (some (.int (bI (p_same S i j)))) := by
  refine RD.of (by decide) (Nat.le_of_ble_eq_true rfl) ?_
  intro p e s m args below meth c ls hx hb hr hml hown hlk hE hP hl
  have hl : lv_has ls 3 [(0, .ref (ad 7)), (1, .int (nI i)), (2, .int (nI j))] := hl
  refine lv_aload_n hx hb dX0_areSame_0 rfl (lv_at hl 0 rfl) ?_
  refine q_get (v := .ref (ad 9)) hx hb hown hE inT_X0 hP 7 rfl rfl 1 (by decide) w_129 rfl dX0_areSame_1 ?_
  refine lv_iload_n hx hb dX0_areSame_4 rfl (lv_at hl 1 rfl) ?_
  refine q_iald (f := S 9) (i := i) hx hb hE hP 9 rfl (by omega) (Nat.le_of_ble_eq_true rfl) dX0_areSame_5 ?_
  refine lv_aload_n hx hb dX0_areSame_6 rfl (lv_at hl 0 rfl) ?_
  refine q_get (v := .ref (ad 9)) hx hb hown hE inT_X0 hP 7 rfl rfl 1 (by decide) w_129 rfl dX0_areSame_7 ?_
  refine lv_iload_n hx hb dX0_areSame_10 rfl (lv_at hl 2 rfl) ?_
  refine q_iald (f := S 9) (i := j) hx hb hE hP 9 rfl (by omega) (Nat.le_of_ble_eq_true rfl) dX0_areSame_11 ?_
  refine lv_icmp_ne (tgt := 34) hx hb dX0_areSame_12 (by decide) (fun c_1 => ?_) (fun c_1 => ?_)
  · skip
    refine lv_iconst (v := 0) hx hb dX0_areSame_34 (by decide) ?_
    refine q_top (y := bI (p_same S i j)) (by first | (simp only [bI, p_same, c_1, ↓reduceIte]; done) | (simp [bI, p_same, c_1]; done) | (simp_all [bI, p_same]; done)) ?_
    exact e_ret hx hb hr hlk (n_bI _) dX0_areSame_35
  · skip
    refine lv_aload_n hx hb dX0_areSame_15 rfl (lv_at hl 0 rfl) ?_
    refine q_get (v := .ref (ad 10)) hx hb hown hE inT_X0 hP 7 rfl rfl 2 (by decide) w_131 rfl dX0_areSame_16 ?_
    refine lv_iload_n hx hb dX0_areSame_19 rfl (lv_at hl 1 rfl) ?_
    refine q_iald (f := S 10) (i := i) hx hb hE hP 10 rfl (by omega) (Nat.le_of_ble_eq_true rfl) dX0_areSame_20 ?_
    refine lv_aload_n hx hb dX0_areSame_21 rfl (lv_at hl 0 rfl) ?_
    refine q_get (v := .ref (ad 10)) hx hb hown hE inT_X0 hP 7 rfl rfl 2 (by decide) w_131 rfl dX0_areSame_22 ?_
    refine lv_iload_n hx hb dX0_areSame_25 rfl (lv_at hl 2 rfl) ?_
    refine q_iald (f := S 10) (i := j) hx hb hE hP 10 rfl (by omega) (Nat.le_of_ble_eq_true rfl) dX0_areSame_26 ?_
    refine lv_icmp_ne (tgt := 34) hx hb dX0_areSame_27 (by decide) (fun c_2 => ?_) (fun c_2 => ?_)
    · skip
      refine lv_iconst (v := 0) hx hb dX0_areSame_34 (by decide) ?_
      refine q_top (y := bI (p_same S i j)) (by first | (simp only [bI, p_same, c_1, c_2, ↓reduceIte]; done) | (simp [bI, p_same, c_1, c_2]; done) | (simp_all [bI, p_same]; done)) ?_
      exact e_ret hx hb hr hlk (n_bI _) dX0_areSame_35
    · skip
      refine lv_iconst (v := 1) hx hb dX0_areSame_30 (by decide) ?_
      refine lv_goto (tgt := 35) hx hb dX0_areSame_31 (by decide) ?_
      refine q_top (y := bI (p_same S i j)) (by first | (simp only [bI, p_same, c_1, c_2, ↓reduceIte]; done) | (simp [bI, p_same, c_1, c_2]; done) | (simp_all [bI, p_same]; done)) ?_
      exact e_ret hx hb hr hlk (n_bI _) dX0_areSame_35

theorem dX0_isRepeated_0 : decode cX0_isRepeated 0 = .ok (.iconst 0, 1) := by decide +kernel
theorem dX0_isRepeated_1 : decode cX0_isRepeated 1 = .ok (.istore_n 2, 1) := by decide +kernel
theorem dX0_isRepeated_2 : decode cX0_isRepeated 2 = .ok (.iload_n 2, 1) := by decide +kernel
theorem dX0_isRepeated_3 : decode cX0_isRepeated 3 = .ok (.iload_n 1, 1) := by decide +kernel
theorem dX0_isRepeated_4 : decode cX0_isRepeated 4 = .ok (.if_icmp .ge 35, 3) := by decide +kernel
theorem dX0_isRepeated_7 : decode cX0_isRepeated 7 = .ok (.aload_n 0, 1) := by decide +kernel
theorem dX0_isRepeated_8 : decode cX0_isRepeated 8 = .ok (.getfield 9, 3) := by decide +kernel
theorem dX0_isRepeated_11 : decode cX0_isRepeated 11 = .ok (.iload_n 2, 1) := by decide +kernel
theorem dX0_isRepeated_12 : decode cX0_isRepeated 12 = .ok (.iaload, 1) := by decide +kernel
theorem dX0_isRepeated_13 : decode cX0_isRepeated 13 = .ok (.aload_n 0, 1) := by decide +kernel
theorem dX0_isRepeated_14 : decode cX0_isRepeated 14 = .ok (.getfield 9, 3) := by decide +kernel
theorem dX0_isRepeated_17 : decode cX0_isRepeated 17 = .ok (.iload_n 1, 1) := by decide +kernel
theorem dX0_isRepeated_18 : decode cX0_isRepeated 18 = .ok (.iaload, 1) := by decide +kernel
theorem dX0_isRepeated_19 : decode cX0_isRepeated 19 = .ok (.if_icmp .ne 14, 3) := by decide +kernel
theorem dX0_isRepeated_22 : decode cX0_isRepeated 22 = .ok (.aload_n 0, 1) := by decide +kernel
theorem dX0_isRepeated_23 : decode cX0_isRepeated 23 = .ok (.iload_n 2, 1) := by decide +kernel
theorem dX0_isRepeated_24 : decode cX0_isRepeated 24 = .ok (.iload_n 1, 1) := by decide +kernel
theorem dX0_isRepeated_25 : decode cX0_isRepeated 25 = .ok (.invokevirtual 32, 3) := by decide +kernel
theorem dX0_isRepeated_28 : decode cX0_isRepeated 28 = .ok (.ifCond .eq 5, 3) := by decide +kernel
theorem dX0_isRepeated_31 : decode cX0_isRepeated 31 = .ok (.iconst 1, 1) := by decide +kernel
theorem dX0_isRepeated_32 : decode cX0_isRepeated 32 = .ok (.ireturn, 1) := by decide +kernel
theorem dX0_isRepeated_33 : decode cX0_isRepeated 33 = .ok (.iinc 2 1, 3) := by decide +kernel
theorem dX0_isRepeated_36 : decode cX0_isRepeated 36 = .ok (.goto (-34), 3) := by decide +kernel
theorem dX0_isRepeated_39 : decode cX0_isRepeated 39 = .ok (.iconst 0, 1) := by decide +kernel
theorem dX0_isRepeated_40 : decode cX0_isRepeated 40 = .ok (.ireturn, 1) := by decide +kernel
set_option maxHeartbeats 4000000 in
set_option maxRecDepth 100000 in
theorem c_X0_isRepeated (l : Launch) (D : va_G) (cI cZ cL : ClassId) (ad : Nat → Nat) (S : Mem) (a : Nat) (ha : a < 200) : RD l D cI cZ cL yX0_isRepeated cX0_isRepeated 3 (some .boolean) 1 [.ref (ad 7), .int (nI a)] (wC ad cI S) (some (.int (bI (p_rep S a)))) := by
  refine RD.of (by decide) (Nat.le_of_ble_eq_true rfl) ?_
  intro p e s m args below meth c ls hx hb hr hml hown hlk hE hP hl
  have hl : lv_has ls 3 [(0, .ref (ad 7)), (1, .int (nI a))] := hl
  refine lv_iconst (v := 0) hx hb dX0_isRepeated_0 (by decide) ?_
  refine lv_istore_n (lv' := [(2, .int 0), (0, .ref (ad 7)), (1, .int (nI a))]) hx hb dX0_isRepeated_1 rfl hl (by decide) rfl (fun ls hl => ?_)
  have hloop_2 : ∀ (n i : Nat), i ≤ a → a < i + n → (∀ k, k < i → p_again S a k = false) → ∀ ls : Array Slot, lv_has ls 3 [(2, .int (nI i)), (0, .ref (ad 7)), (1, .int (nI a))] → W p l e (rm 1 0 0) s m args below meth c s.heap [] 0 0 (MQ below (Qrd (some (.int (bI (p_rep S a))))) args s 0 0 q_no) (F0 m 2 ls []) := by
    intro n
    induction n with
    | zero => intro i h1 h2; exact absurd h2 (by omega)
    | succ n ih_2 =>
      intro i hi_2 hin_2 hno ls hl
      refine lv_iload_n hx hb dX0_isRepeated_2 rfl (lv_at hl 0 rfl) ?_
      refine lv_iload_n hx hb dX0_isRepeated_3 rfl (lv_at hl 2 rfl) ?_
      refine lv_icmp_ge (tgt := 39) hx hb dX0_isRepeated_4 (by decide) (fun c_1 => ?_) (fun c_1 => ?_)
      · skip
        have c_1 : a ≤ i := n_le (a := a) (b := i) (by omega) (by omega) c_1
        have hend_2 : a = i := by omega
        subst hend_2
        refine lv_iconst (v := 0) hx hb dX0_isRepeated_39 (by decide) ?_
        refine q_top (y := bI (p_rep S a)) (by simp only [bI, p_rep_f hno]; rfl) ?_
        exact e_ret hx hb hr hlk (n_bI _) dX0_isRepeated_40
      · skip
        have c_1 : i < a := n_nle (a := a) (b := i) (by omega) (by omega) c_1
        refine lv_aload_n hx hb dX0_isRepeated_7 rfl (lv_at hl 1 rfl) ?_
        refine q_get (v := .ref (ad 8)) hx hb hown hE inT_X0 hP 7 rfl rfl 0 (by decide) w_127 rfl dX0_isRepeated_8 ?_
        refine lv_iload_n hx hb dX0_isRepeated_11 rfl (lv_at hl 0 rfl) ?_
        refine q_iald (f := S 8) (i := i) hx hb hE hP 8 rfl (by omega) (Nat.le_of_ble_eq_true rfl) dX0_isRepeated_12 ?_
        refine lv_aload_n hx hb dX0_isRepeated_13 rfl (lv_at hl 1 rfl) ?_
        refine q_get (v := .ref (ad 8)) hx hb hown hE inT_X0 hP 7 rfl rfl 0 (by decide) w_127 rfl dX0_isRepeated_14 ?_
        refine lv_iload_n hx hb dX0_isRepeated_17 rfl (lv_at hl 2 rfl) ?_
        refine q_iald (f := S 8) (i := a) hx hb hE hP 8 rfl (by omega) (Nat.le_of_ble_eq_true rfl) dX0_isRepeated_18 ?_
        refine lv_icmp_ne (tgt := 33) hx hb dX0_isRepeated_19 (by decide) (fun c_2 => ?_) (fun c_2 => ?_)
        · skip
          refine lv_iinc (v := nI (i + 1)) (lv' := [(2, .int (nI (i + 1))), (0, .ref (ad 7)), (1, .int (nI a))]) hx hb dX0_isRepeated_33 hl (k := 0) rfl (nI_1 i) (by decide) rfl (fun ls hl => ?_)
          refine lv_goto (tgt := 2) hx hb dX0_isRepeated_36 (by decide) ?_
          refine ih_2 (i + 1) (by omega) (by omega) (fun k hk => by rcases Nat.lt_or_eq_of_le (Nat.le_of_lt_succ hk) with q | q; exact hno k q; subst q; simp [p_again, c_1, c_2]) ls ?_
          exact lv_sub hl [0, 1, 2] rfl
        · skip
          refine lv_aload_n hx hb dX0_isRepeated_22 rfl (lv_at hl 1 rfl) ?_
          refine lv_iload_n hx hb dX0_isRepeated_23 rfl (lv_at hl 0 rfl) ?_
          refine lv_iload_n hx hb dX0_isRepeated_24 rfl (lv_at hl 2 rfl) ?_
          refine q_rd (q_runV (rest := []) hx hb hml hown hE (c_X0_areSame l D cI cZ cL ad S i a (by omega) (by omega)) ck_X0_areSame w_712 hP 7 rfl rfl hl.1 rfl ⟨Nat.le_of_ble_eq_true rfl, Nat.le_of_ble_eq_true rfl⟩ (Nat.le_of_ble_eq_true rfl) dX0_isRepeated_25 ⟨Nat.le_of_ble_eq_true rfl, Nat.le_of_ble_eq_true rfl⟩) ?_
          refine lv_if_eq (tgt := 33) hx hb dX0_isRepeated_28 (by decide) (fun c_3 => ?_) (fun c_3 => ?_)
          · skip
            have c_3 : p_same S i a = false := b_f c_3
            refine lv_iinc (v := nI (i + 1)) (lv' := [(2, .int (nI (i + 1))), (0, .ref (ad 7)), (1, .int (nI a))]) hx hb dX0_isRepeated_33 hl (k := 0) rfl (nI_1 i) (by decide) rfl (fun ls hl => ?_)
            refine lv_goto (tgt := 2) hx hb dX0_isRepeated_36 (by decide) ?_
            refine ih_2 (i + 1) (by omega) (by omega) (fun k hk => by rcases Nat.lt_or_eq_of_le (Nat.le_of_lt_succ hk) with q | q; exact hno k q; subst q; simp [p_again, c_1, c_2, c_3]) ls ?_
            exact lv_sub hl [0, 1, 2] rfl
          · skip
            have c_3 : p_same S i a = true := b_t c_3
            refine lv_iconst (v := 1) hx hb dX0_isRepeated_31 (by decide) ?_
            refine q_top (y := bI (p_rep S a)) (by simp only [bI, p_rep_t (S := S) (k := i) c_1 (by simp only [p_again, c_1, c_2, c_3, decide_true, Bool.and_true]), ↓reduceIte]) ?_
            exact e_ret hx hb hr hlk (n_bI _) dX0_isRepeated_32
  refine hloop_2 (a + 1) 0 (by omega) (by omega) (fun k hk => absurd hk (Nat.not_lt_zero k)) ls ?_
  exact lv_sub hl [0, 1, 2] rfl

theorem dX4_countBuyers_0 : decode cX4_countBuyers 0 = .ok (.iconst 0, 1) := by decide +kernel
theorem dX4_countBuyers_1 : decode cX4_countBuyers 1 = .ok (.istore_n 3, 1) := by decide +kernel
theorem dX4_countBuyers_2 : decode cX4_countBuyers 2 = .ok (.iconst 0, 1) := by decide +kernel
theorem dX4_countBuyers_3 : decode cX4_countBuyers 3 = .ok (.istore 4, 2) := by decide +kernel
theorem dX4_countBuyers_5 : decode cX4_countBuyers 5 = .ok (.iload 4, 2) := by decide +kernel
theorem dX4_countBuyers_7 : decode cX4_countBuyers 7 = .ok (.bipush 8, 2) := by decide +kernel
theorem dX4_countBuyers_9 : decode cX4_countBuyers 9 = .ok (.if_icmp .ge 27, 3) := by decide +kernel
theorem dX4_countBuyers_12 : decode cX4_countBuyers 12 = .ok (.aload_n 0, 1) := by decide +kernel
theorem dX4_countBuyers_13 : decode cX4_countBuyers 13 = .ok (.getfield 9, 3) := by decide +kernel
theorem dX4_countBuyers_16 : decode cX4_countBuyers 16 = .ok (.iload 4, 2) := by decide +kernel
theorem dX4_countBuyers_18 : decode cX4_countBuyers 18 = .ok (.iload_n 1, 1) := by decide +kernel
theorem dX4_countBuyers_19 : decode cX4_countBuyers 19 = .ok (.invokestatic 18, 3) := by decide +kernel
theorem dX4_countBuyers_22 : decode cX4_countBuyers 22 = .ok (.iaload, 1) := by decide +kernel
theorem dX4_countBuyers_23 : decode cX4_countBuyers 23 = .ok (.iload_n 2, 1) := by decide +kernel
theorem dX4_countBuyers_24 : decode cX4_countBuyers 24 = .ok (.if_icmp .le 6, 3) := by decide +kernel
theorem dX4_countBuyers_27 : decode cX4_countBuyers 27 = .ok (.iinc 3 1, 3) := by decide +kernel
theorem dX4_countBuyers_30 : decode cX4_countBuyers 30 = .ok (.iinc 4 1, 3) := by decide +kernel
theorem dX4_countBuyers_33 : decode cX4_countBuyers 33 = .ok (.goto (-28), 3) := by decide +kernel
theorem dX4_countBuyers_36 : decode cX4_countBuyers 36 = .ok (.iload_n 3, 1) := by decide +kernel
theorem dX4_countBuyers_37 : decode cX4_countBuyers 37 = .ok (.ireturn, 1) := by decide +kernel
set_option maxHeartbeats 4000000 in
set_option maxRecDepth 100000 in
theorem c_X4_countBuyers (l : Launch) (D : va_G) (cI cZ cL : ClassId) (ad : Nat → Nat) (S : Mem) (r : Nat) (x : Int32) (hr : r < 16) : RD l D cI cZ cL yX4_countBuyers cX4_countBuyers 5 (some .int) 1 [.ref (ad 12), .int (nI r), .int x] (wC ad cI S) (some (.int (nI (p_buy S r x 8)))) := by
  refine RD.of (by decide) (Nat.le_of_ble_eq_true rfl) ?_
  intro p e s m args below meth c ls hx hb hr hml hown hlk hE hP hl
  have hl : lv_has ls 5 [(0, .ref (ad 12)), (1, .int (nI r)), (2, .int x)] := hl
  refine lv_iconst (v := 0) hx hb dX4_countBuyers_0 (by decide) ?_
  refine lv_istore_n (lv' := [(3, .int 0), (0, .ref (ad 12)), (1, .int (nI r)), (2, .int x)]) hx hb dX4_countBuyers_1 rfl hl (by decide) rfl (fun ls hl => ?_)
  refine lv_iconst (v := 0) hx hb dX4_countBuyers_2 (by decide) ?_
  refine lv_istore (lv' := [(4, .int 0), (3, .int 0), (0, .ref (ad 12)), (1, .int (nI r)), (2, .int x)]) hx hb dX4_countBuyers_3 hl (by decide) rfl (fun ls hl => ?_)
  have hloop_5 : ∀ (n i : Nat), i ≤ 8 → 8 < i + n → ∀ ls : Array Slot, lv_has ls 5 [(4, .int (nI i)), (3, .int (nI (p_buy S r x i))), (0, .ref (ad 12)), (1, .int (nI r)), (2, .int x)] → W p l e (rm 1 0 0) s m args below meth c s.heap [] 0 0 (MQ below (Qrd (some (.int (nI (p_buy S r x 8))))) args s 0 0 q_no) (F0 m 5 ls []) := by
    intro n
    induction n with
    | zero => intro i h1 h2; exact absurd h2 (by omega)
    | succ n ih_5 =>
      intro i hi_5 hin_5  ls hl
      refine lv_iload hx hb dX4_countBuyers_5 (lv_at hl 0 rfl) ?_
      refine lv_bipush (v := 8) hx hb dX4_countBuyers_7 (by decide) ?_
      refine lv_icmp_ge (tgt := 36) hx hb dX4_countBuyers_9 (by decide) (fun c_1 => ?_) (fun c_1 => ?_)
      · skip
        have c_1 : 8 ≤ i := n_le (a := 8) (b := i) (by omega) (by omega) c_1
        have hend_5 : 8 = i := by omega
        subst hend_5
        refine lv_iload_n hx hb dX4_countBuyers_36 rfl (lv_at hl 1 rfl) ?_
        exact e_ret hx hb hr hlk rfl dX4_countBuyers_37
      · skip
        have c_1 : i < 8 := n_nle (a := 8) (b := i) (by omega) (by omega) c_1
        refine lv_aload_n hx hb dX4_countBuyers_12 rfl (lv_at hl 2 rfl) ?_
        refine q_get (v := .ref (ad 13)) hx hb hown hE inT_X4 hP 12 rfl rfl 0 (by decide) w_154 rfl dX4_countBuyers_13 ?_
        refine lv_iload hx hb dX4_countBuyers_16 (lv_at hl 0 rfl) ?_
        refine lv_iload_n hx hb dX4_countBuyers_18 rfl (lv_at hl 3 rfl) ?_
        refine q_rd (q_runSN (rest := [.ref (ad 13)]) hx hb hml hown hE (c_X5_cell l D cI cZ cL _ i r) ck_X5_cell w_549 hP hl.1 rfl ⟨Nat.le_of_ble_eq_true rfl, Nat.le_of_ble_eq_true rfl⟩ (Nat.le_of_ble_eq_true rfl) dX4_countBuyers_19 ⟨Nat.le_of_ble_eq_true rfl, Nat.le_of_ble_eq_true rfl⟩) ?_
        refine q_iald (f := S 13) (i := (i * 16 + r)) hx hb hE hP 13 rfl (by omega) (Nat.le_of_ble_eq_true rfl) dX4_countBuyers_22 ?_
        refine lv_iload_n hx hb dX4_countBuyers_23 rfl (lv_at hl 4 rfl) ?_
        refine lv_icmp_le (tgt := 30) hx hb dX4_countBuyers_24 (by decide) (fun c_2 => ?_) (fun c_2 => ?_)
        · skip
          refine lv_iinc (v := nI (i + 1)) (lv' := [(4, .int (nI (i + 1))), (3, .int (nI (p_buy S r x i))), (0, .ref (ad 12)), (1, .int (nI r)), (2, .int x)]) hx hb dX4_countBuyers_30 hl (k := 0) rfl (nI_1 i) (by decide) rfl (fun ls hl => ?_)
          refine lv_goto (tgt := 5) hx hb dX4_countBuyers_33 (by decide) ?_
          refine ih_5 (i + 1) (by omega) (by omega)  ls ?_
          rw [show p_buy S r x (i + 1) = p_buy S r x i from by first | (simp only [bI, p_buy, c_1, c_2, ↓reduceIte]; done) | (simp [bI, p_buy, c_1, c_2]; done) | (simp_all [bI, p_buy]; done)]
          exact lv_sub hl [0, 1, 2, 3, 4] rfl
        · skip
          refine lv_iinc (v := nI ((p_buy S r x i) + 1)) (lv' := [(3, .int (nI ((p_buy S r x i) + 1))), (4, .int (nI i)), (0, .ref (ad 12)), (1, .int (nI r)), (2, .int x)]) hx hb dX4_countBuyers_27 hl (k := 1) rfl (nI_1 (p_buy S r x i)) (by decide) rfl (fun ls hl => ?_)
          refine lv_iinc (v := nI (i + 1)) (lv' := [(4, .int (nI (i + 1))), (3, .int (nI ((p_buy S r x i) + 1))), (0, .ref (ad 12)), (1, .int (nI r)), (2, .int x)]) hx hb dX4_countBuyers_30 hl (k := 1) rfl (nI_1 i) (by decide) rfl (fun ls hl => ?_)
          refine lv_goto (tgt := 5) hx hb dX4_countBuyers_33 (by decide) ?_
          refine ih_5 (i + 1) (by omega) (by omega)  ls ?_
          rw [show p_buy S r x (i + 1) = (p_buy S r x i) + 1 from by first | (simp only [bI, p_buy, c_1, c_2, ↓reduceIte]; done) | (simp [bI, p_buy, c_1, c_2]; done) | (simp_all [bI, p_buy]; done)]
          exact lv_sub hl [0, 1, 2, 3, 4] rfl
  refine hloop_5 (8 + 1) 0 (by omega) (by omega)  ls ?_
  rw [show p_buy S r x 0 = 0 from by first | rfl | (first | (simp only [bI, p_buy, ↓reduceIte]; done) | (simp [bI, p_buy]; done) | (simp_all [bI, p_buy]; done))]
  exact lv_sub hl [0, 1, 2, 3, 4] rfl

theorem dX2_lastSolveMinute_0 : decode cX2_lastSolveMinute 0 = .ok (.iload_n 2, 1) := by decide +kernel
theorem dX2_lastSolveMinute_1 : decode cX2_lastSolveMinute 1 = .ok (.aload_n 0, 1) := by decide +kernel
theorem dX2_lastSolveMinute_2 : decode cX2_lastSolveMinute 2 = .ok (.getfield 9, 3) := by decide +kernel
theorem dX2_lastSolveMinute_5 : decode cX2_lastSolveMinute 5 = .ok (.iload_n 1, 1) := by decide +kernel
theorem dX2_lastSolveMinute_6 : decode cX2_lastSolveMinute 6 = .ok (.iaload, 1) := by decide +kernel
theorem dX2_lastSolveMinute_7 : decode cX2_lastSolveMinute 7 = .ok (.iconst (-1), 1) := by decide +kernel
theorem dX2_lastSolveMinute_8 : decode cX2_lastSolveMinute 8 = .ok (.ixor, 1) := by decide +kernel
theorem dX2_lastSolveMinute_9 : decode cX2_lastSolveMinute 9 = .ok (.iand, 1) := by decide +kernel
theorem dX2_lastSolveMinute_10 : decode cX2_lastSolveMinute 10 = .ok (.ifCond .eq 5, 3) := by decide +kernel
theorem dX2_lastSolveMinute_13 : decode cX2_lastSolveMinute 13 = .ok (.iconst (-1), 1) := by decide +kernel
theorem dX2_lastSolveMinute_14 : decode cX2_lastSolveMinute 14 = .ok (.ireturn, 1) := by decide +kernel
theorem dX2_lastSolveMinute_15 : decode cX2_lastSolveMinute 15 = .ok (.iconst 0, 1) := by decide +kernel
theorem dX2_lastSolveMinute_16 : decode cX2_lastSolveMinute 16 = .ok (.istore_n 3, 1) := by decide +kernel
theorem dX2_lastSolveMinute_17 : decode cX2_lastSolveMinute 17 = .ok (.iconst 0, 1) := by decide +kernel
theorem dX2_lastSolveMinute_18 : decode cX2_lastSolveMinute 18 = .ok (.istore 4, 2) := by decide +kernel
theorem dX2_lastSolveMinute_20 : decode cX2_lastSolveMinute 20 = .ok (.iload 4, 2) := by decide +kernel
theorem dX2_lastSolveMinute_22 : decode cX2_lastSolveMinute 22 = .ok (.bipush 16, 2) := by decide +kernel
theorem dX2_lastSolveMinute_24 : decode cX2_lastSolveMinute 24 = .ok (.if_icmp .ge 34, 3) := by decide +kernel
theorem dX2_lastSolveMinute_27 : decode cX2_lastSolveMinute 27 = .ok (.iload_n 2, 1) := by decide +kernel
theorem dX2_lastSolveMinute_28 : decode cX2_lastSolveMinute 28 = .ok (.iload 4, 2) := by decide +kernel
theorem dX2_lastSolveMinute_30 : decode cX2_lastSolveMinute 30 = .ok (.invokestatic 47, 3) := by decide +kernel
theorem dX2_lastSolveMinute_33 : decode cX2_lastSolveMinute 33 = .ok (.ifCond .eq 19, 3) := by decide +kernel
theorem dX2_lastSolveMinute_36 : decode cX2_lastSolveMinute 36 = .ok (.iload_n 3, 1) := by decide +kernel
theorem dX2_lastSolveMinute_37 : decode cX2_lastSolveMinute 37 = .ok (.aload_n 0, 1) := by decide +kernel
theorem dX2_lastSolveMinute_38 : decode cX2_lastSolveMinute 38 = .ok (.getfield 18, 3) := by decide +kernel
theorem dX2_lastSolveMinute_41 : decode cX2_lastSolveMinute 41 = .ok (.iload_n 1, 1) := by decide +kernel
theorem dX2_lastSolveMinute_42 : decode cX2_lastSolveMinute 42 = .ok (.iload 4, 2) := by decide +kernel
theorem dX2_lastSolveMinute_44 : decode cX2_lastSolveMinute 44 = .ok (.invokestatic 40, 3) := by decide +kernel
theorem dX2_lastSolveMinute_47 : decode cX2_lastSolveMinute 47 = .ok (.iaload, 1) := by decide +kernel
theorem dX2_lastSolveMinute_48 : decode cX2_lastSolveMinute 48 = .ok (.invokestatic 51, 3) := by decide +kernel
theorem dX2_lastSolveMinute_51 : decode cX2_lastSolveMinute 51 = .ok (.istore_n 3, 1) := by decide +kernel
theorem dX2_lastSolveMinute_52 : decode cX2_lastSolveMinute 52 = .ok (.iinc 4 1, 3) := by decide +kernel
theorem dX2_lastSolveMinute_55 : decode cX2_lastSolveMinute 55 = .ok (.goto (-35), 3) := by decide +kernel
theorem dX2_lastSolveMinute_58 : decode cX2_lastSolveMinute 58 = .ok (.iload_n 3, 1) := by decide +kernel
theorem dX2_lastSolveMinute_59 : decode cX2_lastSolveMinute 59 = .ok (.ireturn, 1) := by decide +kernel
set_option maxHeartbeats 4000000 in
set_option maxRecDepth 100000 in
theorem c_X2_lastSolveMinute_18 (l : Launch) (D : va_G) (cI cZ cL : ClassId) (ad : Nat → Nat) (S : Mem) (t : Nat) (set : Int32) (ht : t < 8) : RD l D cI cZ cL yX2_lastSolveMinute cX2_lastSolveMinute 5 (some .int) 1 [.ref (ad 18), .int (nI t), .int set] (wC ad cI S) (some (.int (p_last S 18 t set))) := by
  refine RD.of (by decide) (Nat.le_of_ble_eq_true rfl) ?_
  intro p e s m args below meth c ls hx hb hr hml hown hlk hE hP hl
  have hl : lv_has ls 5 [(0, .ref (ad 18)), (1, .int (nI t)), (2, .int set)] := hl
  refine lv_iload_n hx hb dX2_lastSolveMinute_0 rfl (lv_at hl 2 rfl) ?_
  refine lv_aload_n hx hb dX2_lastSolveMinute_1 rfl (lv_at hl 0 rfl) ?_
  refine q_get (v := .ref (ad 19)) hx hb hown hE inT_X2 hP 18 rfl rfl 0 (by decide) w_187 rfl dX2_lastSolveMinute_2 ?_
  refine lv_iload_n hx hb dX2_lastSolveMinute_5 rfl (lv_at hl 1 rfl) ?_
  refine q_iald (f := S 19) (i := t) hx hb hE hP 19 rfl (by omega) (Nat.le_of_ble_eq_true rfl) dX2_lastSolveMinute_6 ?_
  refine lv_iconst (v := (-1)) hx hb dX2_lastSolveMinute_7 (by decide) ?_
  refine lv_ixor hx hb dX2_lastSolveMinute_8 ?_
  refine lv_iand hx hb dX2_lastSolveMinute_9 ?_
  refine lv_if_eq (tgt := 15) hx hb dX2_lastSolveMinute_10 (by decide) (fun c_1 => ?_) (fun c_1 => ?_)
  · skip
    refine lv_iconst (v := 0) hx hb dX2_lastSolveMinute_15 (by decide) ?_
    refine lv_istore_n (lv' := [(3, .int 0), (0, .ref (ad 18)), (1, .int (nI t)), (2, .int set)]) hx hb dX2_lastSolveMinute_16 rfl hl (by decide) rfl (fun ls hl => ?_)
    refine lv_iconst (v := 0) hx hb dX2_lastSolveMinute_17 (by decide) ?_
    refine lv_istore (lv' := [(4, .int 0), (3, .int 0), (0, .ref (ad 18)), (1, .int (nI t)), (2, .int set)]) hx hb dX2_lastSolveMinute_18 hl (by decide) rfl (fun ls hl => ?_)
    have hloop_20 : ∀ (n i : Nat), i ≤ 16 → 16 < i + n → ∀ ls : Array Slot, lv_has ls 5 [(4, .int (nI i)), (3, .int (p_lsm S 18 t set i)), (0, .ref (ad 18)), (1, .int (nI t)), (2, .int set)] → W p l e (rm 1 0 0) s m args below meth c s.heap [] 0 0 (MQ below (Qrd (some (.int (p_last S 18 t set)))) args s 0 0 q_no) (F0 m 20 ls []) := by
      intro n
      induction n with
      | zero => intro i h1 h2; exact absurd h2 (by omega)
      | succ n ih_20 =>
        intro i hi_20 hin_20  ls hl
        refine lv_iload hx hb dX2_lastSolveMinute_20 (lv_at hl 0 rfl) ?_
        refine lv_bipush (v := 16) hx hb dX2_lastSolveMinute_22 (by decide) ?_
        refine lv_icmp_ge (tgt := 58) hx hb dX2_lastSolveMinute_24 (by decide) (fun c_2 => ?_) (fun c_2 => ?_)
        · skip
          have c_2 : 16 ≤ i := n_le (a := 16) (b := i) (by omega) (by omega) c_2
          have hend_20 : 16 = i := by omega
          subst hend_20
          refine lv_iload_n hx hb dX2_lastSolveMinute_58 rfl (lv_at hl 1 rfl) ?_
          refine q_top (y := p_last S 18 t set) (by first | (simp only [bI, p_last, c_1, ↓reduceIte]; done) | (simp [bI, p_last, c_1]; done) | (simp_all [bI, p_last]; done)) ?_
          exact e_ret hx hb hr hlk rfl dX2_lastSolveMinute_59
        · skip
          have c_2 : i < 16 := n_nle (a := 16) (b := i) (by omega) (by omega) c_2
          refine lv_iload_n hx hb dX2_lastSolveMinute_27 rfl (lv_at hl 4 rfl) ?_
          refine lv_iload hx hb dX2_lastSolveMinute_28 (lv_at hl 0 rfl) ?_
          refine q_rd (q_runSN (rest := []) hx hb hml hown hE (c_X5_has l D cI cZ cL _ set (nI i)) ck_X5_has w_306 hP hl.1 rfl ⟨Nat.le_of_ble_eq_true rfl, Nat.le_of_ble_eq_true rfl⟩ (Nat.le_of_ble_eq_true rfl) dX2_lastSolveMinute_30 ⟨Nat.le_of_ble_eq_true rfl, Nat.le_of_ble_eq_true rfl⟩) ?_
          refine lv_if_eq (tgt := 52) hx hb dX2_lastSolveMinute_33 (by decide) (fun c_3 => ?_) (fun c_3 => ?_)
          · skip
            have c_3 : hs set (nI i) = false := b_f c_3
            refine lv_iinc (v := nI (i + 1)) (lv' := [(4, .int (nI (i + 1))), (3, .int (p_lsm S 18 t set i)), (0, .ref (ad 18)), (1, .int (nI t)), (2, .int set)]) hx hb dX2_lastSolveMinute_52 hl (k := 0) rfl (nI_1 i) (by decide) rfl (fun ls hl => ?_)
            refine lv_goto (tgt := 20) hx hb dX2_lastSolveMinute_55 (by decide) ?_
            refine ih_20 (i + 1) (by omega) (by omega)  ls ?_
            rw [show p_lsm S 18 t set (i + 1) = p_lsm S 18 t set i from by first | (simp only [bI, p_lsm, c_2, c_3, ↓reduceIte]; done) | (simp [bI, p_lsm, c_2, c_3]; done) | (simp_all [bI, p_lsm]; done)]
            exact lv_sub hl [0, 1, 2, 3, 4] rfl
          · skip
            have c_3 : hs set (nI i) = true := b_t c_3
            refine lv_iload_n hx hb dX2_lastSolveMinute_36 rfl (lv_at hl 1 rfl) ?_
            refine lv_aload_n hx hb dX2_lastSolveMinute_37 rfl (lv_at hl 2 rfl) ?_
            refine q_get (v := .ref (ad 21)) hx hb hown hE inT_X2 hP 18 rfl rfl 2 (by decide) w_191 rfl dX2_lastSolveMinute_38 ?_
            refine lv_iload_n hx hb dX2_lastSolveMinute_41 rfl (lv_at hl 3 rfl) ?_
            refine lv_iload hx hb dX2_lastSolveMinute_42 (lv_at hl 0 rfl) ?_
            refine q_rd (q_runSN (rest := [.ref (ad 21), .int (p_lsm S 18 t set i)]) hx hb hml hown hE (c_X5_cell l D cI cZ cL _ t i) ck_X5_cell w_307 hP hl.1 rfl ⟨Nat.le_of_ble_eq_true rfl, Nat.le_of_ble_eq_true rfl⟩ (Nat.le_of_ble_eq_true rfl) dX2_lastSolveMinute_44 ⟨Nat.le_of_ble_eq_true rfl, Nat.le_of_ble_eq_true rfl⟩) ?_
            refine q_iald (f := S 21) (i := (t * 16 + i)) hx hb hE hP 21 rfl (by omega) (Nat.le_of_ble_eq_true rfl) dX2_lastSolveMinute_47 ?_
            refine va_mmax hx hb (hml.trans hl.1.symm) hown (hE.1 _ w_308 args) (hE.1 _ w_309 args) (hE.1 _ w_75 args) (hE.1 _ w_310 args) (Nat.le_of_ble_eq_true rfl) (Nat.le_of_ble_eq_true rfl) (Nat.le_of_ble_eq_true rfl) (Nat.le_of_ble_eq_true rfl) dX2_lastSolveMinute_48 ?_
            refine q_top (y := imax (p_lsm S 18 t set i) (S 21 (t * 16 + i))) rfl ?_
            refine lv_istore_n (lv' := [(3, .int (imax (p_lsm S 18 t set i) (S 21 (t * 16 + i)))), (4, .int (nI i)), (0, .ref (ad 18)), (1, .int (nI t)), (2, .int set)]) hx hb dX2_lastSolveMinute_51 rfl hl (by decide) rfl (fun ls hl => ?_)
            refine lv_iinc (v := nI (i + 1)) (lv' := [(4, .int (nI (i + 1))), (3, .int (imax (p_lsm S 18 t set i) (S 21 (t * 16 + i)))), (0, .ref (ad 18)), (1, .int (nI t)), (2, .int set)]) hx hb dX2_lastSolveMinute_52 hl (k := 1) rfl (nI_1 i) (by decide) rfl (fun ls hl => ?_)
            refine lv_goto (tgt := 20) hx hb dX2_lastSolveMinute_55 (by decide) ?_
            refine ih_20 (i + 1) (by omega) (by omega)  ls ?_
            rw [show p_lsm S 18 t set (i + 1) = imax (p_lsm S 18 t set i) (S 21 (t * 16 + i)) from by first | (simp only [bI, p_lsm, c_2, c_3, ↓reduceIte]; done) | (simp [bI, p_lsm, c_2, c_3]; done) | (simp_all [bI, p_lsm]; done)]
            exact lv_sub hl [0, 1, 2, 3, 4] rfl
    refine hloop_20 (16 + 1) 0 (by omega) (by omega)  ls ?_
    rw [show p_lsm S 18 t set 0 = 0 from by first | rfl | (first | (simp only [bI, p_lsm, c_1, ↓reduceIte]; done) | (simp [bI, p_lsm, c_1]; done) | (simp_all [bI, p_lsm]; done))]
    exact lv_sub hl [0, 1, 2, 3, 4] rfl
  · skip
    refine lv_iconst (v := (-1)) hx hb dX2_lastSolveMinute_13 (by decide) ?_
    refine q_top (y := p_last S 18 t set) (by first | (simp only [bI, p_last, c_1, ↓reduceIte]; done) | (simp [bI, p_last, c_1]; done) | (simp_all [bI, p_last]; done)) ?_
    exact e_ret hx hb hr hlk rfl dX2_lastSolveMinute_14


set_option maxHeartbeats 4000000 in
set_option maxRecDepth 100000 in
theorem c_X2_lastSolveMinute_25 (l : Launch) (D : va_G) (cI cZ cL : ClassId) (ad : Nat → Nat) (S : Mem) (t : Nat) (set : Int32) (ht : t < 8) : RD l D cI cZ cL yX2_lastSolveMinute cX2_lastSolveMinute 5 (some .int) 1 [.ref (ad 25), .int (nI t), .int set] (wC ad cI S) (some (.int (p_last S 25 t set))) := by
  refine RD.of (by decide) (Nat.le_of_ble_eq_true rfl) ?_
  intro p e s m args below meth c ls hx hb hr hml hown hlk hE hP hl
  have hl : lv_has ls 5 [(0, .ref (ad 25)), (1, .int (nI t)), (2, .int set)] := hl
  refine lv_iload_n hx hb dX2_lastSolveMinute_0 rfl (lv_at hl 2 rfl) ?_
  refine lv_aload_n hx hb dX2_lastSolveMinute_1 rfl (lv_at hl 0 rfl) ?_
  refine q_get (v := .ref (ad 26)) hx hb hown hE inT_X2 hP 25 rfl rfl 0 (by decide) w_187 rfl dX2_lastSolveMinute_2 ?_
  refine lv_iload_n hx hb dX2_lastSolveMinute_5 rfl (lv_at hl 1 rfl) ?_
  refine q_iald (f := S 26) (i := t) hx hb hE hP 26 rfl (by omega) (Nat.le_of_ble_eq_true rfl) dX2_lastSolveMinute_6 ?_
  refine lv_iconst (v := (-1)) hx hb dX2_lastSolveMinute_7 (by decide) ?_
  refine lv_ixor hx hb dX2_lastSolveMinute_8 ?_
  refine lv_iand hx hb dX2_lastSolveMinute_9 ?_
  refine lv_if_eq (tgt := 15) hx hb dX2_lastSolveMinute_10 (by decide) (fun c_1 => ?_) (fun c_1 => ?_)
  · skip
    refine lv_iconst (v := 0) hx hb dX2_lastSolveMinute_15 (by decide) ?_
    refine lv_istore_n (lv' := [(3, .int 0), (0, .ref (ad 25)), (1, .int (nI t)), (2, .int set)]) hx hb dX2_lastSolveMinute_16 rfl hl (by decide) rfl (fun ls hl => ?_)
    refine lv_iconst (v := 0) hx hb dX2_lastSolveMinute_17 (by decide) ?_
    refine lv_istore (lv' := [(4, .int 0), (3, .int 0), (0, .ref (ad 25)), (1, .int (nI t)), (2, .int set)]) hx hb dX2_lastSolveMinute_18 hl (by decide) rfl (fun ls hl => ?_)
    have hloop_20 : ∀ (n i : Nat), i ≤ 16 → 16 < i + n → ∀ ls : Array Slot, lv_has ls 5 [(4, .int (nI i)), (3, .int (p_lsm S 25 t set i)), (0, .ref (ad 25)), (1, .int (nI t)), (2, .int set)] → W p l e (rm 1 0 0) s m args below meth c s.heap [] 0 0 (MQ below (Qrd (some (.int (p_last S 25 t set)))) args s 0 0 q_no) (F0 m 20 ls []) := by
      intro n
      induction n with
      | zero => intro i h1 h2; exact absurd h2 (by omega)
      | succ n ih_20 =>
        intro i hi_20 hin_20  ls hl
        refine lv_iload hx hb dX2_lastSolveMinute_20 (lv_at hl 0 rfl) ?_
        refine lv_bipush (v := 16) hx hb dX2_lastSolveMinute_22 (by decide) ?_
        refine lv_icmp_ge (tgt := 58) hx hb dX2_lastSolveMinute_24 (by decide) (fun c_2 => ?_) (fun c_2 => ?_)
        · skip
          have c_2 : 16 ≤ i := n_le (a := 16) (b := i) (by omega) (by omega) c_2
          have hend_20 : 16 = i := by omega
          subst hend_20
          refine lv_iload_n hx hb dX2_lastSolveMinute_58 rfl (lv_at hl 1 rfl) ?_
          refine q_top (y := p_last S 25 t set) (by first | (simp only [bI, p_last, c_1, ↓reduceIte]; done) | (simp [bI, p_last, c_1]; done) | (simp_all [bI, p_last]; done)) ?_
          exact e_ret hx hb hr hlk rfl dX2_lastSolveMinute_59
        · skip
          have c_2 : i < 16 := n_nle (a := 16) (b := i) (by omega) (by omega) c_2
          refine lv_iload_n hx hb dX2_lastSolveMinute_27 rfl (lv_at hl 4 rfl) ?_
          refine lv_iload hx hb dX2_lastSolveMinute_28 (lv_at hl 0 rfl) ?_
          refine q_rd (q_runSN (rest := []) hx hb hml hown hE (c_X5_has l D cI cZ cL _ set (nI i)) ck_X5_has w_306 hP hl.1 rfl ⟨Nat.le_of_ble_eq_true rfl, Nat.le_of_ble_eq_true rfl⟩ (Nat.le_of_ble_eq_true rfl) dX2_lastSolveMinute_30 ⟨Nat.le_of_ble_eq_true rfl, Nat.le_of_ble_eq_true rfl⟩) ?_
          refine lv_if_eq (tgt := 52) hx hb dX2_lastSolveMinute_33 (by decide) (fun c_3 => ?_) (fun c_3 => ?_)
          · skip
            have c_3 : hs set (nI i) = false := b_f c_3
            refine lv_iinc (v := nI (i + 1)) (lv' := [(4, .int (nI (i + 1))), (3, .int (p_lsm S 25 t set i)), (0, .ref (ad 25)), (1, .int (nI t)), (2, .int set)]) hx hb dX2_lastSolveMinute_52 hl (k := 0) rfl (nI_1 i) (by decide) rfl (fun ls hl => ?_)
            refine lv_goto (tgt := 20) hx hb dX2_lastSolveMinute_55 (by decide) ?_
            refine ih_20 (i + 1) (by omega) (by omega)  ls ?_
            rw [show p_lsm S 25 t set (i + 1) = p_lsm S 25 t set i from by first | (simp only [bI, p_lsm, c_2, c_3, ↓reduceIte]; done) | (simp [bI, p_lsm, c_2, c_3]; done) | (simp_all [bI, p_lsm]; done)]
            exact lv_sub hl [0, 1, 2, 3, 4] rfl
          · skip
            have c_3 : hs set (nI i) = true := b_t c_3
            refine lv_iload_n hx hb dX2_lastSolveMinute_36 rfl (lv_at hl 1 rfl) ?_
            refine lv_aload_n hx hb dX2_lastSolveMinute_37 rfl (lv_at hl 2 rfl) ?_
            refine q_get (v := .ref (ad 28)) hx hb hown hE inT_X2 hP 25 rfl rfl 2 (by decide) w_191 rfl dX2_lastSolveMinute_38 ?_
            refine lv_iload_n hx hb dX2_lastSolveMinute_41 rfl (lv_at hl 3 rfl) ?_
            refine lv_iload hx hb dX2_lastSolveMinute_42 (lv_at hl 0 rfl) ?_
            refine q_rd (q_runSN (rest := [.ref (ad 28), .int (p_lsm S 25 t set i)]) hx hb hml hown hE (c_X5_cell l D cI cZ cL _ t i) ck_X5_cell w_307 hP hl.1 rfl ⟨Nat.le_of_ble_eq_true rfl, Nat.le_of_ble_eq_true rfl⟩ (Nat.le_of_ble_eq_true rfl) dX2_lastSolveMinute_44 ⟨Nat.le_of_ble_eq_true rfl, Nat.le_of_ble_eq_true rfl⟩) ?_
            refine q_iald (f := S 28) (i := (t * 16 + i)) hx hb hE hP 28 rfl (by omega) (Nat.le_of_ble_eq_true rfl) dX2_lastSolveMinute_47 ?_
            refine va_mmax hx hb (hml.trans hl.1.symm) hown (hE.1 _ w_308 args) (hE.1 _ w_309 args) (hE.1 _ w_75 args) (hE.1 _ w_310 args) (Nat.le_of_ble_eq_true rfl) (Nat.le_of_ble_eq_true rfl) (Nat.le_of_ble_eq_true rfl) (Nat.le_of_ble_eq_true rfl) dX2_lastSolveMinute_48 ?_
            refine q_top (y := imax (p_lsm S 25 t set i) (S 28 (t * 16 + i))) rfl ?_
            refine lv_istore_n (lv' := [(3, .int (imax (p_lsm S 25 t set i) (S 28 (t * 16 + i)))), (4, .int (nI i)), (0, .ref (ad 25)), (1, .int (nI t)), (2, .int set)]) hx hb dX2_lastSolveMinute_51 rfl hl (by decide) rfl (fun ls hl => ?_)
            refine lv_iinc (v := nI (i + 1)) (lv' := [(4, .int (nI (i + 1))), (3, .int (imax (p_lsm S 25 t set i) (S 28 (t * 16 + i)))), (0, .ref (ad 25)), (1, .int (nI t)), (2, .int set)]) hx hb dX2_lastSolveMinute_52 hl (k := 1) rfl (nI_1 i) (by decide) rfl (fun ls hl => ?_)
            refine lv_goto (tgt := 20) hx hb dX2_lastSolveMinute_55 (by decide) ?_
            refine ih_20 (i + 1) (by omega) (by omega)  ls ?_
            rw [show p_lsm S 25 t set (i + 1) = imax (p_lsm S 25 t set i) (S 28 (t * 16 + i)) from by first | (simp only [bI, p_lsm, c_2, c_3, ↓reduceIte]; done) | (simp [bI, p_lsm, c_2, c_3]; done) | (simp_all [bI, p_lsm]; done)]
            exact lv_sub hl [0, 1, 2, 3, 4] rfl
    refine hloop_20 (16 + 1) 0 (by omega) (by omega)  ls ?_
    rw [show p_lsm S 25 t set 0 = 0 from by first | rfl | (first | (simp only [bI, p_lsm, c_1, ↓reduceIte]; done) | (simp [bI, p_lsm, c_1]; done) | (simp_all [bI, p_lsm]; done))]
    exact lv_sub hl [0, 1, 2, 3, 4] rfl
  · skip
    refine lv_iconst (v := (-1)) hx hb dX2_lastSolveMinute_13 (by decide) ?_
    refine q_top (y := p_last S 25 t set) (by first | (simp only [bI, p_last, c_1, ↓reduceIte]; done) | (simp [bI, p_last, c_1]; done) | (simp_all [bI, p_last]; done)) ?_
    exact e_ret hx hb hr hlk rfl dX2_lastSolveMinute_14

theorem dX5_openMinute_0 : decode cX5_openMinute 0 = .ok (.aload_n 1, 1) := by decide +kernel
theorem dX5_openMinute_1 : decode cX5_openMinute 1 = .ok (.iload_n 2, 1) := by decide +kernel
theorem dX5_openMinute_2 : decode cX5_openMinute 2 = .ok (.aload_n 0, 1) := by decide +kernel
theorem dX5_openMinute_3 : decode cX5_openMinute 3 = .ok (.getfield 10, 3) := by decide +kernel
theorem dX5_openMinute_6 : decode cX5_openMinute 6 = .ok (.getfield 101, 3) := by decide +kernel
theorem dX5_openMinute_9 : decode cX5_openMinute 9 = .ok (.iload_n 3, 1) := by decide +kernel
theorem dX5_openMinute_10 : decode cX5_openMinute 10 = .ok (.iaload, 1) := by decide +kernel
theorem dX5_openMinute_11 : decode cX5_openMinute 11 = .ok (.invokevirtual 257, 3) := by decide +kernel
theorem dX5_openMinute_14 : decode cX5_openMinute 14 = .ok (.ireturn, 1) := by decide +kernel
set_option maxHeartbeats 4000000 in
set_option maxRecDepth 100000 in
theorem c_X5_openMinute_18 (l : Launch) (D : va_G) (cI cZ cL : ClassId) (ad : Nat → Nat) (S : Mem) (t : Nat) (r : Nat) (ht : t < 8) (hr : r < 16) : RD l D cI cZ cL yX5_openMinute cX5_openMinute 4 (some .int) 2 [.ref (ad 0), .ref (ad 18), .int (nI t), .int (nI r)] (wC ad cI S) (some (.int (p_open S 18 t r))) := by
  refine RD.of (by decide) (Nat.le_of_ble_eq_true rfl) ?_
  intro p e s m args below meth c ls hx hb hr hml hown hlk hE hP hl
  have hl : lv_has ls 4 [(0, .ref (ad 0)), (1, .ref (ad 18)), (2, .int (nI t)), (3, .int (nI r))] := hl
  refine lv_aload_n hx hb dX5_openMinute_0 rfl (lv_at hl 1 rfl) ?_
  refine lv_iload_n hx hb dX5_openMinute_1 rfl (lv_at hl 2 rfl) ?_
  refine lv_aload_n hx hb dX5_openMinute_2 rfl (lv_at hl 0 rfl) ?_
  refine q_get (v := .ref (ad 1)) hx hb hown hE inT_X5 hP 0 rfl rfl 0 (by decide) w_212 rfl dX5_openMinute_3 ?_
  refine q_getN (v := .ref (ad 6)) hx hb hown hE inT_X3 hP 1 rfl rfl 4 (by decide) w_101 rfl dX5_openMinute_6 ?_
  refine lv_iload_n hx hb dX5_openMinute_9 rfl (lv_at hl 3 rfl) ?_
  refine q_iald (f := S 6) (i := r) hx hb hE hP 6 rfl (by omega) (Nat.le_of_ble_eq_true rfl) dX5_openMinute_10 ?_
  refine q_rd (q_runVN (rest := []) hx hb hml hown hE (c_X2_lastSolveMinute_18 l D cI cZ cL ad S t (S 6 r) (by omega)) ck_X2_lastSolveMinute w_302 hP 18 rfl rfl hl.1 rfl ⟨Nat.le_of_ble_eq_true rfl, Nat.le_of_ble_eq_true rfl⟩ (Nat.le_of_ble_eq_true rfl) dX5_openMinute_11 ⟨Nat.le_of_ble_eq_true rfl, Nat.le_of_ble_eq_true rfl⟩) ?_
  refine q_top (y := p_open S 18 t r) (by rfl) ?_
  exact e_ret hx hb hr hlk rfl dX5_openMinute_14

theorem dX5_freeSet_0 : decode cX5_freeSet 0 = .ok (.iconst 0, 1) := by decide +kernel
theorem dX5_freeSet_1 : decode cX5_freeSet 1 = .ok (.istore_n 2, 1) := by decide +kernel
theorem dX5_freeSet_2 : decode cX5_freeSet 2 = .ok (.iconst 0, 1) := by decide +kernel
theorem dX5_freeSet_3 : decode cX5_freeSet 3 = .ok (.istore_n 3, 1) := by decide +kernel
theorem dX5_freeSet_4 : decode cX5_freeSet 4 = .ok (.iload_n 3, 1) := by decide +kernel
theorem dX5_freeSet_5 : decode cX5_freeSet 5 = .ok (.aload_n 0, 1) := by decide +kernel
theorem dX5_freeSet_6 : decode cX5_freeSet 6 = .ok (.getfield 115, 3) := by decide +kernel
theorem dX5_freeSet_9 : decode cX5_freeSet 9 = .ok (.if_icmp .ge 30, 3) := by decide +kernel
theorem dX5_freeSet_12 : decode cX5_freeSet 12 = .ok (.iload_n 2, 1) := by decide +kernel
theorem dX5_freeSet_13 : decode cX5_freeSet 13 = .ok (.aload_n 1, 1) := by decide +kernel
theorem dX5_freeSet_14 : decode cX5_freeSet 14 = .ok (.getfield 180, 3) := by decide +kernel
theorem dX5_freeSet_17 : decode cX5_freeSet 17 = .ok (.iload_n 3, 1) := by decide +kernel
theorem dX5_freeSet_18 : decode cX5_freeSet 18 = .ok (.iaload, 1) := by decide +kernel
theorem dX5_freeSet_19 : decode cX5_freeSet 19 = .ok (.aload_n 0, 1) := by decide +kernel
theorem dX5_freeSet_20 : decode cX5_freeSet 20 = .ok (.getfield 33, 3) := by decide +kernel
theorem dX5_freeSet_23 : decode cX5_freeSet 23 = .ok (.getfield 183, 3) := by decide +kernel
theorem dX5_freeSet_26 : decode cX5_freeSet 26 = .ok (.iload_n 3, 1) := by decide +kernel
theorem dX5_freeSet_27 : decode cX5_freeSet 27 = .ok (.iaload, 1) := by decide +kernel
theorem dX5_freeSet_28 : decode cX5_freeSet 28 = .ok (.iconst (-1), 1) := by decide +kernel
theorem dX5_freeSet_29 : decode cX5_freeSet 29 = .ok (.ixor, 1) := by decide +kernel
theorem dX5_freeSet_30 : decode cX5_freeSet 30 = .ok (.iand, 1) := by decide +kernel
theorem dX5_freeSet_31 : decode cX5_freeSet 31 = .ok (.ior, 1) := by decide +kernel
theorem dX5_freeSet_32 : decode cX5_freeSet 32 = .ok (.istore_n 2, 1) := by decide +kernel
theorem dX5_freeSet_33 : decode cX5_freeSet 33 = .ok (.iinc 3 1, 3) := by decide +kernel
theorem dX5_freeSet_36 : decode cX5_freeSet 36 = .ok (.goto (-32), 3) := by decide +kernel
theorem dX5_freeSet_39 : decode cX5_freeSet 39 = .ok (.iload_n 2, 1) := by decide +kernel
theorem dX5_freeSet_40 : decode cX5_freeSet 40 = .ok (.ireturn, 1) := by decide +kernel
set_option maxHeartbeats 4000000 in
set_option maxRecDepth 100000 in
theorem c_X5_freeSet_18 (l : Launch) (D : va_G) (cI cZ cL : ClassId) (ad : Nat → Nat) (S : Mem) (hI : I0 S) : RD l D cI cZ cL yX5_freeSet cX5_freeSet 4 (some .int) 0 [.ref (ad 0), .ref (ad 18)] (wC ad cI S) (some (.int (p_free S 18 (cT S)))) := by
  refine RD.of (by decide) (Nat.le_of_ble_eq_true rfl) ?_
  intro p e s m args below meth c ls hx hb hr hml hown hlk hE hP hl
  have hl : lv_has ls 4 [(0, .ref (ad 0)), (1, .ref (ad 18))] := hl
  have hT8 := hI.T8
  have hR16 := hI.R16
  have hN200 := hI.N200
  refine lv_iconst (v := 0) hx hb dX5_freeSet_0 (by decide) ?_
  refine lv_istore_n (lv' := [(2, .int 0), (0, .ref (ad 0)), (1, .ref (ad 18))]) hx hb dX5_freeSet_1 rfl hl (by decide) rfl (fun ls hl => ?_)
  refine lv_iconst (v := 0) hx hb dX5_freeSet_2 (by decide) ?_
  refine lv_istore_n (lv' := [(3, .int 0), (2, .int 0), (0, .ref (ad 0)), (1, .ref (ad 18))]) hx hb dX5_freeSet_3 rfl hl (by decide) rfl (fun ls hl => ?_)
  have hloop_4 : ∀ (n i : Nat), i ≤ cT S → cT S < i + n → ∀ ls : Array Slot, lv_has ls 4 [(3, .int (nI i)), (2, .int (p_free S 18 i)), (0, .ref (ad 0)), (1, .ref (ad 18))] → W p l e (rm 0 0 0) s m args below meth c s.heap [] 0 0 (MQ below (Qrd (some (.int (p_free S 18 (cT S))))) args s 0 0 q_no) (F0 m 4 ls []) := by
    intro n
    induction n with
    | zero => intro i h1 h2; exact absurd h2 (by omega)
    | succ n ih_4 =>
      intro i hi_4 hin_4  ls hl
      refine lv_iload_n hx hb dX5_freeSet_4 rfl (lv_at hl 0 rfl) ?_
      refine lv_aload_n hx hb dX5_freeSet_5 rfl (lv_at hl 2 rfl) ?_
      refine q_get (v := .int (S 0 9)) hx hb hown hE inT_X5 hP 0 rfl rfl 9 (by decide) w_221 rfl dX5_freeSet_6 ?_
      refine q_top (y := nI (cT S)) (I0.T hI) ?_
      refine lv_icmp_ge (tgt := 39) hx hb dX5_freeSet_9 (by decide) (fun c_1 => ?_) (fun c_1 => ?_)
      · skip
        have c_1 : (cT S) ≤ i := n_le (a := cT S) (b := i) (by omega) (by omega) c_1
        have hend_4 : cT S = i := by omega
        subst hend_4
        refine lv_iload_n hx hb dX5_freeSet_39 rfl (lv_at hl 1 rfl) ?_
        exact e_ret hx hb hr hlk rfl dX5_freeSet_40
      · skip
        have c_1 : i < (cT S) := n_nle (a := cT S) (b := i) (by omega) (by omega) c_1
        refine lv_iload_n hx hb dX5_freeSet_12 rfl (lv_at hl 1 rfl) ?_
        refine lv_aload_n hx hb dX5_freeSet_13 rfl (lv_at hl 3 rfl) ?_
        refine q_getN (v := .ref (ad 20)) hx hb hown hE inT_X2 hP 18 rfl rfl 1 (by decide) w_190 rfl dX5_freeSet_14 ?_
        refine lv_iload_n hx hb dX5_freeSet_17 rfl (lv_at hl 0 rfl) ?_
        refine q_iald (f := S 20) (i := i) hx hb hE hP 20 rfl (by omega) (Nat.le_of_ble_eq_true rfl) dX5_freeSet_18 ?_
        refine lv_aload_n hx hb dX5_freeSet_19 rfl (lv_at hl 2 rfl) ?_
        refine q_get (v := .ref (ad 15)) hx hb hown hE inT_X5 hP 0 rfl rfl 3 (by decide) w_215 rfl dX5_freeSet_20 ?_
        refine q_getN (v := .ref (ad 16)) hx hb hown hE inT_X1 hP 15 rfl rfl 0 (by decide) w_170 rfl dX5_freeSet_23 ?_
        refine lv_iload_n hx hb dX5_freeSet_26 rfl (lv_at hl 0 rfl) ?_
        refine q_iald (f := S 16) (i := i) hx hb hE hP 16 rfl (by omega) (Nat.le_of_ble_eq_true rfl) dX5_freeSet_27 ?_
        refine lv_iconst (v := (-1)) hx hb dX5_freeSet_28 (by decide) ?_
        refine lv_ixor hx hb dX5_freeSet_29 ?_
        refine lv_iand hx hb dX5_freeSet_30 ?_
        refine lv_ior hx hb dX5_freeSet_31 ?_
        refine lv_istore_n (lv' := [(2, .int ((p_free S 18 i) ||| ((S 20 i) &&& ((S 16 i) ^^^ (-1))))), (3, .int (nI i)), (0, .ref (ad 0)), (1, .ref (ad 18))]) hx hb dX5_freeSet_32 rfl hl (by decide) rfl (fun ls hl => ?_)
        refine lv_iinc (v := nI (i + 1)) (lv' := [(3, .int (nI (i + 1))), (2, .int ((p_free S 18 i) ||| ((S 20 i) &&& ((S 16 i) ^^^ (-1))))), (0, .ref (ad 0)), (1, .ref (ad 18))]) hx hb dX5_freeSet_33 hl (k := 1) rfl (nI_1 i) (by decide) rfl (fun ls hl => ?_)
        refine lv_goto (tgt := 4) hx hb dX5_freeSet_36 (by decide) ?_
        refine ih_4 (i + 1) (by omega) (by omega)  ls ?_
        rw [show p_free S 18 (i + 1) = (p_free S 18 i) ||| ((S 20 i) &&& ((S 16 i) ^^^ (-1))) from by first | (simp only [bI, p_free, c_1, ↓reduceIte]; done) | (simp [bI, p_free, c_1]; done) | (simp_all [bI, p_free]; done)]
        exact lv_sub hl [0, 1, 2, 3] rfl
  refine hloop_4 (cT S + 1) 0 (by omega) (by omega)  ls ?_
  rw [show p_free S 18 0 = 0 from by first | rfl | (first | (simp only [bI, p_free, ↓reduceIte]; done) | (simp [bI, p_free]; done) | (simp_all [bI, p_free]; done))]
  exact lv_sub hl [0, 1, 2, 3] rfl

theorem dX5_cheatedSet_0 : decode cX5_cheatedSet 0 = .ok (.iconst 0, 1) := by decide +kernel
theorem dX5_cheatedSet_1 : decode cX5_cheatedSet 1 = .ok (.istore_n 3, 1) := by decide +kernel
theorem dX5_cheatedSet_2 : decode cX5_cheatedSet 2 = .ok (.iconst 0, 1) := by decide +kernel
theorem dX5_cheatedSet_3 : decode cX5_cheatedSet 3 = .ok (.istore 4, 2) := by decide +kernel
theorem dX5_cheatedSet_5 : decode cX5_cheatedSet 5 = .ok (.iload 4, 2) := by decide +kernel
theorem dX5_cheatedSet_7 : decode cX5_cheatedSet 7 = .ok (.aload_n 0, 1) := by decide +kernel
theorem dX5_cheatedSet_8 : decode cX5_cheatedSet 8 = .ok (.getfield 115, 3) := by decide +kernel
theorem dX5_cheatedSet_11 : decode cX5_cheatedSet 11 = .ok (.if_icmp .ge 47, 3) := by decide +kernel
theorem dX5_cheatedSet_14 : decode cX5_cheatedSet 14 = .ok (.aload_n 0, 1) := by decide +kernel
theorem dX5_cheatedSet_15 : decode cX5_cheatedSet 15 = .ok (.getfield 33, 3) := by decide +kernel
theorem dX5_cheatedSet_18 : decode cX5_cheatedSet 18 = .ok (.iload_n 2, 1) := by decide +kernel
theorem dX5_cheatedSet_19 : decode cX5_cheatedSet 19 = .ok (.iload 4, 2) := by decide +kernel
theorem dX5_cheatedSet_21 : decode cX5_cheatedSet 21 = .ok (.aload_n 1, 1) := by decide +kernel
theorem dX5_cheatedSet_22 : decode cX5_cheatedSet 22 = .ok (.getfield 196, 3) := by decide +kernel
theorem dX5_cheatedSet_25 : decode cX5_cheatedSet 25 = .ok (.iload_n 2, 1) := by decide +kernel
theorem dX5_cheatedSet_26 : decode cX5_cheatedSet 26 = .ok (.iload 4, 2) := by decide +kernel
theorem dX5_cheatedSet_28 : decode cX5_cheatedSet 28 = .ok (.invokestatic 199, 3) := by decide +kernel
theorem dX5_cheatedSet_31 : decode cX5_cheatedSet 31 = .ok (.iaload, 1) := by decide +kernel
theorem dX5_cheatedSet_32 : decode cX5_cheatedSet 32 = .ok (.invokevirtual 202, 3) := by decide +kernel
theorem dX5_cheatedSet_35 : decode cX5_cheatedSet 35 = .ok (.ifCond .eq 17, 3) := by decide +kernel
theorem dX5_cheatedSet_38 : decode cX5_cheatedSet 38 = .ok (.iload_n 3, 1) := by decide +kernel
theorem dX5_cheatedSet_39 : decode cX5_cheatedSet 39 = .ok (.aload_n 1, 1) := by decide +kernel
theorem dX5_cheatedSet_40 : decode cX5_cheatedSet 40 = .ok (.getfield 287, 3) := by decide +kernel
theorem dX5_cheatedSet_43 : decode cX5_cheatedSet 43 = .ok (.iload_n 2, 1) := by decide +kernel
theorem dX5_cheatedSet_44 : decode cX5_cheatedSet 44 = .ok (.iload 4, 2) := by decide +kernel
theorem dX5_cheatedSet_46 : decode cX5_cheatedSet 46 = .ok (.invokestatic 199, 3) := by decide +kernel
theorem dX5_cheatedSet_49 : decode cX5_cheatedSet 49 = .ok (.iaload, 1) := by decide +kernel
theorem dX5_cheatedSet_50 : decode cX5_cheatedSet 50 = .ok (.ior, 1) := by decide +kernel
theorem dX5_cheatedSet_51 : decode cX5_cheatedSet 51 = .ok (.istore_n 3, 1) := by decide +kernel
theorem dX5_cheatedSet_52 : decode cX5_cheatedSet 52 = .ok (.iinc 4 1, 3) := by decide +kernel
theorem dX5_cheatedSet_55 : decode cX5_cheatedSet 55 = .ok (.goto (-50), 3) := by decide +kernel
theorem dX5_cheatedSet_58 : decode cX5_cheatedSet 58 = .ok (.iload_n 3, 1) := by decide +kernel
theorem dX5_cheatedSet_59 : decode cX5_cheatedSet 59 = .ok (.ireturn, 1) := by decide +kernel
set_option maxHeartbeats 4000000 in
set_option maxRecDepth 100000 in
theorem c_X5_cheatedSet_18 (l : Launch) (D : va_G) (cI cZ cL : ClassId) (ad : Nat → Nat) (S : Mem) (t : Nat) (hI : I0 S) (ht : t < 8) : RD l D cI cZ cL yX5_cheatedSet cX5_cheatedSet 5 (some .int) 2 [.ref (ad 0), .ref (ad 18), .int (nI t)] (wC ad cI S) (some (.int (p_cheat S 18 t (cT S)))) := by
  refine RD.of (by decide) (Nat.le_of_ble_eq_true rfl) ?_
  intro p e s m args below meth c ls hx hb hr hml hown hlk hE hP hl
  have hl : lv_has ls 5 [(0, .ref (ad 0)), (1, .ref (ad 18)), (2, .int (nI t))] := hl
  have hT8 := hI.T8
  have hR16 := hI.R16
  have hN200 := hI.N200
  refine lv_iconst (v := 0) hx hb dX5_cheatedSet_0 (by decide) ?_
  refine lv_istore_n (lv' := [(3, .int 0), (0, .ref (ad 0)), (1, .ref (ad 18)), (2, .int (nI t))]) hx hb dX5_cheatedSet_1 rfl hl (by decide) rfl (fun ls hl => ?_)
  refine lv_iconst (v := 0) hx hb dX5_cheatedSet_2 (by decide) ?_
  refine lv_istore (lv' := [(4, .int 0), (3, .int 0), (0, .ref (ad 0)), (1, .ref (ad 18)), (2, .int (nI t))]) hx hb dX5_cheatedSet_3 hl (by decide) rfl (fun ls hl => ?_)
  have hloop_5 : ∀ (n i : Nat), i ≤ cT S → cT S < i + n → ∀ ls : Array Slot, lv_has ls 5 [(4, .int (nI i)), (3, .int (p_cheat S 18 t i)), (0, .ref (ad 0)), (1, .ref (ad 18)), (2, .int (nI t))] → W p l e (rm 2 0 0) s m args below meth c s.heap [] 0 0 (MQ below (Qrd (some (.int (p_cheat S 18 t (cT S))))) args s 0 0 q_no) (F0 m 5 ls []) := by
    intro n
    induction n with
    | zero => intro i h1 h2; exact absurd h2 (by omega)
    | succ n ih_5 =>
      intro i hi_5 hin_5  ls hl
      refine lv_iload hx hb dX5_cheatedSet_5 (lv_at hl 0 rfl) ?_
      refine lv_aload_n hx hb dX5_cheatedSet_7 rfl (lv_at hl 2 rfl) ?_
      refine q_get (v := .int (S 0 9)) hx hb hown hE inT_X5 hP 0 rfl rfl 9 (by decide) w_221 rfl dX5_cheatedSet_8 ?_
      refine q_top (y := nI (cT S)) (I0.T hI) ?_
      refine lv_icmp_ge (tgt := 58) hx hb dX5_cheatedSet_11 (by decide) (fun c_1 => ?_) (fun c_1 => ?_)
      · skip
        have c_1 : (cT S) ≤ i := n_le (a := cT S) (b := i) (by omega) (by omega) c_1
        have hend_5 : cT S = i := by omega
        subst hend_5
        refine lv_iload_n hx hb dX5_cheatedSet_58 rfl (lv_at hl 1 rfl) ?_
        exact e_ret hx hb hr hlk rfl dX5_cheatedSet_59
      · skip
        have c_1 : i < (cT S) := n_nle (a := cT S) (b := i) (by omega) (by omega) c_1
        refine lv_aload_n hx hb dX5_cheatedSet_14 rfl (lv_at hl 2 rfl) ?_
        refine q_get (v := .ref (ad 15)) hx hb hown hE inT_X5 hP 0 rfl rfl 3 (by decide) w_215 rfl dX5_cheatedSet_15 ?_
        refine lv_iload_n hx hb dX5_cheatedSet_18 rfl (lv_at hl 4 rfl) ?_
        refine lv_iload hx hb dX5_cheatedSet_19 (lv_at hl 0 rfl) ?_
        refine lv_aload_n hx hb dX5_cheatedSet_21 rfl (lv_at hl 3 rfl) ?_
        refine q_getN (v := .ref (ad 23)) hx hb hown hE inT_X2 hP 18 rfl rfl 4 (by decide) w_196 rfl dX5_cheatedSet_22 ?_
        refine lv_iload_n hx hb dX5_cheatedSet_25 rfl (lv_at hl 4 rfl) ?_
        refine lv_iload hx hb dX5_cheatedSet_26 (lv_at hl 0 rfl) ?_
        refine q_rd (q_runS (rest := [.ref (ad 23), .int (nI i), .int (nI t), .ref (ad 15)]) hx hb hml hown hE (c_X5_pair l D cI cZ cL _ t i) ck_X5_pair w_273 hP hl.1 rfl ⟨Nat.le_of_ble_eq_true rfl, Nat.le_of_ble_eq_true rfl⟩ (Nat.le_of_ble_eq_true rfl) dX5_cheatedSet_28 ⟨Nat.le_of_ble_eq_true rfl, Nat.le_of_ble_eq_true rfl⟩) ?_
        refine q_iald (f := S 23) (i := (t * 8 + i)) hx hb hE hP 23 rfl (by omega) (Nat.le_of_ble_eq_true rfl) dX5_cheatedSet_31 ?_
        refine q_rd (q_runVN (rest := []) hx hb hml hown hE (c_X1_links l D cI cZ cL ad S t i (S 23 (t * 8 + i)) (by omega) (by omega)) ck_X1_links w_276 hP 15 rfl rfl hl.1 rfl ⟨Nat.le_of_ble_eq_true rfl, Nat.le_of_ble_eq_true rfl⟩ (Nat.le_of_ble_eq_true rfl) dX5_cheatedSet_32 ⟨Nat.le_of_ble_eq_true rfl, Nat.le_of_ble_eq_true rfl⟩) ?_
        refine lv_if_eq (tgt := 52) hx hb dX5_cheatedSet_35 (by decide) (fun c_2 => ?_) (fun c_2 => ?_)
        · skip
          have c_2 : p_links S t i (S 23 (t * 8 + i)) = false := b_f c_2
          refine lv_iinc (v := nI (i + 1)) (lv' := [(4, .int (nI (i + 1))), (3, .int (p_cheat S 18 t i)), (0, .ref (ad 0)), (1, .ref (ad 18)), (2, .int (nI t))]) hx hb dX5_cheatedSet_52 hl (k := 0) rfl (nI_1 i) (by decide) rfl (fun ls hl => ?_)
          refine lv_goto (tgt := 5) hx hb dX5_cheatedSet_55 (by decide) ?_
          refine ih_5 (i + 1) (by omega) (by omega)  ls ?_
          rw [show p_cheat S 18 t (i + 1) = p_cheat S 18 t i from by first | (simp only [bI, p_cheat, c_1, c_2, ↓reduceIte]; done) | (simp [bI, p_cheat, c_1, c_2]; done) | (simp_all [bI, p_cheat]; done)]
          exact lv_sub hl [0, 1, 2, 3, 4] rfl
        · skip
          have c_2 : p_links S t i (S 23 (t * 8 + i)) = true := b_t c_2
          refine lv_iload_n hx hb dX5_cheatedSet_38 rfl (lv_at hl 1 rfl) ?_
          refine lv_aload_n hx hb dX5_cheatedSet_39 rfl (lv_at hl 3 rfl) ?_
          refine q_getN (v := .ref (ad 24)) hx hb hown hE inT_X2 hP 18 rfl rfl 5 (by decide) w_198 rfl dX5_cheatedSet_40 ?_
          refine lv_iload_n hx hb dX5_cheatedSet_43 rfl (lv_at hl 4 rfl) ?_
          refine lv_iload hx hb dX5_cheatedSet_44 (lv_at hl 0 rfl) ?_
          refine q_rd (q_runS (rest := [.ref (ad 24), .int (p_cheat S 18 t i)]) hx hb hml hown hE (c_X5_pair l D cI cZ cL _ t i) ck_X5_pair w_273 hP hl.1 rfl ⟨Nat.le_of_ble_eq_true rfl, Nat.le_of_ble_eq_true rfl⟩ (Nat.le_of_ble_eq_true rfl) dX5_cheatedSet_46 ⟨Nat.le_of_ble_eq_true rfl, Nat.le_of_ble_eq_true rfl⟩) ?_
          refine q_iald (f := S 24) (i := (t * 8 + i)) hx hb hE hP 24 rfl (by omega) (Nat.le_of_ble_eq_true rfl) dX5_cheatedSet_49 ?_
          refine lv_ior hx hb dX5_cheatedSet_50 ?_
          refine lv_istore_n (lv' := [(3, .int ((p_cheat S 18 t i) ||| (S 24 (t * 8 + i)))), (4, .int (nI i)), (0, .ref (ad 0)), (1, .ref (ad 18)), (2, .int (nI t))]) hx hb dX5_cheatedSet_51 rfl hl (by decide) rfl (fun ls hl => ?_)
          refine lv_iinc (v := nI (i + 1)) (lv' := [(4, .int (nI (i + 1))), (3, .int ((p_cheat S 18 t i) ||| (S 24 (t * 8 + i)))), (0, .ref (ad 0)), (1, .ref (ad 18)), (2, .int (nI t))]) hx hb dX5_cheatedSet_52 hl (k := 1) rfl (nI_1 i) (by decide) rfl (fun ls hl => ?_)
          refine lv_goto (tgt := 5) hx hb dX5_cheatedSet_55 (by decide) ?_
          refine ih_5 (i + 1) (by omega) (by omega)  ls ?_
          rw [show p_cheat S 18 t (i + 1) = (p_cheat S 18 t i) ||| (S 24 (t * 8 + i)) from by first | (simp only [bI, p_cheat, c_1, c_2, ↓reduceIte]; done) | (simp [bI, p_cheat, c_1, c_2]; done) | (simp_all [bI, p_cheat]; done)]
          exact lv_sub hl [0, 1, 2, 3, 4] rfl
  refine hloop_5 (cT S + 1) 0 (by omega) (by omega)  ls ?_
  rw [show p_cheat S 18 t 0 = 0 from by first | rfl | (first | (simp only [bI, p_cheat, ↓reduceIte]; done) | (simp [bI, p_cheat]; done) | (simp_all [bI, p_cheat]; done))]
  exact lv_sub hl [0, 1, 2, 3, 4] rfl

theorem dX5_voidSet_0 : decode cX5_voidSet 0 = .ok (.aload_n 0, 1) := by decide +kernel
theorem dX5_voidSet_1 : decode cX5_voidSet 1 = .ok (.getfield 10, 3) := by decide +kernel
theorem dX5_voidSet_4 : decode cX5_voidSet 4 = .ok (.aload_n 0, 1) := by decide +kernel
theorem dX5_voidSet_5 : decode cX5_voidSet 5 = .ok (.aload_n 1, 1) := by decide +kernel
theorem dX5_voidSet_6 : decode cX5_voidSet 6 = .ok (.iload_n 2, 1) := by decide +kernel
theorem dX5_voidSet_7 : decode cX5_voidSet 7 = .ok (.invokevirtual 206, 3) := by decide +kernel
theorem dX5_voidSet_10 : decode cX5_voidSet 10 = .ok (.aload_n 1, 1) := by decide +kernel
theorem dX5_voidSet_11 : decode cX5_voidSet 11 = .ok (.getfield 171, 3) := by decide +kernel
theorem dX5_voidSet_14 : decode cX5_voidSet 14 = .ok (.iload_n 2, 1) := by decide +kernel
theorem dX5_voidSet_15 : decode cX5_voidSet 15 = .ok (.iaload, 1) := by decide +kernel
theorem dX5_voidSet_16 : decode cX5_voidSet 16 = .ok (.iand, 1) := by decide +kernel
theorem dX5_voidSet_17 : decode cX5_voidSet 17 = .ok (.invokevirtual 290, 3) := by decide +kernel
theorem dX5_voidSet_20 : decode cX5_voidSet 20 = .ok (.aload_n 1, 1) := by decide +kernel
theorem dX5_voidSet_21 : decode cX5_voidSet 21 = .ok (.getfield 171, 3) := by decide +kernel
theorem dX5_voidSet_24 : decode cX5_voidSet 24 = .ok (.iload_n 2, 1) := by decide +kernel
theorem dX5_voidSet_25 : decode cX5_voidSet 25 = .ok (.iaload, 1) := by decide +kernel
theorem dX5_voidSet_26 : decode cX5_voidSet 26 = .ok (.iand, 1) := by decide +kernel
theorem dX5_voidSet_27 : decode cX5_voidSet 27 = .ok (.ireturn, 1) := by decide +kernel
set_option maxHeartbeats 4000000 in
set_option maxRecDepth 100000 in
theorem c_X5_voidSet_18 (l : Launch) (D : va_G) (cI cZ cL : ClassId) (ad : Nat → Nat) (S : Mem) (t : Nat) (hI : I0 S) (ht : t < 8) : RD l D cI cZ cL yX5_voidSet cX5_voidSet 3 (some .int) 3 [.ref (ad 0), .ref (ad 18), .int (nI t)] (wC ad cI S) (some (.int (p_void S 18 t))) := by
  refine RD.of (by decide) (Nat.le_of_ble_eq_true rfl) ?_
  intro p e s m args below meth c ls hx hb hr hml hown hlk hE hP hl
  have hl : lv_has ls 3 [(0, .ref (ad 0)), (1, .ref (ad 18)), (2, .int (nI t))] := hl
  refine lv_aload_n hx hb dX5_voidSet_0 rfl (lv_at hl 0 rfl) ?_
  refine q_get (v := .ref (ad 1)) hx hb hown hE inT_X5 hP 0 rfl rfl 0 (by decide) w_212 rfl dX5_voidSet_1 ?_
  refine lv_aload_n hx hb dX5_voidSet_4 rfl (lv_at hl 0 rfl) ?_
  refine lv_aload_n hx hb dX5_voidSet_5 rfl (lv_at hl 1 rfl) ?_
  refine lv_iload_n hx hb dX5_voidSet_6 rfl (lv_at hl 2 rfl) ?_
  refine q_rd (q_runV (rest := [.ref (ad 1)]) hx hb hml hown hE (c_X5_cheatedSet_18 l D cI cZ cL ad S t hI (by omega)) ck_X5_cheatedSet w_269 hP 0 rfl rfl hl.1 rfl ⟨Nat.le_of_ble_eq_true rfl, Nat.le_of_ble_eq_true rfl⟩ (Nat.le_of_ble_eq_true rfl) dX5_voidSet_7 ⟨Nat.le_of_ble_eq_true rfl, Nat.le_of_ble_eq_true rfl⟩) ?_
  refine lv_aload_n hx hb dX5_voidSet_10 rfl (lv_at hl 1 rfl) ?_
  refine q_getN (v := .ref (ad 19)) hx hb hown hE inT_X2 hP 18 rfl rfl 0 (by decide) w_188 rfl dX5_voidSet_11 ?_
  refine lv_iload_n hx hb dX5_voidSet_14 rfl (lv_at hl 2 rfl) ?_
  refine q_iald (f := S 19) (i := t) hx hb hE hP 19 rfl (by omega) (Nat.le_of_ble_eq_true rfl) dX5_voidSet_15 ?_
  refine lv_iand hx hb dX5_voidSet_16 ?_
  refine q_rd (q_runVN (rest := []) hx hb hml hown hE (c_X3_spread l D cI cZ cL ad S ((p_cheat S 18 t (cT S)) &&& (S 19 t)) hI) ck_X3_spread w_283 hP 1 rfl rfl hl.1 rfl ⟨Nat.le_of_ble_eq_true rfl, Nat.le_of_ble_eq_true rfl⟩ (Nat.le_of_ble_eq_true rfl) dX5_voidSet_17 ⟨Nat.le_of_ble_eq_true rfl, Nat.le_of_ble_eq_true rfl⟩) ?_
  refine lv_aload_n hx hb dX5_voidSet_20 rfl (lv_at hl 1 rfl) ?_
  refine q_getN (v := .ref (ad 19)) hx hb hown hE inT_X2 hP 18 rfl rfl 0 (by decide) w_188 rfl dX5_voidSet_21 ?_
  refine lv_iload_n hx hb dX5_voidSet_24 rfl (lv_at hl 2 rfl) ?_
  refine q_iald (f := S 19) (i := t) hx hb hE hP 19 rfl (by omega) (Nat.le_of_ble_eq_true rfl) dX5_voidSet_25 ?_
  refine lv_iand hx hb dX5_voidSet_26 ?_
  refine q_top (y := p_void S 18 t) (by rfl) ?_
  exact e_ret hx hb hr hlk rfl dX5_voidSet_27

theorem dX5_countingSet_0 : decode cX5_countingSet 0 = .ok (.aload_n 1, 1) := by decide +kernel
theorem dX5_countingSet_1 : decode cX5_countingSet 1 = .ok (.getfield 171, 3) := by decide +kernel
theorem dX5_countingSet_4 : decode cX5_countingSet 4 = .ok (.iload_n 2, 1) := by decide +kernel
theorem dX5_countingSet_5 : decode cX5_countingSet 5 = .ok (.iaload, 1) := by decide +kernel
theorem dX5_countingSet_6 : decode cX5_countingSet 6 = .ok (.aload_n 0, 1) := by decide +kernel
theorem dX5_countingSet_7 : decode cX5_countingSet 7 = .ok (.aload_n 1, 1) := by decide +kernel
theorem dX5_countingSet_8 : decode cX5_countingSet 8 = .ok (.iload_n 2, 1) := by decide +kernel
theorem dX5_countingSet_9 : decode cX5_countingSet 9 = .ok (.invokevirtual 210, 3) := by decide +kernel
theorem dX5_countingSet_12 : decode cX5_countingSet 12 = .ok (.iconst (-1), 1) := by decide +kernel
theorem dX5_countingSet_13 : decode cX5_countingSet 13 = .ok (.ixor, 1) := by decide +kernel
theorem dX5_countingSet_14 : decode cX5_countingSet 14 = .ok (.iand, 1) := by decide +kernel
theorem dX5_countingSet_15 : decode cX5_countingSet 15 = .ok (.aload_n 0, 1) := by decide +kernel
theorem dX5_countingSet_16 : decode cX5_countingSet 16 = .ok (.aload_n 1, 1) := by decide +kernel
theorem dX5_countingSet_17 : decode cX5_countingSet 17 = .ok (.invokevirtual 122, 3) := by decide +kernel
theorem dX5_countingSet_20 : decode cX5_countingSet 20 = .ok (.iconst (-1), 1) := by decide +kernel
theorem dX5_countingSet_21 : decode cX5_countingSet 21 = .ok (.ixor, 1) := by decide +kernel
theorem dX5_countingSet_22 : decode cX5_countingSet 22 = .ok (.iand, 1) := by decide +kernel
theorem dX5_countingSet_23 : decode cX5_countingSet 23 = .ok (.ireturn, 1) := by decide +kernel
set_option maxHeartbeats 4000000 in
set_option maxRecDepth 100000 in
theorem c_X5_countingSet_18 (l : Launch) (D : va_G) (cI cZ cL : ClassId) (ad : Nat → Nat) (S : Mem) (t : Nat) (hI : I0 S) (ht : t < 8) : RD l D cI cZ cL yX5_countingSet cX5_countingSet 3 (some .int) 4 [.ref (ad 0), .ref (ad 18), .int (nI t)] (wC ad cI S) (some (.int (p_count S 18 t))) := by
  refine RD.of (by decide) (Nat.le_of_ble_eq_true rfl) ?_
  intro p e s m args below meth c ls hx hb hr hml hown hlk hE hP hl
  have hl : lv_has ls 3 [(0, .ref (ad 0)), (1, .ref (ad 18)), (2, .int (nI t))] := hl
  refine lv_aload_n hx hb dX5_countingSet_0 rfl (lv_at hl 1 rfl) ?_
  refine q_getN (v := .ref (ad 19)) hx hb hown hE inT_X2 hP 18 rfl rfl 0 (by decide) w_188 rfl dX5_countingSet_1 ?_
  refine lv_iload_n hx hb dX5_countingSet_4 rfl (lv_at hl 2 rfl) ?_
  refine q_iald (f := S 19) (i := t) hx hb hE hP 19 rfl (by omega) (Nat.le_of_ble_eq_true rfl) dX5_countingSet_5 ?_
  refine lv_aload_n hx hb dX5_countingSet_6 rfl (lv_at hl 0 rfl) ?_
  refine lv_aload_n hx hb dX5_countingSet_7 rfl (lv_at hl 1 rfl) ?_
  refine lv_iload_n hx hb dX5_countingSet_8 rfl (lv_at hl 2 rfl) ?_
  refine q_rd (q_runV (rest := [.int (S 19 t)]) hx hb hml hown hE (c_X5_voidSet_18 l D cI cZ cL ad S t hI (by omega)) ck_X5_voidSet w_265 hP 0 rfl rfl hl.1 rfl ⟨Nat.le_of_ble_eq_true rfl, Nat.le_of_ble_eq_true rfl⟩ (Nat.le_of_ble_eq_true rfl) dX5_countingSet_9 ⟨Nat.le_of_ble_eq_true rfl, Nat.le_of_ble_eq_true rfl⟩) ?_
  refine lv_iconst (v := (-1)) hx hb dX5_countingSet_12 (by decide) ?_
  refine lv_ixor hx hb dX5_countingSet_13 ?_
  refine lv_iand hx hb dX5_countingSet_14 ?_
  refine lv_aload_n hx hb dX5_countingSet_15 rfl (lv_at hl 0 rfl) ?_
  refine lv_aload_n hx hb dX5_countingSet_16 rfl (lv_at hl 1 rfl) ?_
  refine q_rd (q_runV (rest := [.int ((S 19 t) &&& ((p_void S 18 t) ^^^ (-1)))]) hx hb hml hown hE (c_X5_freeSet_18 l D cI cZ cL ad S hI) ck_X5_freeSet w_290 hP 0 rfl rfl hl.1 rfl ⟨Nat.le_of_ble_eq_true rfl, Nat.le_of_ble_eq_true rfl⟩ (Nat.le_of_ble_eq_true rfl) dX5_countingSet_17 ⟨Nat.le_of_ble_eq_true rfl, Nat.le_of_ble_eq_true rfl⟩) ?_
  refine lv_iconst (v := (-1)) hx hb dX5_countingSet_20 (by decide) ?_
  refine lv_ixor hx hb dX5_countingSet_21 ?_
  refine lv_iand hx hb dX5_countingSet_22 ?_
  refine q_top (y := p_count S 18 t) (by rfl) ?_
  exact e_ret hx hb hr hlk rfl dX5_countingSet_23

theorem dX5_sumUp_0 : decode cX5_sumUp 0 = .ok (.aload_n 0, 1) := by decide +kernel
theorem dX5_sumUp_1 : decode cX5_sumUp 1 = .ok (.aload_n 1, 1) := by decide +kernel
theorem dX5_sumUp_2 : decode cX5_sumUp 2 = .ok (.invokevirtual 122, 3) := by decide +kernel
theorem dX5_sumUp_5 : decode cX5_sumUp 5 = .ok (.istore 4, 2) := by decide +kernel
theorem dX5_sumUp_7 : decode cX5_sumUp 7 = .ok (.iconst 0, 1) := by decide +kernel
theorem dX5_sumUp_8 : decode cX5_sumUp 8 = .ok (.istore 5, 2) := by decide +kernel
theorem dX5_sumUp_10 : decode cX5_sumUp 10 = .ok (.iconst 0, 1) := by decide +kernel
theorem dX5_sumUp_11 : decode cX5_sumUp 11 = .ok (.istore 6, 2) := by decide +kernel
theorem dX5_sumUp_13 : decode cX5_sumUp 13 = .ok (.iload 6, 2) := by decide +kernel
theorem dX5_sumUp_15 : decode cX5_sumUp 15 = .ok (.aload_n 0, 1) := by decide +kernel
theorem dX5_sumUp_16 : decode cX5_sumUp 16 = .ok (.getfield 10, 3) := by decide +kernel
theorem dX5_sumUp_19 : decode cX5_sumUp 19 = .ok (.getfield 76, 3) := by decide +kernel
theorem dX5_sumUp_22 : decode cX5_sumUp 22 = .ok (.if_icmp .ge 59, 3) := by decide +kernel
theorem dX5_sumUp_25 : decode cX5_sumUp 25 = .ok (.iload_n 3, 1) := by decide +kernel
theorem dX5_sumUp_26 : decode cX5_sumUp 26 = .ok (.iload 6, 2) := by decide +kernel
theorem dX5_sumUp_28 : decode cX5_sumUp 28 = .ok (.invokestatic 97, 3) := by decide +kernel
theorem dX5_sumUp_31 : decode cX5_sumUp 31 = .ok (.ifCond .eq 18, 3) := by decide +kernel
theorem dX5_sumUp_34 : decode cX5_sumUp 34 = .ok (.iload 5, 2) := by decide +kernel
theorem dX5_sumUp_36 : decode cX5_sumUp 36 = .ok (.aload_n 0, 1) := by decide +kernel
theorem dX5_sumUp_37 : decode cX5_sumUp 37 = .ok (.getfield 10, 3) := by decide +kernel
theorem dX5_sumUp_40 : decode cX5_sumUp 40 = .ok (.getfield 293, 3) := by decide +kernel
theorem dX5_sumUp_43 : decode cX5_sumUp 43 = .ok (.iload 6, 2) := by decide +kernel
theorem dX5_sumUp_45 : decode cX5_sumUp 45 = .ok (.iaload, 1) := by decide +kernel
theorem dX5_sumUp_46 : decode cX5_sumUp 46 = .ok (.iadd, 1) := by decide +kernel
theorem dX5_sumUp_47 : decode cX5_sumUp 47 = .ok (.istore 5, 2) := by decide +kernel
theorem dX5_sumUp_49 : decode cX5_sumUp 49 = .ok (.iload 4, 2) := by decide +kernel
theorem dX5_sumUp_51 : decode cX5_sumUp 51 = .ok (.iload 6, 2) := by decide +kernel
theorem dX5_sumUp_53 : decode cX5_sumUp 53 = .ok (.invokestatic 97, 3) := by decide +kernel
theorem dX5_sumUp_56 : decode cX5_sumUp 56 = .ok (.ifCond .ne 19, 3) := by decide +kernel
theorem dX5_sumUp_59 : decode cX5_sumUp 59 = .ok (.iload 5, 2) := by decide +kernel
theorem dX5_sumUp_61 : decode cX5_sumUp 61 = .ok (.aload_n 1, 1) := by decide +kernel
theorem dX5_sumUp_62 : decode cX5_sumUp 62 = .ok (.getfield 296, 3) := by decide +kernel
theorem dX5_sumUp_65 : decode cX5_sumUp 65 = .ok (.iload_n 2, 1) := by decide +kernel
theorem dX5_sumUp_66 : decode cX5_sumUp 66 = .ok (.iload 6, 2) := by decide +kernel
theorem dX5_sumUp_68 : decode cX5_sumUp 68 = .ok (.invokestatic 177, 3) := by decide +kernel
theorem dX5_sumUp_71 : decode cX5_sumUp 71 = .ok (.iaload, 1) := by decide +kernel
theorem dX5_sumUp_72 : decode cX5_sumUp 72 = .ok (.isub, 1) := by decide +kernel
theorem dX5_sumUp_73 : decode cX5_sumUp 73 = .ok (.istore 5, 2) := by decide +kernel
theorem dX5_sumUp_75 : decode cX5_sumUp 75 = .ok (.iinc 6 1, 3) := by decide +kernel
theorem dX5_sumUp_78 : decode cX5_sumUp 78 = .ok (.goto (-65), 3) := by decide +kernel
theorem dX5_sumUp_81 : decode cX5_sumUp 81 = .ok (.iload 5, 2) := by decide +kernel
theorem dX5_sumUp_83 : decode cX5_sumUp 83 = .ok (.ireturn, 1) := by decide +kernel
set_option maxHeartbeats 4000000 in
set_option maxRecDepth 100000 in
theorem c_X5_sumUp_18 (l : Launch) (D : va_G) (cI cZ cL : ClassId) (ad : Nat → Nat) (S : Mem) (t : Nat) (cnt : Int32) (hI : I0 S) (ht : t < 8) : RD l D cI cZ cL yX5_sumUp cX5_sumUp 7 (some .int) 1 [.ref (ad 0), .ref (ad 18), .int (nI t), .int cnt] (wC ad cI S) (some (.int (p_sumUp S 18 t cnt))) := by
  refine RD.of (by decide) (Nat.le_of_ble_eq_true rfl) ?_
  intro p e s m args below meth c ls hx hb hr hml hown hlk hE hP hl
  have hl : lv_has ls 7 [(0, .ref (ad 0)), (1, .ref (ad 18)), (2, .int (nI t)), (3, .int cnt)] := hl
  have hT8 := hI.T8
  have hR16 := hI.R16
  have hN200 := hI.N200
  refine lv_aload_n hx hb dX5_sumUp_0 rfl (lv_at hl 0 rfl) ?_
  refine lv_aload_n hx hb dX5_sumUp_1 rfl (lv_at hl 1 rfl) ?_
  refine q_rd (q_runV (rest := []) hx hb hml hown hE (c_X5_freeSet_18 l D cI cZ cL ad S hI) ck_X5_freeSet w_290 hP 0 rfl rfl hl.1 rfl ⟨Nat.le_of_ble_eq_true rfl, Nat.le_of_ble_eq_true rfl⟩ (Nat.le_of_ble_eq_true rfl) dX5_sumUp_2 ⟨Nat.le_of_ble_eq_true rfl, Nat.le_of_ble_eq_true rfl⟩) ?_
  refine lv_istore (lv' := [(4, .int (p_free S 18 (cT S))), (0, .ref (ad 0)), (1, .ref (ad 18)), (2, .int (nI t)), (3, .int cnt)]) hx hb dX5_sumUp_5 hl (by decide) rfl (fun ls hl => ?_)
  refine lv_iconst (v := 0) hx hb dX5_sumUp_7 (by decide) ?_
  refine lv_istore (lv' := [(5, .int 0), (4, .int (p_free S 18 (cT S))), (0, .ref (ad 0)), (1, .ref (ad 18)), (2, .int (nI t)), (3, .int cnt)]) hx hb dX5_sumUp_8 hl (by decide) rfl (fun ls hl => ?_)
  refine lv_iconst (v := 0) hx hb dX5_sumUp_10 (by decide) ?_
  refine lv_istore (lv' := [(6, .int 0), (5, .int 0), (4, .int (p_free S 18 (cT S))), (0, .ref (ad 0)), (1, .ref (ad 18)), (2, .int (nI t)), (3, .int cnt)]) hx hb dX5_sumUp_11 hl (by decide) rfl (fun ls hl => ?_)
  have hloop_13 : ∀ (n i : Nat), i ≤ cR S → cR S < i + n → ∀ ls : Array Slot, lv_has ls 7 [(6, .int (nI i)), (5, .int (p_sum S 18 t cnt (p_free S 18 (cT S)) i)), (4, .int (p_free S 18 (cT S))), (0, .ref (ad 0)), (1, .ref (ad 18)), (2, .int (nI t)), (3, .int cnt)] → W p l e (rm 1 0 0) s m args below meth c s.heap [] 0 0 (MQ below (Qrd (some (.int (p_sumUp S 18 t cnt)))) args s 0 0 q_no) (F0 m 13 ls []) := by
    intro n
    induction n with
    | zero => intro i h1 h2; exact absurd h2 (by omega)
    | succ n ih_13 =>
      intro i hi_13 hin_13  ls hl
      refine lv_iload hx hb dX5_sumUp_13 (lv_at hl 0 rfl) ?_
      refine lv_aload_n hx hb dX5_sumUp_15 rfl (lv_at hl 3 rfl) ?_
      refine q_get (v := .ref (ad 1)) hx hb hown hE inT_X5 hP 0 rfl rfl 0 (by decide) w_212 rfl dX5_sumUp_16 ?_
      refine q_getN (v := .int (S 1 6)) hx hb hown hE inT_X3 hP 1 rfl rfl 6 (by decide) w_104 rfl dX5_sumUp_19 ?_
      refine q_top (y := nI (cR S)) (I0.R hI) ?_
      refine lv_icmp_ge (tgt := 81) hx hb dX5_sumUp_22 (by decide) (fun c_1 => ?_) (fun c_1 => ?_)
      · skip
        have c_1 : (cR S) ≤ i := n_le (a := cR S) (b := i) (by omega) (by omega) c_1
        have hend_13 : cR S = i := by omega
        subst hend_13
        refine lv_iload hx hb dX5_sumUp_81 (lv_at hl 1 rfl) ?_
        refine q_top (y := p_sumUp S 18 t cnt) (by rfl) ?_
        exact e_ret hx hb hr hlk rfl dX5_sumUp_83
      · skip
        have c_1 : i < (cR S) := n_nle (a := cR S) (b := i) (by omega) (by omega) c_1
        refine lv_iload_n hx hb dX5_sumUp_25 rfl (lv_at hl 6 rfl) ?_
        refine lv_iload hx hb dX5_sumUp_26 (lv_at hl 0 rfl) ?_
        refine q_rd (q_runS (rest := []) hx hb hml hown hE (c_X5_has l D cI cZ cL _ cnt (nI i)) ck_X5_has w_298 hP hl.1 rfl ⟨Nat.le_of_ble_eq_true rfl, Nat.le_of_ble_eq_true rfl⟩ (Nat.le_of_ble_eq_true rfl) dX5_sumUp_28 ⟨Nat.le_of_ble_eq_true rfl, Nat.le_of_ble_eq_true rfl⟩) ?_
        refine lv_if_eq (tgt := 49) hx hb dX5_sumUp_31 (by decide) (fun c_2 => ?_) (fun c_2 => ?_)
        · skip
          have c_2 : hs cnt (nI i) = false := b_f c_2
          refine lv_iload hx hb dX5_sumUp_49 (lv_at hl 2 rfl) ?_
          refine lv_iload hx hb dX5_sumUp_51 (lv_at hl 0 rfl) ?_
          refine q_rd (q_runS (rest := []) hx hb hml hown hE (c_X5_has l D cI cZ cL _ (p_free S 18 (cT S)) (nI i)) ck_X5_has w_298 hP hl.1 rfl ⟨Nat.le_of_ble_eq_true rfl, Nat.le_of_ble_eq_true rfl⟩ (Nat.le_of_ble_eq_true rfl) dX5_sumUp_53 ⟨Nat.le_of_ble_eq_true rfl, Nat.le_of_ble_eq_true rfl⟩) ?_
          refine lv_if_ne (tgt := 75) hx hb dX5_sumUp_56 (by decide) (fun c_3 => ?_) (fun c_3 => ?_)
          · skip
            have c_3 : hs (p_free S 18 (cT S)) (nI i) = true := b_t c_3
            refine lv_iinc (v := nI (i + 1)) (lv' := [(6, .int (nI (i + 1))), (5, .int (p_sum S 18 t cnt (p_free S 18 (cT S)) i)), (4, .int (p_free S 18 (cT S))), (0, .ref (ad 0)), (1, .ref (ad 18)), (2, .int (nI t)), (3, .int cnt)]) hx hb dX5_sumUp_75 hl (k := 0) rfl (nI_1 i) (by decide) rfl (fun ls hl => ?_)
            refine lv_goto (tgt := 13) hx hb dX5_sumUp_78 (by decide) ?_
            refine ih_13 (i + 1) (by omega) (by omega)  ls ?_
            rw [show p_sum S 18 t cnt (p_free S 18 (cT S)) (i + 1) = p_sum S 18 t cnt (p_free S 18 (cT S)) i from by first | (simp only [bI, p_sum, c_1, c_2, c_3, ↓reduceIte]; done) | (simp [bI, p_sum, c_1, c_2, c_3]; done) | (simp_all [bI, p_sum]; done)]
            exact lv_sub hl [0, 1, 2, 3, 4, 5, 6] rfl
          · skip
            have c_3 : hs (p_free S 18 (cT S)) (nI i) = false := b_f c_3
            refine lv_iload hx hb dX5_sumUp_59 (lv_at hl 1 rfl) ?_
            refine lv_aload_n hx hb dX5_sumUp_61 rfl (lv_at hl 4 rfl) ?_
            refine q_getN (v := .ref (ad 22)) hx hb hown hE inT_X2 hP 18 rfl rfl 3 (by decide) w_194 rfl dX5_sumUp_62 ?_
            refine lv_iload_n hx hb dX5_sumUp_65 rfl (lv_at hl 5 rfl) ?_
            refine lv_iload hx hb dX5_sumUp_66 (lv_at hl 0 rfl) ?_
            refine q_rd (q_runS (rest := [.ref (ad 22), .int (p_sum S 18 t cnt (p_free S 18 (cT S)) i)]) hx hb hml hown hE (c_X5_cell l D cI cZ cL _ t i) ck_X5_cell w_299 hP hl.1 rfl ⟨Nat.le_of_ble_eq_true rfl, Nat.le_of_ble_eq_true rfl⟩ (Nat.le_of_ble_eq_true rfl) dX5_sumUp_68 ⟨Nat.le_of_ble_eq_true rfl, Nat.le_of_ble_eq_true rfl⟩) ?_
            refine q_iald (f := S 22) (i := (t * 16 + i)) hx hb hE hP 22 rfl (by omega) (Nat.le_of_ble_eq_true rfl) dX5_sumUp_71 ?_
            refine lv_isub hx hb dX5_sumUp_72 ?_
            refine lv_istore (lv' := [(5, .int ((p_sum S 18 t cnt (p_free S 18 (cT S)) i) - (S 22 (t * 16 + i)))), (6, .int (nI i)), (4, .int (p_free S 18 (cT S))), (0, .ref (ad 0)), (1, .ref (ad 18)), (2, .int (nI t)), (3, .int cnt)]) hx hb dX5_sumUp_73 hl (by decide) rfl (fun ls hl => ?_)
            refine lv_iinc (v := nI (i + 1)) (lv' := [(6, .int (nI (i + 1))), (5, .int ((p_sum S 18 t cnt (p_free S 18 (cT S)) i) - (S 22 (t * 16 + i)))), (4, .int (p_free S 18 (cT S))), (0, .ref (ad 0)), (1, .ref (ad 18)), (2, .int (nI t)), (3, .int cnt)]) hx hb dX5_sumUp_75 hl (k := 1) rfl (nI_1 i) (by decide) rfl (fun ls hl => ?_)
            refine lv_goto (tgt := 13) hx hb dX5_sumUp_78 (by decide) ?_
            refine ih_13 (i + 1) (by omega) (by omega)  ls ?_
            rw [show p_sum S 18 t cnt (p_free S 18 (cT S)) (i + 1) = (p_sum S 18 t cnt (p_free S 18 (cT S)) i) - (S 22 (t * 16 + i)) from by first | (simp only [bI, p_sum, c_1, c_2, c_3, ↓reduceIte]; done) | (simp [bI, p_sum, c_1, c_2, c_3]; done) | (simp_all [bI, p_sum]; done)]
            exact lv_sub hl [0, 1, 2, 3, 4, 5, 6] rfl
        · skip
          have c_2 : hs cnt (nI i) = true := b_t c_2
          refine lv_iload hx hb dX5_sumUp_34 (lv_at hl 1 rfl) ?_
          refine lv_aload_n hx hb dX5_sumUp_36 rfl (lv_at hl 3 rfl) ?_
          refine q_get (v := .ref (ad 1)) hx hb hown hE inT_X5 hP 0 rfl rfl 0 (by decide) w_212 rfl dX5_sumUp_37 ?_
          refine q_getN (v := .ref (ad 2)) hx hb hown hE inT_X3 hP 1 rfl rfl 0 (by decide) w_93 rfl dX5_sumUp_40 ?_
          refine lv_iload hx hb dX5_sumUp_43 (lv_at hl 0 rfl) ?_
          refine q_iald (f := S 2) (i := i) hx hb hE hP 2 rfl (by omega) (Nat.le_of_ble_eq_true rfl) dX5_sumUp_45 ?_
          refine lv_iadd hx hb dX5_sumUp_46 ?_
          refine lv_istore (lv' := [(5, .int ((p_sum S 18 t cnt (p_free S 18 (cT S)) i) + (S 2 i))), (6, .int (nI i)), (4, .int (p_free S 18 (cT S))), (0, .ref (ad 0)), (1, .ref (ad 18)), (2, .int (nI t)), (3, .int cnt)]) hx hb dX5_sumUp_47 hl (by decide) rfl (fun ls hl => ?_)
          refine lv_iload hx hb dX5_sumUp_49 (lv_at hl 2 rfl) ?_
          refine lv_iload hx hb dX5_sumUp_51 (lv_at hl 1 rfl) ?_
          refine q_rd (q_runS (rest := []) hx hb hml hown hE (c_X5_has l D cI cZ cL _ (p_free S 18 (cT S)) (nI i)) ck_X5_has w_298 hP hl.1 rfl ⟨Nat.le_of_ble_eq_true rfl, Nat.le_of_ble_eq_true rfl⟩ (Nat.le_of_ble_eq_true rfl) dX5_sumUp_53 ⟨Nat.le_of_ble_eq_true rfl, Nat.le_of_ble_eq_true rfl⟩) ?_
          refine lv_if_ne (tgt := 75) hx hb dX5_sumUp_56 (by decide) (fun c_4 => ?_) (fun c_4 => ?_)
          · skip
            have c_4 : hs (p_free S 18 (cT S)) (nI i) = true := b_t c_4
            refine lv_iinc (v := nI (i + 1)) (lv' := [(6, .int (nI (i + 1))), (5, .int ((p_sum S 18 t cnt (p_free S 18 (cT S)) i) + (S 2 i))), (4, .int (p_free S 18 (cT S))), (0, .ref (ad 0)), (1, .ref (ad 18)), (2, .int (nI t)), (3, .int cnt)]) hx hb dX5_sumUp_75 hl (k := 1) rfl (nI_1 i) (by decide) rfl (fun ls hl => ?_)
            refine lv_goto (tgt := 13) hx hb dX5_sumUp_78 (by decide) ?_
            refine ih_13 (i + 1) (by omega) (by omega)  ls ?_
            rw [show p_sum S 18 t cnt (p_free S 18 (cT S)) (i + 1) = (p_sum S 18 t cnt (p_free S 18 (cT S)) i) + (S 2 i) from by first | (simp only [bI, p_sum, c_1, c_2, c_4, ↓reduceIte]; done) | (simp [bI, p_sum, c_1, c_2, c_4]; done) | (simp_all [bI, p_sum]; done)]
            exact lv_sub hl [0, 1, 2, 3, 4, 5, 6] rfl
          · skip
            have c_4 : hs (p_free S 18 (cT S)) (nI i) = false := b_f c_4
            refine lv_iload hx hb dX5_sumUp_59 (lv_at hl 0 rfl) ?_
            refine lv_aload_n hx hb dX5_sumUp_61 rfl (lv_at hl 4 rfl) ?_
            refine q_getN (v := .ref (ad 22)) hx hb hown hE inT_X2 hP 18 rfl rfl 3 (by decide) w_194 rfl dX5_sumUp_62 ?_
            refine lv_iload_n hx hb dX5_sumUp_65 rfl (lv_at hl 5 rfl) ?_
            refine lv_iload hx hb dX5_sumUp_66 (lv_at hl 1 rfl) ?_
            refine q_rd (q_runS (rest := [.ref (ad 22), .int ((p_sum S 18 t cnt (p_free S 18 (cT S)) i) + (S 2 i))]) hx hb hml hown hE (c_X5_cell l D cI cZ cL _ t i) ck_X5_cell w_299 hP hl.1 rfl ⟨Nat.le_of_ble_eq_true rfl, Nat.le_of_ble_eq_true rfl⟩ (Nat.le_of_ble_eq_true rfl) dX5_sumUp_68 ⟨Nat.le_of_ble_eq_true rfl, Nat.le_of_ble_eq_true rfl⟩) ?_
            refine q_iald (f := S 22) (i := (t * 16 + i)) hx hb hE hP 22 rfl (by omega) (Nat.le_of_ble_eq_true rfl) dX5_sumUp_71 ?_
            refine lv_isub hx hb dX5_sumUp_72 ?_
            refine lv_istore (lv' := [(5, .int (((p_sum S 18 t cnt (p_free S 18 (cT S)) i) + (S 2 i)) - (S 22 (t * 16 + i)))), (6, .int (nI i)), (4, .int (p_free S 18 (cT S))), (0, .ref (ad 0)), (1, .ref (ad 18)), (2, .int (nI t)), (3, .int cnt)]) hx hb dX5_sumUp_73 hl (by decide) rfl (fun ls hl => ?_)
            refine lv_iinc (v := nI (i + 1)) (lv' := [(6, .int (nI (i + 1))), (5, .int (((p_sum S 18 t cnt (p_free S 18 (cT S)) i) + (S 2 i)) - (S 22 (t * 16 + i)))), (4, .int (p_free S 18 (cT S))), (0, .ref (ad 0)), (1, .ref (ad 18)), (2, .int (nI t)), (3, .int cnt)]) hx hb dX5_sumUp_75 hl (k := 1) rfl (nI_1 i) (by decide) rfl (fun ls hl => ?_)
            refine lv_goto (tgt := 13) hx hb dX5_sumUp_78 (by decide) ?_
            refine ih_13 (i + 1) (by omega) (by omega)  ls ?_
            rw [show p_sum S 18 t cnt (p_free S 18 (cT S)) (i + 1) = ((p_sum S 18 t cnt (p_free S 18 (cT S)) i) + (S 2 i)) - (S 22 (t * 16 + i)) from by first | (simp only [bI, p_sum, c_1, c_2, c_4, ↓reduceIte]; done) | (simp [bI, p_sum, c_1, c_2, c_4]; done) | (simp_all [bI, p_sum]; done)]
            exact lv_sub hl [0, 1, 2, 3, 4, 5, 6] rfl
  refine hloop_13 (cR S + 1) 0 (by omega) (by omega)  ls ?_
  rw [show p_sum S 18 t cnt (p_free S 18 (cT S)) 0 = 0 from by first | rfl | (first | (simp only [bI, p_sum, ↓reduceIte]; done) | (simp [bI, p_sum]; done) | (simp_all [bI, p_sum]; done))]
  exact lv_sub hl [0, 1, 2, 3, 4, 5, 6] rfl


set_option maxHeartbeats 4000000 in
set_option maxRecDepth 100000 in
theorem c_X5_openMinute_25 (l : Launch) (D : va_G) (cI cZ cL : ClassId) (ad : Nat → Nat) (S : Mem) (t : Nat) (r : Nat) (ht : t < 8) (hr : r < 16) : RD l D cI cZ cL yX5_openMinute cX5_openMinute 4 (some .int) 2 [.ref (ad 0), .ref (ad 25), .int (nI t), .int (nI r)] (wC ad cI S) (some (.int (p_open S 25 t r))) := by
  refine RD.of (by decide) (Nat.le_of_ble_eq_true rfl) ?_
  intro p e s m args below meth c ls hx hb hr hml hown hlk hE hP hl
  have hl : lv_has ls 4 [(0, .ref (ad 0)), (1, .ref (ad 25)), (2, .int (nI t)), (3, .int (nI r))] := hl
  refine lv_aload_n hx hb dX5_openMinute_0 rfl (lv_at hl 1 rfl) ?_
  refine lv_iload_n hx hb dX5_openMinute_1 rfl (lv_at hl 2 rfl) ?_
  refine lv_aload_n hx hb dX5_openMinute_2 rfl (lv_at hl 0 rfl) ?_
  refine q_get (v := .ref (ad 1)) hx hb hown hE inT_X5 hP 0 rfl rfl 0 (by decide) w_212 rfl dX5_openMinute_3 ?_
  refine q_getN (v := .ref (ad 6)) hx hb hown hE inT_X3 hP 1 rfl rfl 4 (by decide) w_101 rfl dX5_openMinute_6 ?_
  refine lv_iload_n hx hb dX5_openMinute_9 rfl (lv_at hl 3 rfl) ?_
  refine q_iald (f := S 6) (i := r) hx hb hE hP 6 rfl (by omega) (Nat.le_of_ble_eq_true rfl) dX5_openMinute_10 ?_
  refine q_rd (q_runVN (rest := []) hx hb hml hown hE (c_X2_lastSolveMinute_25 l D cI cZ cL ad S t (S 6 r) (by omega)) ck_X2_lastSolveMinute w_302 hP 25 rfl rfl hl.1 rfl ⟨Nat.le_of_ble_eq_true rfl, Nat.le_of_ble_eq_true rfl⟩ (Nat.le_of_ble_eq_true rfl) dX5_openMinute_11 ⟨Nat.le_of_ble_eq_true rfl, Nat.le_of_ble_eq_true rfl⟩) ?_
  refine q_top (y := p_open S 25 t r) (by rfl) ?_
  exact e_ret hx hb hr hlk rfl dX5_openMinute_14


set_option maxHeartbeats 4000000 in
set_option maxRecDepth 100000 in
theorem c_X5_freeSet_25 (l : Launch) (D : va_G) (cI cZ cL : ClassId) (ad : Nat → Nat) (S : Mem) (hI : I0 S) : RD l D cI cZ cL yX5_freeSet cX5_freeSet 4 (some .int) 0 [.ref (ad 0), .ref (ad 25)] (wC ad cI S) (some (.int (p_free S 25 (cT S)))) := by
  refine RD.of (by decide) (Nat.le_of_ble_eq_true rfl) ?_
  intro p e s m args below meth c ls hx hb hr hml hown hlk hE hP hl
  have hl : lv_has ls 4 [(0, .ref (ad 0)), (1, .ref (ad 25))] := hl
  have hT8 := hI.T8
  have hR16 := hI.R16
  have hN200 := hI.N200
  refine lv_iconst (v := 0) hx hb dX5_freeSet_0 (by decide) ?_
  refine lv_istore_n (lv' := [(2, .int 0), (0, .ref (ad 0)), (1, .ref (ad 25))]) hx hb dX5_freeSet_1 rfl hl (by decide) rfl (fun ls hl => ?_)
  refine lv_iconst (v := 0) hx hb dX5_freeSet_2 (by decide) ?_
  refine lv_istore_n (lv' := [(3, .int 0), (2, .int 0), (0, .ref (ad 0)), (1, .ref (ad 25))]) hx hb dX5_freeSet_3 rfl hl (by decide) rfl (fun ls hl => ?_)
  have hloop_4 : ∀ (n i : Nat), i ≤ cT S → cT S < i + n → ∀ ls : Array Slot, lv_has ls 4 [(3, .int (nI i)), (2, .int (p_free S 25 i)), (0, .ref (ad 0)), (1, .ref (ad 25))] → W p l e (rm 0 0 0) s m args below meth c s.heap [] 0 0 (MQ below (Qrd (some (.int (p_free S 25 (cT S))))) args s 0 0 q_no) (F0 m 4 ls []) := by
    intro n
    induction n with
    | zero => intro i h1 h2; exact absurd h2 (by omega)
    | succ n ih_4 =>
      intro i hi_4 hin_4  ls hl
      refine lv_iload_n hx hb dX5_freeSet_4 rfl (lv_at hl 0 rfl) ?_
      refine lv_aload_n hx hb dX5_freeSet_5 rfl (lv_at hl 2 rfl) ?_
      refine q_get (v := .int (S 0 9)) hx hb hown hE inT_X5 hP 0 rfl rfl 9 (by decide) w_221 rfl dX5_freeSet_6 ?_
      refine q_top (y := nI (cT S)) (I0.T hI) ?_
      refine lv_icmp_ge (tgt := 39) hx hb dX5_freeSet_9 (by decide) (fun c_1 => ?_) (fun c_1 => ?_)
      · skip
        have c_1 : (cT S) ≤ i := n_le (a := cT S) (b := i) (by omega) (by omega) c_1
        have hend_4 : cT S = i := by omega
        subst hend_4
        refine lv_iload_n hx hb dX5_freeSet_39 rfl (lv_at hl 1 rfl) ?_
        exact e_ret hx hb hr hlk rfl dX5_freeSet_40
      · skip
        have c_1 : i < (cT S) := n_nle (a := cT S) (b := i) (by omega) (by omega) c_1
        refine lv_iload_n hx hb dX5_freeSet_12 rfl (lv_at hl 1 rfl) ?_
        refine lv_aload_n hx hb dX5_freeSet_13 rfl (lv_at hl 3 rfl) ?_
        refine q_getN (v := .ref (ad 27)) hx hb hown hE inT_X2 hP 25 rfl rfl 1 (by decide) w_190 rfl dX5_freeSet_14 ?_
        refine lv_iload_n hx hb dX5_freeSet_17 rfl (lv_at hl 0 rfl) ?_
        refine q_iald (f := S 27) (i := i) hx hb hE hP 27 rfl (by omega) (Nat.le_of_ble_eq_true rfl) dX5_freeSet_18 ?_
        refine lv_aload_n hx hb dX5_freeSet_19 rfl (lv_at hl 2 rfl) ?_
        refine q_get (v := .ref (ad 15)) hx hb hown hE inT_X5 hP 0 rfl rfl 3 (by decide) w_215 rfl dX5_freeSet_20 ?_
        refine q_getN (v := .ref (ad 16)) hx hb hown hE inT_X1 hP 15 rfl rfl 0 (by decide) w_170 rfl dX5_freeSet_23 ?_
        refine lv_iload_n hx hb dX5_freeSet_26 rfl (lv_at hl 0 rfl) ?_
        refine q_iald (f := S 16) (i := i) hx hb hE hP 16 rfl (by omega) (Nat.le_of_ble_eq_true rfl) dX5_freeSet_27 ?_
        refine lv_iconst (v := (-1)) hx hb dX5_freeSet_28 (by decide) ?_
        refine lv_ixor hx hb dX5_freeSet_29 ?_
        refine lv_iand hx hb dX5_freeSet_30 ?_
        refine lv_ior hx hb dX5_freeSet_31 ?_
        refine lv_istore_n (lv' := [(2, .int ((p_free S 25 i) ||| ((S 27 i) &&& ((S 16 i) ^^^ (-1))))), (3, .int (nI i)), (0, .ref (ad 0)), (1, .ref (ad 25))]) hx hb dX5_freeSet_32 rfl hl (by decide) rfl (fun ls hl => ?_)
        refine lv_iinc (v := nI (i + 1)) (lv' := [(3, .int (nI (i + 1))), (2, .int ((p_free S 25 i) ||| ((S 27 i) &&& ((S 16 i) ^^^ (-1))))), (0, .ref (ad 0)), (1, .ref (ad 25))]) hx hb dX5_freeSet_33 hl (k := 1) rfl (nI_1 i) (by decide) rfl (fun ls hl => ?_)
        refine lv_goto (tgt := 4) hx hb dX5_freeSet_36 (by decide) ?_
        refine ih_4 (i + 1) (by omega) (by omega)  ls ?_
        rw [show p_free S 25 (i + 1) = (p_free S 25 i) ||| ((S 27 i) &&& ((S 16 i) ^^^ (-1))) from by first | (simp only [bI, p_free, c_1, ↓reduceIte]; done) | (simp [bI, p_free, c_1]; done) | (simp_all [bI, p_free]; done)]
        exact lv_sub hl [0, 1, 2, 3] rfl
  refine hloop_4 (cT S + 1) 0 (by omega) (by omega)  ls ?_
  rw [show p_free S 25 0 = 0 from by first | rfl | (first | (simp only [bI, p_free, ↓reduceIte]; done) | (simp [bI, p_free]; done) | (simp_all [bI, p_free]; done))]
  exact lv_sub hl [0, 1, 2, 3] rfl


set_option maxHeartbeats 4000000 in
set_option maxRecDepth 100000 in
theorem c_X5_cheatedSet_25 (l : Launch) (D : va_G) (cI cZ cL : ClassId) (ad : Nat → Nat) (S : Mem) (t : Nat) (hI : I0 S) (ht : t < 8) : RD l D cI cZ cL yX5_cheatedSet cX5_cheatedSet 5 (some .int) 2 [.ref (ad 0), .ref (ad 25), .int (nI t)] (wC ad cI S) (some (.int (p_cheat S 25 t (cT S)))) := by
  refine RD.of (by decide) (Nat.le_of_ble_eq_true rfl) ?_
  intro p e s m args below meth c ls hx hb hr hml hown hlk hE hP hl
  have hl : lv_has ls 5 [(0, .ref (ad 0)), (1, .ref (ad 25)), (2, .int (nI t))] := hl
  have hT8 := hI.T8
  have hR16 := hI.R16
  have hN200 := hI.N200
  refine lv_iconst (v := 0) hx hb dX5_cheatedSet_0 (by decide) ?_
  refine lv_istore_n (lv' := [(3, .int 0), (0, .ref (ad 0)), (1, .ref (ad 25)), (2, .int (nI t))]) hx hb dX5_cheatedSet_1 rfl hl (by decide) rfl (fun ls hl => ?_)
  refine lv_iconst (v := 0) hx hb dX5_cheatedSet_2 (by decide) ?_
  refine lv_istore (lv' := [(4, .int 0), (3, .int 0), (0, .ref (ad 0)), (1, .ref (ad 25)), (2, .int (nI t))]) hx hb dX5_cheatedSet_3 hl (by decide) rfl (fun ls hl => ?_)
  have hloop_5 : ∀ (n i : Nat), i ≤ cT S → cT S < i + n → ∀ ls : Array Slot, lv_has ls 5 [(4, .int (nI i)), (3, .int (p_cheat S 25 t i)), (0, .ref (ad 0)), (1, .ref (ad 25)), (2, .int (nI t))] → W p l e (rm 2 0 0) s m args below meth c s.heap [] 0 0 (MQ below (Qrd (some (.int (p_cheat S 25 t (cT S))))) args s 0 0 q_no) (F0 m 5 ls []) := by
    intro n
    induction n with
    | zero => intro i h1 h2; exact absurd h2 (by omega)
    | succ n ih_5 =>
      intro i hi_5 hin_5  ls hl
      refine lv_iload hx hb dX5_cheatedSet_5 (lv_at hl 0 rfl) ?_
      refine lv_aload_n hx hb dX5_cheatedSet_7 rfl (lv_at hl 2 rfl) ?_
      refine q_get (v := .int (S 0 9)) hx hb hown hE inT_X5 hP 0 rfl rfl 9 (by decide) w_221 rfl dX5_cheatedSet_8 ?_
      refine q_top (y := nI (cT S)) (I0.T hI) ?_
      refine lv_icmp_ge (tgt := 58) hx hb dX5_cheatedSet_11 (by decide) (fun c_1 => ?_) (fun c_1 => ?_)
      · skip
        have c_1 : (cT S) ≤ i := n_le (a := cT S) (b := i) (by omega) (by omega) c_1
        have hend_5 : cT S = i := by omega
        subst hend_5
        refine lv_iload_n hx hb dX5_cheatedSet_58 rfl (lv_at hl 1 rfl) ?_
        exact e_ret hx hb hr hlk rfl dX5_cheatedSet_59
      · skip
        have c_1 : i < (cT S) := n_nle (a := cT S) (b := i) (by omega) (by omega) c_1
        refine lv_aload_n hx hb dX5_cheatedSet_14 rfl (lv_at hl 2 rfl) ?_
        refine q_get (v := .ref (ad 15)) hx hb hown hE inT_X5 hP 0 rfl rfl 3 (by decide) w_215 rfl dX5_cheatedSet_15 ?_
        refine lv_iload_n hx hb dX5_cheatedSet_18 rfl (lv_at hl 4 rfl) ?_
        refine lv_iload hx hb dX5_cheatedSet_19 (lv_at hl 0 rfl) ?_
        refine lv_aload_n hx hb dX5_cheatedSet_21 rfl (lv_at hl 3 rfl) ?_
        refine q_getN (v := .ref (ad 30)) hx hb hown hE inT_X2 hP 25 rfl rfl 4 (by decide) w_196 rfl dX5_cheatedSet_22 ?_
        refine lv_iload_n hx hb dX5_cheatedSet_25 rfl (lv_at hl 4 rfl) ?_
        refine lv_iload hx hb dX5_cheatedSet_26 (lv_at hl 0 rfl) ?_
        refine q_rd (q_runS (rest := [.ref (ad 30), .int (nI i), .int (nI t), .ref (ad 15)]) hx hb hml hown hE (c_X5_pair l D cI cZ cL _ t i) ck_X5_pair w_273 hP hl.1 rfl ⟨Nat.le_of_ble_eq_true rfl, Nat.le_of_ble_eq_true rfl⟩ (Nat.le_of_ble_eq_true rfl) dX5_cheatedSet_28 ⟨Nat.le_of_ble_eq_true rfl, Nat.le_of_ble_eq_true rfl⟩) ?_
        refine q_iald (f := S 30) (i := (t * 8 + i)) hx hb hE hP 30 rfl (by omega) (Nat.le_of_ble_eq_true rfl) dX5_cheatedSet_31 ?_
        refine q_rd (q_runVN (rest := []) hx hb hml hown hE (c_X1_links l D cI cZ cL ad S t i (S 30 (t * 8 + i)) (by omega) (by omega)) ck_X1_links w_276 hP 15 rfl rfl hl.1 rfl ⟨Nat.le_of_ble_eq_true rfl, Nat.le_of_ble_eq_true rfl⟩ (Nat.le_of_ble_eq_true rfl) dX5_cheatedSet_32 ⟨Nat.le_of_ble_eq_true rfl, Nat.le_of_ble_eq_true rfl⟩) ?_
        refine lv_if_eq (tgt := 52) hx hb dX5_cheatedSet_35 (by decide) (fun c_2 => ?_) (fun c_2 => ?_)
        · skip
          have c_2 : p_links S t i (S 30 (t * 8 + i)) = false := b_f c_2
          refine lv_iinc (v := nI (i + 1)) (lv' := [(4, .int (nI (i + 1))), (3, .int (p_cheat S 25 t i)), (0, .ref (ad 0)), (1, .ref (ad 25)), (2, .int (nI t))]) hx hb dX5_cheatedSet_52 hl (k := 0) rfl (nI_1 i) (by decide) rfl (fun ls hl => ?_)
          refine lv_goto (tgt := 5) hx hb dX5_cheatedSet_55 (by decide) ?_
          refine ih_5 (i + 1) (by omega) (by omega)  ls ?_
          rw [show p_cheat S 25 t (i + 1) = p_cheat S 25 t i from by first | (simp only [bI, p_cheat, c_1, c_2, ↓reduceIte]; done) | (simp [bI, p_cheat, c_1, c_2]; done) | (simp_all [bI, p_cheat]; done)]
          exact lv_sub hl [0, 1, 2, 3, 4] rfl
        · skip
          have c_2 : p_links S t i (S 30 (t * 8 + i)) = true := b_t c_2
          refine lv_iload_n hx hb dX5_cheatedSet_38 rfl (lv_at hl 1 rfl) ?_
          refine lv_aload_n hx hb dX5_cheatedSet_39 rfl (lv_at hl 3 rfl) ?_
          refine q_getN (v := .ref (ad 31)) hx hb hown hE inT_X2 hP 25 rfl rfl 5 (by decide) w_198 rfl dX5_cheatedSet_40 ?_
          refine lv_iload_n hx hb dX5_cheatedSet_43 rfl (lv_at hl 4 rfl) ?_
          refine lv_iload hx hb dX5_cheatedSet_44 (lv_at hl 0 rfl) ?_
          refine q_rd (q_runS (rest := [.ref (ad 31), .int (p_cheat S 25 t i)]) hx hb hml hown hE (c_X5_pair l D cI cZ cL _ t i) ck_X5_pair w_273 hP hl.1 rfl ⟨Nat.le_of_ble_eq_true rfl, Nat.le_of_ble_eq_true rfl⟩ (Nat.le_of_ble_eq_true rfl) dX5_cheatedSet_46 ⟨Nat.le_of_ble_eq_true rfl, Nat.le_of_ble_eq_true rfl⟩) ?_
          refine q_iald (f := S 31) (i := (t * 8 + i)) hx hb hE hP 31 rfl (by omega) (Nat.le_of_ble_eq_true rfl) dX5_cheatedSet_49 ?_
          refine lv_ior hx hb dX5_cheatedSet_50 ?_
          refine lv_istore_n (lv' := [(3, .int ((p_cheat S 25 t i) ||| (S 31 (t * 8 + i)))), (4, .int (nI i)), (0, .ref (ad 0)), (1, .ref (ad 25)), (2, .int (nI t))]) hx hb dX5_cheatedSet_51 rfl hl (by decide) rfl (fun ls hl => ?_)
          refine lv_iinc (v := nI (i + 1)) (lv' := [(4, .int (nI (i + 1))), (3, .int ((p_cheat S 25 t i) ||| (S 31 (t * 8 + i)))), (0, .ref (ad 0)), (1, .ref (ad 25)), (2, .int (nI t))]) hx hb dX5_cheatedSet_52 hl (k := 1) rfl (nI_1 i) (by decide) rfl (fun ls hl => ?_)
          refine lv_goto (tgt := 5) hx hb dX5_cheatedSet_55 (by decide) ?_
          refine ih_5 (i + 1) (by omega) (by omega)  ls ?_
          rw [show p_cheat S 25 t (i + 1) = (p_cheat S 25 t i) ||| (S 31 (t * 8 + i)) from by first | (simp only [bI, p_cheat, c_1, c_2, ↓reduceIte]; done) | (simp [bI, p_cheat, c_1, c_2]; done) | (simp_all [bI, p_cheat]; done)]
          exact lv_sub hl [0, 1, 2, 3, 4] rfl
  refine hloop_5 (cT S + 1) 0 (by omega) (by omega)  ls ?_
  rw [show p_cheat S 25 t 0 = 0 from by first | rfl | (first | (simp only [bI, p_cheat, ↓reduceIte]; done) | (simp [bI, p_cheat]; done) | (simp_all [bI, p_cheat]; done))]
  exact lv_sub hl [0, 1, 2, 3, 4] rfl


set_option maxHeartbeats 4000000 in
set_option maxRecDepth 100000 in
theorem c_X5_voidSet_25 (l : Launch) (D : va_G) (cI cZ cL : ClassId) (ad : Nat → Nat) (S : Mem) (t : Nat) (hI : I0 S) (ht : t < 8) : RD l D cI cZ cL yX5_voidSet cX5_voidSet 3 (some .int) 3 [.ref (ad 0), .ref (ad 25), .int (nI t)] (wC ad cI S) (some (.int (p_void S 25 t))) := by
  refine RD.of (by decide) (Nat.le_of_ble_eq_true rfl) ?_
  intro p e s m args below meth c ls hx hb hr hml hown hlk hE hP hl
  have hl : lv_has ls 3 [(0, .ref (ad 0)), (1, .ref (ad 25)), (2, .int (nI t))] := hl
  refine lv_aload_n hx hb dX5_voidSet_0 rfl (lv_at hl 0 rfl) ?_
  refine q_get (v := .ref (ad 1)) hx hb hown hE inT_X5 hP 0 rfl rfl 0 (by decide) w_212 rfl dX5_voidSet_1 ?_
  refine lv_aload_n hx hb dX5_voidSet_4 rfl (lv_at hl 0 rfl) ?_
  refine lv_aload_n hx hb dX5_voidSet_5 rfl (lv_at hl 1 rfl) ?_
  refine lv_iload_n hx hb dX5_voidSet_6 rfl (lv_at hl 2 rfl) ?_
  refine q_rd (q_runV (rest := [.ref (ad 1)]) hx hb hml hown hE (c_X5_cheatedSet_25 l D cI cZ cL ad S t hI (by omega)) ck_X5_cheatedSet w_269 hP 0 rfl rfl hl.1 rfl ⟨Nat.le_of_ble_eq_true rfl, Nat.le_of_ble_eq_true rfl⟩ (Nat.le_of_ble_eq_true rfl) dX5_voidSet_7 ⟨Nat.le_of_ble_eq_true rfl, Nat.le_of_ble_eq_true rfl⟩) ?_
  refine lv_aload_n hx hb dX5_voidSet_10 rfl (lv_at hl 1 rfl) ?_
  refine q_getN (v := .ref (ad 26)) hx hb hown hE inT_X2 hP 25 rfl rfl 0 (by decide) w_188 rfl dX5_voidSet_11 ?_
  refine lv_iload_n hx hb dX5_voidSet_14 rfl (lv_at hl 2 rfl) ?_
  refine q_iald (f := S 26) (i := t) hx hb hE hP 26 rfl (by omega) (Nat.le_of_ble_eq_true rfl) dX5_voidSet_15 ?_
  refine lv_iand hx hb dX5_voidSet_16 ?_
  refine q_rd (q_runVN (rest := []) hx hb hml hown hE (c_X3_spread l D cI cZ cL ad S ((p_cheat S 25 t (cT S)) &&& (S 26 t)) hI) ck_X3_spread w_283 hP 1 rfl rfl hl.1 rfl ⟨Nat.le_of_ble_eq_true rfl, Nat.le_of_ble_eq_true rfl⟩ (Nat.le_of_ble_eq_true rfl) dX5_voidSet_17 ⟨Nat.le_of_ble_eq_true rfl, Nat.le_of_ble_eq_true rfl⟩) ?_
  refine lv_aload_n hx hb dX5_voidSet_20 rfl (lv_at hl 1 rfl) ?_
  refine q_getN (v := .ref (ad 26)) hx hb hown hE inT_X2 hP 25 rfl rfl 0 (by decide) w_188 rfl dX5_voidSet_21 ?_
  refine lv_iload_n hx hb dX5_voidSet_24 rfl (lv_at hl 2 rfl) ?_
  refine q_iald (f := S 26) (i := t) hx hb hE hP 26 rfl (by omega) (Nat.le_of_ble_eq_true rfl) dX5_voidSet_25 ?_
  refine lv_iand hx hb dX5_voidSet_26 ?_
  refine q_top (y := p_void S 25 t) (by rfl) ?_
  exact e_ret hx hb hr hlk rfl dX5_voidSet_27


set_option maxHeartbeats 4000000 in
set_option maxRecDepth 100000 in
theorem c_X5_countingSet_25 (l : Launch) (D : va_G) (cI cZ cL : ClassId) (ad : Nat → Nat) (S : Mem) (t : Nat) (hI : I0 S) (ht : t < 8) : RD l D cI cZ cL yX5_countingSet cX5_countingSet 3 (some .int) 4 [.ref (ad 0), .ref (ad 25), .int (nI t)] (wC ad cI S) (some (.int (p_count S 25 t))) := by
  refine RD.of (by decide) (Nat.le_of_ble_eq_true rfl) ?_
  intro p e s m args below meth c ls hx hb hr hml hown hlk hE hP hl
  have hl : lv_has ls 3 [(0, .ref (ad 0)), (1, .ref (ad 25)), (2, .int (nI t))] := hl
  refine lv_aload_n hx hb dX5_countingSet_0 rfl (lv_at hl 1 rfl) ?_
  refine q_getN (v := .ref (ad 26)) hx hb hown hE inT_X2 hP 25 rfl rfl 0 (by decide) w_188 rfl dX5_countingSet_1 ?_
  refine lv_iload_n hx hb dX5_countingSet_4 rfl (lv_at hl 2 rfl) ?_
  refine q_iald (f := S 26) (i := t) hx hb hE hP 26 rfl (by omega) (Nat.le_of_ble_eq_true rfl) dX5_countingSet_5 ?_
  refine lv_aload_n hx hb dX5_countingSet_6 rfl (lv_at hl 0 rfl) ?_
  refine lv_aload_n hx hb dX5_countingSet_7 rfl (lv_at hl 1 rfl) ?_
  refine lv_iload_n hx hb dX5_countingSet_8 rfl (lv_at hl 2 rfl) ?_
  refine q_rd (q_runV (rest := [.int (S 26 t)]) hx hb hml hown hE (c_X5_voidSet_25 l D cI cZ cL ad S t hI (by omega)) ck_X5_voidSet w_265 hP 0 rfl rfl hl.1 rfl ⟨Nat.le_of_ble_eq_true rfl, Nat.le_of_ble_eq_true rfl⟩ (Nat.le_of_ble_eq_true rfl) dX5_countingSet_9 ⟨Nat.le_of_ble_eq_true rfl, Nat.le_of_ble_eq_true rfl⟩) ?_
  refine lv_iconst (v := (-1)) hx hb dX5_countingSet_12 (by decide) ?_
  refine lv_ixor hx hb dX5_countingSet_13 ?_
  refine lv_iand hx hb dX5_countingSet_14 ?_
  refine lv_aload_n hx hb dX5_countingSet_15 rfl (lv_at hl 0 rfl) ?_
  refine lv_aload_n hx hb dX5_countingSet_16 rfl (lv_at hl 1 rfl) ?_
  refine q_rd (q_runV (rest := [.int ((S 26 t) &&& ((p_void S 25 t) ^^^ (-1)))]) hx hb hml hown hE (c_X5_freeSet_25 l D cI cZ cL ad S hI) ck_X5_freeSet w_290 hP 0 rfl rfl hl.1 rfl ⟨Nat.le_of_ble_eq_true rfl, Nat.le_of_ble_eq_true rfl⟩ (Nat.le_of_ble_eq_true rfl) dX5_countingSet_17 ⟨Nat.le_of_ble_eq_true rfl, Nat.le_of_ble_eq_true rfl⟩) ?_
  refine lv_iconst (v := (-1)) hx hb dX5_countingSet_20 (by decide) ?_
  refine lv_ixor hx hb dX5_countingSet_21 ?_
  refine lv_iand hx hb dX5_countingSet_22 ?_
  refine q_top (y := p_count S 25 t) (by rfl) ?_
  exact e_ret hx hb hr hlk rfl dX5_countingSet_23


set_option maxHeartbeats 4000000 in
set_option maxRecDepth 100000 in
theorem c_X5_sumUp_25 (l : Launch) (D : va_G) (cI cZ cL : ClassId) (ad : Nat → Nat) (S : Mem) (t : Nat) (cnt : Int32) (hI : I0 S) (ht : t < 8) : RD l D cI cZ cL yX5_sumUp cX5_sumUp 7 (some .int) 1 [.ref (ad 0), .ref (ad 25), .int (nI t), .int cnt] (wC ad cI S) (some (.int (p_sumUp S 25 t cnt))) := by
  refine RD.of (by decide) (Nat.le_of_ble_eq_true rfl) ?_
  intro p e s m args below meth c ls hx hb hr hml hown hlk hE hP hl
  have hl : lv_has ls 7 [(0, .ref (ad 0)), (1, .ref (ad 25)), (2, .int (nI t)), (3, .int cnt)] := hl
  have hT8 := hI.T8
  have hR16 := hI.R16
  have hN200 := hI.N200
  refine lv_aload_n hx hb dX5_sumUp_0 rfl (lv_at hl 0 rfl) ?_
  refine lv_aload_n hx hb dX5_sumUp_1 rfl (lv_at hl 1 rfl) ?_
  refine q_rd (q_runV (rest := []) hx hb hml hown hE (c_X5_freeSet_25 l D cI cZ cL ad S hI) ck_X5_freeSet w_290 hP 0 rfl rfl hl.1 rfl ⟨Nat.le_of_ble_eq_true rfl, Nat.le_of_ble_eq_true rfl⟩ (Nat.le_of_ble_eq_true rfl) dX5_sumUp_2 ⟨Nat.le_of_ble_eq_true rfl, Nat.le_of_ble_eq_true rfl⟩) ?_
  refine lv_istore (lv' := [(4, .int (p_free S 25 (cT S))), (0, .ref (ad 0)), (1, .ref (ad 25)), (2, .int (nI t)), (3, .int cnt)]) hx hb dX5_sumUp_5 hl (by decide) rfl (fun ls hl => ?_)
  refine lv_iconst (v := 0) hx hb dX5_sumUp_7 (by decide) ?_
  refine lv_istore (lv' := [(5, .int 0), (4, .int (p_free S 25 (cT S))), (0, .ref (ad 0)), (1, .ref (ad 25)), (2, .int (nI t)), (3, .int cnt)]) hx hb dX5_sumUp_8 hl (by decide) rfl (fun ls hl => ?_)
  refine lv_iconst (v := 0) hx hb dX5_sumUp_10 (by decide) ?_
  refine lv_istore (lv' := [(6, .int 0), (5, .int 0), (4, .int (p_free S 25 (cT S))), (0, .ref (ad 0)), (1, .ref (ad 25)), (2, .int (nI t)), (3, .int cnt)]) hx hb dX5_sumUp_11 hl (by decide) rfl (fun ls hl => ?_)
  have hloop_13 : ∀ (n i : Nat), i ≤ cR S → cR S < i + n → ∀ ls : Array Slot, lv_has ls 7 [(6, .int (nI i)), (5, .int (p_sum S 25 t cnt (p_free S 25 (cT S)) i)), (4, .int (p_free S 25 (cT S))), (0, .ref (ad 0)), (1, .ref (ad 25)), (2, .int (nI t)), (3, .int cnt)] → W p l e (rm 1 0 0) s m args below meth c s.heap [] 0 0 (MQ below (Qrd (some (.int (p_sumUp S 25 t cnt)))) args s 0 0 q_no) (F0 m 13 ls []) := by
    intro n
    induction n with
    | zero => intro i h1 h2; exact absurd h2 (by omega)
    | succ n ih_13 =>
      intro i hi_13 hin_13  ls hl
      refine lv_iload hx hb dX5_sumUp_13 (lv_at hl 0 rfl) ?_
      refine lv_aload_n hx hb dX5_sumUp_15 rfl (lv_at hl 3 rfl) ?_
      refine q_get (v := .ref (ad 1)) hx hb hown hE inT_X5 hP 0 rfl rfl 0 (by decide) w_212 rfl dX5_sumUp_16 ?_
      refine q_getN (v := .int (S 1 6)) hx hb hown hE inT_X3 hP 1 rfl rfl 6 (by decide) w_104 rfl dX5_sumUp_19 ?_
      refine q_top (y := nI (cR S)) (I0.R hI) ?_
      refine lv_icmp_ge (tgt := 81) hx hb dX5_sumUp_22 (by decide) (fun c_1 => ?_) (fun c_1 => ?_)
      · skip
        have c_1 : (cR S) ≤ i := n_le (a := cR S) (b := i) (by omega) (by omega) c_1
        have hend_13 : cR S = i := by omega
        subst hend_13
        refine lv_iload hx hb dX5_sumUp_81 (lv_at hl 1 rfl) ?_
        refine q_top (y := p_sumUp S 25 t cnt) (by rfl) ?_
        exact e_ret hx hb hr hlk rfl dX5_sumUp_83
      · skip
        have c_1 : i < (cR S) := n_nle (a := cR S) (b := i) (by omega) (by omega) c_1
        refine lv_iload_n hx hb dX5_sumUp_25 rfl (lv_at hl 6 rfl) ?_
        refine lv_iload hx hb dX5_sumUp_26 (lv_at hl 0 rfl) ?_
        refine q_rd (q_runS (rest := []) hx hb hml hown hE (c_X5_has l D cI cZ cL _ cnt (nI i)) ck_X5_has w_298 hP hl.1 rfl ⟨Nat.le_of_ble_eq_true rfl, Nat.le_of_ble_eq_true rfl⟩ (Nat.le_of_ble_eq_true rfl) dX5_sumUp_28 ⟨Nat.le_of_ble_eq_true rfl, Nat.le_of_ble_eq_true rfl⟩) ?_
        refine lv_if_eq (tgt := 49) hx hb dX5_sumUp_31 (by decide) (fun c_2 => ?_) (fun c_2 => ?_)
        · skip
          have c_2 : hs cnt (nI i) = false := b_f c_2
          refine lv_iload hx hb dX5_sumUp_49 (lv_at hl 2 rfl) ?_
          refine lv_iload hx hb dX5_sumUp_51 (lv_at hl 0 rfl) ?_
          refine q_rd (q_runS (rest := []) hx hb hml hown hE (c_X5_has l D cI cZ cL _ (p_free S 25 (cT S)) (nI i)) ck_X5_has w_298 hP hl.1 rfl ⟨Nat.le_of_ble_eq_true rfl, Nat.le_of_ble_eq_true rfl⟩ (Nat.le_of_ble_eq_true rfl) dX5_sumUp_53 ⟨Nat.le_of_ble_eq_true rfl, Nat.le_of_ble_eq_true rfl⟩) ?_
          refine lv_if_ne (tgt := 75) hx hb dX5_sumUp_56 (by decide) (fun c_3 => ?_) (fun c_3 => ?_)
          · skip
            have c_3 : hs (p_free S 25 (cT S)) (nI i) = true := b_t c_3
            refine lv_iinc (v := nI (i + 1)) (lv' := [(6, .int (nI (i + 1))), (5, .int (p_sum S 25 t cnt (p_free S 25 (cT S)) i)), (4, .int (p_free S 25 (cT S))), (0, .ref (ad 0)), (1, .ref (ad 25)), (2, .int (nI t)), (3, .int cnt)]) hx hb dX5_sumUp_75 hl (k := 0) rfl (nI_1 i) (by decide) rfl (fun ls hl => ?_)
            refine lv_goto (tgt := 13) hx hb dX5_sumUp_78 (by decide) ?_
            refine ih_13 (i + 1) (by omega) (by omega)  ls ?_
            rw [show p_sum S 25 t cnt (p_free S 25 (cT S)) (i + 1) = p_sum S 25 t cnt (p_free S 25 (cT S)) i from by first | (simp only [bI, p_sum, c_1, c_2, c_3, ↓reduceIte]; done) | (simp [bI, p_sum, c_1, c_2, c_3]; done) | (simp_all [bI, p_sum]; done)]
            exact lv_sub hl [0, 1, 2, 3, 4, 5, 6] rfl
          · skip
            have c_3 : hs (p_free S 25 (cT S)) (nI i) = false := b_f c_3
            refine lv_iload hx hb dX5_sumUp_59 (lv_at hl 1 rfl) ?_
            refine lv_aload_n hx hb dX5_sumUp_61 rfl (lv_at hl 4 rfl) ?_
            refine q_getN (v := .ref (ad 29)) hx hb hown hE inT_X2 hP 25 rfl rfl 3 (by decide) w_194 rfl dX5_sumUp_62 ?_
            refine lv_iload_n hx hb dX5_sumUp_65 rfl (lv_at hl 5 rfl) ?_
            refine lv_iload hx hb dX5_sumUp_66 (lv_at hl 0 rfl) ?_
            refine q_rd (q_runS (rest := [.ref (ad 29), .int (p_sum S 25 t cnt (p_free S 25 (cT S)) i)]) hx hb hml hown hE (c_X5_cell l D cI cZ cL _ t i) ck_X5_cell w_299 hP hl.1 rfl ⟨Nat.le_of_ble_eq_true rfl, Nat.le_of_ble_eq_true rfl⟩ (Nat.le_of_ble_eq_true rfl) dX5_sumUp_68 ⟨Nat.le_of_ble_eq_true rfl, Nat.le_of_ble_eq_true rfl⟩) ?_
            refine q_iald (f := S 29) (i := (t * 16 + i)) hx hb hE hP 29 rfl (by omega) (Nat.le_of_ble_eq_true rfl) dX5_sumUp_71 ?_
            refine lv_isub hx hb dX5_sumUp_72 ?_
            refine lv_istore (lv' := [(5, .int ((p_sum S 25 t cnt (p_free S 25 (cT S)) i) - (S 29 (t * 16 + i)))), (6, .int (nI i)), (4, .int (p_free S 25 (cT S))), (0, .ref (ad 0)), (1, .ref (ad 25)), (2, .int (nI t)), (3, .int cnt)]) hx hb dX5_sumUp_73 hl (by decide) rfl (fun ls hl => ?_)
            refine lv_iinc (v := nI (i + 1)) (lv' := [(6, .int (nI (i + 1))), (5, .int ((p_sum S 25 t cnt (p_free S 25 (cT S)) i) - (S 29 (t * 16 + i)))), (4, .int (p_free S 25 (cT S))), (0, .ref (ad 0)), (1, .ref (ad 25)), (2, .int (nI t)), (3, .int cnt)]) hx hb dX5_sumUp_75 hl (k := 1) rfl (nI_1 i) (by decide) rfl (fun ls hl => ?_)
            refine lv_goto (tgt := 13) hx hb dX5_sumUp_78 (by decide) ?_
            refine ih_13 (i + 1) (by omega) (by omega)  ls ?_
            rw [show p_sum S 25 t cnt (p_free S 25 (cT S)) (i + 1) = (p_sum S 25 t cnt (p_free S 25 (cT S)) i) - (S 29 (t * 16 + i)) from by first | (simp only [bI, p_sum, c_1, c_2, c_3, ↓reduceIte]; done) | (simp [bI, p_sum, c_1, c_2, c_3]; done) | (simp_all [bI, p_sum]; done)]
            exact lv_sub hl [0, 1, 2, 3, 4, 5, 6] rfl
        · skip
          have c_2 : hs cnt (nI i) = true := b_t c_2
          refine lv_iload hx hb dX5_sumUp_34 (lv_at hl 1 rfl) ?_
          refine lv_aload_n hx hb dX5_sumUp_36 rfl (lv_at hl 3 rfl) ?_
          refine q_get (v := .ref (ad 1)) hx hb hown hE inT_X5 hP 0 rfl rfl 0 (by decide) w_212 rfl dX5_sumUp_37 ?_
          refine q_getN (v := .ref (ad 2)) hx hb hown hE inT_X3 hP 1 rfl rfl 0 (by decide) w_93 rfl dX5_sumUp_40 ?_
          refine lv_iload hx hb dX5_sumUp_43 (lv_at hl 0 rfl) ?_
          refine q_iald (f := S 2) (i := i) hx hb hE hP 2 rfl (by omega) (Nat.le_of_ble_eq_true rfl) dX5_sumUp_45 ?_
          refine lv_iadd hx hb dX5_sumUp_46 ?_
          refine lv_istore (lv' := [(5, .int ((p_sum S 25 t cnt (p_free S 25 (cT S)) i) + (S 2 i))), (6, .int (nI i)), (4, .int (p_free S 25 (cT S))), (0, .ref (ad 0)), (1, .ref (ad 25)), (2, .int (nI t)), (3, .int cnt)]) hx hb dX5_sumUp_47 hl (by decide) rfl (fun ls hl => ?_)
          refine lv_iload hx hb dX5_sumUp_49 (lv_at hl 2 rfl) ?_
          refine lv_iload hx hb dX5_sumUp_51 (lv_at hl 1 rfl) ?_
          refine q_rd (q_runS (rest := []) hx hb hml hown hE (c_X5_has l D cI cZ cL _ (p_free S 25 (cT S)) (nI i)) ck_X5_has w_298 hP hl.1 rfl ⟨Nat.le_of_ble_eq_true rfl, Nat.le_of_ble_eq_true rfl⟩ (Nat.le_of_ble_eq_true rfl) dX5_sumUp_53 ⟨Nat.le_of_ble_eq_true rfl, Nat.le_of_ble_eq_true rfl⟩) ?_
          refine lv_if_ne (tgt := 75) hx hb dX5_sumUp_56 (by decide) (fun c_4 => ?_) (fun c_4 => ?_)
          · skip
            have c_4 : hs (p_free S 25 (cT S)) (nI i) = true := b_t c_4
            refine lv_iinc (v := nI (i + 1)) (lv' := [(6, .int (nI (i + 1))), (5, .int ((p_sum S 25 t cnt (p_free S 25 (cT S)) i) + (S 2 i))), (4, .int (p_free S 25 (cT S))), (0, .ref (ad 0)), (1, .ref (ad 25)), (2, .int (nI t)), (3, .int cnt)]) hx hb dX5_sumUp_75 hl (k := 1) rfl (nI_1 i) (by decide) rfl (fun ls hl => ?_)
            refine lv_goto (tgt := 13) hx hb dX5_sumUp_78 (by decide) ?_
            refine ih_13 (i + 1) (by omega) (by omega)  ls ?_
            rw [show p_sum S 25 t cnt (p_free S 25 (cT S)) (i + 1) = (p_sum S 25 t cnt (p_free S 25 (cT S)) i) + (S 2 i) from by first | (simp only [bI, p_sum, c_1, c_2, c_4, ↓reduceIte]; done) | (simp [bI, p_sum, c_1, c_2, c_4]; done) | (simp_all [bI, p_sum]; done)]
            exact lv_sub hl [0, 1, 2, 3, 4, 5, 6] rfl
          · skip
            have c_4 : hs (p_free S 25 (cT S)) (nI i) = false := b_f c_4
            refine lv_iload hx hb dX5_sumUp_59 (lv_at hl 0 rfl) ?_
            refine lv_aload_n hx hb dX5_sumUp_61 rfl (lv_at hl 4 rfl) ?_
            refine q_getN (v := .ref (ad 29)) hx hb hown hE inT_X2 hP 25 rfl rfl 3 (by decide) w_194 rfl dX5_sumUp_62 ?_
            refine lv_iload_n hx hb dX5_sumUp_65 rfl (lv_at hl 5 rfl) ?_
            refine lv_iload hx hb dX5_sumUp_66 (lv_at hl 1 rfl) ?_
            refine q_rd (q_runS (rest := [.ref (ad 29), .int ((p_sum S 25 t cnt (p_free S 25 (cT S)) i) + (S 2 i))]) hx hb hml hown hE (c_X5_cell l D cI cZ cL _ t i) ck_X5_cell w_299 hP hl.1 rfl ⟨Nat.le_of_ble_eq_true rfl, Nat.le_of_ble_eq_true rfl⟩ (Nat.le_of_ble_eq_true rfl) dX5_sumUp_68 ⟨Nat.le_of_ble_eq_true rfl, Nat.le_of_ble_eq_true rfl⟩) ?_
            refine q_iald (f := S 29) (i := (t * 16 + i)) hx hb hE hP 29 rfl (by omega) (Nat.le_of_ble_eq_true rfl) dX5_sumUp_71 ?_
            refine lv_isub hx hb dX5_sumUp_72 ?_
            refine lv_istore (lv' := [(5, .int (((p_sum S 25 t cnt (p_free S 25 (cT S)) i) + (S 2 i)) - (S 29 (t * 16 + i)))), (6, .int (nI i)), (4, .int (p_free S 25 (cT S))), (0, .ref (ad 0)), (1, .ref (ad 25)), (2, .int (nI t)), (3, .int cnt)]) hx hb dX5_sumUp_73 hl (by decide) rfl (fun ls hl => ?_)
            refine lv_iinc (v := nI (i + 1)) (lv' := [(6, .int (nI (i + 1))), (5, .int (((p_sum S 25 t cnt (p_free S 25 (cT S)) i) + (S 2 i)) - (S 29 (t * 16 + i)))), (4, .int (p_free S 25 (cT S))), (0, .ref (ad 0)), (1, .ref (ad 25)), (2, .int (nI t)), (3, .int cnt)]) hx hb dX5_sumUp_75 hl (k := 1) rfl (nI_1 i) (by decide) rfl (fun ls hl => ?_)
            refine lv_goto (tgt := 13) hx hb dX5_sumUp_78 (by decide) ?_
            refine ih_13 (i + 1) (by omega) (by omega)  ls ?_
            rw [show p_sum S 25 t cnt (p_free S 25 (cT S)) (i + 1) = ((p_sum S 25 t cnt (p_free S 25 (cT S)) i) + (S 2 i)) - (S 29 (t * 16 + i)) from by first | (simp only [bI, p_sum, c_1, c_2, c_4, ↓reduceIte]; done) | (simp [bI, p_sum, c_1, c_2, c_4]; done) | (simp_all [bI, p_sum]; done)]
            exact lv_sub hl [0, 1, 2, 3, 4, 5, 6] rfl
  refine hloop_13 (cR S + 1) 0 (by omega) (by omega)  ls ?_
  rw [show p_sum S 25 t cnt (p_free S 25 (cT S)) 0 = 0 from by first | rfl | (first | (simp only [bI, p_sum, ↓reduceIte]; done) | (simp [bI, p_sum]; done) | (simp_all [bI, p_sum]; done))]
  exact lv_sub hl [0, 1, 2, 3, 4, 5, 6] rfl

theorem dX5_isUnderWay_0 : decode cX5_isUnderWay 0 = .ok (.aload_n 0, 1) := by decide +kernel
theorem dX5_isUnderWay_1 : decode cX5_isUnderWay 1 = .ok (.getfield 72, 3) := by decide +kernel
theorem dX5_isUnderWay_4 : decode cX5_isUnderWay 4 = .ok (.ifCond .ne 37, 3) := by decide +kernel
theorem dX5_isUnderWay_7 : decode cX5_isUnderWay 7 = .ok (.aload_n 0, 1) := by decide +kernel
theorem dX5_isUnderWay_8 : decode cX5_isUnderWay 8 = .ok (.aload_n 0, 1) := by decide +kernel
theorem dX5_isUnderWay_9 : decode cX5_isUnderWay 9 = .ok (.getfield 40, 3) := by decide +kernel
theorem dX5_isUnderWay_12 : decode cX5_isUnderWay 12 = .ok (.iload_n 1, 1) := by decide +kernel
theorem dX5_isUnderWay_13 : decode cX5_isUnderWay 13 = .ok (.iload_n 2, 1) := by decide +kernel
theorem dX5_isUnderWay_14 : decode cX5_isUnderWay 14 = .ok (.invokevirtual 162, 3) := by decide +kernel
theorem dX5_isUnderWay_17 : decode cX5_isUnderWay 17 = .ok (.iconst (-1), 1) := by decide +kernel
theorem dX5_isUnderWay_18 : decode cX5_isUnderWay 18 = .ok (.if_icmp .eq 23, 3) := by decide +kernel
theorem dX5_isUnderWay_21 : decode cX5_isUnderWay 21 = .ok (.aload_n 0, 1) := by decide +kernel
theorem dX5_isUnderWay_22 : decode cX5_isUnderWay 22 = .ok (.getfield 40, 3) := by decide +kernel
theorem dX5_isUnderWay_25 : decode cX5_isUnderWay 25 = .ok (.getfield 171, 3) := by decide +kernel
theorem dX5_isUnderWay_28 : decode cX5_isUnderWay 28 = .ok (.iload_n 1, 1) := by decide +kernel
theorem dX5_isUnderWay_29 : decode cX5_isUnderWay 29 = .ok (.iaload, 1) := by decide +kernel
theorem dX5_isUnderWay_30 : decode cX5_isUnderWay 30 = .ok (.iload_n 2, 1) := by decide +kernel
theorem dX5_isUnderWay_31 : decode cX5_isUnderWay 31 = .ok (.invokestatic 97, 3) := by decide +kernel
theorem dX5_isUnderWay_34 : decode cX5_isUnderWay 34 = .ok (.ifCond .ne 7, 3) := by decide +kernel
theorem dX5_isUnderWay_37 : decode cX5_isUnderWay 37 = .ok (.iconst 1, 1) := by decide +kernel
theorem dX5_isUnderWay_38 : decode cX5_isUnderWay 38 = .ok (.goto 4, 3) := by decide +kernel
theorem dX5_isUnderWay_41 : decode cX5_isUnderWay 41 = .ok (.iconst 0, 1) := by decide +kernel
theorem dX5_isUnderWay_42 : decode cX5_isUnderWay 42 = .ok (.ireturn, 1) := by decide +kernel
set_option maxHeartbeats 4000000 in
set_option maxRecDepth 100000 in
theorem c_X5_isUnderWay (l : Launch) (D : va_G) (cI cZ cL : ClassId) (ad : Nat → Nat) (S : Mem) (t : Nat) (r : Nat) (ht : t < 8) (hr : r < 16) : RD l D cI cZ cL yX5_isUnderWay cX5_isUnderWay 3 (some .boolean) 3 [.ref (ad 0), .int (nI t), .int (nI r)] (wC ad cI S) (some (.int (bI (p_under S t r)))) := by
  refine RD.of (by decide) (Nat.le_of_ble_eq_true rfl) ?_
  intro p e s m args below meth c ls hx hb hr hml hown hlk hE hP hl
  have hl : lv_has ls 3 [(0, .ref (ad 0)), (1, .int (nI t)), (2, .int (nI r))] := hl
  refine lv_aload_n hx hb dX5_isUnderWay_0 rfl (lv_at hl 0 rfl) ?_
  refine q_get (v := .int (S 0 11)) hx hb hown hE inT_X5 hP 0 rfl rfl 11 (by decide) w_223 rfl dX5_isUnderWay_1 ?_
  refine lv_if_ne (tgt := 41) hx hb dX5_isUnderWay_4 (by decide) (fun c_1 => ?_) (fun c_1 => ?_)
  · skip
    refine lv_iconst (v := 0) hx hb dX5_isUnderWay_41 (by decide) ?_
    refine q_top (y := bI (p_under S t r)) (by first | (simp only [bI, p_under, c_1, ↓reduceIte]; done) | (simp [bI, p_under, c_1]; done) | (simp_all [bI, p_under]; done)) ?_
    exact e_ret hx hb hr hlk (n_bI _) dX5_isUnderWay_42
  · skip
    refine lv_aload_n hx hb dX5_isUnderWay_7 rfl (lv_at hl 0 rfl) ?_
    refine lv_aload_n hx hb dX5_isUnderWay_8 rfl (lv_at hl 0 rfl) ?_
    refine q_get (v := .ref (ad 18)) hx hb hown hE inT_X5 hP 0 rfl rfl 4 (by decide) w_216 rfl dX5_isUnderWay_9 ?_
    refine lv_iload_n hx hb dX5_isUnderWay_12 rfl (lv_at hl 1 rfl) ?_
    refine lv_iload_n hx hb dX5_isUnderWay_13 rfl (lv_at hl 2 rfl) ?_
    refine q_rd (q_runV (rest := []) hx hb hml hown hE (c_X5_openMinute_18 l D cI cZ cL ad S t r (by omega) (by omega)) ck_X5_openMinute w_497 hP 0 rfl rfl hl.1 rfl ⟨Nat.le_of_ble_eq_true rfl, Nat.le_of_ble_eq_true rfl⟩ (Nat.le_of_ble_eq_true rfl) dX5_isUnderWay_14 ⟨Nat.le_of_ble_eq_true rfl, Nat.le_of_ble_eq_true rfl⟩) ?_
    refine lv_iconst (v := (-1)) hx hb dX5_isUnderWay_17 (by decide) ?_
    refine lv_icmp_eq (tgt := 41) hx hb dX5_isUnderWay_18 (by decide) (fun c_2 => ?_) (fun c_2 => ?_)
    · skip
      refine lv_iconst (v := 0) hx hb dX5_isUnderWay_41 (by decide) ?_
      refine q_top (y := bI (p_under S t r)) (by first | (simp only [bI, p_under, c_1, c_2, ↓reduceIte]; done) | (simp [bI, p_under, c_1, c_2]; done) | (simp_all [bI, p_under]; done)) ?_
      exact e_ret hx hb hr hlk (n_bI _) dX5_isUnderWay_42
    · skip
      refine lv_aload_n hx hb dX5_isUnderWay_21 rfl (lv_at hl 0 rfl) ?_
      refine q_get (v := .ref (ad 18)) hx hb hown hE inT_X5 hP 0 rfl rfl 4 (by decide) w_216 rfl dX5_isUnderWay_22 ?_
      refine q_getN (v := .ref (ad 19)) hx hb hown hE inT_X2 hP 18 rfl rfl 0 (by decide) w_188 rfl dX5_isUnderWay_25 ?_
      refine lv_iload_n hx hb dX5_isUnderWay_28 rfl (lv_at hl 1 rfl) ?_
      refine q_iald (f := S 19) (i := t) hx hb hE hP 19 rfl (by omega) (Nat.le_of_ble_eq_true rfl) dX5_isUnderWay_29 ?_
      refine lv_iload_n hx hb dX5_isUnderWay_30 rfl (lv_at hl 2 rfl) ?_
      refine q_rd (q_runS (rest := []) hx hb hml hown hE (c_X5_has l D cI cZ cL _ (S 19 t) (nI r)) ck_X5_has w_298 hP hl.1 rfl ⟨Nat.le_of_ble_eq_true rfl, Nat.le_of_ble_eq_true rfl⟩ (Nat.le_of_ble_eq_true rfl) dX5_isUnderWay_31 ⟨Nat.le_of_ble_eq_true rfl, Nat.le_of_ble_eq_true rfl⟩) ?_
      refine lv_if_ne (tgt := 41) hx hb dX5_isUnderWay_34 (by decide) (fun c_3 => ?_) (fun c_3 => ?_)
      · skip
        have c_3 : hs (S 19 t) (nI r) = true := b_t c_3
        refine lv_iconst (v := 0) hx hb dX5_isUnderWay_41 (by decide) ?_
        refine q_top (y := bI (p_under S t r)) (by first | (simp only [bI, p_under, c_1, c_2, c_3, ↓reduceIte]; done) | (simp [bI, p_under, c_1, c_2, c_3]; done) | (simp_all [bI, p_under]; done)) ?_
        exact e_ret hx hb hr hlk (n_bI _) dX5_isUnderWay_42
      · skip
        have c_3 : hs (S 19 t) (nI r) = false := b_f c_3
        refine lv_iconst (v := 1) hx hb dX5_isUnderWay_37 (by decide) ?_
        refine lv_goto (tgt := 42) hx hb dX5_isUnderWay_38 (by decide) ?_
        refine q_top (y := bI (p_under S t r)) (by first | (simp only [bI, p_under, c_1, c_2, c_3, ↓reduceIte]; done) | (simp [bI, p_under, c_1, c_2, c_3]; done) | (simp_all [bI, p_under]; done)) ?_
        exact e_ret hx hb hr hlk (n_bI _) dX5_isUnderWay_42

theorem dX5_hasHintsLeft_0 : decode cX5_hasHintsLeft 0 = .ok (.aload_n 0, 1) := by decide +kernel
theorem dX5_hasHintsLeft_1 : decode cX5_hasHintsLeft 1 = .ok (.getfield 26, 3) := by decide +kernel
theorem dX5_hasHintsLeft_4 : decode cX5_hasHintsLeft 4 = .ok (.getfield 260, 3) := by decide +kernel
theorem dX5_hasHintsLeft_7 : decode cX5_hasHintsLeft 7 = .ok (.iload_n 1, 1) := by decide +kernel
theorem dX5_hasHintsLeft_8 : decode cX5_hasHintsLeft 8 = .ok (.iload_n 2, 1) := by decide +kernel
theorem dX5_hasHintsLeft_9 : decode cX5_hasHintsLeft 9 = .ok (.invokestatic 177, 3) := by decide +kernel
theorem dX5_hasHintsLeft_12 : decode cX5_hasHintsLeft 12 = .ok (.iaload, 1) := by decide +kernel
theorem dX5_hasHintsLeft_13 : decode cX5_hasHintsLeft 13 = .ok (.iconst 3, 1) := by decide +kernel
theorem dX5_hasHintsLeft_14 : decode cX5_hasHintsLeft 14 = .ok (.if_icmp .ge 7, 3) := by decide +kernel
theorem dX5_hasHintsLeft_17 : decode cX5_hasHintsLeft 17 = .ok (.iconst 1, 1) := by decide +kernel
theorem dX5_hasHintsLeft_18 : decode cX5_hasHintsLeft 18 = .ok (.goto 4, 3) := by decide +kernel
theorem dX5_hasHintsLeft_21 : decode cX5_hasHintsLeft 21 = .ok (.iconst 0, 1) := by decide +kernel
theorem dX5_hasHintsLeft_22 : decode cX5_hasHintsLeft 22 = .ok (.ireturn, 1) := by decide +kernel
set_option maxHeartbeats 4000000 in
set_option maxRecDepth 100000 in
theorem c_X5_hasHintsLeft (l : Launch) (D : va_G) (cI cZ cL : ClassId) (ad : Nat → Nat) (S : Mem) (t : Nat) (r : Nat) (ht : t < 8) (hr : r < 16) : RD l D cI cZ cL yX5_hasHintsLeft cX5_hasHintsLeft 3 (some .boolean) 1 [.ref (ad 0), .int (nI t), .int (nI r)] (wC ad cI S) (some (.int (bI (p_left S t r)))) := by
  refine RD.of (by decide) (Nat.le_of_ble_eq_true rfl) ?_
  intro p e s m args below meth c ls hx hb hr hml hown hlk hE hP hl
  have hl : lv_has ls 3 [(0, .ref (ad 0)), (1, .int (nI t)), (2, .int (nI r))] := hl
  refine lv_aload_n hx hb dX5_hasHintsLeft_0 rfl (lv_at hl 0 rfl) ?_
  refine q_get (v := .ref (ad 12)) hx hb hown hE inT_X5 hP 0 rfl rfl 2 (by decide) w_214 rfl dX5_hasHintsLeft_1 ?_
  refine q_getN (v := .ref (ad 13)) hx hb hown hE inT_X4 hP 12 rfl rfl 0 (by decide) w_155 rfl dX5_hasHintsLeft_4 ?_
  refine lv_iload_n hx hb dX5_hasHintsLeft_7 rfl (lv_at hl 1 rfl) ?_
  refine lv_iload_n hx hb dX5_hasHintsLeft_8 rfl (lv_at hl 2 rfl) ?_
  refine q_rd (q_runS (rest := [.ref (ad 13)]) hx hb hml hown hE (c_X5_cell l D cI cZ cL _ t r) ck_X5_cell w_299 hP hl.1 rfl ⟨Nat.le_of_ble_eq_true rfl, Nat.le_of_ble_eq_true rfl⟩ (Nat.le_of_ble_eq_true rfl) dX5_hasHintsLeft_9 ⟨Nat.le_of_ble_eq_true rfl, Nat.le_of_ble_eq_true rfl⟩) ?_
  refine q_iald (f := S 13) (i := (t * 16 + r)) hx hb hE hP 13 rfl (by omega) (Nat.le_of_ble_eq_true rfl) dX5_hasHintsLeft_12 ?_
  refine lv_iconst (v := 3) hx hb dX5_hasHintsLeft_13 (by decide) ?_
  refine lv_icmp_ge (tgt := 21) hx hb dX5_hasHintsLeft_14 (by decide) (fun c_1 => ?_) (fun c_1 => ?_)
  · skip
    refine lv_iconst (v := 0) hx hb dX5_hasHintsLeft_21 (by decide) ?_
    refine q_top (y := bI (p_left S t r)) (by first | (simp only [bI, p_left, c_1, ↓reduceIte]; done) | (simp [bI, p_left, c_1]; done) | (simp_all [bI, p_left]; done)) ?_
    exact e_ret hx hb hr hlk (n_bI _) dX5_hasHintsLeft_22
  · skip
    refine lv_iconst (v := 1) hx hb dX5_hasHintsLeft_17 (by decide) ?_
    refine lv_goto (tgt := 22) hx hb dX5_hasHintsLeft_18 (by decide) ?_
    refine q_top (y := bI (p_left S t r)) (by first | (simp only [bI, p_left, c_1, ↓reduceIte]; done) | (simp [bI, p_left, c_1]; done) | (simp_all [bI, p_left]; done)) ?_
    exact e_ret hx hb hr hlk (n_bI _) dX5_hasHintsLeft_22

theorem dX5_nextPrice_0 : decode cX5_nextPrice 0 = .ok (.aload_n 0, 1) := by decide +kernel
theorem dX5_nextPrice_1 : decode cX5_nextPrice 1 = .ok (.getfield 61, 3) := by decide +kernel
theorem dX5_nextPrice_4 : decode cX5_nextPrice 4 = .ok (.aload_n 0, 1) := by decide +kernel
theorem dX5_nextPrice_5 : decode cX5_nextPrice 5 = .ok (.aload_n 0, 1) := by decide +kernel
theorem dX5_nextPrice_6 : decode cX5_nextPrice 6 = .ok (.getfield 40, 3) := by decide +kernel
theorem dX5_nextPrice_9 : decode cX5_nextPrice 9 = .ok (.iload_n 1, 1) := by decide +kernel
theorem dX5_nextPrice_10 : decode cX5_nextPrice 10 = .ok (.iload_n 2, 1) := by decide +kernel
theorem dX5_nextPrice_11 : decode cX5_nextPrice 11 = .ok (.invokevirtual 162, 3) := by decide +kernel
theorem dX5_nextPrice_14 : decode cX5_nextPrice 14 = .ok (.isub, 1) := by decide +kernel
theorem dX5_nextPrice_15 : decode cX5_nextPrice 15 = .ok (.istore_n 3, 1) := by decide +kernel
theorem dX5_nextPrice_16 : decode cX5_nextPrice 16 = .ok (.aload_n 0, 1) := by decide +kernel
theorem dX5_nextPrice_17 : decode cX5_nextPrice 17 = .ok (.getfield 26, 3) := by decide +kernel
theorem dX5_nextPrice_20 : decode cX5_nextPrice 20 = .ok (.iload_n 2, 1) := by decide +kernel
theorem dX5_nextPrice_21 : decode cX5_nextPrice 21 = .ok (.aload_n 0, 1) := by decide +kernel
theorem dX5_nextPrice_22 : decode cX5_nextPrice 22 = .ok (.getfield 26, 3) := by decide +kernel
theorem dX5_nextPrice_25 : decode cX5_nextPrice 25 = .ok (.getfield 260, 3) := by decide +kernel
theorem dX5_nextPrice_28 : decode cX5_nextPrice 28 = .ok (.iload_n 1, 1) := by decide +kernel
theorem dX5_nextPrice_29 : decode cX5_nextPrice 29 = .ok (.iload_n 2, 1) := by decide +kernel
theorem dX5_nextPrice_30 : decode cX5_nextPrice 30 = .ok (.invokestatic 177, 3) := by decide +kernel
theorem dX5_nextPrice_33 : decode cX5_nextPrice 33 = .ok (.iaload, 1) := by decide +kernel
theorem dX5_nextPrice_34 : decode cX5_nextPrice 34 = .ok (.invokevirtual 263, 3) := by decide +kernel
theorem dX5_nextPrice_37 : decode cX5_nextPrice 37 = .ok (.istore 4, 2) := by decide +kernel
theorem dX5_nextPrice_39 : decode cX5_nextPrice 39 = .ok (.iconst 1, 1) := by decide +kernel
theorem dX5_nextPrice_40 : decode cX5_nextPrice 40 = .ok (.aload_n 0, 1) := by decide +kernel
theorem dX5_nextPrice_41 : decode cX5_nextPrice 41 = .ok (.getfield 10, 3) := by decide +kernel
theorem dX5_nextPrice_44 : decode cX5_nextPrice 44 = .ok (.getfield 266, 3) := by decide +kernel
theorem dX5_nextPrice_47 : decode cX5_nextPrice 47 = .ok (.iload_n 2, 1) := by decide +kernel
theorem dX5_nextPrice_48 : decode cX5_nextPrice 48 = .ok (.iaload, 1) := by decide +kernel
theorem dX5_nextPrice_49 : decode cX5_nextPrice 49 = .ok (.iload_n 3, 1) := by decide +kernel
theorem dX5_nextPrice_50 : decode cX5_nextPrice 50 = .ok (.bipush 10, 2) := by decide +kernel
theorem dX5_nextPrice_52 : decode cX5_nextPrice 52 = .ok (.idiv, 1) := by decide +kernel
theorem dX5_nextPrice_53 : decode cX5_nextPrice 53 = .ok (.isub, 1) := by decide +kernel
theorem dX5_nextPrice_54 : decode cX5_nextPrice 54 = .ok (.iload 4, 2) := by decide +kernel
theorem dX5_nextPrice_56 : decode cX5_nextPrice 56 = .ok (.isub, 1) := by decide +kernel
theorem dX5_nextPrice_57 : decode cX5_nextPrice 57 = .ok (.invokestatic 269, 3) := by decide +kernel
theorem dX5_nextPrice_60 : decode cX5_nextPrice 60 = .ok (.ireturn, 1) := by decide +kernel
set_option maxHeartbeats 4000000 in
set_option maxRecDepth 100000 in
theorem c_X5_nextPrice (l : Launch) (D : va_G) (cI cZ cL : ClassId) (ad : Nat → Nat) (S : Mem) (t : Nat) (r : Nat) (ht : t < 8) (hr : r < 16) : RD l D cI cZ cL yX5_nextPrice cX5_nextPrice 5 (some .int) 3 [.ref (ad 0), .int (nI t), .int (nI r)] (wC ad cI S) (some (.int (p_price S t r))) := by
  refine RD.of (by decide) (Nat.le_of_ble_eq_true rfl) ?_
  intro p e s m args below meth c ls hx hb hr hml hown hlk hE hP hl
  have hl : lv_has ls 5 [(0, .ref (ad 0)), (1, .int (nI t)), (2, .int (nI r))] := hl
  refine lv_aload_n hx hb dX5_nextPrice_0 rfl (lv_at hl 0 rfl) ?_
  refine q_get (v := .int (S 0 10)) hx hb hown hE inT_X5 hP 0 rfl rfl 10 (by decide) w_222 rfl dX5_nextPrice_1 ?_
  refine lv_aload_n hx hb dX5_nextPrice_4 rfl (lv_at hl 0 rfl) ?_
  refine lv_aload_n hx hb dX5_nextPrice_5 rfl (lv_at hl 0 rfl) ?_
  refine q_get (v := .ref (ad 18)) hx hb hown hE inT_X5 hP 0 rfl rfl 4 (by decide) w_216 rfl dX5_nextPrice_6 ?_
  refine lv_iload_n hx hb dX5_nextPrice_9 rfl (lv_at hl 1 rfl) ?_
  refine lv_iload_n hx hb dX5_nextPrice_10 rfl (lv_at hl 2 rfl) ?_
  refine q_rd (q_runV (rest := [.int (S 0 10)]) hx hb hml hown hE (c_X5_openMinute_18 l D cI cZ cL ad S t r (by omega) (by omega)) ck_X5_openMinute w_497 hP 0 rfl rfl hl.1 rfl ⟨Nat.le_of_ble_eq_true rfl, Nat.le_of_ble_eq_true rfl⟩ (Nat.le_of_ble_eq_true rfl) dX5_nextPrice_11 ⟨Nat.le_of_ble_eq_true rfl, Nat.le_of_ble_eq_true rfl⟩) ?_
  refine lv_isub hx hb dX5_nextPrice_14 ?_
  refine lv_istore_n (lv' := [(3, .int ((S 0 10) - (p_open S 18 t r))), (0, .ref (ad 0)), (1, .int (nI t)), (2, .int (nI r))]) hx hb dX5_nextPrice_15 rfl hl (by decide) rfl (fun ls hl => ?_)
  refine lv_aload_n hx hb dX5_nextPrice_16 rfl (lv_at hl 1 rfl) ?_
  refine q_get (v := .ref (ad 12)) hx hb hown hE inT_X5 hP 0 rfl rfl 2 (by decide) w_214 rfl dX5_nextPrice_17 ?_
  refine lv_iload_n hx hb dX5_nextPrice_20 rfl (lv_at hl 3 rfl) ?_
  refine lv_aload_n hx hb dX5_nextPrice_21 rfl (lv_at hl 1 rfl) ?_
  refine q_get (v := .ref (ad 12)) hx hb hown hE inT_X5 hP 0 rfl rfl 2 (by decide) w_214 rfl dX5_nextPrice_22 ?_
  refine q_getN (v := .ref (ad 13)) hx hb hown hE inT_X4 hP 12 rfl rfl 0 (by decide) w_155 rfl dX5_nextPrice_25 ?_
  refine lv_iload_n hx hb dX5_nextPrice_28 rfl (lv_at hl 2 rfl) ?_
  refine lv_iload_n hx hb dX5_nextPrice_29 rfl (lv_at hl 3 rfl) ?_
  refine q_rd (q_runS (rest := [.ref (ad 13), .int (nI r), .ref (ad 12)]) hx hb hml hown hE (c_X5_cell l D cI cZ cL _ t r) ck_X5_cell w_299 hP hl.1 rfl ⟨Nat.le_of_ble_eq_true rfl, Nat.le_of_ble_eq_true rfl⟩ (Nat.le_of_ble_eq_true rfl) dX5_nextPrice_30 ⟨Nat.le_of_ble_eq_true rfl, Nat.le_of_ble_eq_true rfl⟩) ?_
  refine q_iald (f := S 13) (i := (t * 16 + r)) hx hb hE hP 13 rfl (by omega) (Nat.le_of_ble_eq_true rfl) dX5_nextPrice_33 ?_
  refine q_rd (q_runVN (rest := []) hx hb hml hown hE (c_X4_countBuyers l D cI cZ cL ad S r (S 13 (t * 16 + r)) (by omega)) ck_X4_countBuyers w_545 hP 12 rfl rfl hl.1 rfl ⟨Nat.le_of_ble_eq_true rfl, Nat.le_of_ble_eq_true rfl⟩ (Nat.le_of_ble_eq_true rfl) dX5_nextPrice_34 ⟨Nat.le_of_ble_eq_true rfl, Nat.le_of_ble_eq_true rfl⟩) ?_
  refine lv_istore (lv' := [(4, .int (nI (p_buy S r (S 13 (t * 16 + r)) 8))), (3, .int ((S 0 10) - (p_open S 18 t r))), (0, .ref (ad 0)), (1, .int (nI t)), (2, .int (nI r))]) hx hb dX5_nextPrice_37 hl (by decide) rfl (fun ls hl => ?_)
  refine lv_iconst (v := 1) hx hb dX5_nextPrice_39 (by decide) ?_
  refine lv_aload_n hx hb dX5_nextPrice_40 rfl (lv_at hl 2 rfl) ?_
  refine q_get (v := .ref (ad 1)) hx hb hown hE inT_X5 hP 0 rfl rfl 0 (by decide) w_212 rfl dX5_nextPrice_41 ?_
  refine q_getN (v := .ref (ad 5)) hx hb hown hE inT_X3 hP 1 rfl rfl 3 (by decide) w_99 rfl dX5_nextPrice_44 ?_
  refine lv_iload_n hx hb dX5_nextPrice_47 rfl (lv_at hl 4 rfl) ?_
  refine q_iald (f := S 5) (i := r) hx hb hE hP 5 rfl (by omega) (Nat.le_of_ble_eq_true rfl) dX5_nextPrice_48 ?_
  refine lv_iload_n hx hb dX5_nextPrice_49 rfl (lv_at hl 1 rfl) ?_
  refine lv_bipush (v := 10) hx hb dX5_nextPrice_50 (by decide) ?_
  refine lv_idiv hx hb dX5_nextPrice_52 (by decide) ?_
  refine lv_isub hx hb dX5_nextPrice_53 ?_
  refine lv_iload hx hb dX5_nextPrice_54 (lv_at hl 0 rfl) ?_
  refine lv_isub hx hb dX5_nextPrice_56 ?_
  refine va_mmax hx hb (hml.trans hl.1.symm) hown (hE.1 _ w_550 args) (hE.1 _ w_309 args) (hE.1 _ w_75 args) (hE.1 _ w_310 args) (Nat.le_of_ble_eq_true rfl) (Nat.le_of_ble_eq_true rfl) (Nat.le_of_ble_eq_true rfl) (Nat.le_of_ble_eq_true rfl) dX5_nextPrice_57 ?_
  refine q_top (y := imax 1 (((S 5 r) - (((S 0 10) - (p_open S 18 t r)) / 10)) - (nI (p_buy S r (S 13 (t * 16 + r)) 8)))) rfl ?_
  refine q_top (y := p_price S t r) (by rfl) ?_
  exact e_ret hx hb hr hlk rfl dX5_nextPrice_60

theorem dX5_isRight_0 : decode cX5_isRight 0 = .ok (.aload_n 0, 1) := by decide +kernel
theorem dX5_isRight_1 : decode cX5_isRight 1 = .ok (.getfield 19, 3) := by decide +kernel
theorem dX5_isRight_4 : decode cX5_isRight 4 = .ok (.getfield 327, 3) := by decide +kernel
theorem dX5_isRight_7 : decode cX5_isRight 7 = .ok (.iload_n 1, 1) := by decide +kernel
theorem dX5_isRight_8 : decode cX5_isRight 8 = .ok (.iaload, 1) := by decide +kernel
theorem dX5_isRight_9 : decode cX5_isRight 9 = .ok (.aload_n 0, 1) := by decide +kernel
theorem dX5_isRight_10 : decode cX5_isRight 10 = .ok (.getfield 10, 3) := by decide +kernel
theorem dX5_isRight_13 : decode cX5_isRight 13 = .ok (.getfield 135, 3) := by decide +kernel
theorem dX5_isRight_16 : decode cX5_isRight 16 = .ok (.aload_n 0, 1) := by decide +kernel
theorem dX5_isRight_17 : decode cX5_isRight 17 = .ok (.getfield 19, 3) := by decide +kernel
theorem dX5_isRight_20 : decode cX5_isRight 20 = .ok (.getfield 306, 3) := by decide +kernel
theorem dX5_isRight_23 : decode cX5_isRight 23 = .ok (.iload_n 1, 1) := by decide +kernel
theorem dX5_isRight_24 : decode cX5_isRight 24 = .ok (.iaload, 1) := by decide +kernel
theorem dX5_isRight_25 : decode cX5_isRight 25 = .ok (.iaload, 1) := by decide +kernel
theorem dX5_isRight_26 : decode cX5_isRight 26 = .ok (.if_icmp .ne 7, 3) := by decide +kernel
theorem dX5_isRight_29 : decode cX5_isRight 29 = .ok (.iconst 1, 1) := by decide +kernel
theorem dX5_isRight_30 : decode cX5_isRight 30 = .ok (.goto 4, 3) := by decide +kernel
theorem dX5_isRight_33 : decode cX5_isRight 33 = .ok (.iconst 0, 1) := by decide +kernel
theorem dX5_isRight_34 : decode cX5_isRight 34 = .ok (.ireturn, 1) := by decide +kernel
set_option maxHeartbeats 4000000 in
set_option maxRecDepth 100000 in
theorem c_X5_isRight (l : Launch) (D : va_G) (cI cZ cL : ClassId) (ad : Nat → Nat) (S : Mem) (k : Nat) (hI : I0 S) (hk : k < cN S) : RD l D cI cZ cL yX5_isRight cX5_isRight 2 (some .boolean) 0 [.ref (ad 0), .int (nI k)] (wC ad cI S) (some (.int (bI (p_right S k)))) := by
  refine RD.of (by decide) (Nat.le_of_ble_eq_true rfl) ?_
  intro p e s m args below meth c ls hx hb hr hml hown hlk hE hP hl
  have hl : lv_has ls 2 [(0, .ref (ad 0)), (1, .int (nI k))] := hl
  have hT8 := hI.T8
  have hR16 := hI.R16
  have hN200 := hI.N200
  have hxR := hI.xR16 hk
  refine lv_aload_n hx hb dX5_isRight_0 rfl (lv_at hl 0 rfl) ?_
  refine q_get (v := .ref (ad 7)) hx hb hown hE inT_X5 hP 0 rfl rfl 1 (by decide) w_213 rfl dX5_isRight_1 ?_
  refine q_getN (v := .ref (ad 10)) hx hb hown hE inT_X0 hP 7 rfl rfl 2 (by decide) w_132 rfl dX5_isRight_4 ?_
  refine lv_iload_n hx hb dX5_isRight_7 rfl (lv_at hl 1 rfl) ?_
  refine q_iald (f := S 10) (i := k) hx hb hE hP 10 rfl (by omega) (Nat.le_of_ble_eq_true rfl) dX5_isRight_8 ?_
  refine lv_aload_n hx hb dX5_isRight_9 rfl (lv_at hl 0 rfl) ?_
  refine q_get (v := .ref (ad 1)) hx hb hown hE inT_X5 hP 0 rfl rfl 0 (by decide) w_212 rfl dX5_isRight_10 ?_
  refine q_getN (v := .ref (ad 3)) hx hb hown hE inT_X3 hP 1 rfl rfl 1 (by decide) w_95 rfl dX5_isRight_13 ?_
  refine lv_aload_n hx hb dX5_isRight_16 rfl (lv_at hl 0 rfl) ?_
  refine q_get (v := .ref (ad 7)) hx hb hown hE inT_X5 hP 0 rfl rfl 1 (by decide) w_213 rfl dX5_isRight_17 ?_
  refine q_getN (v := .ref (ad 9)) hx hb hown hE inT_X0 hP 7 rfl rfl 1 (by decide) w_130 rfl dX5_isRight_20 ?_
  refine lv_iload_n hx hb dX5_isRight_23 rfl (lv_at hl 1 rfl) ?_
  refine q_iald (f := S 9) (i := k) hx hb hE hP 9 rfl (by omega) (Nat.le_of_ble_eq_true rfl) dX5_isRight_24 ?_
  refine q_top (y := nI (aR S k)) (hI.xR hk) ?_
  refine q_iald (f := S 3) (i := (aR S k)) hx hb hE hP 3 rfl (by omega) (Nat.le_of_ble_eq_true rfl) dX5_isRight_25 ?_
  refine lv_icmp_ne (tgt := 33) hx hb dX5_isRight_26 (by decide) (fun c_1 => ?_) (fun c_1 => ?_)
  · skip
    refine lv_iconst (v := 0) hx hb dX5_isRight_33 (by decide) ?_
    refine q_top (y := bI (p_right S k)) (by first | (simp only [bI, p_right, c_1, ↓reduceIte]; done) | (simp [bI, p_right, c_1]; done) | (simp_all [bI, p_right]; done)) ?_
    exact e_ret hx hb hr hlk (n_bI _) dX5_isRight_34
  · skip
    refine lv_iconst (v := 1) hx hb dX5_isRight_29 (by decide) ?_
    refine lv_goto (tgt := 34) hx hb dX5_isRight_30 (by decide) ?_
    refine q_top (y := bI (p_right S k)) (by first | (simp only [bI, p_right, c_1, ↓reduceIte]; done) | (simp [bI, p_right, c_1]; done) | (simp_all [bI, p_right]; done)) ?_
    exact e_ret hx hb hr hlk (n_bI _) dX5_isRight_34

theorem dX5_countBetter_0 : decode cX5_countBetter 0 = .ok (.iconst 0, 1) := by decide +kernel
theorem dX5_countBetter_1 : decode cX5_countBetter 1 = .ok (.istore_n 2, 1) := by decide +kernel
theorem dX5_countBetter_2 : decode cX5_countBetter 2 = .ok (.iconst 0, 1) := by decide +kernel
theorem dX5_countBetter_3 : decode cX5_countBetter 3 = .ok (.istore_n 3, 1) := by decide +kernel
theorem dX5_countBetter_4 : decode cX5_countBetter 4 = .ok (.iload_n 3, 1) := by decide +kernel
theorem dX5_countBetter_5 : decode cX5_countBetter 5 = .ok (.aload_n 0, 1) := by decide +kernel
theorem dX5_countBetter_6 : decode cX5_countBetter 6 = .ok (.getfield 115, 3) := by decide +kernel
theorem dX5_countBetter_9 : decode cX5_countBetter 9 = .ok (.if_icmp .ge 81, 3) := by decide +kernel
theorem dX5_countBetter_12 : decode cX5_countBetter 12 = .ok (.aload_n 0, 1) := by decide +kernel
theorem dX5_countBetter_13 : decode cX5_countBetter 13 = .ok (.getfield 47, 3) := by decide +kernel
theorem dX5_countBetter_16 : decode cX5_countBetter 16 = .ok (.iload_n 3, 1) := by decide +kernel
theorem dX5_countBetter_17 : decode cX5_countBetter 17 = .ok (.iaload, 1) := by decide +kernel
theorem dX5_countBetter_18 : decode cX5_countBetter 18 = .ok (.aload_n 0, 1) := by decide +kernel
theorem dX5_countBetter_19 : decode cX5_countBetter 19 = .ok (.getfield 47, 3) := by decide +kernel
theorem dX5_countBetter_22 : decode cX5_countBetter 22 = .ok (.iload_n 1, 1) := by decide +kernel
theorem dX5_countBetter_23 : decode cX5_countBetter 23 = .ok (.iaload, 1) := by decide +kernel
theorem dX5_countBetter_24 : decode cX5_countBetter 24 = .ok (.if_icmp .le 7, 3) := by decide +kernel
theorem dX5_countBetter_27 : decode cX5_countBetter 27 = .ok (.iconst 1, 1) := by decide +kernel
theorem dX5_countBetter_28 : decode cX5_countBetter 28 = .ok (.goto 4, 3) := by decide +kernel
theorem dX5_countBetter_31 : decode cX5_countBetter 31 = .ok (.iconst 0, 1) := by decide +kernel
theorem dX5_countBetter_32 : decode cX5_countBetter 32 = .ok (.istore 4, 2) := by decide +kernel
theorem dX5_countBetter_34 : decode cX5_countBetter 34 = .ok (.aload_n 0, 1) := by decide +kernel
theorem dX5_countBetter_35 : decode cX5_countBetter 35 = .ok (.getfield 47, 3) := by decide +kernel
theorem dX5_countBetter_38 : decode cX5_countBetter 38 = .ok (.iload_n 3, 1) := by decide +kernel
theorem dX5_countBetter_39 : decode cX5_countBetter 39 = .ok (.iaload, 1) := by decide +kernel
theorem dX5_countBetter_40 : decode cX5_countBetter 40 = .ok (.aload_n 0, 1) := by decide +kernel
theorem dX5_countBetter_41 : decode cX5_countBetter 41 = .ok (.getfield 47, 3) := by decide +kernel
theorem dX5_countBetter_44 : decode cX5_countBetter 44 = .ok (.iload_n 1, 1) := by decide +kernel
theorem dX5_countBetter_45 : decode cX5_countBetter 45 = .ok (.iaload, 1) := by decide +kernel
theorem dX5_countBetter_46 : decode cX5_countBetter 46 = .ok (.if_icmp .ne 22, 3) := by decide +kernel
theorem dX5_countBetter_49 : decode cX5_countBetter 49 = .ok (.aload_n 0, 1) := by decide +kernel
theorem dX5_countBetter_50 : decode cX5_countBetter 50 = .ok (.getfield 51, 3) := by decide +kernel
theorem dX5_countBetter_53 : decode cX5_countBetter 53 = .ok (.iload_n 3, 1) := by decide +kernel
theorem dX5_countBetter_54 : decode cX5_countBetter 54 = .ok (.iaload, 1) := by decide +kernel
theorem dX5_countBetter_55 : decode cX5_countBetter 55 = .ok (.aload_n 0, 1) := by decide +kernel
theorem dX5_countBetter_56 : decode cX5_countBetter 56 = .ok (.getfield 51, 3) := by decide +kernel
theorem dX5_countBetter_59 : decode cX5_countBetter 59 = .ok (.iload_n 1, 1) := by decide +kernel
theorem dX5_countBetter_60 : decode cX5_countBetter 60 = .ok (.iaload, 1) := by decide +kernel
theorem dX5_countBetter_61 : decode cX5_countBetter 61 = .ok (.if_icmp .ge 7, 3) := by decide +kernel
theorem dX5_countBetter_64 : decode cX5_countBetter 64 = .ok (.iconst 1, 1) := by decide +kernel
theorem dX5_countBetter_65 : decode cX5_countBetter 65 = .ok (.goto 4, 3) := by decide +kernel
theorem dX5_countBetter_68 : decode cX5_countBetter 68 = .ok (.iconst 0, 1) := by decide +kernel
theorem dX5_countBetter_69 : decode cX5_countBetter 69 = .ok (.istore 5, 2) := by decide +kernel
theorem dX5_countBetter_71 : decode cX5_countBetter 71 = .ok (.iload 4, 2) := by decide +kernel
theorem dX5_countBetter_73 : decode cX5_countBetter 73 = .ok (.ifCond .ne 8, 3) := by decide +kernel
theorem dX5_countBetter_76 : decode cX5_countBetter 76 = .ok (.iload 5, 2) := by decide +kernel
theorem dX5_countBetter_78 : decode cX5_countBetter 78 = .ok (.ifCond .eq 6, 3) := by decide +kernel
theorem dX5_countBetter_81 : decode cX5_countBetter 81 = .ok (.iinc 2 1, 3) := by decide +kernel
theorem dX5_countBetter_84 : decode cX5_countBetter 84 = .ok (.iinc 3 1, 3) := by decide +kernel
theorem dX5_countBetter_87 : decode cX5_countBetter 87 = .ok (.goto (-83), 3) := by decide +kernel
theorem dX5_countBetter_90 : decode cX5_countBetter 90 = .ok (.iload_n 2, 1) := by decide +kernel
theorem dX5_countBetter_91 : decode cX5_countBetter 91 = .ok (.ireturn, 1) := by decide +kernel
set_option maxHeartbeats 4000000 in
set_option maxRecDepth 100000 in
theorem c_X5_countBetter (l : Launch) (D : va_G) (cI cZ cL : ClassId) (ad : Nat → Nat) (S : Mem) (t : Nat) (hI : I0 S) (ht : t < 8) : RD l D cI cZ cL yX5_countBetter cX5_countBetter 6 (some .int) 0 [.ref (ad 0), .int (nI t)] (wC ad cI S) (some (.int (nI (p_better S t (cT S))))) := by
  refine RD.of (by decide) (Nat.le_of_ble_eq_true rfl) ?_
  intro p e s m args below meth c ls hx hb hr hml hown hlk hE hP hl
  have hl : lv_has ls 6 [(0, .ref (ad 0)), (1, .int (nI t))] := hl
  have hT8 := hI.T8
  have hR16 := hI.R16
  have hN200 := hI.N200
  refine lv_iconst (v := 0) hx hb dX5_countBetter_0 (by decide) ?_
  refine lv_istore_n (lv' := [(2, .int 0), (0, .ref (ad 0)), (1, .int (nI t))]) hx hb dX5_countBetter_1 rfl hl (by decide) rfl (fun ls hl => ?_)
  refine lv_iconst (v := 0) hx hb dX5_countBetter_2 (by decide) ?_
  refine lv_istore_n (lv' := [(3, .int 0), (2, .int 0), (0, .ref (ad 0)), (1, .int (nI t))]) hx hb dX5_countBetter_3 rfl hl (by decide) rfl (fun ls hl => ?_)
  have hloop_4 : ∀ (n i : Nat), i ≤ cT S → cT S < i + n → ∀ ls : Array Slot, lv_has ls 6 [(3, .int (nI i)), (2, .int (nI (p_better S t i))), (0, .ref (ad 0)), (1, .int (nI t))] → W p l e (rm 0 0 0) s m args below meth c s.heap [] 0 0 (MQ below (Qrd (some (.int (nI (p_better S t (cT S)))))) args s 0 0 q_no) (F0 m 4 ls []) := by
    intro n
    induction n with
    | zero => intro i h1 h2; exact absurd h2 (by omega)
    | succ n ih_4 =>
      intro i hi_4 hin_4  ls hl
      refine lv_iload_n hx hb dX5_countBetter_4 rfl (lv_at hl 0 rfl) ?_
      refine lv_aload_n hx hb dX5_countBetter_5 rfl (lv_at hl 2 rfl) ?_
      refine q_get (v := .int (S 0 9)) hx hb hown hE inT_X5 hP 0 rfl rfl 9 (by decide) w_221 rfl dX5_countBetter_6 ?_
      refine q_top (y := nI (cT S)) (I0.T hI) ?_
      refine lv_icmp_ge (tgt := 90) hx hb dX5_countBetter_9 (by decide) (fun c_1 => ?_) (fun c_1 => ?_)
      · skip
        have c_1 : (cT S) ≤ i := n_le (a := cT S) (b := i) (by omega) (by omega) c_1
        have hend_4 : cT S = i := by omega
        subst hend_4
        refine lv_iload_n hx hb dX5_countBetter_90 rfl (lv_at hl 1 rfl) ?_
        exact e_ret hx hb hr hlk rfl dX5_countBetter_91
      · skip
        have c_1 : i < (cT S) := n_nle (a := cT S) (b := i) (by omega) (by omega) c_1
        refine lv_aload_n hx hb dX5_countBetter_12 rfl (lv_at hl 2 rfl) ?_
        refine q_get (v := .ref (ad 32)) hx hb hown hE inT_X5 hP 0 rfl rfl 6 (by decide) w_218 rfl dX5_countBetter_13 ?_
        refine lv_iload_n hx hb dX5_countBetter_16 rfl (lv_at hl 0 rfl) ?_
        refine q_iald (f := S 32) (i := i) hx hb hE hP 32 rfl (by omega) (Nat.le_of_ble_eq_true rfl) dX5_countBetter_17 ?_
        refine lv_aload_n hx hb dX5_countBetter_18 rfl (lv_at hl 2 rfl) ?_
        refine q_get (v := .ref (ad 32)) hx hb hown hE inT_X5 hP 0 rfl rfl 6 (by decide) w_218 rfl dX5_countBetter_19 ?_
        refine lv_iload_n hx hb dX5_countBetter_22 rfl (lv_at hl 3 rfl) ?_
        refine q_iald (f := S 32) (i := t) hx hb hE hP 32 rfl (by omega) (Nat.le_of_ble_eq_true rfl) dX5_countBetter_23 ?_
        refine lv_icmp_le (tgt := 31) hx hb dX5_countBetter_24 (by decide) (fun c_2 => ?_) (fun c_2 => ?_)
        · skip
          refine lv_iconst (v := 0) hx hb dX5_countBetter_31 (by decide) ?_
          refine lv_istore (lv' := [(4, .int 0), (3, .int (nI i)), (2, .int (nI (p_better S t i))), (0, .ref (ad 0)), (1, .int (nI t))]) hx hb dX5_countBetter_32 hl (by decide) rfl (fun ls hl => ?_)
          refine lv_aload_n hx hb dX5_countBetter_34 rfl (lv_at hl 3 rfl) ?_
          refine q_get (v := .ref (ad 32)) hx hb hown hE inT_X5 hP 0 rfl rfl 6 (by decide) w_218 rfl dX5_countBetter_35 ?_
          refine lv_iload_n hx hb dX5_countBetter_38 rfl (lv_at hl 1 rfl) ?_
          refine q_iald (f := S 32) (i := i) hx hb hE hP 32 rfl (by omega) (Nat.le_of_ble_eq_true rfl) dX5_countBetter_39 ?_
          refine lv_aload_n hx hb dX5_countBetter_40 rfl (lv_at hl 3 rfl) ?_
          refine q_get (v := .ref (ad 32)) hx hb hown hE inT_X5 hP 0 rfl rfl 6 (by decide) w_218 rfl dX5_countBetter_41 ?_
          refine lv_iload_n hx hb dX5_countBetter_44 rfl (lv_at hl 4 rfl) ?_
          refine q_iald (f := S 32) (i := t) hx hb hE hP 32 rfl (by omega) (Nat.le_of_ble_eq_true rfl) dX5_countBetter_45 ?_
          refine lv_icmp_ne (tgt := 68) hx hb dX5_countBetter_46 (by decide) (fun c_3 => ?_) (fun c_3 => ?_)
          · skip
            refine lv_iconst (v := 0) hx hb dX5_countBetter_68 (by decide) ?_
            refine lv_istore (lv' := [(5, .int 0), (4, .int 0), (3, .int (nI i)), (2, .int (nI (p_better S t i))), (0, .ref (ad 0)), (1, .int (nI t))]) hx hb dX5_countBetter_69 hl (by decide) rfl (fun ls hl => ?_)
            refine lv_iload hx hb dX5_countBetter_71 (lv_at hl 1 rfl) ?_
            refine lv_if_ne (tgt := 81) hx hb dX5_countBetter_73 (by decide) (fun c_4 => ?_) (fun c_4 => ?_)
            · skip
              exact absurd c_4 (by decide)
            · skip
              refine lv_iload hx hb dX5_countBetter_76 (lv_at hl 0 rfl) ?_
              refine lv_if_eq (tgt := 84) hx hb dX5_countBetter_78 (by decide) (fun c_5 => ?_) (fun c_5 => ?_)
              · skip
                refine lv_iinc (v := nI (i + 1)) (lv' := [(3, .int (nI (i + 1))), (5, .int 0), (4, .int 0), (2, .int (nI (p_better S t i))), (0, .ref (ad 0)), (1, .int (nI t))]) hx hb dX5_countBetter_84 hl (k := 2) rfl (nI_1 i) (by decide) rfl (fun ls hl => ?_)
                refine lv_goto (tgt := 4) hx hb dX5_countBetter_87 (by decide) ?_
                refine ih_4 (i + 1) (by omega) (by omega)  ls ?_
                rw [show p_better S t (i + 1) = p_better S t i from by first | (simp only [bI, p_better, c_1, c_2, c_3, ↓reduceIte]; done) | (simp [bI, p_better, c_1, c_2, c_3]; done) | (simp_all [bI, p_better]; done)]
                exact lv_sub hl [0, 3, 4, 5] rfl
              · skip
                exact absurd c_5 (by decide)
          · skip
            refine lv_aload_n hx hb dX5_countBetter_49 rfl (lv_at hl 3 rfl) ?_
            refine q_get (v := .ref (ad 33)) hx hb hown hE inT_X5 hP 0 rfl rfl 7 (by decide) w_219 rfl dX5_countBetter_50 ?_
            refine lv_iload_n hx hb dX5_countBetter_53 rfl (lv_at hl 1 rfl) ?_
            refine q_iald (f := S 33) (i := i) hx hb hE hP 33 rfl (by omega) (Nat.le_of_ble_eq_true rfl) dX5_countBetter_54 ?_
            refine lv_aload_n hx hb dX5_countBetter_55 rfl (lv_at hl 3 rfl) ?_
            refine q_get (v := .ref (ad 33)) hx hb hown hE inT_X5 hP 0 rfl rfl 7 (by decide) w_219 rfl dX5_countBetter_56 ?_
            refine lv_iload_n hx hb dX5_countBetter_59 rfl (lv_at hl 4 rfl) ?_
            refine q_iald (f := S 33) (i := t) hx hb hE hP 33 rfl (by omega) (Nat.le_of_ble_eq_true rfl) dX5_countBetter_60 ?_
            refine lv_icmp_ge (tgt := 68) hx hb dX5_countBetter_61 (by decide) (fun c_6 => ?_) (fun c_6 => ?_)
            · skip
              refine lv_iconst (v := 0) hx hb dX5_countBetter_68 (by decide) ?_
              refine lv_istore (lv' := [(5, .int 0), (4, .int 0), (3, .int (nI i)), (2, .int (nI (p_better S t i))), (0, .ref (ad 0)), (1, .int (nI t))]) hx hb dX5_countBetter_69 hl (by decide) rfl (fun ls hl => ?_)
              refine lv_iload hx hb dX5_countBetter_71 (lv_at hl 1 rfl) ?_
              refine lv_if_ne (tgt := 81) hx hb dX5_countBetter_73 (by decide) (fun c_7 => ?_) (fun c_7 => ?_)
              · skip
                exact absurd c_7 (by decide)
              · skip
                refine lv_iload hx hb dX5_countBetter_76 (lv_at hl 0 rfl) ?_
                refine lv_if_eq (tgt := 84) hx hb dX5_countBetter_78 (by decide) (fun c_8 => ?_) (fun c_8 => ?_)
                · skip
                  refine lv_iinc (v := nI (i + 1)) (lv' := [(3, .int (nI (i + 1))), (5, .int 0), (4, .int 0), (2, .int (nI (p_better S t i))), (0, .ref (ad 0)), (1, .int (nI t))]) hx hb dX5_countBetter_84 hl (k := 2) rfl (nI_1 i) (by decide) rfl (fun ls hl => ?_)
                  refine lv_goto (tgt := 4) hx hb dX5_countBetter_87 (by decide) ?_
                  refine ih_4 (i + 1) (by omega) (by omega)  ls ?_
                  rw [show p_better S t (i + 1) = p_better S t i from by first | (simp only [bI, p_better, c_1, c_2, c_3, c_6, ↓reduceIte]; done) | (simp [bI, p_better, c_1, c_2, c_3, c_6]; done) | (simp_all [bI, p_better]; done)]
                  exact lv_sub hl [0, 3, 4, 5] rfl
                · skip
                  exact absurd c_8 (by decide)
            · skip
              refine lv_iconst (v := 1) hx hb dX5_countBetter_64 (by decide) ?_
              refine lv_goto (tgt := 69) hx hb dX5_countBetter_65 (by decide) ?_
              refine lv_istore (lv' := [(5, .int 1), (4, .int 0), (3, .int (nI i)), (2, .int (nI (p_better S t i))), (0, .ref (ad 0)), (1, .int (nI t))]) hx hb dX5_countBetter_69 hl (by decide) rfl (fun ls hl => ?_)
              refine lv_iload hx hb dX5_countBetter_71 (lv_at hl 1 rfl) ?_
              refine lv_if_ne (tgt := 81) hx hb dX5_countBetter_73 (by decide) (fun c_9 => ?_) (fun c_9 => ?_)
              · skip
                exact absurd c_9 (by decide)
              · skip
                refine lv_iload hx hb dX5_countBetter_76 (lv_at hl 0 rfl) ?_
                refine lv_if_eq (tgt := 84) hx hb dX5_countBetter_78 (by decide) (fun c_10 => ?_) (fun c_10 => ?_)
                · skip
                  exact absurd c_10 (by decide)
                · skip
                  refine lv_iinc (v := nI ((p_better S t i) + 1)) (lv' := [(2, .int (nI ((p_better S t i) + 1))), (5, .int 1), (4, .int 0), (3, .int (nI i)), (0, .ref (ad 0)), (1, .int (nI t))]) hx hb dX5_countBetter_81 hl (k := 3) rfl (nI_1 (p_better S t i)) (by decide) rfl (fun ls hl => ?_)
                  refine lv_iinc (v := nI (i + 1)) (lv' := [(3, .int (nI (i + 1))), (2, .int (nI ((p_better S t i) + 1))), (5, .int 1), (4, .int 0), (0, .ref (ad 0)), (1, .int (nI t))]) hx hb dX5_countBetter_84 hl (k := 3) rfl (nI_1 i) (by decide) rfl (fun ls hl => ?_)
                  refine lv_goto (tgt := 4) hx hb dX5_countBetter_87 (by decide) ?_
                  refine ih_4 (i + 1) (by omega) (by omega)  ls ?_
                  rw [show p_better S t (i + 1) = (p_better S t i) + 1 from by first | (simp only [bI, p_better, c_1, c_2, c_3, c_6, ↓reduceIte]; done) | (simp [bI, p_better, c_1, c_2, c_3, c_6]; done) | (simp_all [bI, p_better]; done)]
                  exact lv_sub hl [0, 1, 4, 5] rfl
        · skip
          refine lv_iconst (v := 1) hx hb dX5_countBetter_27 (by decide) ?_
          refine lv_goto (tgt := 32) hx hb dX5_countBetter_28 (by decide) ?_
          refine lv_istore (lv' := [(4, .int 1), (3, .int (nI i)), (2, .int (nI (p_better S t i))), (0, .ref (ad 0)), (1, .int (nI t))]) hx hb dX5_countBetter_32 hl (by decide) rfl (fun ls hl => ?_)
          refine lv_aload_n hx hb dX5_countBetter_34 rfl (lv_at hl 3 rfl) ?_
          refine q_get (v := .ref (ad 32)) hx hb hown hE inT_X5 hP 0 rfl rfl 6 (by decide) w_218 rfl dX5_countBetter_35 ?_
          refine lv_iload_n hx hb dX5_countBetter_38 rfl (lv_at hl 1 rfl) ?_
          refine q_iald (f := S 32) (i := i) hx hb hE hP 32 rfl (by omega) (Nat.le_of_ble_eq_true rfl) dX5_countBetter_39 ?_
          refine lv_aload_n hx hb dX5_countBetter_40 rfl (lv_at hl 3 rfl) ?_
          refine q_get (v := .ref (ad 32)) hx hb hown hE inT_X5 hP 0 rfl rfl 6 (by decide) w_218 rfl dX5_countBetter_41 ?_
          refine lv_iload_n hx hb dX5_countBetter_44 rfl (lv_at hl 4 rfl) ?_
          refine q_iald (f := S 32) (i := t) hx hb hE hP 32 rfl (by omega) (Nat.le_of_ble_eq_true rfl) dX5_countBetter_45 ?_
          refine lv_icmp_ne (tgt := 68) hx hb dX5_countBetter_46 (by decide) (fun c_11 => ?_) (fun c_11 => ?_)
          · skip
            refine lv_iconst (v := 0) hx hb dX5_countBetter_68 (by decide) ?_
            refine lv_istore (lv' := [(5, .int 0), (4, .int 1), (3, .int (nI i)), (2, .int (nI (p_better S t i))), (0, .ref (ad 0)), (1, .int (nI t))]) hx hb dX5_countBetter_69 hl (by decide) rfl (fun ls hl => ?_)
            refine lv_iload hx hb dX5_countBetter_71 (lv_at hl 1 rfl) ?_
            refine lv_if_ne (tgt := 81) hx hb dX5_countBetter_73 (by decide) (fun c_12 => ?_) (fun c_12 => ?_)
            · skip
              refine lv_iinc (v := nI ((p_better S t i) + 1)) (lv' := [(2, .int (nI ((p_better S t i) + 1))), (5, .int 0), (4, .int 1), (3, .int (nI i)), (0, .ref (ad 0)), (1, .int (nI t))]) hx hb dX5_countBetter_81 hl (k := 3) rfl (nI_1 (p_better S t i)) (by decide) rfl (fun ls hl => ?_)
              refine lv_iinc (v := nI (i + 1)) (lv' := [(3, .int (nI (i + 1))), (2, .int (nI ((p_better S t i) + 1))), (5, .int 0), (4, .int 1), (0, .ref (ad 0)), (1, .int (nI t))]) hx hb dX5_countBetter_84 hl (k := 3) rfl (nI_1 i) (by decide) rfl (fun ls hl => ?_)
              refine lv_goto (tgt := 4) hx hb dX5_countBetter_87 (by decide) ?_
              refine ih_4 (i + 1) (by omega) (by omega)  ls ?_
              rw [show p_better S t (i + 1) = (p_better S t i) + 1 from by first | (simp only [bI, p_better, c_1, c_2, c_11, ↓reduceIte]; done) | (simp [bI, p_better, c_1, c_2, c_11]; done) | (simp_all [bI, p_better]; done)]
              exact lv_sub hl [0, 1, 4, 5] rfl
            · skip
              exact absurd c_12 (by decide)
          · skip
            refine lv_aload_n hx hb dX5_countBetter_49 rfl (lv_at hl 3 rfl) ?_
            refine q_get (v := .ref (ad 33)) hx hb hown hE inT_X5 hP 0 rfl rfl 7 (by decide) w_219 rfl dX5_countBetter_50 ?_
            refine lv_iload_n hx hb dX5_countBetter_53 rfl (lv_at hl 1 rfl) ?_
            refine q_iald (f := S 33) (i := i) hx hb hE hP 33 rfl (by omega) (Nat.le_of_ble_eq_true rfl) dX5_countBetter_54 ?_
            refine lv_aload_n hx hb dX5_countBetter_55 rfl (lv_at hl 3 rfl) ?_
            refine q_get (v := .ref (ad 33)) hx hb hown hE inT_X5 hP 0 rfl rfl 7 (by decide) w_219 rfl dX5_countBetter_56 ?_
            refine lv_iload_n hx hb dX5_countBetter_59 rfl (lv_at hl 4 rfl) ?_
            refine q_iald (f := S 33) (i := t) hx hb hE hP 33 rfl (by omega) (Nat.le_of_ble_eq_true rfl) dX5_countBetter_60 ?_
            refine lv_icmp_ge (tgt := 68) hx hb dX5_countBetter_61 (by decide) (fun c_13 => ?_) (fun c_13 => ?_)
            · skip
              refine lv_iconst (v := 0) hx hb dX5_countBetter_68 (by decide) ?_
              refine lv_istore (lv' := [(5, .int 0), (4, .int 1), (3, .int (nI i)), (2, .int (nI (p_better S t i))), (0, .ref (ad 0)), (1, .int (nI t))]) hx hb dX5_countBetter_69 hl (by decide) rfl (fun ls hl => ?_)
              refine lv_iload hx hb dX5_countBetter_71 (lv_at hl 1 rfl) ?_
              refine lv_if_ne (tgt := 81) hx hb dX5_countBetter_73 (by decide) (fun c_14 => ?_) (fun c_14 => ?_)
              · skip
                refine lv_iinc (v := nI ((p_better S t i) + 1)) (lv' := [(2, .int (nI ((p_better S t i) + 1))), (5, .int 0), (4, .int 1), (3, .int (nI i)), (0, .ref (ad 0)), (1, .int (nI t))]) hx hb dX5_countBetter_81 hl (k := 3) rfl (nI_1 (p_better S t i)) (by decide) rfl (fun ls hl => ?_)
                refine lv_iinc (v := nI (i + 1)) (lv' := [(3, .int (nI (i + 1))), (2, .int (nI ((p_better S t i) + 1))), (5, .int 0), (4, .int 1), (0, .ref (ad 0)), (1, .int (nI t))]) hx hb dX5_countBetter_84 hl (k := 3) rfl (nI_1 i) (by decide) rfl (fun ls hl => ?_)
                refine lv_goto (tgt := 4) hx hb dX5_countBetter_87 (by decide) ?_
                refine ih_4 (i + 1) (by omega) (by omega)  ls ?_
                rw [show p_better S t (i + 1) = (p_better S t i) + 1 from by first | (simp only [bI, p_better, c_1, c_2, c_11, c_13, ↓reduceIte]; done) | (simp [bI, p_better, c_1, c_2, c_11, c_13]; done) | (simp_all [bI, p_better]; done)]
                exact lv_sub hl [0, 1, 4, 5] rfl
              · skip
                exact absurd c_14 (by decide)
            · skip
              refine lv_iconst (v := 1) hx hb dX5_countBetter_64 (by decide) ?_
              refine lv_goto (tgt := 69) hx hb dX5_countBetter_65 (by decide) ?_
              refine lv_istore (lv' := [(5, .int 1), (4, .int 1), (3, .int (nI i)), (2, .int (nI (p_better S t i))), (0, .ref (ad 0)), (1, .int (nI t))]) hx hb dX5_countBetter_69 hl (by decide) rfl (fun ls hl => ?_)
              refine lv_iload hx hb dX5_countBetter_71 (lv_at hl 1 rfl) ?_
              refine lv_if_ne (tgt := 81) hx hb dX5_countBetter_73 (by decide) (fun c_15 => ?_) (fun c_15 => ?_)
              · skip
                refine lv_iinc (v := nI ((p_better S t i) + 1)) (lv' := [(2, .int (nI ((p_better S t i) + 1))), (5, .int 1), (4, .int 1), (3, .int (nI i)), (0, .ref (ad 0)), (1, .int (nI t))]) hx hb dX5_countBetter_81 hl (k := 3) rfl (nI_1 (p_better S t i)) (by decide) rfl (fun ls hl => ?_)
                refine lv_iinc (v := nI (i + 1)) (lv' := [(3, .int (nI (i + 1))), (2, .int (nI ((p_better S t i) + 1))), (5, .int 1), (4, .int 1), (0, .ref (ad 0)), (1, .int (nI t))]) hx hb dX5_countBetter_84 hl (k := 3) rfl (nI_1 i) (by decide) rfl (fun ls hl => ?_)
                refine lv_goto (tgt := 4) hx hb dX5_countBetter_87 (by decide) ?_
                refine ih_4 (i + 1) (by omega) (by omega)  ls ?_
                rw [show p_better S t (i + 1) = (p_better S t i) + 1 from by first | (simp only [bI, p_better, c_1, c_2, c_11, c_13, ↓reduceIte]; done) | (simp [bI, p_better, c_1, c_2, c_11, c_13]; done) | (simp_all [bI, p_better]; done)]
                exact lv_sub hl [0, 1, 4, 5] rfl
              · skip
                exact absurd c_15 (by decide)
  refine hloop_4 (cT S + 1) 0 (by omega) (by omega)  ls ?_
  rw [show p_better S t 0 = 0 from by first | rfl | (first | (simp only [bI, p_better, ↓reduceIte]; done) | (simp [bI, p_better]; done) | (simp_all [bI, p_better]; done))]
  exact lv_sub hl [0, 1, 2, 3] rfl

theorem dX5_countAlike_0 : decode cX5_countAlike 0 = .ok (.iconst 0, 1) := by decide +kernel
theorem dX5_countAlike_1 : decode cX5_countAlike 1 = .ok (.istore_n 3, 1) := by decide +kernel
theorem dX5_countAlike_2 : decode cX5_countAlike 2 = .ok (.iconst 0, 1) := by decide +kernel
theorem dX5_countAlike_3 : decode cX5_countAlike 3 = .ok (.istore 4, 2) := by decide +kernel
theorem dX5_countAlike_5 : decode cX5_countAlike 5 = .ok (.iload 4, 2) := by decide +kernel
theorem dX5_countAlike_7 : decode cX5_countAlike 7 = .ok (.iload_n 2, 1) := by decide +kernel
theorem dX5_countAlike_8 : decode cX5_countAlike 8 = .ok (.if_icmp .ge 44, 3) := by decide +kernel
theorem dX5_countAlike_11 : decode cX5_countAlike 11 = .ok (.aload_n 0, 1) := by decide +kernel
theorem dX5_countAlike_12 : decode cX5_countAlike 12 = .ok (.getfield 47, 3) := by decide +kernel
theorem dX5_countAlike_15 : decode cX5_countAlike 15 = .ok (.iload 4, 2) := by decide +kernel
theorem dX5_countAlike_17 : decode cX5_countAlike 17 = .ok (.iaload, 1) := by decide +kernel
theorem dX5_countAlike_18 : decode cX5_countAlike 18 = .ok (.aload_n 0, 1) := by decide +kernel
theorem dX5_countAlike_19 : decode cX5_countAlike 19 = .ok (.getfield 47, 3) := by decide +kernel
theorem dX5_countAlike_22 : decode cX5_countAlike 22 = .ok (.iload_n 1, 1) := by decide +kernel
theorem dX5_countAlike_23 : decode cX5_countAlike 23 = .ok (.iaload, 1) := by decide +kernel
theorem dX5_countAlike_24 : decode cX5_countAlike 24 = .ok (.if_icmp .ne 22, 3) := by decide +kernel
theorem dX5_countAlike_27 : decode cX5_countAlike 27 = .ok (.aload_n 0, 1) := by decide +kernel
theorem dX5_countAlike_28 : decode cX5_countAlike 28 = .ok (.getfield 51, 3) := by decide +kernel
theorem dX5_countAlike_31 : decode cX5_countAlike 31 = .ok (.iload 4, 2) := by decide +kernel
theorem dX5_countAlike_33 : decode cX5_countAlike 33 = .ok (.iaload, 1) := by decide +kernel
theorem dX5_countAlike_34 : decode cX5_countAlike 34 = .ok (.aload_n 0, 1) := by decide +kernel
theorem dX5_countAlike_35 : decode cX5_countAlike 35 = .ok (.getfield 51, 3) := by decide +kernel
theorem dX5_countAlike_38 : decode cX5_countAlike 38 = .ok (.iload_n 1, 1) := by decide +kernel
theorem dX5_countAlike_39 : decode cX5_countAlike 39 = .ok (.iaload, 1) := by decide +kernel
theorem dX5_countAlike_40 : decode cX5_countAlike 40 = .ok (.if_icmp .ne 6, 3) := by decide +kernel
theorem dX5_countAlike_43 : decode cX5_countAlike 43 = .ok (.iinc 3 1, 3) := by decide +kernel
theorem dX5_countAlike_46 : decode cX5_countAlike 46 = .ok (.iinc 4 1, 3) := by decide +kernel
theorem dX5_countAlike_49 : decode cX5_countAlike 49 = .ok (.goto (-44), 3) := by decide +kernel
theorem dX5_countAlike_52 : decode cX5_countAlike 52 = .ok (.iload_n 3, 1) := by decide +kernel
theorem dX5_countAlike_53 : decode cX5_countAlike 53 = .ok (.ireturn, 1) := by decide +kernel
set_option maxHeartbeats 4000000 in
set_option maxRecDepth 100000 in
theorem c_X5_countAlike (l : Launch) (D : va_G) (cI cZ cL : ClassId) (ad : Nat → Nat) (S : Mem) (t : Nat) (u : Nat) (ht : t < 8) (hu : u ≤ 8) : RD l D cI cZ cL yX5_countAlike cX5_countAlike 5 (some .int) 0 [.ref (ad 0), .int (nI t), .int (nI u)] (wC ad cI S) (some (.int (nI (p_alike S t u)))) := by
  refine RD.of (by decide) (Nat.le_of_ble_eq_true rfl) ?_
  intro p e s m args below meth c ls hx hb hr hml hown hlk hE hP hl
  have hl : lv_has ls 5 [(0, .ref (ad 0)), (1, .int (nI t)), (2, .int (nI u))] := hl
  refine lv_iconst (v := 0) hx hb dX5_countAlike_0 (by decide) ?_
  refine lv_istore_n (lv' := [(3, .int 0), (0, .ref (ad 0)), (1, .int (nI t)), (2, .int (nI u))]) hx hb dX5_countAlike_1 rfl hl (by decide) rfl (fun ls hl => ?_)
  refine lv_iconst (v := 0) hx hb dX5_countAlike_2 (by decide) ?_
  refine lv_istore (lv' := [(4, .int 0), (3, .int 0), (0, .ref (ad 0)), (1, .int (nI t)), (2, .int (nI u))]) hx hb dX5_countAlike_3 hl (by decide) rfl (fun ls hl => ?_)
  have hloop_5 : ∀ (n i : Nat), i ≤ u → u < i + n → ∀ ls : Array Slot, lv_has ls 5 [(4, .int (nI i)), (3, .int (nI (p_alike S t i))), (0, .ref (ad 0)), (1, .int (nI t)), (2, .int (nI u))] → W p l e (rm 0 0 0) s m args below meth c s.heap [] 0 0 (MQ below (Qrd (some (.int (nI (p_alike S t u))))) args s 0 0 q_no) (F0 m 5 ls []) := by
    intro n
    induction n with
    | zero => intro i h1 h2; exact absurd h2 (by omega)
    | succ n ih_5 =>
      intro i hi_5 hin_5  ls hl
      refine lv_iload hx hb dX5_countAlike_5 (lv_at hl 0 rfl) ?_
      refine lv_iload_n hx hb dX5_countAlike_7 rfl (lv_at hl 4 rfl) ?_
      refine lv_icmp_ge (tgt := 52) hx hb dX5_countAlike_8 (by decide) (fun c_1 => ?_) (fun c_1 => ?_)
      · skip
        have c_1 : u ≤ i := n_le (a := u) (b := i) (by omega) (by omega) c_1
        have hend_5 : u = i := by omega
        subst hend_5
        refine lv_iload_n hx hb dX5_countAlike_52 rfl (lv_at hl 1 rfl) ?_
        exact e_ret hx hb hr hlk rfl dX5_countAlike_53
      · skip
        have c_1 : i < u := n_nle (a := u) (b := i) (by omega) (by omega) c_1
        refine lv_aload_n hx hb dX5_countAlike_11 rfl (lv_at hl 2 rfl) ?_
        refine q_get (v := .ref (ad 32)) hx hb hown hE inT_X5 hP 0 rfl rfl 6 (by decide) w_218 rfl dX5_countAlike_12 ?_
        refine lv_iload hx hb dX5_countAlike_15 (lv_at hl 0 rfl) ?_
        refine q_iald (f := S 32) (i := i) hx hb hE hP 32 rfl (by omega) (Nat.le_of_ble_eq_true rfl) dX5_countAlike_17 ?_
        refine lv_aload_n hx hb dX5_countAlike_18 rfl (lv_at hl 2 rfl) ?_
        refine q_get (v := .ref (ad 32)) hx hb hown hE inT_X5 hP 0 rfl rfl 6 (by decide) w_218 rfl dX5_countAlike_19 ?_
        refine lv_iload_n hx hb dX5_countAlike_22 rfl (lv_at hl 3 rfl) ?_
        refine q_iald (f := S 32) (i := t) hx hb hE hP 32 rfl (by omega) (Nat.le_of_ble_eq_true rfl) dX5_countAlike_23 ?_
        refine lv_icmp_ne (tgt := 46) hx hb dX5_countAlike_24 (by decide) (fun c_2 => ?_) (fun c_2 => ?_)
        · skip
          refine lv_iinc (v := nI (i + 1)) (lv' := [(4, .int (nI (i + 1))), (3, .int (nI (p_alike S t i))), (0, .ref (ad 0)), (1, .int (nI t)), (2, .int (nI u))]) hx hb dX5_countAlike_46 hl (k := 0) rfl (nI_1 i) (by decide) rfl (fun ls hl => ?_)
          refine lv_goto (tgt := 5) hx hb dX5_countAlike_49 (by decide) ?_
          refine ih_5 (i + 1) (by omega) (by omega)  ls ?_
          rw [show p_alike S t (i + 1) = p_alike S t i from by first | (simp only [bI, p_alike, c_1, c_2, ↓reduceIte]; done) | (simp [bI, p_alike, c_1, c_2]; done) | (simp_all [bI, p_alike]; done)]
          exact lv_sub hl [0, 1, 2, 3, 4] rfl
        · skip
          refine lv_aload_n hx hb dX5_countAlike_27 rfl (lv_at hl 2 rfl) ?_
          refine q_get (v := .ref (ad 33)) hx hb hown hE inT_X5 hP 0 rfl rfl 7 (by decide) w_219 rfl dX5_countAlike_28 ?_
          refine lv_iload hx hb dX5_countAlike_31 (lv_at hl 0 rfl) ?_
          refine q_iald (f := S 33) (i := i) hx hb hE hP 33 rfl (by omega) (Nat.le_of_ble_eq_true rfl) dX5_countAlike_33 ?_
          refine lv_aload_n hx hb dX5_countAlike_34 rfl (lv_at hl 2 rfl) ?_
          refine q_get (v := .ref (ad 33)) hx hb hown hE inT_X5 hP 0 rfl rfl 7 (by decide) w_219 rfl dX5_countAlike_35 ?_
          refine lv_iload_n hx hb dX5_countAlike_38 rfl (lv_at hl 3 rfl) ?_
          refine q_iald (f := S 33) (i := t) hx hb hE hP 33 rfl (by omega) (Nat.le_of_ble_eq_true rfl) dX5_countAlike_39 ?_
          refine lv_icmp_ne (tgt := 46) hx hb dX5_countAlike_40 (by decide) (fun c_3 => ?_) (fun c_3 => ?_)
          · skip
            refine lv_iinc (v := nI (i + 1)) (lv' := [(4, .int (nI (i + 1))), (3, .int (nI (p_alike S t i))), (0, .ref (ad 0)), (1, .int (nI t)), (2, .int (nI u))]) hx hb dX5_countAlike_46 hl (k := 0) rfl (nI_1 i) (by decide) rfl (fun ls hl => ?_)
            refine lv_goto (tgt := 5) hx hb dX5_countAlike_49 (by decide) ?_
            refine ih_5 (i + 1) (by omega) (by omega)  ls ?_
            rw [show p_alike S t (i + 1) = p_alike S t i from by first | (simp only [bI, p_alike, c_1, c_2, c_3, ↓reduceIte]; done) | (simp [bI, p_alike, c_1, c_2, c_3]; done) | (simp_all [bI, p_alike]; done)]
            exact lv_sub hl [0, 1, 2, 3, 4] rfl
          · skip
            refine lv_iinc (v := nI ((p_alike S t i) + 1)) (lv' := [(3, .int (nI ((p_alike S t i) + 1))), (4, .int (nI i)), (0, .ref (ad 0)), (1, .int (nI t)), (2, .int (nI u))]) hx hb dX5_countAlike_43 hl (k := 1) rfl (nI_1 (p_alike S t i)) (by decide) rfl (fun ls hl => ?_)
            refine lv_iinc (v := nI (i + 1)) (lv' := [(4, .int (nI (i + 1))), (3, .int (nI ((p_alike S t i) + 1))), (0, .ref (ad 0)), (1, .int (nI t)), (2, .int (nI u))]) hx hb dX5_countAlike_46 hl (k := 1) rfl (nI_1 i) (by decide) rfl (fun ls hl => ?_)
            refine lv_goto (tgt := 5) hx hb dX5_countAlike_49 (by decide) ?_
            refine ih_5 (i + 1) (by omega) (by omega)  ls ?_
            rw [show p_alike S t (i + 1) = (p_alike S t i) + 1 from by first | (simp only [bI, p_alike, c_1, c_2, c_3, ↓reduceIte]; done) | (simp [bI, p_alike, c_1, c_2, c_3]; done) | (simp_all [bI, p_alike]; done)]
            exact lv_sub hl [0, 1, 2, 3, 4] rfl
  refine hloop_5 (u + 1) 0 (by omega) (by omega)  ls ?_
  rw [show p_alike S t 0 = 0 from by first | rfl | (first | (simp only [bI, p_alike, ↓reduceIte]; done) | (simp [bI, p_alike]; done) | (simp_all [bI, p_alike]; done))]
  exact lv_sub hl [0, 1, 2, 3, 4] rfl

theorem dX5_sumPrizes_0 : decode cX5_sumPrizes 0 = .ok (.iconst 0, 1) := by decide +kernel
theorem dX5_sumPrizes_1 : decode cX5_sumPrizes 1 = .ok (.istore_n 3, 1) := by decide +kernel
theorem dX5_sumPrizes_2 : decode cX5_sumPrizes 2 = .ok (.iload_n 1, 1) := by decide +kernel
theorem dX5_sumPrizes_3 : decode cX5_sumPrizes 3 = .ok (.istore 4, 2) := by decide +kernel
theorem dX5_sumPrizes_5 : decode cX5_sumPrizes 5 = .ok (.iload 4, 2) := by decide +kernel
theorem dX5_sumPrizes_7 : decode cX5_sumPrizes 7 = .ok (.iload_n 1, 1) := by decide +kernel
theorem dX5_sumPrizes_8 : decode cX5_sumPrizes 8 = .ok (.iload_n 2, 1) := by decide +kernel
theorem dX5_sumPrizes_9 : decode cX5_sumPrizes 9 = .ok (.iadd, 1) := by decide +kernel
theorem dX5_sumPrizes_10 : decode cX5_sumPrizes 10 = .ok (.if_icmp .ge 26, 3) := by decide +kernel
theorem dX5_sumPrizes_13 : decode cX5_sumPrizes 13 = .ok (.iload 4, 2) := by decide +kernel
theorem dX5_sumPrizes_15 : decode cX5_sumPrizes 15 = .ok (.bipush 8, 2) := by decide +kernel
theorem dX5_sumPrizes_17 : decode cX5_sumPrizes 17 = .ok (.if_icmp .ge 19, 3) := by decide +kernel
theorem dX5_sumPrizes_20 : decode cX5_sumPrizes 20 = .ok (.iload_n 3, 1) := by decide +kernel
theorem dX5_sumPrizes_21 : decode cX5_sumPrizes 21 = .ok (.aload_n 0, 1) := by decide +kernel
theorem dX5_sumPrizes_22 : decode cX5_sumPrizes 22 = .ok (.getfield 54, 3) := by decide +kernel
theorem dX5_sumPrizes_25 : decode cX5_sumPrizes 25 = .ok (.iload 4, 2) := by decide +kernel
theorem dX5_sumPrizes_27 : decode cX5_sumPrizes 27 = .ok (.iaload, 1) := by decide +kernel
theorem dX5_sumPrizes_28 : decode cX5_sumPrizes 28 = .ok (.iadd, 1) := by decide +kernel
theorem dX5_sumPrizes_29 : decode cX5_sumPrizes 29 = .ok (.istore_n 3, 1) := by decide +kernel
theorem dX5_sumPrizes_30 : decode cX5_sumPrizes 30 = .ok (.iinc 4 1, 3) := by decide +kernel
theorem dX5_sumPrizes_33 : decode cX5_sumPrizes 33 = .ok (.goto (-28), 3) := by decide +kernel
theorem dX5_sumPrizes_36 : decode cX5_sumPrizes 36 = .ok (.iload_n 3, 1) := by decide +kernel
theorem dX5_sumPrizes_37 : decode cX5_sumPrizes 37 = .ok (.ireturn, 1) := by decide +kernel
set_option maxHeartbeats 4000000 in
set_option maxRecDepth 100000 in
theorem c_X5_sumPrizes (l : Launch) (D : va_G) (cI cZ cL : ClassId) (ad : Nat → Nat) (S : Mem) (f : Nat) (u : Nat) (hfu : f + u ≤ 8) : RD l D cI cZ cL yX5_sumPrizes cX5_sumPrizes 5 (some .int) 0 [.ref (ad 0), .int (nI f), .int (nI u)] (wC ad cI S) (some (.int (p_prz S f u))) := by
  refine RD.of (by decide) (Nat.le_of_ble_eq_true rfl) ?_
  intro p e s m args below meth c ls hx hb hr hml hown hlk hE hP hl
  have hl : lv_has ls 5 [(0, .ref (ad 0)), (1, .int (nI f)), (2, .int (nI u))] := hl
  refine lv_iconst (v := 0) hx hb dX5_sumPrizes_0 (by decide) ?_
  refine lv_istore_n (lv' := [(3, .int 0), (0, .ref (ad 0)), (1, .int (nI f)), (2, .int (nI u))]) hx hb dX5_sumPrizes_1 rfl hl (by decide) rfl (fun ls hl => ?_)
  refine lv_iload_n hx hb dX5_sumPrizes_2 rfl (lv_at hl 2 rfl) ?_
  refine lv_istore (lv' := [(4, .int (nI f)), (3, .int 0), (0, .ref (ad 0)), (1, .int (nI f)), (2, .int (nI u))]) hx hb dX5_sumPrizes_3 hl (by decide) rfl (fun ls hl => ?_)
  have hloop_5 : ∀ (n i : Nat), i ≤ u → u < i + n → ∀ ls : Array Slot, lv_has ls 5 [(4, .int (nI (f + i))), (3, .int (p_prz S f i)), (0, .ref (ad 0)), (1, .int (nI f)), (2, .int (nI u))] → W p l e (rm 0 0 0) s m args below meth c s.heap [] 0 0 (MQ below (Qrd (some (.int (p_prz S f u)))) args s 0 0 q_no) (F0 m 5 ls []) := by
    intro n
    induction n with
    | zero => intro i h1 h2; exact absurd h2 (by omega)
    | succ n ih_5 =>
      intro i hi_5 hin_5  ls hl
      refine lv_iload hx hb dX5_sumPrizes_5 (lv_at hl 0 rfl) ?_
      refine lv_iload_n hx hb dX5_sumPrizes_7 rfl (lv_at hl 3 rfl) ?_
      refine lv_iload_n hx hb dX5_sumPrizes_8 rfl (lv_at hl 4 rfl) ?_
      refine lv_iadd hx hb dX5_sumPrizes_9 ?_
      refine q_top (y := nI (f + u)) (nI_add f u) ?_
      refine lv_icmp_ge (tgt := 36) hx hb dX5_sumPrizes_10 (by decide) (fun c_1 => ?_) (fun c_1 => ?_)
      · skip
        have c_1 : (f + u) ≤ (f + i) := n_le (a := f + u) (b := f + i) (by omega) (by omega) c_1
        have hend_5 : u = i := by omega
        subst hend_5
        refine lv_iload_n hx hb dX5_sumPrizes_36 rfl (lv_at hl 1 rfl) ?_
        exact e_ret hx hb hr hlk rfl dX5_sumPrizes_37
      · skip
        have c_1 : (f + i) < (f + u) := n_nle (a := f + u) (b := f + i) (by omega) (by omega) c_1
        refine lv_iload hx hb dX5_sumPrizes_13 (lv_at hl 0 rfl) ?_
        refine lv_bipush (v := 8) hx hb dX5_sumPrizes_15 (by decide) ?_
        refine lv_icmp_ge (tgt := 36) hx hb dX5_sumPrizes_17 (by decide) (fun c_2 => ?_) (fun c_2 => ?_)
        · skip
          have c_2 : 8 ≤ (f + i) := n_le (a := 8) (b := f + i) (by omega) (by omega) c_2
          exfalso; omega
        · skip
          have c_2 : (f + i) < 8 := n_nle (a := 8) (b := f + i) (by omega) (by omega) c_2
          refine lv_iload_n hx hb dX5_sumPrizes_20 rfl (lv_at hl 1 rfl) ?_
          refine lv_aload_n hx hb dX5_sumPrizes_21 rfl (lv_at hl 2 rfl) ?_
          refine q_get (v := .ref (ad 34)) hx hb hown hE inT_X5 hP 0 rfl rfl 8 (by decide) w_220 rfl dX5_sumPrizes_22 ?_
          refine lv_iload hx hb dX5_sumPrizes_25 (lv_at hl 0 rfl) ?_
          refine q_iald (f := S 34) (i := (f + i)) hx hb hE hP 34 rfl (by omega) (Nat.le_of_ble_eq_true rfl) dX5_sumPrizes_27 ?_
          refine lv_iadd hx hb dX5_sumPrizes_28 ?_
          refine lv_istore_n (lv' := [(3, .int ((p_prz S f i) + (S 34 (f + i)))), (4, .int (nI (f + i))), (0, .ref (ad 0)), (1, .int (nI f)), (2, .int (nI u))]) hx hb dX5_sumPrizes_29 rfl hl (by decide) rfl (fun ls hl => ?_)
          refine lv_iinc (v := nI ((f + i) + 1)) (lv' := [(4, .int (nI ((f + i) + 1))), (3, .int ((p_prz S f i) + (S 34 (f + i)))), (0, .ref (ad 0)), (1, .int (nI f)), (2, .int (nI u))]) hx hb dX5_sumPrizes_30 hl (k := 1) rfl (nI_1 (f + i)) (by decide) rfl (fun ls hl => ?_)
          refine lv_goto (tgt := 5) hx hb dX5_sumPrizes_33 (by decide) ?_
          refine ih_5 (i + 1) (by omega) (by omega)  ls ?_
          rw [show p_prz S f (i + 1) = (p_prz S f i) + (S 34 (f + i)) from by first | (simp only [bI, p_prz, c_1, c_2, ↓reduceIte]; done) | (simp [bI, p_prz, c_1, c_2]; done) | (simp_all [bI, p_prz]; done)]
          exact lv_sub hl [0, 1, 2, 3, 4] rfl
  refine hloop_5 (u + 1) 0 (by omega) (by omega)  ls ?_
  rw [show f + 0 = f from by first | rfl | (first | (simp only [bI, p_prz, ↓reduceIte]; done) | (simp [bI, p_prz]; done) | (simp_all [bI, p_prz]; done))]
  rw [show p_prz S f 0 = 0 from by first | rfl | (first | (simp only [bI, p_prz, ↓reduceIte]; done) | (simp [bI, p_prz]; done) | (simp_all [bI, p_prz]; done))]
  exact lv_sub hl [0, 1, 2, 3, 4] rfl
end
section
theorem dX3_append_0 : decode cX3_append 0 = .ok (.aload_n 0, 1) := by decide +kernel
theorem dX3_append_1 : decode cX3_append 1 = .ok (.getfield 9, 3) := by decide +kernel
theorem dX3_append_4 : decode cX3_append 4 = .ok (.aload_n 0, 1) := by decide +kernel
theorem dX3_append_5 : decode cX3_append 5 = .ok (.getfield 27, 3) := by decide +kernel
theorem dX3_append_8 : decode cX3_append 8 = .ok (.iload_n 1, 1) := by decide +kernel
theorem dX3_append_9 : decode cX3_append 9 = .ok (.iastore, 1) := by decide +kernel
theorem dX3_append_10 : decode cX3_append 10 = .ok (.aload_n 0, 1) := by decide +kernel
theorem dX3_append_11 : decode cX3_append 11 = .ok (.getfield 15, 3) := by decide +kernel
theorem dX3_append_14 : decode cX3_append 14 = .ok (.aload_n 0, 1) := by decide +kernel
theorem dX3_append_15 : decode cX3_append 15 = .ok (.getfield 27, 3) := by decide +kernel
theorem dX3_append_18 : decode cX3_append 18 = .ok (.iload_n 2, 1) := by decide +kernel
theorem dX3_append_19 : decode cX3_append 19 = .ok (.iastore, 1) := by decide +kernel
theorem dX3_append_20 : decode cX3_append 20 = .ok (.aload_n 0, 1) := by decide +kernel
theorem dX3_append_21 : decode cX3_append 21 = .ok (.getfield 18, 3) := by decide +kernel
theorem dX3_append_24 : decode cX3_append 24 = .ok (.aload_n 0, 1) := by decide +kernel
theorem dX3_append_25 : decode cX3_append 25 = .ok (.getfield 27, 3) := by decide +kernel
theorem dX3_append_28 : decode cX3_append 28 = .ok (.iload_n 3, 1) := by decide +kernel
theorem dX3_append_29 : decode cX3_append 29 = .ok (.iastore, 1) := by decide +kernel
theorem dX3_append_30 : decode cX3_append 30 = .ok (.aload_n 0, 1) := by decide +kernel
theorem dX3_append_31 : decode cX3_append 31 = .ok (.getfield 21, 3) := by decide +kernel
theorem dX3_append_34 : decode cX3_append 34 = .ok (.aload_n 0, 1) := by decide +kernel
theorem dX3_append_35 : decode cX3_append 35 = .ok (.getfield 27, 3) := by decide +kernel
theorem dX3_append_38 : decode cX3_append 38 = .ok (.iload 4, 2) := by decide +kernel
theorem dX3_append_40 : decode cX3_append 40 = .ok (.iastore, 1) := by decide +kernel
theorem dX3_append_41 : decode cX3_append 41 = .ok (.aload_n 0, 1) := by decide +kernel
theorem dX3_append_42 : decode cX3_append 42 = .ok (.dup, 1) := by decide +kernel
theorem dX3_append_43 : decode cX3_append 43 = .ok (.getfield 27, 3) := by decide +kernel
theorem dX3_append_46 : decode cX3_append 46 = .ok (.dup_x1, 1) := by decide +kernel
theorem dX3_append_47 : decode cX3_append 47 = .ok (.iconst 1, 1) := by decide +kernel
theorem dX3_append_48 : decode cX3_append 48 = .ok (.iadd, 1) := by decide +kernel
theorem dX3_append_49 : decode cX3_append 49 = .ok (.putfield 27, 3) := by decide +kernel
theorem dX3_append_52 : decode cX3_append 52 = .ok (.ireturn, 1) := by decide +kernel
set_option maxHeartbeats 4000000 in
set_option maxRecDepth 100000 in
theorem c_X3_append (l : Launch) (D : va_G) (cI cZ cL : ClassId) (ad : Nat → Nat) (S : Mem) (A : Nat → Prop) (hD : va_D A (wC ad cI S)) (x1 : Int32) (x2 : Int32) (x3 : Int32) (x4 : Int32) (hI : I0 S) (hc : cR S < 16) : WR l D cI cZ cL yX3_append cX3_append 5 (some .int) 0 [.ref (ad 1), .int x1, .int x2, .int x3, .int x4] A (wC ad cI S) (wC ad cI (p_addR S x1 x2 x3 x4)) (some (.int (nI (cR S)))) := by
  refine WR.of (by decide) (Nat.le_of_ble_eq_true rfl) ?_
  intro p e s m args below meth c ls hx hb hr hml hown hlk hE hP hS hl
  have hl : lv_has ls 5 [(0, .ref (ad 1)), (1, .int x1), (2, .int x2), (3, .int x3), (4, .int x4)] := hl
  refine lv_aload_n hx hb dX3_append_0 rfl (lv_at hl 0 rfl) ?_
  refine q_get (v := .ref (ad 2)) hx hb hown hE inT_X3 hP 1 rfl rfl 0 (by decide) w_92 rfl dX3_append_1 ?_
  refine lv_aload_n hx hb dX3_append_4 rfl (lv_at hl 0 rfl) ?_
  refine q_get (v := .int (S 1 6)) hx hb hown hE inT_X3 hP 1 rfl rfl 6 (by decide) w_103 rfl dX3_append_5 ?_
  refine q_top (y := nI (cR S)) (I0.R hI) ?_
  refine lv_iload_n hx hb dX3_append_8 rfl (lv_at hl 1 rfl) ?_
  refine q_iast (f := S 2) (i := (cR S)) (x := x1) (ws' := (wC ad cI (st S 2 (cR S) x1))) hx hb hE hP (wC_D hD) hS 2 rfl (by omega) (Nat.le_of_ble_eq_true rfl) (wC_st_2) dX3_append_9 (fun H locs hP hS => ?_)
  refine lv_aload_n hx hb dX3_append_10 rfl (lv_at hl 0 rfl) ?_
  refine q_get (v := .ref (ad 3)) hx hb hown hE inT_X3 hP 1 rfl rfl 1 (by decide) w_94 rfl dX3_append_11 ?_
  refine lv_aload_n hx hb dX3_append_14 rfl (lv_at hl 0 rfl) ?_
  refine q_get (v := .int (S 1 6)) hx hb hown hE inT_X3 hP 1 rfl rfl 6 (by decide) w_103 rfl dX3_append_15 ?_
  refine q_top (y := nI (cR S)) (I0.R hI) ?_
  refine lv_iload_n hx hb dX3_append_18 rfl (lv_at hl 2 rfl) ?_
  refine q_iast (f := (st S 2 (cR S) x1) 3) (i := (cR S)) (x := x2) (ws' := (wC ad cI (st (st S 2 (cR S) x1) 3 (cR S) x2))) hx hb hE hP (wC_D hD) hS 3 rfl (by omega) (Nat.le_of_ble_eq_true rfl) (wC_st_3) dX3_append_19 (fun H locs hP hS => ?_)
  refine lv_aload_n hx hb dX3_append_20 rfl (lv_at hl 0 rfl) ?_
  refine q_get (v := .ref (ad 4)) hx hb hown hE inT_X3 hP 1 rfl rfl 2 (by decide) w_96 rfl dX3_append_21 ?_
  refine lv_aload_n hx hb dX3_append_24 rfl (lv_at hl 0 rfl) ?_
  refine q_get (v := .int (S 1 6)) hx hb hown hE inT_X3 hP 1 rfl rfl 6 (by decide) w_103 rfl dX3_append_25 ?_
  refine q_top (y := nI (cR S)) (I0.R hI) ?_
  refine lv_iload_n hx hb dX3_append_28 rfl (lv_at hl 3 rfl) ?_
  refine q_iast (f := (st (st S 2 (cR S) x1) 3 (cR S) x2) 4) (i := (cR S)) (x := x3) (ws' := (wC ad cI (st (st (st S 2 (cR S) x1) 3 (cR S) x2) 4 (cR S) x3))) hx hb hE hP (wC_D hD) hS 4 rfl (by omega) (Nat.le_of_ble_eq_true rfl) (wC_st_4) dX3_append_29 (fun H locs hP hS => ?_)
  refine lv_aload_n hx hb dX3_append_30 rfl (lv_at hl 0 rfl) ?_
  refine q_get (v := .ref (ad 5)) hx hb hown hE inT_X3 hP 1 rfl rfl 3 (by decide) w_98 rfl dX3_append_31 ?_
  refine lv_aload_n hx hb dX3_append_34 rfl (lv_at hl 0 rfl) ?_
  refine q_get (v := .int (S 1 6)) hx hb hown hE inT_X3 hP 1 rfl rfl 6 (by decide) w_103 rfl dX3_append_35 ?_
  refine q_top (y := nI (cR S)) (I0.R hI) ?_
  refine lv_iload hx hb dX3_append_38 (lv_at hl 4 rfl) ?_
  refine q_iast (f := (st (st (st S 2 (cR S) x1) 3 (cR S) x2) 4 (cR S) x3) 5) (i := (cR S)) (x := x4) (ws' := (wC ad cI (st (st (st (st S 2 (cR S) x1) 3 (cR S) x2) 4 (cR S) x3) 5 (cR S) x4))) hx hb hE hP (wC_D hD) hS 5 rfl (by omega) (Nat.le_of_ble_eq_true rfl) (wC_st_5) dX3_append_40 (fun H locs hP hS => ?_)
  refine lv_aload_n hx hb dX3_append_41 rfl (lv_at hl 0 rfl) ?_
  refine lv_dup hx hb dX3_append_42 rfl ?_
  refine q_get (v := .int (S 1 6)) hx hb hown hE inT_X3 hP 1 rfl rfl 6 (by decide) w_103 rfl dX3_append_43 ?_
  refine q_top (y := nI (cR S)) (I0.R hI) ?_
  refine lv_dup_x1 hx hb dX3_append_46 rfl rfl ?_
  refine lv_iconst (v := 1) hx hb dX3_append_47 (by decide) ?_
  refine lv_iadd hx hb dX3_append_48 ?_
  refine q_top (y := nI ((cR S) + 1)) (nI_add (cR S) 1) ?_
  refine q_put (ty0 := tyX3) (ws' := (wC ad cI (st (st (st (st (st S 2 (cR S) x1) 3 (cR S) x2) 4 (cR S) x3) 5 (cR S) x4) 1 6 (nI ((cR S) + 1))))) (v := .int (nI ((cR S) + 1))) hx hb hown hE inT_X3 tyX3_ok nmX3 hP (wC_D hD) hS 1 rfl rfl 6 (by decide) w_103 rfl rfl rfl (Nat.le_of_ble_eq_true rfl) rfl dX3_append_49 (fun H locs hP hS => ?_)
  exact e_wret hx hb hr hlk rfl (by rw [show p_addR S x1 x2 x3 x4 = st (st (st (st (st S 2 (cR S) x1) 3 (cR S) x2) 4 (cR S) x3) 5 (cR S) x4) 1 6 (nI ((cR S) + 1)) from by rfl]; exact hP) hS dX3_append_52

theorem dX0_append_0 : decode cX0_append 0 = .ok (.aload_n 0, 1) := by decide +kernel
theorem dX0_append_1 : decode cX0_append 1 = .ok (.getfield 9, 3) := by decide +kernel
theorem dX0_append_4 : decode cX0_append 4 = .ok (.aload_n 0, 1) := by decide +kernel
theorem dX0_append_5 : decode cX0_append 5 = .ok (.getfield 24, 3) := by decide +kernel
theorem dX0_append_8 : decode cX0_append 8 = .ok (.iload_n 1, 1) := by decide +kernel
theorem dX0_append_9 : decode cX0_append 9 = .ok (.iastore, 1) := by decide +kernel
theorem dX0_append_10 : decode cX0_append 10 = .ok (.aload_n 0, 1) := by decide +kernel
theorem dX0_append_11 : decode cX0_append 11 = .ok (.getfield 15, 3) := by decide +kernel
theorem dX0_append_14 : decode cX0_append 14 = .ok (.aload_n 0, 1) := by decide +kernel
theorem dX0_append_15 : decode cX0_append 15 = .ok (.getfield 24, 3) := by decide +kernel
theorem dX0_append_18 : decode cX0_append 18 = .ok (.iload_n 2, 1) := by decide +kernel
theorem dX0_append_19 : decode cX0_append 19 = .ok (.iastore, 1) := by decide +kernel
theorem dX0_append_20 : decode cX0_append 20 = .ok (.aload_n 0, 1) := by decide +kernel
theorem dX0_append_21 : decode cX0_append 21 = .ok (.getfield 18, 3) := by decide +kernel
theorem dX0_append_24 : decode cX0_append 24 = .ok (.aload_n 0, 1) := by decide +kernel
theorem dX0_append_25 : decode cX0_append 25 = .ok (.getfield 24, 3) := by decide +kernel
theorem dX0_append_28 : decode cX0_append 28 = .ok (.iload_n 3, 1) := by decide +kernel
theorem dX0_append_29 : decode cX0_append 29 = .ok (.iastore, 1) := by decide +kernel
theorem dX0_append_30 : decode cX0_append 30 = .ok (.aload_n 0, 1) := by decide +kernel
theorem dX0_append_31 : decode cX0_append 31 = .ok (.getfield 21, 3) := by decide +kernel
theorem dX0_append_34 : decode cX0_append 34 = .ok (.aload_n 0, 1) := by decide +kernel
theorem dX0_append_35 : decode cX0_append 35 = .ok (.getfield 24, 3) := by decide +kernel
theorem dX0_append_38 : decode cX0_append 38 = .ok (.iload 4, 2) := by decide +kernel
theorem dX0_append_40 : decode cX0_append 40 = .ok (.iastore, 1) := by decide +kernel
theorem dX0_append_41 : decode cX0_append 41 = .ok (.aload_n 0, 1) := by decide +kernel
theorem dX0_append_42 : decode cX0_append 42 = .ok (.dup, 1) := by decide +kernel
theorem dX0_append_43 : decode cX0_append 43 = .ok (.getfield 24, 3) := by decide +kernel
theorem dX0_append_46 : decode cX0_append 46 = .ok (.iconst 1, 1) := by decide +kernel
theorem dX0_append_47 : decode cX0_append 47 = .ok (.iadd, 1) := by decide +kernel
theorem dX0_append_48 : decode cX0_append 48 = .ok (.putfield 24, 3) := by decide +kernel
theorem dX0_append_51 : decode cX0_append 51 = .ok (.return_, 1) := by decide +kernel
set_option maxHeartbeats 4000000 in
set_option maxRecDepth 100000 in
theorem c_X0_append (l : Launch) (D : va_G) (cI cZ cL : ClassId) (ad : Nat → Nat) (S : Mem) (A : Nat → Prop) (hD : va_D A (wC ad cI S)) (t : Nat) (r : Nat) (w : Int32) (mi : Int32) (hI : I0 S) (hc : cN S < 200) : WR l D cI cZ cL yX0_append cX0_append 5 none 0 [.ref (ad 7), .int (nI t), .int (nI r), .int w, .int mi] A (wC ad cI S) (wC ad cI (p_app S t r w mi)) none := by
  refine WR.of (by decide) (Nat.le_of_ble_eq_true rfl) ?_
  intro p e s m args below meth c ls hx hb hr hml hown hlk hE hP hS hl
  have hl : lv_has ls 5 [(0, .ref (ad 7)), (1, .int (nI t)), (2, .int (nI r)), (3, .int w), (4, .int mi)] := hl
  refine lv_aload_n hx hb dX0_append_0 rfl (lv_at hl 0 rfl) ?_
  refine q_get (v := .ref (ad 8)) hx hb hown hE inT_X0 hP 7 rfl rfl 0 (by decide) w_127 rfl dX0_append_1 ?_
  refine lv_aload_n hx hb dX0_append_4 rfl (lv_at hl 0 rfl) ?_
  refine q_get (v := .int (S 7 4)) hx hb hown hE inT_X0 hP 7 rfl rfl 4 (by decide) w_135 rfl dX0_append_5 ?_
  refine q_top (y := nI (cN S)) (I0.N hI) ?_
  refine lv_iload_n hx hb dX0_append_8 rfl (lv_at hl 1 rfl) ?_
  refine q_iast (f := S 8) (i := (cN S)) (x := nI t) (ws' := (wC ad cI (st S 8 (cN S) (nI t)))) hx hb hE hP (wC_D hD) hS 8 rfl (by omega) (Nat.le_of_ble_eq_true rfl) (wC_st_8) dX0_append_9 (fun H locs hP hS => ?_)
  refine lv_aload_n hx hb dX0_append_10 rfl (lv_at hl 0 rfl) ?_
  refine q_get (v := .ref (ad 9)) hx hb hown hE inT_X0 hP 7 rfl rfl 1 (by decide) w_129 rfl dX0_append_11 ?_
  refine lv_aload_n hx hb dX0_append_14 rfl (lv_at hl 0 rfl) ?_
  refine q_get (v := .int (S 7 4)) hx hb hown hE inT_X0 hP 7 rfl rfl 4 (by decide) w_135 rfl dX0_append_15 ?_
  refine q_top (y := nI (cN S)) (I0.N hI) ?_
  refine lv_iload_n hx hb dX0_append_18 rfl (lv_at hl 2 rfl) ?_
  refine q_iast (f := (st S 8 (cN S) (nI t)) 9) (i := (cN S)) (x := nI r) (ws' := (wC ad cI (st (st S 8 (cN S) (nI t)) 9 (cN S) (nI r)))) hx hb hE hP (wC_D hD) hS 9 rfl (by omega) (Nat.le_of_ble_eq_true rfl) (wC_st_9) dX0_append_19 (fun H locs hP hS => ?_)
  refine lv_aload_n hx hb dX0_append_20 rfl (lv_at hl 0 rfl) ?_
  refine q_get (v := .ref (ad 10)) hx hb hown hE inT_X0 hP 7 rfl rfl 2 (by decide) w_131 rfl dX0_append_21 ?_
  refine lv_aload_n hx hb dX0_append_24 rfl (lv_at hl 0 rfl) ?_
  refine q_get (v := .int (S 7 4)) hx hb hown hE inT_X0 hP 7 rfl rfl 4 (by decide) w_135 rfl dX0_append_25 ?_
  refine q_top (y := nI (cN S)) (I0.N hI) ?_
  refine lv_iload_n hx hb dX0_append_28 rfl (lv_at hl 3 rfl) ?_
  refine q_iast (f := (st (st S 8 (cN S) (nI t)) 9 (cN S) (nI r)) 10) (i := (cN S)) (x := w) (ws' := (wC ad cI (st (st (st S 8 (cN S) (nI t)) 9 (cN S) (nI r)) 10 (cN S) w))) hx hb hE hP (wC_D hD) hS 10 rfl (by omega) (Nat.le_of_ble_eq_true rfl) (wC_st_10) dX0_append_29 (fun H locs hP hS => ?_)
  refine lv_aload_n hx hb dX0_append_30 rfl (lv_at hl 0 rfl) ?_
  refine q_get (v := .ref (ad 11)) hx hb hown hE inT_X0 hP 7 rfl rfl 3 (by decide) w_133 rfl dX0_append_31 ?_
  refine lv_aload_n hx hb dX0_append_34 rfl (lv_at hl 0 rfl) ?_
  refine q_get (v := .int (S 7 4)) hx hb hown hE inT_X0 hP 7 rfl rfl 4 (by decide) w_135 rfl dX0_append_35 ?_
  refine q_top (y := nI (cN S)) (I0.N hI) ?_
  refine lv_iload hx hb dX0_append_38 (lv_at hl 4 rfl) ?_
  refine q_iast (f := (st (st (st S 8 (cN S) (nI t)) 9 (cN S) (nI r)) 10 (cN S) w) 11) (i := (cN S)) (x := mi) (ws' := (wC ad cI (st (st (st (st S 8 (cN S) (nI t)) 9 (cN S) (nI r)) 10 (cN S) w) 11 (cN S) mi))) hx hb hE hP (wC_D hD) hS 11 rfl (by omega) (Nat.le_of_ble_eq_true rfl) (wC_st_11) dX0_append_40 (fun H locs hP hS => ?_)
  refine lv_aload_n hx hb dX0_append_41 rfl (lv_at hl 0 rfl) ?_
  refine lv_dup hx hb dX0_append_42 rfl ?_
  refine q_get (v := .int (S 7 4)) hx hb hown hE inT_X0 hP 7 rfl rfl 4 (by decide) w_135 rfl dX0_append_43 ?_
  refine q_top (y := nI (cN S)) (I0.N hI) ?_
  refine lv_iconst (v := 1) hx hb dX0_append_46 (by decide) ?_
  refine lv_iadd hx hb dX0_append_47 ?_
  refine q_top (y := nI ((cN S) + 1)) (nI_add (cN S) 1) ?_
  refine q_put (ty0 := tyX0) (ws' := (wC ad cI (st (st (st (st (st S 8 (cN S) (nI t)) 9 (cN S) (nI r)) 10 (cN S) w) 11 (cN S) mi) 7 4 (nI ((cN S) + 1))))) (v := .int (nI ((cN S) + 1))) hx hb hown hE inT_X0 tyX0_ok nmX0 hP (wC_D hD) hS 7 rfl rfl 4 (by decide) w_135 rfl rfl rfl (Nat.le_of_ble_eq_true rfl) rfl dX0_append_48 (fun H locs hP hS => ?_)
  exact e_wretv hx hb hr hlk (by rw [show p_app S t r w mi = st (st (st (st (st S 8 (cN S) (nI t)) 9 (cN S) (nI r)) 10 (cN S) w) 11 (cN S) mi) 7 4 (nI ((cN S) + 1)) from by rfl]; exact hP) hS dX0_append_51

theorem dX4_append_0 : decode cX4_append 0 = .ok (.aload_n 0, 1) := by decide +kernel
theorem dX4_append_1 : decode cX4_append 1 = .ok (.getfield 9, 3) := by decide +kernel
theorem dX4_append_4 : decode cX4_append 4 = .ok (.iload_n 1, 1) := by decide +kernel
theorem dX4_append_5 : decode cX4_append 5 = .ok (.iload_n 2, 1) := by decide +kernel
theorem dX4_append_6 : decode cX4_append 6 = .ok (.invokestatic 18, 3) := by decide +kernel
theorem dX4_append_9 : decode cX4_append 9 = .ok (.iaload, 1) := by decide +kernel
theorem dX4_append_10 : decode cX4_append 10 = .ok (.istore 4, 2) := by decide +kernel
theorem dX4_append_12 : decode cX4_append 12 = .ok (.aload_n 0, 1) := by decide +kernel
theorem dX4_append_13 : decode cX4_append 13 = .ok (.getfield 15, 3) := by decide +kernel
theorem dX4_append_16 : decode cX4_append 16 = .ok (.iload_n 1, 1) := by decide +kernel
theorem dX4_append_17 : decode cX4_append 17 = .ok (.iload_n 2, 1) := by decide +kernel
theorem dX4_append_18 : decode cX4_append 18 = .ok (.iload 4, 2) := by decide +kernel
theorem dX4_append_20 : decode cX4_append 20 = .ok (.invokestatic 22, 3) := by decide +kernel
theorem dX4_append_23 : decode cX4_append 23 = .ok (.iload_n 3, 1) := by decide +kernel
theorem dX4_append_24 : decode cX4_append 24 = .ok (.iastore, 1) := by decide +kernel
theorem dX4_append_25 : decode cX4_append 25 = .ok (.aload_n 0, 1) := by decide +kernel
theorem dX4_append_26 : decode cX4_append 26 = .ok (.getfield 9, 3) := by decide +kernel
theorem dX4_append_29 : decode cX4_append 29 = .ok (.iload_n 1, 1) := by decide +kernel
theorem dX4_append_30 : decode cX4_append 30 = .ok (.iload_n 2, 1) := by decide +kernel
theorem dX4_append_31 : decode cX4_append 31 = .ok (.invokestatic 18, 3) := by decide +kernel
theorem dX4_append_34 : decode cX4_append 34 = .ok (.iload 4, 2) := by decide +kernel
theorem dX4_append_36 : decode cX4_append 36 = .ok (.iconst 1, 1) := by decide +kernel
theorem dX4_append_37 : decode cX4_append 37 = .ok (.iadd, 1) := by decide +kernel
theorem dX4_append_38 : decode cX4_append 38 = .ok (.iastore, 1) := by decide +kernel
theorem dX4_append_39 : decode cX4_append 39 = .ok (.return_, 1) := by decide +kernel
set_option maxHeartbeats 4000000 in
set_option maxRecDepth 100000 in
theorem c_X4_append (l : Launch) (D : va_G) (cI cZ cL : ClassId) (ad : Nat → Nat) (S : Mem) (A : Nat → Prop) (hD : va_D A (wC ad cI S)) (t : Nat) (r : Nat) (x : Int32) (hI : I0 S) (ht : t < 8) (hr : r < 16) (hc : iN (S 13 (t * 16 + r)) < 3) : WR l D cI cZ cL yX4_append cX4_append 5 none 2 [.ref (ad 12), .int (nI t), .int (nI r), .int x] A (wC ad cI S) (wC ad cI (p_sold S t r x)) none := by
  refine WR.of (by decide) (Nat.le_of_ble_eq_true rfl) ?_
  intro p e s m args below meth c ls hx hb hr hml hown hlk hE hP hS hl
  have hl : lv_has ls 5 [(0, .ref (ad 12)), (1, .int (nI t)), (2, .int (nI r)), (3, .int x)] := hl
  refine lv_aload_n hx hb dX4_append_0 rfl (lv_at hl 0 rfl) ?_
  refine q_get (v := .ref (ad 13)) hx hb hown hE inT_X4 hP 12 rfl rfl 0 (by decide) w_154 rfl dX4_append_1 ?_
  refine lv_iload_n hx hb dX4_append_4 rfl (lv_at hl 1 rfl) ?_
  refine lv_iload_n hx hb dX4_append_5 rfl (lv_at hl 2 rfl) ?_
  refine q_rd (q_runSN (rest := [.ref (ad 13)]) hx hb hml hown hE (c_X5_cell l D cI cZ cL _ t r) ck_X5_cell w_549 hP hl.1 rfl ⟨Nat.le_of_ble_eq_true rfl, Nat.le_of_ble_eq_true rfl⟩ (Nat.le_of_ble_eq_true rfl) dX4_append_6 ⟨Nat.le_of_ble_eq_true rfl, Nat.le_of_ble_eq_true rfl⟩) ?_
  refine q_iald (f := S 13) (i := (t * 16 + r)) hx hb hE hP 13 rfl (by omega) (Nat.le_of_ble_eq_true rfl) dX4_append_9 ?_
  refine q_top (y := nI (iN (S 13 (t * 16 + r)))) (hI.bo (by omega)) ?_
  refine lv_istore (lv' := [(4, .int (nI (iN (S 13 (t * 16 + r))))), (0, .ref (ad 12)), (1, .int (nI t)), (2, .int (nI r)), (3, .int x)]) hx hb dX4_append_10 hl (by decide) rfl (fun ls hl => ?_)
  refine lv_aload_n hx hb dX4_append_12 rfl (lv_at hl 1 rfl) ?_
  refine q_get (v := .ref (ad 14)) hx hb hown hE inT_X4 hP 12 rfl rfl 1 (by decide) w_156 rfl dX4_append_13 ?_
  refine lv_iload_n hx hb dX4_append_16 rfl (lv_at hl 2 rfl) ?_
  refine lv_iload_n hx hb dX4_append_17 rfl (lv_at hl 3 rfl) ?_
  refine lv_iload hx hb dX4_append_18 (lv_at hl 0 rfl) ?_
  refine q_rd (q_runSN (rest := [.ref (ad 14)]) hx hb hml hown hE (c_X5_sale l D cI cZ cL _ t r (iN (S 13 (t * 16 + r)))) ck_X5_sale w_555 hP hl.1 rfl ⟨Nat.le_of_ble_eq_true rfl, Nat.le_of_ble_eq_true rfl⟩ (Nat.le_of_ble_eq_true rfl) dX4_append_20 ⟨Nat.le_of_ble_eq_true rfl, Nat.le_of_ble_eq_true rfl⟩) ?_
  refine lv_iload_n hx hb dX4_append_23 rfl (lv_at hl 4 rfl) ?_
  refine q_iast (f := S 14) (i := ((t * 16 + r) * 3 + (iN (S 13 (t * 16 + r))))) (x := x) (ws' := (wC ad cI (st S 14 ((t * 16 + r) * 3 + (iN (S 13 (t * 16 + r)))) x))) hx hb hE hP (wC_D hD) hS 14 rfl (by omega) (Nat.le_of_ble_eq_true rfl) (wC_st_14) dX4_append_24 (fun H locs hP hS => ?_)
  refine lv_aload_n hx hb dX4_append_25 rfl (lv_at hl 1 rfl) ?_
  refine q_get (v := .ref (ad 13)) hx hb hown hE inT_X4 hP 12 rfl rfl 0 (by decide) w_154 rfl dX4_append_26 ?_
  refine lv_iload_n hx hb dX4_append_29 rfl (lv_at hl 2 rfl) ?_
  refine lv_iload_n hx hb dX4_append_30 rfl (lv_at hl 3 rfl) ?_
  refine q_rd (q_runSN (rest := [.ref (ad 13)]) hx hb hml hown hE (c_X5_cell l D cI cZ cL _ t r) ck_X5_cell w_549 hP hl.1 rfl ⟨Nat.le_of_ble_eq_true rfl, Nat.le_of_ble_eq_true rfl⟩ (Nat.le_of_ble_eq_true rfl) dX4_append_31 ⟨Nat.le_of_ble_eq_true rfl, Nat.le_of_ble_eq_true rfl⟩) ?_
  refine lv_iload hx hb dX4_append_34 (lv_at hl 0 rfl) ?_
  refine lv_iconst (v := 1) hx hb dX4_append_36 (by decide) ?_
  refine lv_iadd hx hb dX4_append_37 ?_
  refine q_top (y := nI ((iN (S 13 (t * 16 + r))) + 1)) (nI_add (iN (S 13 (t * 16 + r))) 1) ?_
  refine q_iast (f := (st S 14 ((t * 16 + r) * 3 + (iN (S 13 (t * 16 + r)))) x) 13) (i := (t * 16 + r)) (x := nI ((iN (S 13 (t * 16 + r))) + 1)) (ws' := (wC ad cI (st (st S 14 ((t * 16 + r) * 3 + (iN (S 13 (t * 16 + r)))) x) 13 (t * 16 + r) (nI ((iN (S 13 (t * 16 + r))) + 1))))) hx hb hE hP (wC_D hD) hS 13 rfl (by omega) (Nat.le_of_ble_eq_true rfl) (wC_st_13) dX4_append_38 (fun H locs hP hS => ?_)
  exact e_wretv hx hb hr hlk (by rw [show p_sold S t r x = st (st S 14 ((t * 16 + r) * 3 + (iN (S 13 (t * 16 + r)))) x) 13 (t * 16 + r) (nI ((iN (S 13 (t * 16 + r))) + 1)) from by rfl]; exact hP) hS dX4_append_39

theorem dX1_switchPardon_0 : decode cX1_switchPardon 0 = .ok (.aload_n 0, 1) := by decide +kernel
theorem dX1_switchPardon_1 : decode cX1_switchPardon 1 = .ok (.getfield 15, 3) := by decide +kernel
theorem dX1_switchPardon_4 : decode cX1_switchPardon 4 = .ok (.iload_n 1, 1) := by decide +kernel
theorem dX1_switchPardon_5 : decode cX1_switchPardon 5 = .ok (.dup2, 1) := by decide +kernel
theorem dX1_switchPardon_6 : decode cX1_switchPardon 6 = .ok (.iaload, 1) := by decide +kernel
theorem dX1_switchPardon_7 : decode cX1_switchPardon 7 = .ok (.iload_n 2, 1) := by decide +kernel
theorem dX1_switchPardon_8 : decode cX1_switchPardon 8 = .ok (.invokestatic 22, 3) := by decide +kernel
theorem dX1_switchPardon_11 : decode cX1_switchPardon 11 = .ok (.ixor, 1) := by decide +kernel
theorem dX1_switchPardon_12 : decode cX1_switchPardon 12 = .ok (.iastore, 1) := by decide +kernel
theorem dX1_switchPardon_13 : decode cX1_switchPardon 13 = .ok (.aload_n 0, 1) := by decide +kernel
theorem dX1_switchPardon_14 : decode cX1_switchPardon 14 = .ok (.getfield 15, 3) := by decide +kernel
theorem dX1_switchPardon_17 : decode cX1_switchPardon 17 = .ok (.iload_n 2, 1) := by decide +kernel
theorem dX1_switchPardon_18 : decode cX1_switchPardon 18 = .ok (.dup2, 1) := by decide +kernel
theorem dX1_switchPardon_19 : decode cX1_switchPardon 19 = .ok (.iaload, 1) := by decide +kernel
theorem dX1_switchPardon_20 : decode cX1_switchPardon 20 = .ok (.iload_n 1, 1) := by decide +kernel
theorem dX1_switchPardon_21 : decode cX1_switchPardon 21 = .ok (.invokestatic 22, 3) := by decide +kernel
theorem dX1_switchPardon_24 : decode cX1_switchPardon 24 = .ok (.ixor, 1) := by decide +kernel
theorem dX1_switchPardon_25 : decode cX1_switchPardon 25 = .ok (.iastore, 1) := by decide +kernel
theorem dX1_switchPardon_26 : decode cX1_switchPardon 26 = .ok (.aload_n 0, 1) := by decide +kernel
theorem dX1_switchPardon_27 : decode cX1_switchPardon 27 = .ok (.getfield 15, 3) := by decide +kernel
theorem dX1_switchPardon_30 : decode cX1_switchPardon 30 = .ok (.iload_n 1, 1) := by decide +kernel
theorem dX1_switchPardon_31 : decode cX1_switchPardon 31 = .ok (.iaload, 1) := by decide +kernel
theorem dX1_switchPardon_32 : decode cX1_switchPardon 32 = .ok (.iload_n 2, 1) := by decide +kernel
theorem dX1_switchPardon_33 : decode cX1_switchPardon 33 = .ok (.invokestatic 26, 3) := by decide +kernel
theorem dX1_switchPardon_36 : decode cX1_switchPardon 36 = .ok (.ireturn, 1) := by decide +kernel
set_option maxHeartbeats 4000000 in
set_option maxRecDepth 100000 in
theorem c_X1_switchPardon (l : Launch) (D : va_G) (cI cZ cL : ClassId) (ad : Nat → Nat) (S : Mem) (A : Nat → Prop) (hD : va_D A (wC ad cI S)) (t : Nat) (o : Nat) (ht : t < 8) (ho : o < 8) : WR l D cI cZ cL yX1_switchPardon cX1_switchPardon 3 (some .boolean) 1 [.ref (ad 15), .int (nI t), .int (nI o)] A (wC ad cI S) (wC ad cI (p_swi S t o)) (some (.int (bI (hs (p_swi S t o 17 t) (nI o))))) := by
  refine WR.of (by decide) (Nat.le_of_ble_eq_true rfl) ?_
  intro p e s m args below meth c ls hx hb hr hml hown hlk hE hP hS hl
  have hl : lv_has ls 3 [(0, .ref (ad 15)), (1, .int (nI t)), (2, .int (nI o))] := hl
  refine lv_aload_n hx hb dX1_switchPardon_0 rfl (lv_at hl 0 rfl) ?_
  refine q_get (v := .ref (ad 17)) hx hb hown hE inT_X1 hP 15 rfl rfl 1 (by decide) w_171 rfl dX1_switchPardon_1 ?_
  refine lv_iload_n hx hb dX1_switchPardon_4 rfl (lv_at hl 1 rfl) ?_
  refine lv_dup2_11 hx hb dX1_switchPardon_5 rfl rfl ?_
  refine q_iald (f := S 17) (i := t) hx hb hE hP 17 rfl (by omega) (Nat.le_of_ble_eq_true rfl) dX1_switchPardon_6 ?_
  refine lv_iload_n hx hb dX1_switchPardon_7 rfl (lv_at hl 2 rfl) ?_
  refine q_rd (q_runSN (rest := [.int (S 17 t), .int (nI t), .ref (ad 17)]) hx hb hml hown hE (c_X5_bit l D cI cZ cL _ (nI o)) ck_X5_bit w_620 hP hl.1 rfl ⟨Nat.le_of_ble_eq_true rfl, Nat.le_of_ble_eq_true rfl⟩ (Nat.le_of_ble_eq_true rfl) dX1_switchPardon_8 ⟨Nat.le_of_ble_eq_true rfl, Nat.le_of_ble_eq_true rfl⟩) ?_
  refine lv_ixor hx hb dX1_switchPardon_11 ?_
  refine q_iast (f := S 17) (i := t) (x := (S 17 t) ^^^ (bt (nI o))) (ws' := (wC ad cI (st S 17 t ((S 17 t) ^^^ (bt (nI o)))))) hx hb hE hP (wC_D hD) hS 17 rfl (by omega) (Nat.le_of_ble_eq_true rfl) (wC_st_17) dX1_switchPardon_12 (fun H locs hP hS => ?_)
  refine lv_aload_n hx hb dX1_switchPardon_13 rfl (lv_at hl 0 rfl) ?_
  refine q_get (v := .ref (ad 17)) hx hb hown hE inT_X1 hP 15 rfl rfl 1 (by decide) w_171 rfl dX1_switchPardon_14 ?_
  refine lv_iload_n hx hb dX1_switchPardon_17 rfl (lv_at hl 2 rfl) ?_
  refine lv_dup2_11 hx hb dX1_switchPardon_18 rfl rfl ?_
  refine q_iald (f := (st S 17 t ((S 17 t) ^^^ (bt (nI o)))) 17) (i := o) hx hb hE hP 17 rfl (by omega) (Nat.le_of_ble_eq_true rfl) dX1_switchPardon_19 ?_
  refine lv_iload_n hx hb dX1_switchPardon_20 rfl (lv_at hl 1 rfl) ?_
  refine q_rd (q_runSN (rest := [.int ((st S 17 t ((S 17 t) ^^^ (bt (nI o)))) 17 o), .int (nI o), .ref (ad 17)]) hx hb hml hown hE (c_X5_bit l D cI cZ cL _ (nI t)) ck_X5_bit w_620 hP hl.1 rfl ⟨Nat.le_of_ble_eq_true rfl, Nat.le_of_ble_eq_true rfl⟩ (Nat.le_of_ble_eq_true rfl) dX1_switchPardon_21 ⟨Nat.le_of_ble_eq_true rfl, Nat.le_of_ble_eq_true rfl⟩) ?_
  refine lv_ixor hx hb dX1_switchPardon_24 ?_
  refine q_iast (f := (st S 17 t ((S 17 t) ^^^ (bt (nI o)))) 17) (i := o) (x := ((st S 17 t ((S 17 t) ^^^ (bt (nI o)))) 17 o) ^^^ (bt (nI t))) (ws' := (wC ad cI (st (st S 17 t ((S 17 t) ^^^ (bt (nI o)))) 17 o (((st S 17 t ((S 17 t) ^^^ (bt (nI o)))) 17 o) ^^^ (bt (nI t)))))) hx hb hE hP (wC_D hD) hS 17 rfl (by omega) (Nat.le_of_ble_eq_true rfl) (wC_st_17) dX1_switchPardon_25 (fun H locs hP hS => ?_)
  refine lv_aload_n hx hb dX1_switchPardon_26 rfl (lv_at hl 0 rfl) ?_
  refine q_get (v := .ref (ad 17)) hx hb hown hE inT_X1 hP 15 rfl rfl 1 (by decide) w_171 rfl dX1_switchPardon_27 ?_
  refine lv_iload_n hx hb dX1_switchPardon_30 rfl (lv_at hl 1 rfl) ?_
  refine q_iald (f := (st (st S 17 t ((S 17 t) ^^^ (bt (nI o)))) 17 o (((st S 17 t ((S 17 t) ^^^ (bt (nI o)))) 17 o) ^^^ (bt (nI t)))) 17) (i := t) hx hb hE hP 17 rfl (by omega) (Nat.le_of_ble_eq_true rfl) dX1_switchPardon_31 ?_
  refine lv_iload_n hx hb dX1_switchPardon_32 rfl (lv_at hl 2 rfl) ?_
  refine q_rd (q_runSN (rest := []) hx hb hml hown hE (c_X5_has l D cI cZ cL _ ((st (st S 17 t ((S 17 t) ^^^ (bt (nI o)))) 17 o (((st S 17 t ((S 17 t) ^^^ (bt (nI o)))) 17 o) ^^^ (bt (nI t)))) 17 t) (nI o)) ck_X5_has w_280 hP hl.1 rfl ⟨Nat.le_of_ble_eq_true rfl, Nat.le_of_ble_eq_true rfl⟩ (Nat.le_of_ble_eq_true rfl) dX1_switchPardon_33 ⟨Nat.le_of_ble_eq_true rfl, Nat.le_of_ble_eq_true rfl⟩) ?_
  refine q_top (y := bI (hs (p_swi S t o 17 t) (nI o))) (by rfl) ?_
  exact e_wret hx hb hr hlk (n_bI _) (by rw [show p_swi S t o = st (st S 17 t ((S 17 t) ^^^ (bt (nI o)))) 17 o (((st S 17 t ((S 17 t) ^^^ (bt (nI o)))) 17 o) ^^^ (bt (nI t))) from by rfl]; exact hP) hS dX1_switchPardon_36

theorem dX2_solve_0 : decode cX2_solve 0 = .ok (.aload_n 0, 1) := by decide +kernel
theorem dX2_solve_1 : decode cX2_solve 1 = .ok (.getfield 9, 3) := by decide +kernel
theorem dX2_solve_4 : decode cX2_solve 4 = .ok (.iload_n 1, 1) := by decide +kernel
theorem dX2_solve_5 : decode cX2_solve 5 = .ok (.dup2, 1) := by decide +kernel
theorem dX2_solve_6 : decode cX2_solve 6 = .ok (.iaload, 1) := by decide +kernel
theorem dX2_solve_7 : decode cX2_solve 7 = .ok (.iload_n 2, 1) := by decide +kernel
theorem dX2_solve_8 : decode cX2_solve 8 = .ok (.invokestatic 36, 3) := by decide +kernel
theorem dX2_solve_11 : decode cX2_solve 11 = .ok (.ior, 1) := by decide +kernel
theorem dX2_solve_12 : decode cX2_solve 12 = .ok (.iastore, 1) := by decide +kernel
theorem dX2_solve_13 : decode cX2_solve 13 = .ok (.aload_n 0, 1) := by decide +kernel
theorem dX2_solve_14 : decode cX2_solve 14 = .ok (.getfield 18, 3) := by decide +kernel
theorem dX2_solve_17 : decode cX2_solve 17 = .ok (.iload_n 1, 1) := by decide +kernel
theorem dX2_solve_18 : decode cX2_solve 18 = .ok (.iload_n 2, 1) := by decide +kernel
theorem dX2_solve_19 : decode cX2_solve 19 = .ok (.invokestatic 40, 3) := by decide +kernel
theorem dX2_solve_22 : decode cX2_solve 22 = .ok (.iload_n 3, 1) := by decide +kernel
theorem dX2_solve_23 : decode cX2_solve 23 = .ok (.iastore, 1) := by decide +kernel
theorem dX2_solve_24 : decode cX2_solve 24 = .ok (.iload 4, 2) := by decide +kernel
theorem dX2_solve_26 : decode cX2_solve 26 = .ok (.ifCond .eq 16, 3) := by decide +kernel
theorem dX2_solve_29 : decode cX2_solve 29 = .ok (.aload_n 0, 1) := by decide +kernel
theorem dX2_solve_30 : decode cX2_solve 30 = .ok (.getfield 15, 3) := by decide +kernel
theorem dX2_solve_33 : decode cX2_solve 33 = .ok (.iload_n 1, 1) := by decide +kernel
theorem dX2_solve_34 : decode cX2_solve 34 = .ok (.dup2, 1) := by decide +kernel
theorem dX2_solve_35 : decode cX2_solve 35 = .ok (.iaload, 1) := by decide +kernel
theorem dX2_solve_36 : decode cX2_solve 36 = .ok (.iload_n 2, 1) := by decide +kernel
theorem dX2_solve_37 : decode cX2_solve 37 = .ok (.invokestatic 36, 3) := by decide +kernel
theorem dX2_solve_40 : decode cX2_solve 40 = .ok (.ior, 1) := by decide +kernel
theorem dX2_solve_41 : decode cX2_solve 41 = .ok (.iastore, 1) := by decide +kernel
theorem dX2_solve_42 : decode cX2_solve 42 = .ok (.return_, 1) := by decide +kernel
set_option maxHeartbeats 4000000 in
set_option maxRecDepth 100000 in
theorem c_X2_solve_18 (l : Launch) (D : va_G) (cI cZ cL : ClassId) (ad : Nat → Nat) (S : Mem) (A : Nat → Prop) (hD : va_D A (wC ad cI S)) (t : Nat) (r : Nat) (mi : Int32) (soon : Bool) (ht : t < 8) (hr : r < 16) : WR l D cI cZ cL yX2_solve cX2_solve 5 none 1 [.ref (ad 18), .int (nI t), .int (nI r), .int mi, .int (bI soon)] A (wC ad cI S) (wC ad cI (p_solve S 18 t r mi soon)) none := by
  refine WR.of (by decide) (Nat.le_of_ble_eq_true rfl) ?_
  intro p e s m args below meth c ls hx hb hr hml hown hlk hE hP hS hl
  have hl : lv_has ls 5 [(0, .ref (ad 18)), (1, .int (nI t)), (2, .int (nI r)), (3, .int mi), (4, .int (bI soon))] := hl
  refine lv_aload_n hx hb dX2_solve_0 rfl (lv_at hl 0 rfl) ?_
  refine q_get (v := .ref (ad 19)) hx hb hown hE inT_X2 hP 18 rfl rfl 0 (by decide) w_187 rfl dX2_solve_1 ?_
  refine lv_iload_n hx hb dX2_solve_4 rfl (lv_at hl 1 rfl) ?_
  refine lv_dup2_11 hx hb dX2_solve_5 rfl rfl ?_
  refine q_iald (f := S 19) (i := t) hx hb hE hP 19 rfl (by omega) (Nat.le_of_ble_eq_true rfl) dX2_solve_6 ?_
  refine lv_iload_n hx hb dX2_solve_7 rfl (lv_at hl 2 rfl) ?_
  refine q_rd (q_runSN (rest := [.int (S 19 t), .int (nI t), .ref (ad 19)]) hx hb hml hown hE (c_X5_bit l D cI cZ cL _ (nI r)) ck_X5_bit w_510 hP hl.1 rfl ⟨Nat.le_of_ble_eq_true rfl, Nat.le_of_ble_eq_true rfl⟩ (Nat.le_of_ble_eq_true rfl) dX2_solve_8 ⟨Nat.le_of_ble_eq_true rfl, Nat.le_of_ble_eq_true rfl⟩) ?_
  refine lv_ior hx hb dX2_solve_11 ?_
  refine q_iast (f := S 19) (i := t) (x := (S 19 t) ||| (bt (nI r))) (ws' := (wC ad cI (st S 19 t ((S 19 t) ||| (bt (nI r)))))) hx hb hE hP (wC_D hD) hS 19 rfl (by omega) (Nat.le_of_ble_eq_true rfl) (wC_st_19) dX2_solve_12 (fun H locs hP hS => ?_)
  refine lv_aload_n hx hb dX2_solve_13 rfl (lv_at hl 0 rfl) ?_
  refine q_get (v := .ref (ad 21)) hx hb hown hE inT_X2 hP 18 rfl rfl 2 (by decide) w_191 rfl dX2_solve_14 ?_
  refine lv_iload_n hx hb dX2_solve_17 rfl (lv_at hl 1 rfl) ?_
  refine lv_iload_n hx hb dX2_solve_18 rfl (lv_at hl 2 rfl) ?_
  refine q_rd (q_runSN (rest := [.ref (ad 21)]) hx hb hml hown hE (c_X5_cell l D cI cZ cL _ t r) ck_X5_cell w_307 hP hl.1 rfl ⟨Nat.le_of_ble_eq_true rfl, Nat.le_of_ble_eq_true rfl⟩ (Nat.le_of_ble_eq_true rfl) dX2_solve_19 ⟨Nat.le_of_ble_eq_true rfl, Nat.le_of_ble_eq_true rfl⟩) ?_
  refine lv_iload_n hx hb dX2_solve_22 rfl (lv_at hl 3 rfl) ?_
  refine q_iast (f := (st S 19 t ((S 19 t) ||| (bt (nI r)))) 21) (i := (t * 16 + r)) (x := mi) (ws' := (wC ad cI (st (st S 19 t ((S 19 t) ||| (bt (nI r)))) 21 (t * 16 + r) mi))) hx hb hE hP (wC_D hD) hS 21 rfl (by omega) (Nat.le_of_ble_eq_true rfl) (wC_st_21) dX2_solve_23 (fun H locs hP hS => ?_)
  refine lv_iload hx hb dX2_solve_24 (lv_at hl 4 rfl) ?_
  refine lv_if_eq (tgt := 42) hx hb dX2_solve_26 (by decide) (fun c_1 => ?_) (fun c_1 => ?_)
  · skip
    have c_1 : soon = false := b_f c_1
    exact e_wretv hx hb hr hlk (by rw [show p_solve S 18 t r mi soon = st (st S 19 t ((S 19 t) ||| (bt (nI r)))) 21 (t * 16 + r) mi from by first | (simp only [bI, p_solve, c_1, ↓reduceIte]; done) | (simp [bI, p_solve, c_1]; done) | (simp_all [bI, p_solve]; done)]; exact hP) hS dX2_solve_42
  · skip
    have c_1 : soon = true := b_t c_1
    refine lv_aload_n hx hb dX2_solve_29 rfl (lv_at hl 0 rfl) ?_
    refine q_get (v := .ref (ad 20)) hx hb hown hE inT_X2 hP 18 rfl rfl 1 (by decide) w_189 rfl dX2_solve_30 ?_
    refine lv_iload_n hx hb dX2_solve_33 rfl (lv_at hl 1 rfl) ?_
    refine lv_dup2_11 hx hb dX2_solve_34 rfl rfl ?_
    refine q_iald (f := S 20) (i := t) hx hb hE hP 20 rfl (by omega) (Nat.le_of_ble_eq_true rfl) dX2_solve_35 ?_
    refine lv_iload_n hx hb dX2_solve_36 rfl (lv_at hl 2 rfl) ?_
    refine q_rd (q_runSN (rest := [.int (S 20 t), .int (nI t), .ref (ad 20)]) hx hb hml hown hE (c_X5_bit l D cI cZ cL _ (nI r)) ck_X5_bit w_510 hP hl.1 rfl ⟨Nat.le_of_ble_eq_true rfl, Nat.le_of_ble_eq_true rfl⟩ (Nat.le_of_ble_eq_true rfl) dX2_solve_37 ⟨Nat.le_of_ble_eq_true rfl, Nat.le_of_ble_eq_true rfl⟩) ?_
    refine lv_ior hx hb dX2_solve_40 ?_
    refine q_iast (f := (st (st S 19 t ((S 19 t) ||| (bt (nI r)))) 21 (t * 16 + r) mi) 20) (i := t) (x := (S 20 t) ||| (bt (nI r))) (ws' := (wC ad cI (st (st (st S 19 t ((S 19 t) ||| (bt (nI r)))) 21 (t * 16 + r) mi) 20 t ((S 20 t) ||| (bt (nI r)))))) hx hb hE hP (wC_D hD) hS 20 rfl (by omega) (Nat.le_of_ble_eq_true rfl) (wC_st_20) dX2_solve_41 (fun H locs hP hS => ?_)
    exact e_wretv hx hb hr hlk (by rw [show p_solve S 18 t r mi soon = st (st (st S 19 t ((S 19 t) ||| (bt (nI r)))) 21 (t * 16 + r) mi) 20 t ((S 20 t) ||| (bt (nI r))) from by first | (simp only [bI, p_solve, c_1, ↓reduceIte]; done) | (simp [bI, p_solve, c_1]; done) | (simp_all [bI, p_solve]; done)]; exact hP) hS dX2_solve_42

theorem dX2_pay_0 : decode cX2_pay 0 = .ok (.aload_n 0, 1) := by decide +kernel
theorem dX2_pay_1 : decode cX2_pay 1 = .ok (.getfield 21, 3) := by decide +kernel
theorem dX2_pay_4 : decode cX2_pay 4 = .ok (.iload_n 1, 1) := by decide +kernel
theorem dX2_pay_5 : decode cX2_pay 5 = .ok (.iload_n 2, 1) := by decide +kernel
theorem dX2_pay_6 : decode cX2_pay 6 = .ok (.invokestatic 40, 3) := by decide +kernel
theorem dX2_pay_9 : decode cX2_pay 9 = .ok (.dup2, 1) := by decide +kernel
theorem dX2_pay_10 : decode cX2_pay 10 = .ok (.iaload, 1) := by decide +kernel
theorem dX2_pay_11 : decode cX2_pay 11 = .ok (.iload_n 3, 1) := by decide +kernel
theorem dX2_pay_12 : decode cX2_pay 12 = .ok (.iadd, 1) := by decide +kernel
theorem dX2_pay_13 : decode cX2_pay 13 = .ok (.iastore, 1) := by decide +kernel
theorem dX2_pay_14 : decode cX2_pay 14 = .ok (.return_, 1) := by decide +kernel
set_option maxHeartbeats 4000000 in
set_option maxRecDepth 100000 in
theorem c_X2_pay_18 (l : Launch) (D : va_G) (cI cZ cL : ClassId) (ad : Nat → Nat) (S : Mem) (A : Nat → Prop) (hD : va_D A (wC ad cI S)) (t : Nat) (r : Nat) (x : Int32) (ht : t < 8) (hr : r < 16) : WR l D cI cZ cL yX2_pay cX2_pay 4 none 1 [.ref (ad 18), .int (nI t), .int (nI r), .int x] A (wC ad cI S) (wC ad cI (p_pay S 18 t r x)) none := by
  refine WR.of (by decide) (Nat.le_of_ble_eq_true rfl) ?_
  intro p e s m args below meth c ls hx hb hr hml hown hlk hE hP hS hl
  have hl : lv_has ls 4 [(0, .ref (ad 18)), (1, .int (nI t)), (2, .int (nI r)), (3, .int x)] := hl
  refine lv_aload_n hx hb dX2_pay_0 rfl (lv_at hl 0 rfl) ?_
  refine q_get (v := .ref (ad 22)) hx hb hown hE inT_X2 hP 18 rfl rfl 3 (by decide) w_193 rfl dX2_pay_1 ?_
  refine lv_iload_n hx hb dX2_pay_4 rfl (lv_at hl 1 rfl) ?_
  refine lv_iload_n hx hb dX2_pay_5 rfl (lv_at hl 2 rfl) ?_
  refine q_rd (q_runSN (rest := [.ref (ad 22)]) hx hb hml hown hE (c_X5_cell l D cI cZ cL _ t r) ck_X5_cell w_307 hP hl.1 rfl ⟨Nat.le_of_ble_eq_true rfl, Nat.le_of_ble_eq_true rfl⟩ (Nat.le_of_ble_eq_true rfl) dX2_pay_6 ⟨Nat.le_of_ble_eq_true rfl, Nat.le_of_ble_eq_true rfl⟩) ?_
  refine lv_dup2_11 hx hb dX2_pay_9 rfl rfl ?_
  refine q_iald (f := S 22) (i := (t * 16 + r)) hx hb hE hP 22 rfl (by omega) (Nat.le_of_ble_eq_true rfl) dX2_pay_10 ?_
  refine lv_iload_n hx hb dX2_pay_11 rfl (lv_at hl 3 rfl) ?_
  refine lv_iadd hx hb dX2_pay_12 ?_
  refine q_iast (f := S 22) (i := (t * 16 + r)) (x := (S 22 (t * 16 + r)) + x) (ws' := (wC ad cI (st S 22 (t * 16 + r) ((S 22 (t * 16 + r)) + x)))) hx hb hE hP (wC_D hD) hS 22 rfl (by omega) (Nat.le_of_ble_eq_true rfl) (wC_st_22) dX2_pay_13 (fun H locs hP hS => ?_)
  exact e_wretv hx hb hr hlk (by rw [show p_pay S 18 t r x = st S 22 (t * 16 + r) ((S 22 (t * 16 + r)) + x) from by rfl]; exact hP) hS dX2_pay_14

theorem dX2_noteCommon_0 : decode cX2_noteCommon 0 = .ok (.aload_n 0, 1) := by decide +kernel
theorem dX2_noteCommon_1 : decode cX2_noteCommon 1 = .ok (.getfield 24, 3) := by decide +kernel
theorem dX2_noteCommon_4 : decode cX2_noteCommon 4 = .ok (.iload_n 1, 1) := by decide +kernel
theorem dX2_noteCommon_5 : decode cX2_noteCommon 5 = .ok (.iload_n 2, 1) := by decide +kernel
theorem dX2_noteCommon_6 : decode cX2_noteCommon 6 = .ok (.invokestatic 44, 3) := by decide +kernel
theorem dX2_noteCommon_9 : decode cX2_noteCommon 9 = .ok (.dup2, 1) := by decide +kernel
theorem dX2_noteCommon_10 : decode cX2_noteCommon 10 = .ok (.iaload, 1) := by decide +kernel
theorem dX2_noteCommon_11 : decode cX2_noteCommon 11 = .ok (.iconst 1, 1) := by decide +kernel
theorem dX2_noteCommon_12 : decode cX2_noteCommon 12 = .ok (.iadd, 1) := by decide +kernel
theorem dX2_noteCommon_13 : decode cX2_noteCommon 13 = .ok (.iastore, 1) := by decide +kernel
theorem dX2_noteCommon_14 : decode cX2_noteCommon 14 = .ok (.aload_n 0, 1) := by decide +kernel
theorem dX2_noteCommon_15 : decode cX2_noteCommon 15 = .ok (.getfield 24, 3) := by decide +kernel
theorem dX2_noteCommon_18 : decode cX2_noteCommon 18 = .ok (.iload_n 2, 1) := by decide +kernel
theorem dX2_noteCommon_19 : decode cX2_noteCommon 19 = .ok (.iload_n 1, 1) := by decide +kernel
theorem dX2_noteCommon_20 : decode cX2_noteCommon 20 = .ok (.invokestatic 44, 3) := by decide +kernel
theorem dX2_noteCommon_23 : decode cX2_noteCommon 23 = .ok (.dup2, 1) := by decide +kernel
theorem dX2_noteCommon_24 : decode cX2_noteCommon 24 = .ok (.iaload, 1) := by decide +kernel
theorem dX2_noteCommon_25 : decode cX2_noteCommon 25 = .ok (.iconst 1, 1) := by decide +kernel
theorem dX2_noteCommon_26 : decode cX2_noteCommon 26 = .ok (.iadd, 1) := by decide +kernel
theorem dX2_noteCommon_27 : decode cX2_noteCommon 27 = .ok (.iastore, 1) := by decide +kernel
theorem dX2_noteCommon_28 : decode cX2_noteCommon 28 = .ok (.aload_n 0, 1) := by decide +kernel
theorem dX2_noteCommon_29 : decode cX2_noteCommon 29 = .ok (.getfield 27, 3) := by decide +kernel
theorem dX2_noteCommon_32 : decode cX2_noteCommon 32 = .ok (.iload_n 1, 1) := by decide +kernel
theorem dX2_noteCommon_33 : decode cX2_noteCommon 33 = .ok (.iload_n 2, 1) := by decide +kernel
theorem dX2_noteCommon_34 : decode cX2_noteCommon 34 = .ok (.invokestatic 44, 3) := by decide +kernel
theorem dX2_noteCommon_37 : decode cX2_noteCommon 37 = .ok (.dup2, 1) := by decide +kernel
theorem dX2_noteCommon_38 : decode cX2_noteCommon 38 = .ok (.iaload, 1) := by decide +kernel
theorem dX2_noteCommon_39 : decode cX2_noteCommon 39 = .ok (.iload_n 3, 1) := by decide +kernel
theorem dX2_noteCommon_40 : decode cX2_noteCommon 40 = .ok (.invokestatic 36, 3) := by decide +kernel
theorem dX2_noteCommon_43 : decode cX2_noteCommon 43 = .ok (.ior, 1) := by decide +kernel
theorem dX2_noteCommon_44 : decode cX2_noteCommon 44 = .ok (.iastore, 1) := by decide +kernel
theorem dX2_noteCommon_45 : decode cX2_noteCommon 45 = .ok (.aload_n 0, 1) := by decide +kernel
theorem dX2_noteCommon_46 : decode cX2_noteCommon 46 = .ok (.getfield 27, 3) := by decide +kernel
theorem dX2_noteCommon_49 : decode cX2_noteCommon 49 = .ok (.iload_n 2, 1) := by decide +kernel
theorem dX2_noteCommon_50 : decode cX2_noteCommon 50 = .ok (.iload_n 1, 1) := by decide +kernel
theorem dX2_noteCommon_51 : decode cX2_noteCommon 51 = .ok (.invokestatic 44, 3) := by decide +kernel
theorem dX2_noteCommon_54 : decode cX2_noteCommon 54 = .ok (.dup2, 1) := by decide +kernel
theorem dX2_noteCommon_55 : decode cX2_noteCommon 55 = .ok (.iaload, 1) := by decide +kernel
theorem dX2_noteCommon_56 : decode cX2_noteCommon 56 = .ok (.iload_n 3, 1) := by decide +kernel
theorem dX2_noteCommon_57 : decode cX2_noteCommon 57 = .ok (.invokestatic 36, 3) := by decide +kernel
theorem dX2_noteCommon_60 : decode cX2_noteCommon 60 = .ok (.ior, 1) := by decide +kernel
theorem dX2_noteCommon_61 : decode cX2_noteCommon 61 = .ok (.iastore, 1) := by decide +kernel
theorem dX2_noteCommon_62 : decode cX2_noteCommon 62 = .ok (.return_, 1) := by decide +kernel
set_option maxHeartbeats 4000000 in
set_option maxRecDepth 100000 in
theorem c_X2_noteCommon_18 (l : Launch) (D : va_G) (cI cZ cL : ClassId) (ad : Nat → Nat) (S : Mem) (A : Nat → Prop) (hD : va_D A (wC ad cI S)) (t : Nat) (o : Nat) (r : Nat) (ht : t < 8) (ho : o < 8) : WR l D cI cZ cL yX2_noteCommon cX2_noteCommon 4 none 1 [.ref (ad 18), .int (nI t), .int (nI o), .int (nI r)] A (wC ad cI S) (wC ad cI (p_common S 18 t o r)) none := by
  refine WR.of (by decide) (Nat.le_of_ble_eq_true rfl) ?_
  intro p e s m args below meth c ls hx hb hr hml hown hlk hE hP hS hl
  have hl : lv_has ls 4 [(0, .ref (ad 18)), (1, .int (nI t)), (2, .int (nI o)), (3, .int (nI r))] := hl
  refine lv_aload_n hx hb dX2_noteCommon_0 rfl (lv_at hl 0 rfl) ?_
  refine q_get (v := .ref (ad 23)) hx hb hown hE inT_X2 hP 18 rfl rfl 4 (by decide) w_195 rfl dX2_noteCommon_1 ?_
  refine lv_iload_n hx hb dX2_noteCommon_4 rfl (lv_at hl 1 rfl) ?_
  refine lv_iload_n hx hb dX2_noteCommon_5 rfl (lv_at hl 2 rfl) ?_
  refine q_rd (q_runSN (rest := [.ref (ad 23)]) hx hb hml hown hE (c_X5_pair l D cI cZ cL _ t o) ck_X5_pair w_524 hP hl.1 rfl ⟨Nat.le_of_ble_eq_true rfl, Nat.le_of_ble_eq_true rfl⟩ (Nat.le_of_ble_eq_true rfl) dX2_noteCommon_6 ⟨Nat.le_of_ble_eq_true rfl, Nat.le_of_ble_eq_true rfl⟩) ?_
  refine lv_dup2_11 hx hb dX2_noteCommon_9 rfl rfl ?_
  refine q_iald (f := S 23) (i := (t * 8 + o)) hx hb hE hP 23 rfl (by omega) (Nat.le_of_ble_eq_true rfl) dX2_noteCommon_10 ?_
  refine lv_iconst (v := 1) hx hb dX2_noteCommon_11 (by decide) ?_
  refine lv_iadd hx hb dX2_noteCommon_12 ?_
  refine q_iast (f := S 23) (i := (t * 8 + o)) (x := (S 23 (t * 8 + o)) + 1) (ws' := (wC ad cI (st S 23 (t * 8 + o) ((S 23 (t * 8 + o)) + 1)))) hx hb hE hP (wC_D hD) hS 23 rfl (by omega) (Nat.le_of_ble_eq_true rfl) (wC_st_23) dX2_noteCommon_13 (fun H locs hP hS => ?_)
  refine lv_aload_n hx hb dX2_noteCommon_14 rfl (lv_at hl 0 rfl) ?_
  refine q_get (v := .ref (ad 23)) hx hb hown hE inT_X2 hP 18 rfl rfl 4 (by decide) w_195 rfl dX2_noteCommon_15 ?_
  refine lv_iload_n hx hb dX2_noteCommon_18 rfl (lv_at hl 2 rfl) ?_
  refine lv_iload_n hx hb dX2_noteCommon_19 rfl (lv_at hl 1 rfl) ?_
  refine q_rd (q_runSN (rest := [.ref (ad 23)]) hx hb hml hown hE (c_X5_pair l D cI cZ cL _ o t) ck_X5_pair w_524 hP hl.1 rfl ⟨Nat.le_of_ble_eq_true rfl, Nat.le_of_ble_eq_true rfl⟩ (Nat.le_of_ble_eq_true rfl) dX2_noteCommon_20 ⟨Nat.le_of_ble_eq_true rfl, Nat.le_of_ble_eq_true rfl⟩) ?_
  refine lv_dup2_11 hx hb dX2_noteCommon_23 rfl rfl ?_
  refine q_iald (f := (st S 23 (t * 8 + o) ((S 23 (t * 8 + o)) + 1)) 23) (i := (o * 8 + t)) hx hb hE hP 23 rfl (by omega) (Nat.le_of_ble_eq_true rfl) dX2_noteCommon_24 ?_
  refine lv_iconst (v := 1) hx hb dX2_noteCommon_25 (by decide) ?_
  refine lv_iadd hx hb dX2_noteCommon_26 ?_
  refine q_iast (f := (st S 23 (t * 8 + o) ((S 23 (t * 8 + o)) + 1)) 23) (i := (o * 8 + t)) (x := ((st S 23 (t * 8 + o) ((S 23 (t * 8 + o)) + 1)) 23 (o * 8 + t)) + 1) (ws' := (wC ad cI (st (st S 23 (t * 8 + o) ((S 23 (t * 8 + o)) + 1)) 23 (o * 8 + t) (((st S 23 (t * 8 + o) ((S 23 (t * 8 + o)) + 1)) 23 (o * 8 + t)) + 1)))) hx hb hE hP (wC_D hD) hS 23 rfl (by omega) (Nat.le_of_ble_eq_true rfl) (wC_st_23) dX2_noteCommon_27 (fun H locs hP hS => ?_)
  refine lv_aload_n hx hb dX2_noteCommon_28 rfl (lv_at hl 0 rfl) ?_
  refine q_get (v := .ref (ad 24)) hx hb hown hE inT_X2 hP 18 rfl rfl 5 (by decide) w_197 rfl dX2_noteCommon_29 ?_
  refine lv_iload_n hx hb dX2_noteCommon_32 rfl (lv_at hl 1 rfl) ?_
  refine lv_iload_n hx hb dX2_noteCommon_33 rfl (lv_at hl 2 rfl) ?_
  refine q_rd (q_runSN (rest := [.ref (ad 24)]) hx hb hml hown hE (c_X5_pair l D cI cZ cL _ t o) ck_X5_pair w_524 hP hl.1 rfl ⟨Nat.le_of_ble_eq_true rfl, Nat.le_of_ble_eq_true rfl⟩ (Nat.le_of_ble_eq_true rfl) dX2_noteCommon_34 ⟨Nat.le_of_ble_eq_true rfl, Nat.le_of_ble_eq_true rfl⟩) ?_
  refine lv_dup2_11 hx hb dX2_noteCommon_37 rfl rfl ?_
  refine q_iald (f := S 24) (i := (t * 8 + o)) hx hb hE hP 24 rfl (by omega) (Nat.le_of_ble_eq_true rfl) dX2_noteCommon_38 ?_
  refine lv_iload_n hx hb dX2_noteCommon_39 rfl (lv_at hl 3 rfl) ?_
  refine q_rd (q_runSN (rest := [.int (S 24 (t * 8 + o)), .int (nI (t * 8 + o)), .ref (ad 24)]) hx hb hml hown hE (c_X5_bit l D cI cZ cL _ (nI r)) ck_X5_bit w_510 hP hl.1 rfl ⟨Nat.le_of_ble_eq_true rfl, Nat.le_of_ble_eq_true rfl⟩ (Nat.le_of_ble_eq_true rfl) dX2_noteCommon_40 ⟨Nat.le_of_ble_eq_true rfl, Nat.le_of_ble_eq_true rfl⟩) ?_
  refine lv_ior hx hb dX2_noteCommon_43 ?_
  refine q_iast (f := (st (st S 23 (t * 8 + o) ((S 23 (t * 8 + o)) + 1)) 23 (o * 8 + t) (((st S 23 (t * 8 + o) ((S 23 (t * 8 + o)) + 1)) 23 (o * 8 + t)) + 1)) 24) (i := (t * 8 + o)) (x := (S 24 (t * 8 + o)) ||| (bt (nI r))) (ws' := (wC ad cI (st (st (st S 23 (t * 8 + o) ((S 23 (t * 8 + o)) + 1)) 23 (o * 8 + t) (((st S 23 (t * 8 + o) ((S 23 (t * 8 + o)) + 1)) 23 (o * 8 + t)) + 1)) 24 (t * 8 + o) ((S 24 (t * 8 + o)) ||| (bt (nI r)))))) hx hb hE hP (wC_D hD) hS 24 rfl (by omega) (Nat.le_of_ble_eq_true rfl) (wC_st_24) dX2_noteCommon_44 (fun H locs hP hS => ?_)
  refine lv_aload_n hx hb dX2_noteCommon_45 rfl (lv_at hl 0 rfl) ?_
  refine q_get (v := .ref (ad 24)) hx hb hown hE inT_X2 hP 18 rfl rfl 5 (by decide) w_197 rfl dX2_noteCommon_46 ?_
  refine lv_iload_n hx hb dX2_noteCommon_49 rfl (lv_at hl 2 rfl) ?_
  refine lv_iload_n hx hb dX2_noteCommon_50 rfl (lv_at hl 1 rfl) ?_
  refine q_rd (q_runSN (rest := [.ref (ad 24)]) hx hb hml hown hE (c_X5_pair l D cI cZ cL _ o t) ck_X5_pair w_524 hP hl.1 rfl ⟨Nat.le_of_ble_eq_true rfl, Nat.le_of_ble_eq_true rfl⟩ (Nat.le_of_ble_eq_true rfl) dX2_noteCommon_51 ⟨Nat.le_of_ble_eq_true rfl, Nat.le_of_ble_eq_true rfl⟩) ?_
  refine lv_dup2_11 hx hb dX2_noteCommon_54 rfl rfl ?_
  refine q_iald (f := (st (st (st S 23 (t * 8 + o) ((S 23 (t * 8 + o)) + 1)) 23 (o * 8 + t) (((st S 23 (t * 8 + o) ((S 23 (t * 8 + o)) + 1)) 23 (o * 8 + t)) + 1)) 24 (t * 8 + o) ((S 24 (t * 8 + o)) ||| (bt (nI r)))) 24) (i := (o * 8 + t)) hx hb hE hP 24 rfl (by omega) (Nat.le_of_ble_eq_true rfl) dX2_noteCommon_55 ?_
  refine lv_iload_n hx hb dX2_noteCommon_56 rfl (lv_at hl 3 rfl) ?_
  refine q_rd (q_runSN (rest := [.int ((st (st (st S 23 (t * 8 + o) ((S 23 (t * 8 + o)) + 1)) 23 (o * 8 + t) (((st S 23 (t * 8 + o) ((S 23 (t * 8 + o)) + 1)) 23 (o * 8 + t)) + 1)) 24 (t * 8 + o) ((S 24 (t * 8 + o)) ||| (bt (nI r)))) 24 (o * 8 + t)), .int (nI (o * 8 + t)), .ref (ad 24)]) hx hb hml hown hE (c_X5_bit l D cI cZ cL _ (nI r)) ck_X5_bit w_510 hP hl.1 rfl ⟨Nat.le_of_ble_eq_true rfl, Nat.le_of_ble_eq_true rfl⟩ (Nat.le_of_ble_eq_true rfl) dX2_noteCommon_57 ⟨Nat.le_of_ble_eq_true rfl, Nat.le_of_ble_eq_true rfl⟩) ?_
  refine lv_ior hx hb dX2_noteCommon_60 ?_
  refine q_iast (f := (st (st (st S 23 (t * 8 + o) ((S 23 (t * 8 + o)) + 1)) 23 (o * 8 + t) (((st S 23 (t * 8 + o) ((S 23 (t * 8 + o)) + 1)) 23 (o * 8 + t)) + 1)) 24 (t * 8 + o) ((S 24 (t * 8 + o)) ||| (bt (nI r)))) 24) (i := (o * 8 + t)) (x := ((st (st (st S 23 (t * 8 + o) ((S 23 (t * 8 + o)) + 1)) 23 (o * 8 + t) (((st S 23 (t * 8 + o) ((S 23 (t * 8 + o)) + 1)) 23 (o * 8 + t)) + 1)) 24 (t * 8 + o) ((S 24 (t * 8 + o)) ||| (bt (nI r)))) 24 (o * 8 + t)) ||| (bt (nI r))) (ws' := (wC ad cI (st (st (st (st S 23 (t * 8 + o) ((S 23 (t * 8 + o)) + 1)) 23 (o * 8 + t) (((st S 23 (t * 8 + o) ((S 23 (t * 8 + o)) + 1)) 23 (o * 8 + t)) + 1)) 24 (t * 8 + o) ((S 24 (t * 8 + o)) ||| (bt (nI r)))) 24 (o * 8 + t) (((st (st (st S 23 (t * 8 + o) ((S 23 (t * 8 + o)) + 1)) 23 (o * 8 + t) (((st S 23 (t * 8 + o) ((S 23 (t * 8 + o)) + 1)) 23 (o * 8 + t)) + 1)) 24 (t * 8 + o) ((S 24 (t * 8 + o)) ||| (bt (nI r)))) 24 (o * 8 + t)) ||| (bt (nI r)))))) hx hb hE hP (wC_D hD) hS 24 rfl (by omega) (Nat.le_of_ble_eq_true rfl) (wC_st_24) dX2_noteCommon_61 (fun H locs hP hS => ?_)
  exact e_wretv hx hb hr hlk (by rw [show p_common S 18 t o r = st (st (st (st S 23 (t * 8 + o) ((S 23 (t * 8 + o)) + 1)) 23 (o * 8 + t) (((st S 23 (t * 8 + o) ((S 23 (t * 8 + o)) + 1)) 23 (o * 8 + t)) + 1)) 24 (t * 8 + o) ((S 24 (t * 8 + o)) ||| (bt (nI r)))) 24 (o * 8 + t) (((st (st (st S 23 (t * 8 + o) ((S 23 (t * 8 + o)) + 1)) 23 (o * 8 + t) (((st S 23 (t * 8 + o) ((S 23 (t * 8 + o)) + 1)) 23 (o * 8 + t)) + 1)) 24 (t * 8 + o) ((S 24 (t * 8 + o)) ||| (bt (nI r)))) 24 (o * 8 + t)) ||| (bt (nI r))) from by rfl]; exact hP) hS dX2_noteCommon_62

theorem dX5_noteSolved_0 : decode cX5_noteSolved 0 = .ok (.iload 4, 2) := by decide +kernel
theorem dX5_noteSolved_2 : decode cX5_noteSolved 2 = .ok (.aload_n 0, 1) := by decide +kernel
theorem dX5_noteSolved_3 : decode cX5_noteSolved 3 = .ok (.aload_n 1, 1) := by decide +kernel
theorem dX5_noteSolved_4 : decode cX5_noteSolved 4 = .ok (.iload_n 2, 1) := by decide +kernel
theorem dX5_noteSolved_5 : decode cX5_noteSolved 5 = .ok (.iload_n 3, 1) := by decide +kernel
theorem dX5_noteSolved_6 : decode cX5_noteSolved 6 = .ok (.invokevirtual 162, 3) := by decide +kernel
theorem dX5_noteSolved_9 : decode cX5_noteSolved 9 = .ok (.isub, 1) := by decide +kernel
theorem dX5_noteSolved_10 : decode cX5_noteSolved 10 = .ok (.istore 5, 2) := by decide +kernel
theorem dX5_noteSolved_12 : decode cX5_noteSolved 12 = .ok (.aload_n 1, 1) := by decide +kernel
theorem dX5_noteSolved_13 : decode cX5_noteSolved 13 = .ok (.iload_n 2, 1) := by decide +kernel
theorem dX5_noteSolved_14 : decode cX5_noteSolved 14 = .ok (.iload_n 3, 1) := by decide +kernel
theorem dX5_noteSolved_15 : decode cX5_noteSolved 15 = .ok (.iload 4, 2) := by decide +kernel
theorem dX5_noteSolved_17 : decode cX5_noteSolved 17 = .ok (.iload 5, 2) := by decide +kernel
theorem dX5_noteSolved_19 : decode cX5_noteSolved 19 = .ok (.aload_n 0, 1) := by decide +kernel
theorem dX5_noteSolved_20 : decode cX5_noteSolved 20 = .ok (.getfield 10, 3) := by decide +kernel
theorem dX5_noteSolved_23 : decode cX5_noteSolved 23 = .ok (.getfield 274, 3) := by decide +kernel
theorem dX5_noteSolved_26 : decode cX5_noteSolved 26 = .ok (.iload_n 3, 1) := by decide +kernel
theorem dX5_noteSolved_27 : decode cX5_noteSolved 27 = .ok (.iaload, 1) := by decide +kernel
theorem dX5_noteSolved_28 : decode cX5_noteSolved 28 = .ok (.if_icmp .ge 7, 3) := by decide +kernel
theorem dX5_noteSolved_31 : decode cX5_noteSolved 31 = .ok (.iconst 1, 1) := by decide +kernel
theorem dX5_noteSolved_32 : decode cX5_noteSolved 32 = .ok (.goto 4, 3) := by decide +kernel
theorem dX5_noteSolved_35 : decode cX5_noteSolved 35 = .ok (.iconst 0, 1) := by decide +kernel
theorem dX5_noteSolved_36 : decode cX5_noteSolved 36 = .ok (.invokevirtual 277, 3) := by decide +kernel
theorem dX5_noteSolved_39 : decode cX5_noteSolved 39 = .ok (.return_, 1) := by decide +kernel
set_option maxHeartbeats 4000000 in
set_option maxRecDepth 100000 in
theorem c_X5_noteSolved_18 (l : Launch) (D : va_G) (cI cZ cL : ClassId) (ad : Nat → Nat) (S : Mem) (A : Nat → Prop) (hD : va_D A (wC ad cI S)) (t : Nat) (r : Nat) (mi : Int32) (ht : t < 8) (hr : r < 16) : WR l D cI cZ cL yX5_noteSolved cX5_noteSolved 6 none 3 [.ref (ad 0), .ref (ad 18), .int (nI t), .int (nI r), .int mi] A (wC ad cI S) (wC ad cI (p_noteS S 18 t r mi)) none := by
  refine WR.of (by decide) (Nat.le_of_ble_eq_true rfl) ?_
  intro p e s m args below meth c ls hx hb hr hml hown hlk hE hP hS hl
  have hl : lv_has ls 6 [(0, .ref (ad 0)), (1, .ref (ad 18)), (2, .int (nI t)), (3, .int (nI r)), (4, .int mi)] := hl
  refine lv_iload hx hb dX5_noteSolved_0 (lv_at hl 4 rfl) ?_
  refine lv_aload_n hx hb dX5_noteSolved_2 rfl (lv_at hl 0 rfl) ?_
  refine lv_aload_n hx hb dX5_noteSolved_3 rfl (lv_at hl 1 rfl) ?_
  refine lv_iload_n hx hb dX5_noteSolved_4 rfl (lv_at hl 2 rfl) ?_
  refine lv_iload_n hx hb dX5_noteSolved_5 rfl (lv_at hl 3 rfl) ?_
  refine q_rd (q_runV (rest := [.int mi]) hx hb hml hown hE (c_X5_openMinute_18 l D cI cZ cL ad S t r (by omega) (by omega)) ck_X5_openMinute w_497 hP 0 rfl rfl hl.1 rfl ⟨Nat.le_of_ble_eq_true rfl, Nat.le_of_ble_eq_true rfl⟩ (Nat.le_of_ble_eq_true rfl) dX5_noteSolved_6 ⟨Nat.le_of_ble_eq_true rfl, Nat.le_of_ble_eq_true rfl⟩) ?_
  refine lv_isub hx hb dX5_noteSolved_9 ?_
  refine lv_istore (lv' := [(5, .int (mi - (p_open S 18 t r))), (0, .ref (ad 0)), (1, .ref (ad 18)), (2, .int (nI t)), (3, .int (nI r)), (4, .int mi)]) hx hb dX5_noteSolved_10 hl (by decide) rfl (fun ls hl => ?_)
  refine lv_aload_n hx hb dX5_noteSolved_12 rfl (lv_at hl 2 rfl) ?_
  refine lv_iload_n hx hb dX5_noteSolved_13 rfl (lv_at hl 3 rfl) ?_
  refine lv_iload_n hx hb dX5_noteSolved_14 rfl (lv_at hl 4 rfl) ?_
  refine lv_iload hx hb dX5_noteSolved_15 (lv_at hl 5 rfl) ?_
  refine lv_iload hx hb dX5_noteSolved_17 (lv_at hl 0 rfl) ?_
  refine lv_aload_n hx hb dX5_noteSolved_19 rfl (lv_at hl 1 rfl) ?_
  refine q_get (v := .ref (ad 1)) hx hb hown hE inT_X5 hP 0 rfl rfl 0 (by decide) w_212 rfl dX5_noteSolved_20 ?_
  refine q_getN (v := .ref (ad 4)) hx hb hown hE inT_X3 hP 1 rfl rfl 2 (by decide) w_97 rfl dX5_noteSolved_23 ?_
  refine lv_iload_n hx hb dX5_noteSolved_26 rfl (lv_at hl 4 rfl) ?_
  refine q_iald (f := S 4) (i := r) hx hb hE hP 4 rfl (by omega) (Nat.le_of_ble_eq_true rfl) dX5_noteSolved_27 ?_
  refine lv_icmp_ge (tgt := 35) hx hb dX5_noteSolved_28 (by decide) (fun c_1 => ?_) (fun c_1 => ?_)
  · skip
    refine lv_iconst (v := 0) hx hb dX5_noteSolved_35 (by decide) ?_
    refine q_w0v (q_runVN (rest := []) hx hb hml hown hE (c_X2_solve_18 l D cI cZ cL ad S A (wC_D hD) t r mi false (by omega) (by omega)) ck_X2_solve w_506 hP 18 rfl rfl hl.1 rfl ⟨Nat.le_of_ble_eq_true rfl, Nat.le_of_ble_eq_true rfl⟩ (Nat.le_of_ble_eq_true rfl) dX5_noteSolved_36 ⟨Nat.le_of_ble_eq_true rfl, Nat.le_of_ble_eq_true rfl⟩) hS (fun H locs hP hS => ?_)
    exact e_wretv hx hb hr hlk (by rw [show p_noteS S 18 t r mi = p_solve S 18 t r mi false from by first | (simp only [bI, p_noteS, c_1, ↓reduceIte]; done) | (simp [bI, p_noteS, c_1]; done) | (simp_all [bI, p_noteS]; done)]; exact hP) hS dX5_noteSolved_39
  · skip
    refine lv_iconst (v := 1) hx hb dX5_noteSolved_31 (by decide) ?_
    refine lv_goto (tgt := 36) hx hb dX5_noteSolved_32 (by decide) ?_
    refine q_w0v (q_runVN (rest := []) hx hb hml hown hE (c_X2_solve_18 l D cI cZ cL ad S A (wC_D hD) t r mi true (by omega) (by omega)) ck_X2_solve w_506 hP 18 rfl rfl hl.1 rfl ⟨Nat.le_of_ble_eq_true rfl, Nat.le_of_ble_eq_true rfl⟩ (Nat.le_of_ble_eq_true rfl) dX5_noteSolved_36 ⟨Nat.le_of_ble_eq_true rfl, Nat.le_of_ble_eq_true rfl⟩) hS (fun H locs hP hS => ?_)
    exact e_wretv hx hb hr hlk (by rw [show p_noteS S 18 t r mi = p_solve S 18 t r mi true from by first | (simp only [bI, p_noteS, c_1, ↓reduceIte]; done) | (simp [bI, p_noteS, c_1]; done) | (simp_all [bI, p_noteS]; done)]; exact hP) hS dX5_noteSolved_39


set_option maxHeartbeats 4000000 in
set_option maxRecDepth 100000 in
theorem c_X2_solve_25 (l : Launch) (D : va_G) (cI cZ cL : ClassId) (ad : Nat → Nat) (S : Mem) (A : Nat → Prop) (hD : va_D A (wC ad cI S)) (t : Nat) (r : Nat) (mi : Int32) (soon : Bool) (ht : t < 8) (hr : r < 16) : WR l D cI cZ cL yX2_solve cX2_solve 5 none 1 [.ref (ad 25), .int (nI t), .int (nI r), .int mi, .int (bI soon)] A (wC ad cI S) (wC ad cI (p_solve S 25 t r mi soon)) none := by
  refine WR.of (by decide) (Nat.le_of_ble_eq_true rfl) ?_
  intro p e s m args below meth c ls hx hb hr hml hown hlk hE hP hS hl
  have hl : lv_has ls 5 [(0, .ref (ad 25)), (1, .int (nI t)), (2, .int (nI r)), (3, .int mi), (4, .int (bI soon))] := hl
  refine lv_aload_n hx hb dX2_solve_0 rfl (lv_at hl 0 rfl) ?_
  refine q_get (v := .ref (ad 26)) hx hb hown hE inT_X2 hP 25 rfl rfl 0 (by decide) w_187 rfl dX2_solve_1 ?_
  refine lv_iload_n hx hb dX2_solve_4 rfl (lv_at hl 1 rfl) ?_
  refine lv_dup2_11 hx hb dX2_solve_5 rfl rfl ?_
  refine q_iald (f := S 26) (i := t) hx hb hE hP 26 rfl (by omega) (Nat.le_of_ble_eq_true rfl) dX2_solve_6 ?_
  refine lv_iload_n hx hb dX2_solve_7 rfl (lv_at hl 2 rfl) ?_
  refine q_rd (q_runSN (rest := [.int (S 26 t), .int (nI t), .ref (ad 26)]) hx hb hml hown hE (c_X5_bit l D cI cZ cL _ (nI r)) ck_X5_bit w_510 hP hl.1 rfl ⟨Nat.le_of_ble_eq_true rfl, Nat.le_of_ble_eq_true rfl⟩ (Nat.le_of_ble_eq_true rfl) dX2_solve_8 ⟨Nat.le_of_ble_eq_true rfl, Nat.le_of_ble_eq_true rfl⟩) ?_
  refine lv_ior hx hb dX2_solve_11 ?_
  refine q_iast (f := S 26) (i := t) (x := (S 26 t) ||| (bt (nI r))) (ws' := (wC ad cI (st S 26 t ((S 26 t) ||| (bt (nI r)))))) hx hb hE hP (wC_D hD) hS 26 rfl (by omega) (Nat.le_of_ble_eq_true rfl) (wC_st_26) dX2_solve_12 (fun H locs hP hS => ?_)
  refine lv_aload_n hx hb dX2_solve_13 rfl (lv_at hl 0 rfl) ?_
  refine q_get (v := .ref (ad 28)) hx hb hown hE inT_X2 hP 25 rfl rfl 2 (by decide) w_191 rfl dX2_solve_14 ?_
  refine lv_iload_n hx hb dX2_solve_17 rfl (lv_at hl 1 rfl) ?_
  refine lv_iload_n hx hb dX2_solve_18 rfl (lv_at hl 2 rfl) ?_
  refine q_rd (q_runSN (rest := [.ref (ad 28)]) hx hb hml hown hE (c_X5_cell l D cI cZ cL _ t r) ck_X5_cell w_307 hP hl.1 rfl ⟨Nat.le_of_ble_eq_true rfl, Nat.le_of_ble_eq_true rfl⟩ (Nat.le_of_ble_eq_true rfl) dX2_solve_19 ⟨Nat.le_of_ble_eq_true rfl, Nat.le_of_ble_eq_true rfl⟩) ?_
  refine lv_iload_n hx hb dX2_solve_22 rfl (lv_at hl 3 rfl) ?_
  refine q_iast (f := (st S 26 t ((S 26 t) ||| (bt (nI r)))) 28) (i := (t * 16 + r)) (x := mi) (ws' := (wC ad cI (st (st S 26 t ((S 26 t) ||| (bt (nI r)))) 28 (t * 16 + r) mi))) hx hb hE hP (wC_D hD) hS 28 rfl (by omega) (Nat.le_of_ble_eq_true rfl) (wC_st_28) dX2_solve_23 (fun H locs hP hS => ?_)
  refine lv_iload hx hb dX2_solve_24 (lv_at hl 4 rfl) ?_
  refine lv_if_eq (tgt := 42) hx hb dX2_solve_26 (by decide) (fun c_1 => ?_) (fun c_1 => ?_)
  · skip
    have c_1 : soon = false := b_f c_1
    exact e_wretv hx hb hr hlk (by rw [show p_solve S 25 t r mi soon = st (st S 26 t ((S 26 t) ||| (bt (nI r)))) 28 (t * 16 + r) mi from by first | (simp only [bI, p_solve, c_1, ↓reduceIte]; done) | (simp [bI, p_solve, c_1]; done) | (simp_all [bI, p_solve]; done)]; exact hP) hS dX2_solve_42
  · skip
    have c_1 : soon = true := b_t c_1
    refine lv_aload_n hx hb dX2_solve_29 rfl (lv_at hl 0 rfl) ?_
    refine q_get (v := .ref (ad 27)) hx hb hown hE inT_X2 hP 25 rfl rfl 1 (by decide) w_189 rfl dX2_solve_30 ?_
    refine lv_iload_n hx hb dX2_solve_33 rfl (lv_at hl 1 rfl) ?_
    refine lv_dup2_11 hx hb dX2_solve_34 rfl rfl ?_
    refine q_iald (f := S 27) (i := t) hx hb hE hP 27 rfl (by omega) (Nat.le_of_ble_eq_true rfl) dX2_solve_35 ?_
    refine lv_iload_n hx hb dX2_solve_36 rfl (lv_at hl 2 rfl) ?_
    refine q_rd (q_runSN (rest := [.int (S 27 t), .int (nI t), .ref (ad 27)]) hx hb hml hown hE (c_X5_bit l D cI cZ cL _ (nI r)) ck_X5_bit w_510 hP hl.1 rfl ⟨Nat.le_of_ble_eq_true rfl, Nat.le_of_ble_eq_true rfl⟩ (Nat.le_of_ble_eq_true rfl) dX2_solve_37 ⟨Nat.le_of_ble_eq_true rfl, Nat.le_of_ble_eq_true rfl⟩) ?_
    refine lv_ior hx hb dX2_solve_40 ?_
    refine q_iast (f := (st (st S 26 t ((S 26 t) ||| (bt (nI r)))) 28 (t * 16 + r) mi) 27) (i := t) (x := (S 27 t) ||| (bt (nI r))) (ws' := (wC ad cI (st (st (st S 26 t ((S 26 t) ||| (bt (nI r)))) 28 (t * 16 + r) mi) 27 t ((S 27 t) ||| (bt (nI r)))))) hx hb hE hP (wC_D hD) hS 27 rfl (by omega) (Nat.le_of_ble_eq_true rfl) (wC_st_27) dX2_solve_41 (fun H locs hP hS => ?_)
    exact e_wretv hx hb hr hlk (by rw [show p_solve S 25 t r mi soon = st (st (st S 26 t ((S 26 t) ||| (bt (nI r)))) 28 (t * 16 + r) mi) 27 t ((S 27 t) ||| (bt (nI r))) from by first | (simp only [bI, p_solve, c_1, ↓reduceIte]; done) | (simp [bI, p_solve, c_1]; done) | (simp_all [bI, p_solve]; done)]; exact hP) hS dX2_solve_42


set_option maxHeartbeats 4000000 in
set_option maxRecDepth 100000 in
theorem c_X2_pay_25 (l : Launch) (D : va_G) (cI cZ cL : ClassId) (ad : Nat → Nat) (S : Mem) (A : Nat → Prop) (hD : va_D A (wC ad cI S)) (t : Nat) (r : Nat) (x : Int32) (ht : t < 8) (hr : r < 16) : WR l D cI cZ cL yX2_pay cX2_pay 4 none 1 [.ref (ad 25), .int (nI t), .int (nI r), .int x] A (wC ad cI S) (wC ad cI (p_pay S 25 t r x)) none := by
  refine WR.of (by decide) (Nat.le_of_ble_eq_true rfl) ?_
  intro p e s m args below meth c ls hx hb hr hml hown hlk hE hP hS hl
  have hl : lv_has ls 4 [(0, .ref (ad 25)), (1, .int (nI t)), (2, .int (nI r)), (3, .int x)] := hl
  refine lv_aload_n hx hb dX2_pay_0 rfl (lv_at hl 0 rfl) ?_
  refine q_get (v := .ref (ad 29)) hx hb hown hE inT_X2 hP 25 rfl rfl 3 (by decide) w_193 rfl dX2_pay_1 ?_
  refine lv_iload_n hx hb dX2_pay_4 rfl (lv_at hl 1 rfl) ?_
  refine lv_iload_n hx hb dX2_pay_5 rfl (lv_at hl 2 rfl) ?_
  refine q_rd (q_runSN (rest := [.ref (ad 29)]) hx hb hml hown hE (c_X5_cell l D cI cZ cL _ t r) ck_X5_cell w_307 hP hl.1 rfl ⟨Nat.le_of_ble_eq_true rfl, Nat.le_of_ble_eq_true rfl⟩ (Nat.le_of_ble_eq_true rfl) dX2_pay_6 ⟨Nat.le_of_ble_eq_true rfl, Nat.le_of_ble_eq_true rfl⟩) ?_
  refine lv_dup2_11 hx hb dX2_pay_9 rfl rfl ?_
  refine q_iald (f := S 29) (i := (t * 16 + r)) hx hb hE hP 29 rfl (by omega) (Nat.le_of_ble_eq_true rfl) dX2_pay_10 ?_
  refine lv_iload_n hx hb dX2_pay_11 rfl (lv_at hl 3 rfl) ?_
  refine lv_iadd hx hb dX2_pay_12 ?_
  refine q_iast (f := S 29) (i := (t * 16 + r)) (x := (S 29 (t * 16 + r)) + x) (ws' := (wC ad cI (st S 29 (t * 16 + r) ((S 29 (t * 16 + r)) + x)))) hx hb hE hP (wC_D hD) hS 29 rfl (by omega) (Nat.le_of_ble_eq_true rfl) (wC_st_29) dX2_pay_13 (fun H locs hP hS => ?_)
  exact e_wretv hx hb hr hlk (by rw [show p_pay S 25 t r x = st S 29 (t * 16 + r) ((S 29 (t * 16 + r)) + x) from by rfl]; exact hP) hS dX2_pay_14


set_option maxHeartbeats 4000000 in
set_option maxRecDepth 100000 in
theorem c_X2_noteCommon_25 (l : Launch) (D : va_G) (cI cZ cL : ClassId) (ad : Nat → Nat) (S : Mem) (A : Nat → Prop) (hD : va_D A (wC ad cI S)) (t : Nat) (o : Nat) (r : Nat) (ht : t < 8) (ho : o < 8) : WR l D cI cZ cL yX2_noteCommon cX2_noteCommon 4 none 1 [.ref (ad 25), .int (nI t), .int (nI o), .int (nI r)] A (wC ad cI S) (wC ad cI (p_common S 25 t o r)) none := by
  refine WR.of (by decide) (Nat.le_of_ble_eq_true rfl) ?_
  intro p e s m args below meth c ls hx hb hr hml hown hlk hE hP hS hl
  have hl : lv_has ls 4 [(0, .ref (ad 25)), (1, .int (nI t)), (2, .int (nI o)), (3, .int (nI r))] := hl
  refine lv_aload_n hx hb dX2_noteCommon_0 rfl (lv_at hl 0 rfl) ?_
  refine q_get (v := .ref (ad 30)) hx hb hown hE inT_X2 hP 25 rfl rfl 4 (by decide) w_195 rfl dX2_noteCommon_1 ?_
  refine lv_iload_n hx hb dX2_noteCommon_4 rfl (lv_at hl 1 rfl) ?_
  refine lv_iload_n hx hb dX2_noteCommon_5 rfl (lv_at hl 2 rfl) ?_
  refine q_rd (q_runSN (rest := [.ref (ad 30)]) hx hb hml hown hE (c_X5_pair l D cI cZ cL _ t o) ck_X5_pair w_524 hP hl.1 rfl ⟨Nat.le_of_ble_eq_true rfl, Nat.le_of_ble_eq_true rfl⟩ (Nat.le_of_ble_eq_true rfl) dX2_noteCommon_6 ⟨Nat.le_of_ble_eq_true rfl, Nat.le_of_ble_eq_true rfl⟩) ?_
  refine lv_dup2_11 hx hb dX2_noteCommon_9 rfl rfl ?_
  refine q_iald (f := S 30) (i := (t * 8 + o)) hx hb hE hP 30 rfl (by omega) (Nat.le_of_ble_eq_true rfl) dX2_noteCommon_10 ?_
  refine lv_iconst (v := 1) hx hb dX2_noteCommon_11 (by decide) ?_
  refine lv_iadd hx hb dX2_noteCommon_12 ?_
  refine q_iast (f := S 30) (i := (t * 8 + o)) (x := (S 30 (t * 8 + o)) + 1) (ws' := (wC ad cI (st S 30 (t * 8 + o) ((S 30 (t * 8 + o)) + 1)))) hx hb hE hP (wC_D hD) hS 30 rfl (by omega) (Nat.le_of_ble_eq_true rfl) (wC_st_30) dX2_noteCommon_13 (fun H locs hP hS => ?_)
  refine lv_aload_n hx hb dX2_noteCommon_14 rfl (lv_at hl 0 rfl) ?_
  refine q_get (v := .ref (ad 30)) hx hb hown hE inT_X2 hP 25 rfl rfl 4 (by decide) w_195 rfl dX2_noteCommon_15 ?_
  refine lv_iload_n hx hb dX2_noteCommon_18 rfl (lv_at hl 2 rfl) ?_
  refine lv_iload_n hx hb dX2_noteCommon_19 rfl (lv_at hl 1 rfl) ?_
  refine q_rd (q_runSN (rest := [.ref (ad 30)]) hx hb hml hown hE (c_X5_pair l D cI cZ cL _ o t) ck_X5_pair w_524 hP hl.1 rfl ⟨Nat.le_of_ble_eq_true rfl, Nat.le_of_ble_eq_true rfl⟩ (Nat.le_of_ble_eq_true rfl) dX2_noteCommon_20 ⟨Nat.le_of_ble_eq_true rfl, Nat.le_of_ble_eq_true rfl⟩) ?_
  refine lv_dup2_11 hx hb dX2_noteCommon_23 rfl rfl ?_
  refine q_iald (f := (st S 30 (t * 8 + o) ((S 30 (t * 8 + o)) + 1)) 30) (i := (o * 8 + t)) hx hb hE hP 30 rfl (by omega) (Nat.le_of_ble_eq_true rfl) dX2_noteCommon_24 ?_
  refine lv_iconst (v := 1) hx hb dX2_noteCommon_25 (by decide) ?_
  refine lv_iadd hx hb dX2_noteCommon_26 ?_
  refine q_iast (f := (st S 30 (t * 8 + o) ((S 30 (t * 8 + o)) + 1)) 30) (i := (o * 8 + t)) (x := ((st S 30 (t * 8 + o) ((S 30 (t * 8 + o)) + 1)) 30 (o * 8 + t)) + 1) (ws' := (wC ad cI (st (st S 30 (t * 8 + o) ((S 30 (t * 8 + o)) + 1)) 30 (o * 8 + t) (((st S 30 (t * 8 + o) ((S 30 (t * 8 + o)) + 1)) 30 (o * 8 + t)) + 1)))) hx hb hE hP (wC_D hD) hS 30 rfl (by omega) (Nat.le_of_ble_eq_true rfl) (wC_st_30) dX2_noteCommon_27 (fun H locs hP hS => ?_)
  refine lv_aload_n hx hb dX2_noteCommon_28 rfl (lv_at hl 0 rfl) ?_
  refine q_get (v := .ref (ad 31)) hx hb hown hE inT_X2 hP 25 rfl rfl 5 (by decide) w_197 rfl dX2_noteCommon_29 ?_
  refine lv_iload_n hx hb dX2_noteCommon_32 rfl (lv_at hl 1 rfl) ?_
  refine lv_iload_n hx hb dX2_noteCommon_33 rfl (lv_at hl 2 rfl) ?_
  refine q_rd (q_runSN (rest := [.ref (ad 31)]) hx hb hml hown hE (c_X5_pair l D cI cZ cL _ t o) ck_X5_pair w_524 hP hl.1 rfl ⟨Nat.le_of_ble_eq_true rfl, Nat.le_of_ble_eq_true rfl⟩ (Nat.le_of_ble_eq_true rfl) dX2_noteCommon_34 ⟨Nat.le_of_ble_eq_true rfl, Nat.le_of_ble_eq_true rfl⟩) ?_
  refine lv_dup2_11 hx hb dX2_noteCommon_37 rfl rfl ?_
  refine q_iald (f := S 31) (i := (t * 8 + o)) hx hb hE hP 31 rfl (by omega) (Nat.le_of_ble_eq_true rfl) dX2_noteCommon_38 ?_
  refine lv_iload_n hx hb dX2_noteCommon_39 rfl (lv_at hl 3 rfl) ?_
  refine q_rd (q_runSN (rest := [.int (S 31 (t * 8 + o)), .int (nI (t * 8 + o)), .ref (ad 31)]) hx hb hml hown hE (c_X5_bit l D cI cZ cL _ (nI r)) ck_X5_bit w_510 hP hl.1 rfl ⟨Nat.le_of_ble_eq_true rfl, Nat.le_of_ble_eq_true rfl⟩ (Nat.le_of_ble_eq_true rfl) dX2_noteCommon_40 ⟨Nat.le_of_ble_eq_true rfl, Nat.le_of_ble_eq_true rfl⟩) ?_
  refine lv_ior hx hb dX2_noteCommon_43 ?_
  refine q_iast (f := (st (st S 30 (t * 8 + o) ((S 30 (t * 8 + o)) + 1)) 30 (o * 8 + t) (((st S 30 (t * 8 + o) ((S 30 (t * 8 + o)) + 1)) 30 (o * 8 + t)) + 1)) 31) (i := (t * 8 + o)) (x := (S 31 (t * 8 + o)) ||| (bt (nI r))) (ws' := (wC ad cI (st (st (st S 30 (t * 8 + o) ((S 30 (t * 8 + o)) + 1)) 30 (o * 8 + t) (((st S 30 (t * 8 + o) ((S 30 (t * 8 + o)) + 1)) 30 (o * 8 + t)) + 1)) 31 (t * 8 + o) ((S 31 (t * 8 + o)) ||| (bt (nI r)))))) hx hb hE hP (wC_D hD) hS 31 rfl (by omega) (Nat.le_of_ble_eq_true rfl) (wC_st_31) dX2_noteCommon_44 (fun H locs hP hS => ?_)
  refine lv_aload_n hx hb dX2_noteCommon_45 rfl (lv_at hl 0 rfl) ?_
  refine q_get (v := .ref (ad 31)) hx hb hown hE inT_X2 hP 25 rfl rfl 5 (by decide) w_197 rfl dX2_noteCommon_46 ?_
  refine lv_iload_n hx hb dX2_noteCommon_49 rfl (lv_at hl 2 rfl) ?_
  refine lv_iload_n hx hb dX2_noteCommon_50 rfl (lv_at hl 1 rfl) ?_
  refine q_rd (q_runSN (rest := [.ref (ad 31)]) hx hb hml hown hE (c_X5_pair l D cI cZ cL _ o t) ck_X5_pair w_524 hP hl.1 rfl ⟨Nat.le_of_ble_eq_true rfl, Nat.le_of_ble_eq_true rfl⟩ (Nat.le_of_ble_eq_true rfl) dX2_noteCommon_51 ⟨Nat.le_of_ble_eq_true rfl, Nat.le_of_ble_eq_true rfl⟩) ?_
  refine lv_dup2_11 hx hb dX2_noteCommon_54 rfl rfl ?_
  refine q_iald (f := (st (st (st S 30 (t * 8 + o) ((S 30 (t * 8 + o)) + 1)) 30 (o * 8 + t) (((st S 30 (t * 8 + o) ((S 30 (t * 8 + o)) + 1)) 30 (o * 8 + t)) + 1)) 31 (t * 8 + o) ((S 31 (t * 8 + o)) ||| (bt (nI r)))) 31) (i := (o * 8 + t)) hx hb hE hP 31 rfl (by omega) (Nat.le_of_ble_eq_true rfl) dX2_noteCommon_55 ?_
  refine lv_iload_n hx hb dX2_noteCommon_56 rfl (lv_at hl 3 rfl) ?_
  refine q_rd (q_runSN (rest := [.int ((st (st (st S 30 (t * 8 + o) ((S 30 (t * 8 + o)) + 1)) 30 (o * 8 + t) (((st S 30 (t * 8 + o) ((S 30 (t * 8 + o)) + 1)) 30 (o * 8 + t)) + 1)) 31 (t * 8 + o) ((S 31 (t * 8 + o)) ||| (bt (nI r)))) 31 (o * 8 + t)), .int (nI (o * 8 + t)), .ref (ad 31)]) hx hb hml hown hE (c_X5_bit l D cI cZ cL _ (nI r)) ck_X5_bit w_510 hP hl.1 rfl ⟨Nat.le_of_ble_eq_true rfl, Nat.le_of_ble_eq_true rfl⟩ (Nat.le_of_ble_eq_true rfl) dX2_noteCommon_57 ⟨Nat.le_of_ble_eq_true rfl, Nat.le_of_ble_eq_true rfl⟩) ?_
  refine lv_ior hx hb dX2_noteCommon_60 ?_
  refine q_iast (f := (st (st (st S 30 (t * 8 + o) ((S 30 (t * 8 + o)) + 1)) 30 (o * 8 + t) (((st S 30 (t * 8 + o) ((S 30 (t * 8 + o)) + 1)) 30 (o * 8 + t)) + 1)) 31 (t * 8 + o) ((S 31 (t * 8 + o)) ||| (bt (nI r)))) 31) (i := (o * 8 + t)) (x := ((st (st (st S 30 (t * 8 + o) ((S 30 (t * 8 + o)) + 1)) 30 (o * 8 + t) (((st S 30 (t * 8 + o) ((S 30 (t * 8 + o)) + 1)) 30 (o * 8 + t)) + 1)) 31 (t * 8 + o) ((S 31 (t * 8 + o)) ||| (bt (nI r)))) 31 (o * 8 + t)) ||| (bt (nI r))) (ws' := (wC ad cI (st (st (st (st S 30 (t * 8 + o) ((S 30 (t * 8 + o)) + 1)) 30 (o * 8 + t) (((st S 30 (t * 8 + o) ((S 30 (t * 8 + o)) + 1)) 30 (o * 8 + t)) + 1)) 31 (t * 8 + o) ((S 31 (t * 8 + o)) ||| (bt (nI r)))) 31 (o * 8 + t) (((st (st (st S 30 (t * 8 + o) ((S 30 (t * 8 + o)) + 1)) 30 (o * 8 + t) (((st S 30 (t * 8 + o) ((S 30 (t * 8 + o)) + 1)) 30 (o * 8 + t)) + 1)) 31 (t * 8 + o) ((S 31 (t * 8 + o)) ||| (bt (nI r)))) 31 (o * 8 + t)) ||| (bt (nI r)))))) hx hb hE hP (wC_D hD) hS 31 rfl (by omega) (Nat.le_of_ble_eq_true rfl) (wC_st_31) dX2_noteCommon_61 (fun H locs hP hS => ?_)
  exact e_wretv hx hb hr hlk (by rw [show p_common S 25 t o r = st (st (st (st S 30 (t * 8 + o) ((S 30 (t * 8 + o)) + 1)) 30 (o * 8 + t) (((st S 30 (t * 8 + o) ((S 30 (t * 8 + o)) + 1)) 30 (o * 8 + t)) + 1)) 31 (t * 8 + o) ((S 31 (t * 8 + o)) ||| (bt (nI r)))) 31 (o * 8 + t) (((st (st (st S 30 (t * 8 + o) ((S 30 (t * 8 + o)) + 1)) 30 (o * 8 + t) (((st S 30 (t * 8 + o) ((S 30 (t * 8 + o)) + 1)) 30 (o * 8 + t)) + 1)) 31 (t * 8 + o) ((S 31 (t * 8 + o)) ||| (bt (nI r)))) 31 (o * 8 + t)) ||| (bt (nI r))) from by rfl]; exact hP) hS dX2_noteCommon_62


set_option maxHeartbeats 4000000 in
set_option maxRecDepth 100000 in
theorem c_X5_noteSolved_25 (l : Launch) (D : va_G) (cI cZ cL : ClassId) (ad : Nat → Nat) (S : Mem) (A : Nat → Prop) (hD : va_D A (wC ad cI S)) (t : Nat) (r : Nat) (mi : Int32) (ht : t < 8) (hr : r < 16) : WR l D cI cZ cL yX5_noteSolved cX5_noteSolved 6 none 3 [.ref (ad 0), .ref (ad 25), .int (nI t), .int (nI r), .int mi] A (wC ad cI S) (wC ad cI (p_noteS S 25 t r mi)) none := by
  refine WR.of (by decide) (Nat.le_of_ble_eq_true rfl) ?_
  intro p e s m args below meth c ls hx hb hr hml hown hlk hE hP hS hl
  have hl : lv_has ls 6 [(0, .ref (ad 0)), (1, .ref (ad 25)), (2, .int (nI t)), (3, .int (nI r)), (4, .int mi)] := hl
  refine lv_iload hx hb dX5_noteSolved_0 (lv_at hl 4 rfl) ?_
  refine lv_aload_n hx hb dX5_noteSolved_2 rfl (lv_at hl 0 rfl) ?_
  refine lv_aload_n hx hb dX5_noteSolved_3 rfl (lv_at hl 1 rfl) ?_
  refine lv_iload_n hx hb dX5_noteSolved_4 rfl (lv_at hl 2 rfl) ?_
  refine lv_iload_n hx hb dX5_noteSolved_5 rfl (lv_at hl 3 rfl) ?_
  refine q_rd (q_runV (rest := [.int mi]) hx hb hml hown hE (c_X5_openMinute_25 l D cI cZ cL ad S t r (by omega) (by omega)) ck_X5_openMinute w_497 hP 0 rfl rfl hl.1 rfl ⟨Nat.le_of_ble_eq_true rfl, Nat.le_of_ble_eq_true rfl⟩ (Nat.le_of_ble_eq_true rfl) dX5_noteSolved_6 ⟨Nat.le_of_ble_eq_true rfl, Nat.le_of_ble_eq_true rfl⟩) ?_
  refine lv_isub hx hb dX5_noteSolved_9 ?_
  refine lv_istore (lv' := [(5, .int (mi - (p_open S 25 t r))), (0, .ref (ad 0)), (1, .ref (ad 25)), (2, .int (nI t)), (3, .int (nI r)), (4, .int mi)]) hx hb dX5_noteSolved_10 hl (by decide) rfl (fun ls hl => ?_)
  refine lv_aload_n hx hb dX5_noteSolved_12 rfl (lv_at hl 2 rfl) ?_
  refine lv_iload_n hx hb dX5_noteSolved_13 rfl (lv_at hl 3 rfl) ?_
  refine lv_iload_n hx hb dX5_noteSolved_14 rfl (lv_at hl 4 rfl) ?_
  refine lv_iload hx hb dX5_noteSolved_15 (lv_at hl 5 rfl) ?_
  refine lv_iload hx hb dX5_noteSolved_17 (lv_at hl 0 rfl) ?_
  refine lv_aload_n hx hb dX5_noteSolved_19 rfl (lv_at hl 1 rfl) ?_
  refine q_get (v := .ref (ad 1)) hx hb hown hE inT_X5 hP 0 rfl rfl 0 (by decide) w_212 rfl dX5_noteSolved_20 ?_
  refine q_getN (v := .ref (ad 4)) hx hb hown hE inT_X3 hP 1 rfl rfl 2 (by decide) w_97 rfl dX5_noteSolved_23 ?_
  refine lv_iload_n hx hb dX5_noteSolved_26 rfl (lv_at hl 4 rfl) ?_
  refine q_iald (f := S 4) (i := r) hx hb hE hP 4 rfl (by omega) (Nat.le_of_ble_eq_true rfl) dX5_noteSolved_27 ?_
  refine lv_icmp_ge (tgt := 35) hx hb dX5_noteSolved_28 (by decide) (fun c_1 => ?_) (fun c_1 => ?_)
  · skip
    refine lv_iconst (v := 0) hx hb dX5_noteSolved_35 (by decide) ?_
    refine q_w0v (q_runVN (rest := []) hx hb hml hown hE (c_X2_solve_25 l D cI cZ cL ad S A (wC_D hD) t r mi false (by omega) (by omega)) ck_X2_solve w_506 hP 25 rfl rfl hl.1 rfl ⟨Nat.le_of_ble_eq_true rfl, Nat.le_of_ble_eq_true rfl⟩ (Nat.le_of_ble_eq_true rfl) dX5_noteSolved_36 ⟨Nat.le_of_ble_eq_true rfl, Nat.le_of_ble_eq_true rfl⟩) hS (fun H locs hP hS => ?_)
    exact e_wretv hx hb hr hlk (by rw [show p_noteS S 25 t r mi = p_solve S 25 t r mi false from by first | (simp only [bI, p_noteS, c_1, ↓reduceIte]; done) | (simp [bI, p_noteS, c_1]; done) | (simp_all [bI, p_noteS]; done)]; exact hP) hS dX5_noteSolved_39
  · skip
    refine lv_iconst (v := 1) hx hb dX5_noteSolved_31 (by decide) ?_
    refine lv_goto (tgt := 36) hx hb dX5_noteSolved_32 (by decide) ?_
    refine q_w0v (q_runVN (rest := []) hx hb hml hown hE (c_X2_solve_25 l D cI cZ cL ad S A (wC_D hD) t r mi true (by omega) (by omega)) ck_X2_solve w_506 hP 25 rfl rfl hl.1 rfl ⟨Nat.le_of_ble_eq_true rfl, Nat.le_of_ble_eq_true rfl⟩ (Nat.le_of_ble_eq_true rfl) dX5_noteSolved_36 ⟨Nat.le_of_ble_eq_true rfl, Nat.le_of_ble_eq_true rfl⟩) hS (fun H locs hP hS => ?_)
    exact e_wretv hx hb hr hlk (by rw [show p_noteS S 25 t r mi = p_solve S 25 t r mi true from by first | (simp only [bI, p_noteS, c_1, ↓reduceIte]; done) | (simp [bI, p_noteS, c_1]; done) | (simp_all [bI, p_noteS]; done)]; exact hP) hS dX5_noteSolved_39

theorem dX5_noteWrong_0 : decode cX5_noteWrong 0 = .ok (.aload_n 0, 1) := by decide +kernel
theorem dX5_noteWrong_1 : decode cX5_noteWrong 1 = .ok (.getfield 19, 3) := by decide +kernel
theorem dX5_noteWrong_4 : decode cX5_noteWrong 4 = .ok (.iload_n 2, 1) := by decide +kernel
theorem dX5_noteWrong_5 : decode cX5_noteWrong 5 = .ok (.iload_n 3, 1) := by decide +kernel
theorem dX5_noteWrong_6 : decode cX5_noteWrong 6 = .ok (.invokevirtual 281, 3) := by decide +kernel
theorem dX5_noteWrong_9 : decode cX5_noteWrong 9 = .ok (.istore 4, 2) := by decide +kernel
theorem dX5_noteWrong_11 : decode cX5_noteWrong 11 = .ok (.iload 4, 2) := by decide +kernel
theorem dX5_noteWrong_13 : decode cX5_noteWrong 13 = .ok (.iload_n 1, 1) := by decide +kernel
theorem dX5_noteWrong_14 : decode cX5_noteWrong 14 = .ok (.invokestatic 97, 3) := by decide +kernel
theorem dX5_noteWrong_17 : decode cX5_noteWrong 17 = .ok (.ifCond .eq 4, 3) := by decide +kernel
theorem dX5_noteWrong_20 : decode cX5_noteWrong 20 = .ok (.return_, 1) := by decide +kernel
theorem dX5_noteWrong_21 : decode cX5_noteWrong 21 = .ok (.iconst 0, 1) := by decide +kernel
theorem dX5_noteWrong_22 : decode cX5_noteWrong 22 = .ok (.istore 5, 2) := by decide +kernel
theorem dX5_noteWrong_24 : decode cX5_noteWrong 24 = .ok (.iload 5, 2) := by decide +kernel
theorem dX5_noteWrong_26 : decode cX5_noteWrong 26 = .ok (.aload_n 0, 1) := by decide +kernel
theorem dX5_noteWrong_27 : decode cX5_noteWrong 27 = .ok (.getfield 115, 3) := by decide +kernel
theorem dX5_noteWrong_30 : decode cX5_noteWrong 30 = .ok (.if_icmp .ge 30, 3) := by decide +kernel
theorem dX5_noteWrong_33 : decode cX5_noteWrong 33 = .ok (.iload 4, 2) := by decide +kernel
theorem dX5_noteWrong_35 : decode cX5_noteWrong 35 = .ok (.iload 5, 2) := by decide +kernel
theorem dX5_noteWrong_37 : decode cX5_noteWrong 37 = .ok (.invokestatic 97, 3) := by decide +kernel
theorem dX5_noteWrong_40 : decode cX5_noteWrong 40 = .ok (.ifCond .eq 14, 3) := by decide +kernel
theorem dX5_noteWrong_43 : decode cX5_noteWrong 43 = .ok (.aload_n 0, 1) := by decide +kernel
theorem dX5_noteWrong_44 : decode cX5_noteWrong 44 = .ok (.getfield 40, 3) := by decide +kernel
theorem dX5_noteWrong_47 : decode cX5_noteWrong 47 = .ok (.iload_n 1, 1) := by decide +kernel
theorem dX5_noteWrong_48 : decode cX5_noteWrong 48 = .ok (.iload 5, 2) := by decide +kernel
theorem dX5_noteWrong_50 : decode cX5_noteWrong 50 = .ok (.iload_n 2, 1) := by decide +kernel
theorem dX5_noteWrong_51 : decode cX5_noteWrong 51 = .ok (.invokevirtual 284, 3) := by decide +kernel
theorem dX5_noteWrong_54 : decode cX5_noteWrong 54 = .ok (.iinc 5 1, 3) := by decide +kernel
theorem dX5_noteWrong_57 : decode cX5_noteWrong 57 = .ok (.goto (-33), 3) := by decide +kernel
theorem dX5_noteWrong_60 : decode cX5_noteWrong 60 = .ok (.return_, 1) := by decide +kernel
set_option maxHeartbeats 4000000 in
set_option maxRecDepth 100000 in
theorem c_X5_noteWrong (l : Launch) (D : va_G) (cI cZ cL : ClassId) (ad : Nat → Nat) (S : Mem) (A : Nat → Prop) (hD : va_D A (wC ad cI S)) (t : Nat) (r : Nat) (w : Int32) (hI : I0 S) (ht : t < 8) (hr : r < 16) : WR l D cI cZ cL yX5_noteWrong cX5_noteWrong 6 none 2 [.ref (ad 0), .int (nI t), .int (nI r), .int w] A (wC ad cI S) (wC ad cI (p_noteW S t r w)) none := by
  refine WR.of (by decide) (Nat.le_of_ble_eq_true rfl) ?_
  intro p e s m args below meth c ls hx hb hr hml hown hlk hE hP hS hl
  have hl : lv_has ls 6 [(0, .ref (ad 0)), (1, .int (nI t)), (2, .int (nI r)), (3, .int w)] := hl
  have hT8 := hI.T8
  have hR16 := hI.R16
  have hN200 := hI.N200
  refine lv_aload_n hx hb dX5_noteWrong_0 rfl (lv_at hl 0 rfl) ?_
  refine q_get (v := .ref (ad 7)) hx hb hown hE inT_X5 hP 0 rfl rfl 1 (by decide) w_213 rfl dX5_noteWrong_1 ?_
  refine lv_iload_n hx hb dX5_noteWrong_4 rfl (lv_at hl 2 rfl) ?_
  refine lv_iload_n hx hb dX5_noteWrong_5 rfl (lv_at hl 3 rfl) ?_
  refine q_rd (q_runVN (rest := []) hx hb hml hown hE (c_X0_giversOf l D cI cZ cL ad S r w hI) ck_X0_giversOf w_515 hP 7 rfl rfl hl.1 rfl ⟨Nat.le_of_ble_eq_true rfl, Nat.le_of_ble_eq_true rfl⟩ (Nat.le_of_ble_eq_true rfl) dX5_noteWrong_6 ⟨Nat.le_of_ble_eq_true rfl, Nat.le_of_ble_eq_true rfl⟩) ?_
  refine lv_istore (lv' := [(4, .int (p_give S r w (cN S))), (0, .ref (ad 0)), (1, .int (nI t)), (2, .int (nI r)), (3, .int w)]) hx hb dX5_noteWrong_9 hl (by decide) rfl (fun ls hl => ?_)
  refine lv_iload hx hb dX5_noteWrong_11 (lv_at hl 0 rfl) ?_
  refine lv_iload_n hx hb dX5_noteWrong_13 rfl (lv_at hl 2 rfl) ?_
  refine q_rd (q_runS (rest := []) hx hb hml hown hE (c_X5_has l D cI cZ cL _ (p_give S r w (cN S)) (nI t)) ck_X5_has w_298 hP hl.1 rfl ⟨Nat.le_of_ble_eq_true rfl, Nat.le_of_ble_eq_true rfl⟩ (Nat.le_of_ble_eq_true rfl) dX5_noteWrong_14 ⟨Nat.le_of_ble_eq_true rfl, Nat.le_of_ble_eq_true rfl⟩) ?_
  refine lv_if_eq (tgt := 21) hx hb dX5_noteWrong_17 (by decide) (fun c_1 => ?_) (fun c_1 => ?_)
  · skip
    have c_1 : hs (p_give S r w (cN S)) (nI t) = false := b_f c_1
    refine lv_iconst (v := 0) hx hb dX5_noteWrong_21 (by decide) ?_
    refine lv_istore (lv' := [(5, .int 0), (4, .int (p_give S r w (cN S))), (0, .ref (ad 0)), (1, .int (nI t)), (2, .int (nI r)), (3, .int w)]) hx hb dX5_noteWrong_22 hl (by decide) rfl (fun ls hl => ?_)
    have hloop_24 : ∀ (n i : Nat), i ≤ cT S → cT S < i + n → ∀ (H : Heap) (locs : List Loc), va_P D vwCl (wC ad cI (p_nwl S (p_give S r w (cN S)) t r i)) H → va_S A s.heap H locs → ∀ ls : Array Slot, lv_has ls 6 [(5, .int (nI i)), (4, .int (p_give S r w (cN S))), (0, .ref (ad 0)), (1, .int (nI t)), (2, .int (nI r)), (3, .int w)] → W p l e (rm 2 0 0) s m args below meth c H locs 0 0 (MQ below (Qwr D A (wC ad cI (p_noteW S t r w)) none) args s 0 0 A) (F0 m 24 ls []) := by
      intro n
      induction n with
      | zero => intro i h1 h2; exact absurd h2 (by omega)
      | succ n ih_24 =>
        intro i hi_24 hin_24  H locs hP hS ls hl
        have hI_24 : I0 (p_nwl S (p_give S r w (cN S)) t r i) := I0_congr (fun c hc => fr_nwl (by omega) _) hI
        refine lv_iload hx hb dX5_noteWrong_24 (lv_at hl 0 rfl) ?_
        refine lv_aload_n hx hb dX5_noteWrong_26 rfl (lv_at hl 2 rfl) ?_
        refine q_get (v := .int ((p_nwl S (p_give S r w (cN S)) t r i) 0 9)) hx hb hown hE inT_X5 hP 0 rfl rfl 9 (by decide) w_221 rfl dX5_noteWrong_27 ?_
        refine q_top (y := nI (cT (p_nwl S (p_give S r w (cN S)) t r i))) (I0.T hI_24) ?_
        refine q_top (y := nI (cT S)) (congrArg nI (cT_congr (fr_nwl (by omega) _))) ?_
        refine lv_icmp_ge (tgt := 60) hx hb dX5_noteWrong_30 (by decide) (fun c_2 => ?_) (fun c_2 => ?_)
        · skip
          have c_2 : (cT S) ≤ i := n_le (a := cT S) (b := i) (by omega) (by omega) c_2
          have hend_24 : cT S = i := by omega
          subst hend_24
          exact e_wretv hx hb hr hlk (by rw [show p_noteW S t r w = p_nwl S (p_give S r w (cN S)) t r (cT S) from by first | (simp only [bI, p_noteW, c_1, ↓reduceIte]; done) | (simp [bI, p_noteW, c_1]; done) | (simp_all [bI, p_noteW]; done)]; exact hP) hS dX5_noteWrong_60
        · skip
          have c_2 : i < (cT S) := n_nle (a := cT S) (b := i) (by omega) (by omega) c_2
          refine lv_iload hx hb dX5_noteWrong_33 (lv_at hl 1 rfl) ?_
          refine lv_iload hx hb dX5_noteWrong_35 (lv_at hl 0 rfl) ?_
          refine q_rd (q_runS (rest := []) hx hb hml hown hE (c_X5_has l D cI cZ cL _ (p_give S r w (cN S)) (nI i)) ck_X5_has w_298 hP hl.1 rfl ⟨Nat.le_of_ble_eq_true rfl, Nat.le_of_ble_eq_true rfl⟩ (Nat.le_of_ble_eq_true rfl) dX5_noteWrong_37 ⟨Nat.le_of_ble_eq_true rfl, Nat.le_of_ble_eq_true rfl⟩) ?_
          refine lv_if_eq (tgt := 54) hx hb dX5_noteWrong_40 (by decide) (fun c_3 => ?_) (fun c_3 => ?_)
          · skip
            have c_3 : hs (p_give S r w (cN S)) (nI i) = false := b_f c_3
            refine lv_iinc (v := nI (i + 1)) (lv' := [(5, .int (nI (i + 1))), (4, .int (p_give S r w (cN S))), (0, .ref (ad 0)), (1, .int (nI t)), (2, .int (nI r)), (3, .int w)]) hx hb dX5_noteWrong_54 hl (k := 0) rfl (nI_1 i) (by decide) rfl (fun ls hl => ?_)
            refine lv_goto (tgt := 24) hx hb dX5_noteWrong_57 (by decide) ?_
            refine ih_24 (i + 1) (by omega) (by omega)  H locs (by rw [show p_nwl S (p_give S r w (cN S)) t r (i + 1) = p_nwl S (p_give S r w (cN S)) t r i from by first | (simp only [bI, p_nwl, c_2, c_3, ↓reduceIte]; done) | (simp [bI, p_nwl, c_2, c_3]; done) | (simp_all [bI, p_nwl]; done)]; exact hP) hS ls ?_
            exact lv_sub hl [0, 1, 2, 3, 4, 5] rfl
          · skip
            have c_3 : hs (p_give S r w (cN S)) (nI i) = true := b_t c_3
            refine lv_aload_n hx hb dX5_noteWrong_43 rfl (lv_at hl 2 rfl) ?_
            refine q_get (v := .ref (ad 18)) hx hb hown hE inT_X5 hP 0 rfl rfl 4 (by decide) w_216 rfl dX5_noteWrong_44 ?_
            refine lv_iload_n hx hb dX5_noteWrong_47 rfl (lv_at hl 3 rfl) ?_
            refine lv_iload hx hb dX5_noteWrong_48 (lv_at hl 0 rfl) ?_
            refine lv_iload_n hx hb dX5_noteWrong_50 rfl (lv_at hl 4 rfl) ?_
            refine q_w0v (q_runVN (rest := []) hx hb hml hown hE (c_X2_noteCommon_18 l D cI cZ cL ad (p_nwl S (p_give S r w (cN S)) t r i) A (wC_D hD) t i r (by omega) (by omega)) ck_X2_noteCommon w_520 hP 18 rfl rfl hl.1 rfl ⟨Nat.le_of_ble_eq_true rfl, Nat.le_of_ble_eq_true rfl⟩ (Nat.le_of_ble_eq_true rfl) dX5_noteWrong_51 ⟨Nat.le_of_ble_eq_true rfl, Nat.le_of_ble_eq_true rfl⟩) hS (fun H locs hP hS => ?_)
            refine lv_iinc (v := nI (i + 1)) (lv' := [(5, .int (nI (i + 1))), (4, .int (p_give S r w (cN S))), (0, .ref (ad 0)), (1, .int (nI t)), (2, .int (nI r)), (3, .int w)]) hx hb dX5_noteWrong_54 hl (k := 0) rfl (nI_1 i) (by decide) rfl (fun ls hl => ?_)
            refine lv_goto (tgt := 24) hx hb dX5_noteWrong_57 (by decide) ?_
            refine ih_24 (i + 1) (by omega) (by omega)  H locs (by rw [show p_nwl S (p_give S r w (cN S)) t r (i + 1) = p_common (p_nwl S (p_give S r w (cN S)) t r i) 18 t i r from by first | (simp only [bI, p_nwl, c_2, c_3, ↓reduceIte]; done) | (simp [bI, p_nwl, c_2, c_3]; done) | (simp_all [bI, p_nwl]; done)]; exact hP) hS ls ?_
            exact lv_sub hl [0, 1, 2, 3, 4, 5] rfl
    refine hloop_24 (cT S + 1) 0 (by omega) (by omega)  s.heap [] hP hS ls ?_
    exact lv_sub hl [0, 1, 2, 3, 4, 5] rfl
  · skip
    have c_1 : hs (p_give S r w (cN S)) (nI t) = true := b_t c_1
    exact e_wretv hx hb hr hlk (by rw [show p_noteW S t r w = S from by first | (simp only [bI, p_noteW, c_1, ↓reduceIte]; done) | (simp [bI, p_noteW, c_1]; done) | (simp_all [bI, p_noteW]; done)]; exact hP) hS dX5_noteWrong_20

theorem dJ7_fill_53178_0 : decode cJ7_fill_53178 0 = .ok (.iconst 0, 1) := by decide +kernel
theorem dJ7_fill_53178_1 : decode cJ7_fill_53178 1 = .ok (.istore_n 2, 1) := by decide +kernel
theorem dJ7_fill_53178_2 : decode cJ7_fill_53178 2 = .ok (.aload_n 0, 1) := by decide +kernel
theorem dJ7_fill_53178_3 : decode cJ7_fill_53178 3 = .ok (.arraylength, 1) := by decide +kernel
theorem dJ7_fill_53178_4 : decode cJ7_fill_53178 4 = .ok (.istore_n 3, 1) := by decide +kernel
theorem dJ7_fill_53178_5 : decode cJ7_fill_53178 5 = .ok (.iload_n 2, 1) := by decide +kernel
theorem dJ7_fill_53178_6 : decode cJ7_fill_53178 6 = .ok (.iload_n 3, 1) := by decide +kernel
theorem dJ7_fill_53178_7 : decode cJ7_fill_53178 7 = .ok (.if_icmp .ge 13, 3) := by decide +kernel
theorem dJ7_fill_53178_10 : decode cJ7_fill_53178 10 = .ok (.aload_n 0, 1) := by decide +kernel
theorem dJ7_fill_53178_11 : decode cJ7_fill_53178 11 = .ok (.iload_n 2, 1) := by decide +kernel
theorem dJ7_fill_53178_12 : decode cJ7_fill_53178 12 = .ok (.iload_n 1, 1) := by decide +kernel
theorem dJ7_fill_53178_13 : decode cJ7_fill_53178 13 = .ok (.iastore, 1) := by decide +kernel
theorem dJ7_fill_53178_14 : decode cJ7_fill_53178 14 = .ok (.iinc 2 1, 3) := by decide +kernel
theorem dJ7_fill_53178_17 : decode cJ7_fill_53178 17 = .ok (.goto (-12), 3) := by decide +kernel
theorem dJ7_fill_53178_20 : decode cJ7_fill_53178 20 = .ok (.return_, 1) := by decide +kernel
set_option maxHeartbeats 4000000 in
set_option maxRecDepth 100000 in
theorem c_J7_fill_53178_26 (l : Launch) (D : va_G) (cI cZ cL : ClassId) (ad : Nat → Nat) (S : Mem) (A : Nat → Prop) (hD : va_D A (wC ad cI S)) : WR l D cI cZ cL yJ7_fill_53178 cJ7_fill_53178 4 none 0 [.ref (ad 26), .int 0] A (wC ad cI S) (wC ad cI (fillS S 26 8)) none := by
  refine WR.of (by decide) (Nat.le_of_ble_eq_true rfl) ?_
  intro p e s m args below meth c ls hx hb hr hml hown hlk hE hP hS hl
  have hl : lv_has ls 4 [(0, .ref (ad 26)), (1, .int 0)] := hl
  refine lv_iconst (v := 0) hx hb dJ7_fill_53178_0 (by decide) ?_
  refine lv_istore_n (lv' := [(2, .int 0), (0, .ref (ad 26)), (1, .int 0)]) hx hb dJ7_fill_53178_1 rfl hl (by decide) rfl (fun ls hl => ?_)
  refine lv_aload_n hx hb dJ7_fill_53178_2 rfl (lv_at hl 1 rfl) ?_
  refine va_alen (v := 8) hx hb hE.2 hP 26 0 rfl rfl rfl dJ7_fill_53178_3 ?_
  refine lv_istore_n (lv' := [(3, .int 8), (2, .int 0), (0, .ref (ad 26)), (1, .int 0)]) hx hb dJ7_fill_53178_4 rfl hl (by decide) rfl (fun ls hl => ?_)
  have hloop_5 : ∀ (n i : Nat), i ≤ 8 → 8 < i + n → ∀ (H : Heap) (locs : List Loc), va_P D vwCl (wC ad cI (fillS S 26 i)) H → va_S A s.heap H locs → ∀ ls : Array Slot, lv_has ls 4 [(3, .int 8), (2, .int (nI i)), (0, .ref (ad 26)), (1, .int 0)] → W p l e (rm 0 0 0) s m args below meth c H locs 0 0 (MQ below (Qwr D A (wC ad cI (fillS S 26 8)) none) args s 0 0 A) (F0 m 5 ls []) := by
    intro n
    induction n with
    | zero => intro i h1 h2; exact absurd h2 (by omega)
    | succ n ih_5 =>
      intro i hi_5 hin_5  H locs hP hS ls hl
      refine lv_iload_n hx hb dJ7_fill_53178_5 rfl (lv_at hl 1 rfl) ?_
      refine lv_iload_n hx hb dJ7_fill_53178_6 rfl (lv_at hl 0 rfl) ?_
      refine lv_icmp_ge (tgt := 20) hx hb dJ7_fill_53178_7 (by decide) (fun c_1 => ?_) (fun c_1 => ?_)
      · skip
        have c_1 : 8 ≤ i := n_le (a := 8) (b := i) (by omega) (by omega) c_1
        have hend_5 : 8 = i := by omega
        subst hend_5
        exact e_wretv hx hb hr hlk hP hS dJ7_fill_53178_20
      · skip
        have c_1 : i < 8 := n_nle (a := 8) (b := i) (by omega) (by omega) c_1
        refine lv_aload_n hx hb dJ7_fill_53178_10 rfl (lv_at hl 2 rfl) ?_
        refine lv_iload_n hx hb dJ7_fill_53178_11 rfl (lv_at hl 1 rfl) ?_
        refine lv_iload_n hx hb dJ7_fill_53178_12 rfl (lv_at hl 3 rfl) ?_
        refine q_iast (f := (fillS S 26 i) 26) (i := i) (x := 0) (ws' := (wC ad cI (st (fillS S 26 i) 26 i 0))) hx hb hE hP (wC_D hD) hS 26 rfl (by omega) (Nat.le_of_ble_eq_true rfl) (wC_st_26) dJ7_fill_53178_13 (fun H locs hP hS => ?_)
        refine lv_iinc (v := nI (i + 1)) (lv' := [(2, .int (nI (i + 1))), (3, .int 8), (0, .ref (ad 26)), (1, .int 0)]) hx hb dJ7_fill_53178_14 hl (k := 1) rfl (nI_1 i) (by decide) rfl (fun ls hl => ?_)
        refine lv_goto (tgt := 5) hx hb dJ7_fill_53178_17 (by decide) ?_
        refine ih_5 (i + 1) (by omega) (by omega)  H locs (by rw [show fillS S 26 (i + 1) = st (fillS S 26 i) 26 i 0 from by exact fill_step]; exact hP) hS ls ?_
        exact lv_sub hl [1, 0, 2, 3] rfl
  refine hloop_5 (8 + 1) 0 (by omega) (by omega)  s.heap [] (by rw [fill_zero]; exact hP) hS ls ?_
  exact lv_sub hl [0, 1, 2, 3] rfl


set_option maxHeartbeats 4000000 in
set_option maxRecDepth 100000 in
theorem c_J7_fill_53178_27 (l : Launch) (D : va_G) (cI cZ cL : ClassId) (ad : Nat → Nat) (S : Mem) (A : Nat → Prop) (hD : va_D A (wC ad cI S)) : WR l D cI cZ cL yJ7_fill_53178 cJ7_fill_53178 4 none 0 [.ref (ad 27), .int 0] A (wC ad cI S) (wC ad cI (fillS S 27 8)) none := by
  refine WR.of (by decide) (Nat.le_of_ble_eq_true rfl) ?_
  intro p e s m args below meth c ls hx hb hr hml hown hlk hE hP hS hl
  have hl : lv_has ls 4 [(0, .ref (ad 27)), (1, .int 0)] := hl
  refine lv_iconst (v := 0) hx hb dJ7_fill_53178_0 (by decide) ?_
  refine lv_istore_n (lv' := [(2, .int 0), (0, .ref (ad 27)), (1, .int 0)]) hx hb dJ7_fill_53178_1 rfl hl (by decide) rfl (fun ls hl => ?_)
  refine lv_aload_n hx hb dJ7_fill_53178_2 rfl (lv_at hl 1 rfl) ?_
  refine va_alen (v := 8) hx hb hE.2 hP 27 0 rfl rfl rfl dJ7_fill_53178_3 ?_
  refine lv_istore_n (lv' := [(3, .int 8), (2, .int 0), (0, .ref (ad 27)), (1, .int 0)]) hx hb dJ7_fill_53178_4 rfl hl (by decide) rfl (fun ls hl => ?_)
  have hloop_5 : ∀ (n i : Nat), i ≤ 8 → 8 < i + n → ∀ (H : Heap) (locs : List Loc), va_P D vwCl (wC ad cI (fillS S 27 i)) H → va_S A s.heap H locs → ∀ ls : Array Slot, lv_has ls 4 [(3, .int 8), (2, .int (nI i)), (0, .ref (ad 27)), (1, .int 0)] → W p l e (rm 0 0 0) s m args below meth c H locs 0 0 (MQ below (Qwr D A (wC ad cI (fillS S 27 8)) none) args s 0 0 A) (F0 m 5 ls []) := by
    intro n
    induction n with
    | zero => intro i h1 h2; exact absurd h2 (by omega)
    | succ n ih_5 =>
      intro i hi_5 hin_5  H locs hP hS ls hl
      refine lv_iload_n hx hb dJ7_fill_53178_5 rfl (lv_at hl 1 rfl) ?_
      refine lv_iload_n hx hb dJ7_fill_53178_6 rfl (lv_at hl 0 rfl) ?_
      refine lv_icmp_ge (tgt := 20) hx hb dJ7_fill_53178_7 (by decide) (fun c_1 => ?_) (fun c_1 => ?_)
      · skip
        have c_1 : 8 ≤ i := n_le (a := 8) (b := i) (by omega) (by omega) c_1
        have hend_5 : 8 = i := by omega
        subst hend_5
        exact e_wretv hx hb hr hlk hP hS dJ7_fill_53178_20
      · skip
        have c_1 : i < 8 := n_nle (a := 8) (b := i) (by omega) (by omega) c_1
        refine lv_aload_n hx hb dJ7_fill_53178_10 rfl (lv_at hl 2 rfl) ?_
        refine lv_iload_n hx hb dJ7_fill_53178_11 rfl (lv_at hl 1 rfl) ?_
        refine lv_iload_n hx hb dJ7_fill_53178_12 rfl (lv_at hl 3 rfl) ?_
        refine q_iast (f := (fillS S 27 i) 27) (i := i) (x := 0) (ws' := (wC ad cI (st (fillS S 27 i) 27 i 0))) hx hb hE hP (wC_D hD) hS 27 rfl (by omega) (Nat.le_of_ble_eq_true rfl) (wC_st_27) dJ7_fill_53178_13 (fun H locs hP hS => ?_)
        refine lv_iinc (v := nI (i + 1)) (lv' := [(2, .int (nI (i + 1))), (3, .int 8), (0, .ref (ad 27)), (1, .int 0)]) hx hb dJ7_fill_53178_14 hl (k := 1) rfl (nI_1 i) (by decide) rfl (fun ls hl => ?_)
        refine lv_goto (tgt := 5) hx hb dJ7_fill_53178_17 (by decide) ?_
        refine ih_5 (i + 1) (by omega) (by omega)  H locs (by rw [show fillS S 27 (i + 1) = st (fillS S 27 i) 27 i 0 from by exact fill_step]; exact hP) hS ls ?_
        exact lv_sub hl [1, 0, 2, 3] rfl
  refine hloop_5 (8 + 1) 0 (by omega) (by omega)  s.heap [] (by rw [fill_zero]; exact hP) hS ls ?_
  exact lv_sub hl [0, 1, 2, 3] rfl


set_option maxHeartbeats 4000000 in
set_option maxRecDepth 100000 in
theorem c_J7_fill_53178_28 (l : Launch) (D : va_G) (cI cZ cL : ClassId) (ad : Nat → Nat) (S : Mem) (A : Nat → Prop) (hD : va_D A (wC ad cI S)) : WR l D cI cZ cL yJ7_fill_53178 cJ7_fill_53178 4 none 0 [.ref (ad 28), .int 0] A (wC ad cI S) (wC ad cI (fillS S 28 128)) none := by
  refine WR.of (by decide) (Nat.le_of_ble_eq_true rfl) ?_
  intro p e s m args below meth c ls hx hb hr hml hown hlk hE hP hS hl
  have hl : lv_has ls 4 [(0, .ref (ad 28)), (1, .int 0)] := hl
  refine lv_iconst (v := 0) hx hb dJ7_fill_53178_0 (by decide) ?_
  refine lv_istore_n (lv' := [(2, .int 0), (0, .ref (ad 28)), (1, .int 0)]) hx hb dJ7_fill_53178_1 rfl hl (by decide) rfl (fun ls hl => ?_)
  refine lv_aload_n hx hb dJ7_fill_53178_2 rfl (lv_at hl 1 rfl) ?_
  refine va_alen (v := 128) hx hb hE.2 hP 28 0 rfl rfl rfl dJ7_fill_53178_3 ?_
  refine lv_istore_n (lv' := [(3, .int 128), (2, .int 0), (0, .ref (ad 28)), (1, .int 0)]) hx hb dJ7_fill_53178_4 rfl hl (by decide) rfl (fun ls hl => ?_)
  have hloop_5 : ∀ (n i : Nat), i ≤ 128 → 128 < i + n → ∀ (H : Heap) (locs : List Loc), va_P D vwCl (wC ad cI (fillS S 28 i)) H → va_S A s.heap H locs → ∀ ls : Array Slot, lv_has ls 4 [(3, .int 128), (2, .int (nI i)), (0, .ref (ad 28)), (1, .int 0)] → W p l e (rm 0 0 0) s m args below meth c H locs 0 0 (MQ below (Qwr D A (wC ad cI (fillS S 28 128)) none) args s 0 0 A) (F0 m 5 ls []) := by
    intro n
    induction n with
    | zero => intro i h1 h2; exact absurd h2 (by omega)
    | succ n ih_5 =>
      intro i hi_5 hin_5  H locs hP hS ls hl
      refine lv_iload_n hx hb dJ7_fill_53178_5 rfl (lv_at hl 1 rfl) ?_
      refine lv_iload_n hx hb dJ7_fill_53178_6 rfl (lv_at hl 0 rfl) ?_
      refine lv_icmp_ge (tgt := 20) hx hb dJ7_fill_53178_7 (by decide) (fun c_1 => ?_) (fun c_1 => ?_)
      · skip
        have c_1 : 128 ≤ i := n_le (a := 128) (b := i) (by omega) (by omega) c_1
        have hend_5 : 128 = i := by omega
        subst hend_5
        exact e_wretv hx hb hr hlk hP hS dJ7_fill_53178_20
      · skip
        have c_1 : i < 128 := n_nle (a := 128) (b := i) (by omega) (by omega) c_1
        refine lv_aload_n hx hb dJ7_fill_53178_10 rfl (lv_at hl 2 rfl) ?_
        refine lv_iload_n hx hb dJ7_fill_53178_11 rfl (lv_at hl 1 rfl) ?_
        refine lv_iload_n hx hb dJ7_fill_53178_12 rfl (lv_at hl 3 rfl) ?_
        refine q_iast (f := (fillS S 28 i) 28) (i := i) (x := 0) (ws' := (wC ad cI (st (fillS S 28 i) 28 i 0))) hx hb hE hP (wC_D hD) hS 28 rfl (by omega) (Nat.le_of_ble_eq_true rfl) (wC_st_28) dJ7_fill_53178_13 (fun H locs hP hS => ?_)
        refine lv_iinc (v := nI (i + 1)) (lv' := [(2, .int (nI (i + 1))), (3, .int 128), (0, .ref (ad 28)), (1, .int 0)]) hx hb dJ7_fill_53178_14 hl (k := 1) rfl (nI_1 i) (by decide) rfl (fun ls hl => ?_)
        refine lv_goto (tgt := 5) hx hb dJ7_fill_53178_17 (by decide) ?_
        refine ih_5 (i + 1) (by omega) (by omega)  H locs (by rw [show fillS S 28 (i + 1) = st (fillS S 28 i) 28 i 0 from by exact fill_step]; exact hP) hS ls ?_
        exact lv_sub hl [1, 0, 2, 3] rfl
  refine hloop_5 (128 + 1) 0 (by omega) (by omega)  s.heap [] (by rw [fill_zero]; exact hP) hS ls ?_
  exact lv_sub hl [0, 1, 2, 3] rfl


set_option maxHeartbeats 4000000 in
set_option maxRecDepth 100000 in
theorem c_J7_fill_53178_29 (l : Launch) (D : va_G) (cI cZ cL : ClassId) (ad : Nat → Nat) (S : Mem) (A : Nat → Prop) (hD : va_D A (wC ad cI S)) : WR l D cI cZ cL yJ7_fill_53178 cJ7_fill_53178 4 none 0 [.ref (ad 29), .int 0] A (wC ad cI S) (wC ad cI (fillS S 29 128)) none := by
  refine WR.of (by decide) (Nat.le_of_ble_eq_true rfl) ?_
  intro p e s m args below meth c ls hx hb hr hml hown hlk hE hP hS hl
  have hl : lv_has ls 4 [(0, .ref (ad 29)), (1, .int 0)] := hl
  refine lv_iconst (v := 0) hx hb dJ7_fill_53178_0 (by decide) ?_
  refine lv_istore_n (lv' := [(2, .int 0), (0, .ref (ad 29)), (1, .int 0)]) hx hb dJ7_fill_53178_1 rfl hl (by decide) rfl (fun ls hl => ?_)
  refine lv_aload_n hx hb dJ7_fill_53178_2 rfl (lv_at hl 1 rfl) ?_
  refine va_alen (v := 128) hx hb hE.2 hP 29 0 rfl rfl rfl dJ7_fill_53178_3 ?_
  refine lv_istore_n (lv' := [(3, .int 128), (2, .int 0), (0, .ref (ad 29)), (1, .int 0)]) hx hb dJ7_fill_53178_4 rfl hl (by decide) rfl (fun ls hl => ?_)
  have hloop_5 : ∀ (n i : Nat), i ≤ 128 → 128 < i + n → ∀ (H : Heap) (locs : List Loc), va_P D vwCl (wC ad cI (fillS S 29 i)) H → va_S A s.heap H locs → ∀ ls : Array Slot, lv_has ls 4 [(3, .int 128), (2, .int (nI i)), (0, .ref (ad 29)), (1, .int 0)] → W p l e (rm 0 0 0) s m args below meth c H locs 0 0 (MQ below (Qwr D A (wC ad cI (fillS S 29 128)) none) args s 0 0 A) (F0 m 5 ls []) := by
    intro n
    induction n with
    | zero => intro i h1 h2; exact absurd h2 (by omega)
    | succ n ih_5 =>
      intro i hi_5 hin_5  H locs hP hS ls hl
      refine lv_iload_n hx hb dJ7_fill_53178_5 rfl (lv_at hl 1 rfl) ?_
      refine lv_iload_n hx hb dJ7_fill_53178_6 rfl (lv_at hl 0 rfl) ?_
      refine lv_icmp_ge (tgt := 20) hx hb dJ7_fill_53178_7 (by decide) (fun c_1 => ?_) (fun c_1 => ?_)
      · skip
        have c_1 : 128 ≤ i := n_le (a := 128) (b := i) (by omega) (by omega) c_1
        have hend_5 : 128 = i := by omega
        subst hend_5
        exact e_wretv hx hb hr hlk hP hS dJ7_fill_53178_20
      · skip
        have c_1 : i < 128 := n_nle (a := 128) (b := i) (by omega) (by omega) c_1
        refine lv_aload_n hx hb dJ7_fill_53178_10 rfl (lv_at hl 2 rfl) ?_
        refine lv_iload_n hx hb dJ7_fill_53178_11 rfl (lv_at hl 1 rfl) ?_
        refine lv_iload_n hx hb dJ7_fill_53178_12 rfl (lv_at hl 3 rfl) ?_
        refine q_iast (f := (fillS S 29 i) 29) (i := i) (x := 0) (ws' := (wC ad cI (st (fillS S 29 i) 29 i 0))) hx hb hE hP (wC_D hD) hS 29 rfl (by omega) (Nat.le_of_ble_eq_true rfl) (wC_st_29) dJ7_fill_53178_13 (fun H locs hP hS => ?_)
        refine lv_iinc (v := nI (i + 1)) (lv' := [(2, .int (nI (i + 1))), (3, .int 128), (0, .ref (ad 29)), (1, .int 0)]) hx hb dJ7_fill_53178_14 hl (k := 1) rfl (nI_1 i) (by decide) rfl (fun ls hl => ?_)
        refine lv_goto (tgt := 5) hx hb dJ7_fill_53178_17 (by decide) ?_
        refine ih_5 (i + 1) (by omega) (by omega)  H locs (by rw [show fillS S 29 (i + 1) = st (fillS S 29 i) 29 i 0 from by exact fill_step]; exact hP) hS ls ?_
        exact lv_sub hl [1, 0, 2, 3] rfl
  refine hloop_5 (128 + 1) 0 (by omega) (by omega)  s.heap [] (by rw [fill_zero]; exact hP) hS ls ?_
  exact lv_sub hl [0, 1, 2, 3] rfl


set_option maxHeartbeats 4000000 in
set_option maxRecDepth 100000 in
theorem c_J7_fill_53178_30 (l : Launch) (D : va_G) (cI cZ cL : ClassId) (ad : Nat → Nat) (S : Mem) (A : Nat → Prop) (hD : va_D A (wC ad cI S)) : WR l D cI cZ cL yJ7_fill_53178 cJ7_fill_53178 4 none 0 [.ref (ad 30), .int 0] A (wC ad cI S) (wC ad cI (fillS S 30 64)) none := by
  refine WR.of (by decide) (Nat.le_of_ble_eq_true rfl) ?_
  intro p e s m args below meth c ls hx hb hr hml hown hlk hE hP hS hl
  have hl : lv_has ls 4 [(0, .ref (ad 30)), (1, .int 0)] := hl
  refine lv_iconst (v := 0) hx hb dJ7_fill_53178_0 (by decide) ?_
  refine lv_istore_n (lv' := [(2, .int 0), (0, .ref (ad 30)), (1, .int 0)]) hx hb dJ7_fill_53178_1 rfl hl (by decide) rfl (fun ls hl => ?_)
  refine lv_aload_n hx hb dJ7_fill_53178_2 rfl (lv_at hl 1 rfl) ?_
  refine va_alen (v := 64) hx hb hE.2 hP 30 0 rfl rfl rfl dJ7_fill_53178_3 ?_
  refine lv_istore_n (lv' := [(3, .int 64), (2, .int 0), (0, .ref (ad 30)), (1, .int 0)]) hx hb dJ7_fill_53178_4 rfl hl (by decide) rfl (fun ls hl => ?_)
  have hloop_5 : ∀ (n i : Nat), i ≤ 64 → 64 < i + n → ∀ (H : Heap) (locs : List Loc), va_P D vwCl (wC ad cI (fillS S 30 i)) H → va_S A s.heap H locs → ∀ ls : Array Slot, lv_has ls 4 [(3, .int 64), (2, .int (nI i)), (0, .ref (ad 30)), (1, .int 0)] → W p l e (rm 0 0 0) s m args below meth c H locs 0 0 (MQ below (Qwr D A (wC ad cI (fillS S 30 64)) none) args s 0 0 A) (F0 m 5 ls []) := by
    intro n
    induction n with
    | zero => intro i h1 h2; exact absurd h2 (by omega)
    | succ n ih_5 =>
      intro i hi_5 hin_5  H locs hP hS ls hl
      refine lv_iload_n hx hb dJ7_fill_53178_5 rfl (lv_at hl 1 rfl) ?_
      refine lv_iload_n hx hb dJ7_fill_53178_6 rfl (lv_at hl 0 rfl) ?_
      refine lv_icmp_ge (tgt := 20) hx hb dJ7_fill_53178_7 (by decide) (fun c_1 => ?_) (fun c_1 => ?_)
      · skip
        have c_1 : 64 ≤ i := n_le (a := 64) (b := i) (by omega) (by omega) c_1
        have hend_5 : 64 = i := by omega
        subst hend_5
        exact e_wretv hx hb hr hlk hP hS dJ7_fill_53178_20
      · skip
        have c_1 : i < 64 := n_nle (a := 64) (b := i) (by omega) (by omega) c_1
        refine lv_aload_n hx hb dJ7_fill_53178_10 rfl (lv_at hl 2 rfl) ?_
        refine lv_iload_n hx hb dJ7_fill_53178_11 rfl (lv_at hl 1 rfl) ?_
        refine lv_iload_n hx hb dJ7_fill_53178_12 rfl (lv_at hl 3 rfl) ?_
        refine q_iast (f := (fillS S 30 i) 30) (i := i) (x := 0) (ws' := (wC ad cI (st (fillS S 30 i) 30 i 0))) hx hb hE hP (wC_D hD) hS 30 rfl (by omega) (Nat.le_of_ble_eq_true rfl) (wC_st_30) dJ7_fill_53178_13 (fun H locs hP hS => ?_)
        refine lv_iinc (v := nI (i + 1)) (lv' := [(2, .int (nI (i + 1))), (3, .int 64), (0, .ref (ad 30)), (1, .int 0)]) hx hb dJ7_fill_53178_14 hl (k := 1) rfl (nI_1 i) (by decide) rfl (fun ls hl => ?_)
        refine lv_goto (tgt := 5) hx hb dJ7_fill_53178_17 (by decide) ?_
        refine ih_5 (i + 1) (by omega) (by omega)  H locs (by rw [show fillS S 30 (i + 1) = st (fillS S 30 i) 30 i 0 from by exact fill_step]; exact hP) hS ls ?_
        exact lv_sub hl [1, 0, 2, 3] rfl
  refine hloop_5 (64 + 1) 0 (by omega) (by omega)  s.heap [] (by rw [fill_zero]; exact hP) hS ls ?_
  exact lv_sub hl [0, 1, 2, 3] rfl


set_option maxHeartbeats 4000000 in
set_option maxRecDepth 100000 in
theorem c_J7_fill_53178_31 (l : Launch) (D : va_G) (cI cZ cL : ClassId) (ad : Nat → Nat) (S : Mem) (A : Nat → Prop) (hD : va_D A (wC ad cI S)) : WR l D cI cZ cL yJ7_fill_53178 cJ7_fill_53178 4 none 0 [.ref (ad 31), .int 0] A (wC ad cI S) (wC ad cI (fillS S 31 64)) none := by
  refine WR.of (by decide) (Nat.le_of_ble_eq_true rfl) ?_
  intro p e s m args below meth c ls hx hb hr hml hown hlk hE hP hS hl
  have hl : lv_has ls 4 [(0, .ref (ad 31)), (1, .int 0)] := hl
  refine lv_iconst (v := 0) hx hb dJ7_fill_53178_0 (by decide) ?_
  refine lv_istore_n (lv' := [(2, .int 0), (0, .ref (ad 31)), (1, .int 0)]) hx hb dJ7_fill_53178_1 rfl hl (by decide) rfl (fun ls hl => ?_)
  refine lv_aload_n hx hb dJ7_fill_53178_2 rfl (lv_at hl 1 rfl) ?_
  refine va_alen (v := 64) hx hb hE.2 hP 31 0 rfl rfl rfl dJ7_fill_53178_3 ?_
  refine lv_istore_n (lv' := [(3, .int 64), (2, .int 0), (0, .ref (ad 31)), (1, .int 0)]) hx hb dJ7_fill_53178_4 rfl hl (by decide) rfl (fun ls hl => ?_)
  have hloop_5 : ∀ (n i : Nat), i ≤ 64 → 64 < i + n → ∀ (H : Heap) (locs : List Loc), va_P D vwCl (wC ad cI (fillS S 31 i)) H → va_S A s.heap H locs → ∀ ls : Array Slot, lv_has ls 4 [(3, .int 64), (2, .int (nI i)), (0, .ref (ad 31)), (1, .int 0)] → W p l e (rm 0 0 0) s m args below meth c H locs 0 0 (MQ below (Qwr D A (wC ad cI (fillS S 31 64)) none) args s 0 0 A) (F0 m 5 ls []) := by
    intro n
    induction n with
    | zero => intro i h1 h2; exact absurd h2 (by omega)
    | succ n ih_5 =>
      intro i hi_5 hin_5  H locs hP hS ls hl
      refine lv_iload_n hx hb dJ7_fill_53178_5 rfl (lv_at hl 1 rfl) ?_
      refine lv_iload_n hx hb dJ7_fill_53178_6 rfl (lv_at hl 0 rfl) ?_
      refine lv_icmp_ge (tgt := 20) hx hb dJ7_fill_53178_7 (by decide) (fun c_1 => ?_) (fun c_1 => ?_)
      · skip
        have c_1 : 64 ≤ i := n_le (a := 64) (b := i) (by omega) (by omega) c_1
        have hend_5 : 64 = i := by omega
        subst hend_5
        exact e_wretv hx hb hr hlk hP hS dJ7_fill_53178_20
      · skip
        have c_1 : i < 64 := n_nle (a := 64) (b := i) (by omega) (by omega) c_1
        refine lv_aload_n hx hb dJ7_fill_53178_10 rfl (lv_at hl 2 rfl) ?_
        refine lv_iload_n hx hb dJ7_fill_53178_11 rfl (lv_at hl 1 rfl) ?_
        refine lv_iload_n hx hb dJ7_fill_53178_12 rfl (lv_at hl 3 rfl) ?_
        refine q_iast (f := (fillS S 31 i) 31) (i := i) (x := 0) (ws' := (wC ad cI (st (fillS S 31 i) 31 i 0))) hx hb hE hP (wC_D hD) hS 31 rfl (by omega) (Nat.le_of_ble_eq_true rfl) (wC_st_31) dJ7_fill_53178_13 (fun H locs hP hS => ?_)
        refine lv_iinc (v := nI (i + 1)) (lv' := [(2, .int (nI (i + 1))), (3, .int 64), (0, .ref (ad 31)), (1, .int 0)]) hx hb dJ7_fill_53178_14 hl (k := 1) rfl (nI_1 i) (by decide) rfl (fun ls hl => ?_)
        refine lv_goto (tgt := 5) hx hb dJ7_fill_53178_17 (by decide) ?_
        refine ih_5 (i + 1) (by omega) (by omega)  H locs (by rw [show fillS S 31 (i + 1) = st (fillS S 31 i) 31 i 0 from by exact fill_step]; exact hP) hS ls ?_
        exact lv_sub hl [1, 0, 2, 3] rfl
  refine hloop_5 (64 + 1) 0 (by omega) (by omega)  s.heap [] (by rw [fill_zero]; exact hP) hS ls ?_
  exact lv_sub hl [0, 1, 2, 3] rfl

theorem dX2_wipe_0 : decode cX2_wipe 0 = .ok (.aload_n 0, 1) := by decide +kernel
theorem dX2_wipe_1 : decode cX2_wipe 1 = .ok (.getfield 9, 3) := by decide +kernel
theorem dX2_wipe_4 : decode cX2_wipe 4 = .ok (.iconst 0, 1) := by decide +kernel
theorem dX2_wipe_5 : decode cX2_wipe 5 = .ok (.invokestatic 30, 3) := by decide +kernel
theorem dX2_wipe_8 : decode cX2_wipe 8 = .ok (.aload_n 0, 1) := by decide +kernel
theorem dX2_wipe_9 : decode cX2_wipe 9 = .ok (.getfield 15, 3) := by decide +kernel
theorem dX2_wipe_12 : decode cX2_wipe 12 = .ok (.iconst 0, 1) := by decide +kernel
theorem dX2_wipe_13 : decode cX2_wipe 13 = .ok (.invokestatic 30, 3) := by decide +kernel
theorem dX2_wipe_16 : decode cX2_wipe 16 = .ok (.aload_n 0, 1) := by decide +kernel
theorem dX2_wipe_17 : decode cX2_wipe 17 = .ok (.getfield 18, 3) := by decide +kernel
theorem dX2_wipe_20 : decode cX2_wipe 20 = .ok (.iconst 0, 1) := by decide +kernel
theorem dX2_wipe_21 : decode cX2_wipe 21 = .ok (.invokestatic 30, 3) := by decide +kernel
theorem dX2_wipe_24 : decode cX2_wipe 24 = .ok (.aload_n 0, 1) := by decide +kernel
theorem dX2_wipe_25 : decode cX2_wipe 25 = .ok (.getfield 21, 3) := by decide +kernel
theorem dX2_wipe_28 : decode cX2_wipe 28 = .ok (.iconst 0, 1) := by decide +kernel
theorem dX2_wipe_29 : decode cX2_wipe 29 = .ok (.invokestatic 30, 3) := by decide +kernel
theorem dX2_wipe_32 : decode cX2_wipe 32 = .ok (.aload_n 0, 1) := by decide +kernel
theorem dX2_wipe_33 : decode cX2_wipe 33 = .ok (.getfield 24, 3) := by decide +kernel
theorem dX2_wipe_36 : decode cX2_wipe 36 = .ok (.iconst 0, 1) := by decide +kernel
theorem dX2_wipe_37 : decode cX2_wipe 37 = .ok (.invokestatic 30, 3) := by decide +kernel
theorem dX2_wipe_40 : decode cX2_wipe 40 = .ok (.aload_n 0, 1) := by decide +kernel
theorem dX2_wipe_41 : decode cX2_wipe 41 = .ok (.getfield 27, 3) := by decide +kernel
theorem dX2_wipe_44 : decode cX2_wipe 44 = .ok (.iconst 0, 1) := by decide +kernel
theorem dX2_wipe_45 : decode cX2_wipe 45 = .ok (.invokestatic 30, 3) := by decide +kernel
theorem dX2_wipe_48 : decode cX2_wipe 48 = .ok (.return_, 1) := by decide +kernel
set_option maxHeartbeats 4000000 in
set_option maxRecDepth 100000 in
theorem c_X2_wipe (l : Launch) (D : va_G) (cI cZ cL : ClassId) (ad : Nat → Nat) (S : Mem) (A : Nat → Prop) (hD : va_D A (wC ad cI S)) : WR l D cI cZ cL yX2_wipe cX2_wipe 1 none 1 [.ref (ad 25)] A (wC ad cI S) (wC ad cI (p_wipe S)) none := by
  refine WR.of (by decide) (Nat.le_of_ble_eq_true rfl) ?_
  intro p e s m args below meth c ls hx hb hr hml hown hlk hE hP hS hl
  have hl : lv_has ls 1 [(0, .ref (ad 25))] := hl
  refine lv_aload_n hx hb dX2_wipe_0 rfl (lv_at hl 0 rfl) ?_
  refine q_get (v := .ref (ad 26)) hx hb hown hE inT_X2 hP 25 rfl rfl 0 (by decide) w_187 rfl dX2_wipe_1 ?_
  refine lv_iconst (v := 0) hx hb dX2_wipe_4 (by decide) ?_
  refine q_w0v (q_runS (rest := []) hx hb hml hown hE (c_J7_fill_53178_26 l D cI cZ cL ad S A (wC_D hD)) ck_J7_fill_53178 w_693 hP hl.1 rfl ⟨Nat.le_of_ble_eq_true rfl, Nat.le_of_ble_eq_true rfl⟩ (Nat.le_of_ble_eq_true rfl) dX2_wipe_5 ⟨Nat.le_of_ble_eq_true rfl, Nat.le_of_ble_eq_true rfl⟩) hS (fun H locs hP hS => ?_)
  refine lv_aload_n hx hb dX2_wipe_8 rfl (lv_at hl 0 rfl) ?_
  refine q_get (v := .ref (ad 27)) hx hb hown hE inT_X2 hP 25 rfl rfl 1 (by decide) w_189 rfl dX2_wipe_9 ?_
  refine lv_iconst (v := 0) hx hb dX2_wipe_12 (by decide) ?_
  refine q_w0v (q_runS (rest := []) hx hb hml hown hE (c_J7_fill_53178_27 l D cI cZ cL ad (fillS S 26 8) A (wC_D hD)) ck_J7_fill_53178 w_693 hP hl.1 rfl ⟨Nat.le_of_ble_eq_true rfl, Nat.le_of_ble_eq_true rfl⟩ (Nat.le_of_ble_eq_true rfl) dX2_wipe_13 ⟨Nat.le_of_ble_eq_true rfl, Nat.le_of_ble_eq_true rfl⟩) hS (fun H locs hP hS => ?_)
  refine lv_aload_n hx hb dX2_wipe_16 rfl (lv_at hl 0 rfl) ?_
  refine q_get (v := .ref (ad 28)) hx hb hown hE inT_X2 hP 25 rfl rfl 2 (by decide) w_191 rfl dX2_wipe_17 ?_
  refine lv_iconst (v := 0) hx hb dX2_wipe_20 (by decide) ?_
  refine q_w0v (q_runS (rest := []) hx hb hml hown hE (c_J7_fill_53178_28 l D cI cZ cL ad (fillS (fillS S 26 8) 27 8) A (wC_D hD)) ck_J7_fill_53178 w_693 hP hl.1 rfl ⟨Nat.le_of_ble_eq_true rfl, Nat.le_of_ble_eq_true rfl⟩ (Nat.le_of_ble_eq_true rfl) dX2_wipe_21 ⟨Nat.le_of_ble_eq_true rfl, Nat.le_of_ble_eq_true rfl⟩) hS (fun H locs hP hS => ?_)
  refine lv_aload_n hx hb dX2_wipe_24 rfl (lv_at hl 0 rfl) ?_
  refine q_get (v := .ref (ad 29)) hx hb hown hE inT_X2 hP 25 rfl rfl 3 (by decide) w_193 rfl dX2_wipe_25 ?_
  refine lv_iconst (v := 0) hx hb dX2_wipe_28 (by decide) ?_
  refine q_w0v (q_runS (rest := []) hx hb hml hown hE (c_J7_fill_53178_29 l D cI cZ cL ad (fillS (fillS (fillS S 26 8) 27 8) 28 128) A (wC_D hD)) ck_J7_fill_53178 w_693 hP hl.1 rfl ⟨Nat.le_of_ble_eq_true rfl, Nat.le_of_ble_eq_true rfl⟩ (Nat.le_of_ble_eq_true rfl) dX2_wipe_29 ⟨Nat.le_of_ble_eq_true rfl, Nat.le_of_ble_eq_true rfl⟩) hS (fun H locs hP hS => ?_)
  refine lv_aload_n hx hb dX2_wipe_32 rfl (lv_at hl 0 rfl) ?_
  refine q_get (v := .ref (ad 30)) hx hb hown hE inT_X2 hP 25 rfl rfl 4 (by decide) w_195 rfl dX2_wipe_33 ?_
  refine lv_iconst (v := 0) hx hb dX2_wipe_36 (by decide) ?_
  refine q_w0v (q_runS (rest := []) hx hb hml hown hE (c_J7_fill_53178_30 l D cI cZ cL ad (fillS (fillS (fillS (fillS S 26 8) 27 8) 28 128) 29 128) A (wC_D hD)) ck_J7_fill_53178 w_693 hP hl.1 rfl ⟨Nat.le_of_ble_eq_true rfl, Nat.le_of_ble_eq_true rfl⟩ (Nat.le_of_ble_eq_true rfl) dX2_wipe_37 ⟨Nat.le_of_ble_eq_true rfl, Nat.le_of_ble_eq_true rfl⟩) hS (fun H locs hP hS => ?_)
  refine lv_aload_n hx hb dX2_wipe_40 rfl (lv_at hl 0 rfl) ?_
  refine q_get (v := .ref (ad 31)) hx hb hown hE inT_X2 hP 25 rfl rfl 5 (by decide) w_197 rfl dX2_wipe_41 ?_
  refine lv_iconst (v := 0) hx hb dX2_wipe_44 (by decide) ?_
  refine q_w0v (q_runS (rest := []) hx hb hml hown hE (c_J7_fill_53178_31 l D cI cZ cL ad (fillS (fillS (fillS (fillS (fillS S 26 8) 27 8) 28 128) 29 128) 30 64) A (wC_D hD)) ck_J7_fill_53178 w_693 hP hl.1 rfl ⟨Nat.le_of_ble_eq_true rfl, Nat.le_of_ble_eq_true rfl⟩ (Nat.le_of_ble_eq_true rfl) dX2_wipe_45 ⟨Nat.le_of_ble_eq_true rfl, Nat.le_of_ble_eq_true rfl⟩) hS (fun H locs hP hS => ?_)
  exact e_wretv hx hb hr hlk (by rw [show p_wipe S = fillS (fillS (fillS (fillS (fillS (fillS S 26 8) 27 8) 28 128) 29 128) 30 64) 31 64 from by rfl]; exact hP) hS dX2_wipe_48

theorem dX5_replaySolutions_0 : decode cX5_replaySolutions 0 = .ok (.iconst 0, 1) := by decide +kernel
theorem dX5_replaySolutions_1 : decode cX5_replaySolutions 1 = .ok (.istore_n 1, 1) := by decide +kernel
theorem dX5_replaySolutions_2 : decode cX5_replaySolutions 2 = .ok (.iload_n 1, 1) := by decide +kernel
theorem dX5_replaySolutions_3 : decode cX5_replaySolutions 3 = .ok (.aload_n 0, 1) := by decide +kernel
theorem dX5_replaySolutions_4 : decode cX5_replaySolutions 4 = .ok (.getfield 19, 3) := by decide +kernel
theorem dX5_replaySolutions_7 : decode cX5_replaySolutions 7 = .ok (.getfield 132, 3) := by decide +kernel
theorem dX5_replaySolutions_10 : decode cX5_replaySolutions 10 = .ok (.if_icmp .ge 52, 3) := by decide +kernel
theorem dX5_replaySolutions_13 : decode cX5_replaySolutions 13 = .ok (.aload_n 0, 1) := by decide +kernel
theorem dX5_replaySolutions_14 : decode cX5_replaySolutions 14 = .ok (.iload_n 1, 1) := by decide +kernel
theorem dX5_replaySolutions_15 : decode cX5_replaySolutions 15 = .ok (.invokevirtual 299, 3) := by decide +kernel
theorem dX5_replaySolutions_18 : decode cX5_replaySolutions 18 = .ok (.ifCond .eq 38, 3) := by decide +kernel
theorem dX5_replaySolutions_21 : decode cX5_replaySolutions 21 = .ok (.aload_n 0, 1) := by decide +kernel
theorem dX5_replaySolutions_22 : decode cX5_replaySolutions 22 = .ok (.aload_n 0, 1) := by decide +kernel
theorem dX5_replaySolutions_23 : decode cX5_replaySolutions 23 = .ok (.getfield 44, 3) := by decide +kernel
theorem dX5_replaySolutions_26 : decode cX5_replaySolutions 26 = .ok (.aload_n 0, 1) := by decide +kernel
theorem dX5_replaySolutions_27 : decode cX5_replaySolutions 27 = .ok (.getfield 19, 3) := by decide +kernel
theorem dX5_replaySolutions_30 : decode cX5_replaySolutions 30 = .ok (.getfield 303, 3) := by decide +kernel
theorem dX5_replaySolutions_33 : decode cX5_replaySolutions 33 = .ok (.iload_n 1, 1) := by decide +kernel
theorem dX5_replaySolutions_34 : decode cX5_replaySolutions 34 = .ok (.iaload, 1) := by decide +kernel
theorem dX5_replaySolutions_35 : decode cX5_replaySolutions 35 = .ok (.aload_n 0, 1) := by decide +kernel
theorem dX5_replaySolutions_36 : decode cX5_replaySolutions 36 = .ok (.getfield 19, 3) := by decide +kernel
theorem dX5_replaySolutions_39 : decode cX5_replaySolutions 39 = .ok (.getfield 306, 3) := by decide +kernel
theorem dX5_replaySolutions_42 : decode cX5_replaySolutions 42 = .ok (.iload_n 1, 1) := by decide +kernel
theorem dX5_replaySolutions_43 : decode cX5_replaySolutions 43 = .ok (.iaload, 1) := by decide +kernel
theorem dX5_replaySolutions_44 : decode cX5_replaySolutions 44 = .ok (.aload_n 0, 1) := by decide +kernel
theorem dX5_replaySolutions_45 : decode cX5_replaySolutions 45 = .ok (.getfield 19, 3) := by decide +kernel
theorem dX5_replaySolutions_48 : decode cX5_replaySolutions 48 = .ok (.getfield 308, 3) := by decide +kernel
theorem dX5_replaySolutions_51 : decode cX5_replaySolutions 51 = .ok (.iload_n 1, 1) := by decide +kernel
theorem dX5_replaySolutions_52 : decode cX5_replaySolutions 52 = .ok (.iaload, 1) := by decide +kernel
theorem dX5_replaySolutions_53 : decode cX5_replaySolutions 53 = .ok (.invokevirtual 138, 3) := by decide +kernel
theorem dX5_replaySolutions_56 : decode cX5_replaySolutions 56 = .ok (.iinc 1 1, 3) := by decide +kernel
theorem dX5_replaySolutions_59 : decode cX5_replaySolutions 59 = .ok (.goto (-57), 3) := by decide +kernel
theorem dX5_replaySolutions_62 : decode cX5_replaySolutions 62 = .ok (.return_, 1) := by decide +kernel
set_option maxHeartbeats 4000000 in
set_option maxRecDepth 100000 in
theorem c_X5_replaySolutions (l : Launch) (D : va_G) (cI cZ cL : ClassId) (ad : Nat → Nat) (S : Mem) (A : Nat → Prop) (hD : va_D A (wC ad cI S)) (hI : I0 S) : WR l D cI cZ cL yX5_replaySolutions cX5_replaySolutions 2 none 4 [.ref (ad 0)] A (wC ad cI S) (wC ad cI (p_replay S (cN S))) none := by
  refine WR.of (by decide) (Nat.le_of_ble_eq_true rfl) ?_
  intro p e s m args below meth c ls hx hb hr hml hown hlk hE hP hS hl
  have hl : lv_has ls 2 [(0, .ref (ad 0))] := hl
  have hT8 := hI.T8
  have hR16 := hI.R16
  have hN200 := hI.N200
  refine lv_iconst (v := 0) hx hb dX5_replaySolutions_0 (by decide) ?_
  refine lv_istore_n (lv' := [(1, .int 0), (0, .ref (ad 0))]) hx hb dX5_replaySolutions_1 rfl hl (by decide) rfl (fun ls hl => ?_)
  have hloop_2 : ∀ (n i : Nat), i ≤ cN S → cN S < i + n → ∀ (H : Heap) (locs : List Loc), va_P D vwCl (wC ad cI (p_replay S i)) H → va_S A s.heap H locs → ∀ ls : Array Slot, lv_has ls 2 [(1, .int (nI i)), (0, .ref (ad 0))] → W p l e (rm 4 0 0) s m args below meth c H locs 0 0 (MQ below (Qwr D A (wC ad cI (p_replay S (cN S))) none) args s 0 0 A) (F0 m 2 ls []) := by
    intro n
    induction n with
    | zero => intro i h1 h2; exact absurd h2 (by omega)
    | succ n ih_2 =>
      intro i hi_2 hin_2  H locs hP hS ls hl
      have hI_2 : I0 (p_replay S i) := I0_congr (fun c hc => fr_replay (by omega) _) hI
      have hcN : cN (p_replay S i) = cN S := cN_congr (fr_replay (by omega) _)
      refine lv_iload_n hx hb dX5_replaySolutions_2 rfl (lv_at hl 0 rfl) ?_
      refine lv_aload_n hx hb dX5_replaySolutions_3 rfl (lv_at hl 1 rfl) ?_
      refine q_get (v := .ref (ad 7)) hx hb hown hE inT_X5 hP 0 rfl rfl 1 (by decide) w_213 rfl dX5_replaySolutions_4 ?_
      refine q_getN (v := .int ((p_replay S i) 7 4)) hx hb hown hE inT_X0 hP 7 rfl rfl 4 (by decide) w_136 rfl dX5_replaySolutions_7 ?_
      refine q_top (y := nI (cN (p_replay S i))) (I0.N hI_2) ?_
      refine q_top (y := nI (cN S)) (congrArg nI hcN) ?_
      refine lv_icmp_ge (tgt := 62) hx hb dX5_replaySolutions_10 (by decide) (fun c_1 => ?_) (fun c_1 => ?_)
      · skip
        have c_1 : (cN S) ≤ i := n_le (a := cN S) (b := i) (by omega) (by omega) c_1
        have hend_2 : cN S = i := by omega
        subst hend_2
        exact e_wretv hx hb hr hlk hP hS dX5_replaySolutions_62
      · skip
        have c_1 : i < (cN S) := n_nle (a := cN S) (b := i) (by omega) (by omega) c_1
        have h8 := hI_2.xT8 (k := i) (by omega)
        have h16 := hI_2.xR16 (k := i) (by omega)
        refine lv_aload_n hx hb dX5_replaySolutions_13 rfl (lv_at hl 1 rfl) ?_
        refine lv_iload_n hx hb dX5_replaySolutions_14 rfl (lv_at hl 0 rfl) ?_
        refine q_rd (q_runV (rest := []) hx hb hml hown hE (c_X5_isRight l D cI cZ cL ad (p_replay S i) i hI_2 (by omega)) ck_X5_isRight w_700 hP 0 rfl rfl hl.1 rfl ⟨Nat.le_of_ble_eq_true rfl, Nat.le_of_ble_eq_true rfl⟩ (Nat.le_of_ble_eq_true rfl) dX5_replaySolutions_15 ⟨Nat.le_of_ble_eq_true rfl, Nat.le_of_ble_eq_true rfl⟩) ?_
        refine lv_if_eq (tgt := 56) hx hb dX5_replaySolutions_18 (by decide) (fun c_2 => ?_) (fun c_2 => ?_)
        · skip
          have c_2 : p_right (p_replay S i) i = false := b_f c_2
          refine lv_iinc (v := nI (i + 1)) (lv' := [(1, .int (nI (i + 1))), (0, .ref (ad 0))]) hx hb dX5_replaySolutions_56 hl (k := 0) rfl (nI_1 i) (by decide) rfl (fun ls hl => ?_)
          refine lv_goto (tgt := 2) hx hb dX5_replaySolutions_59 (by decide) ?_
          refine ih_2 (i + 1) (by omega) (by omega)  H locs (by rw [show p_replay S (i + 1) = p_replay S i from by first | (simp only [bI, p_replay, c_1, c_2, ↓reduceIte]; done) | (simp [bI, p_replay, c_1, c_2]; done) | (simp_all [bI, p_replay]; done)]; exact hP) hS ls ?_
          exact lv_sub hl [0, 1] rfl
        · skip
          have c_2 : p_right (p_replay S i) i = true := b_t c_2
          refine lv_aload_n hx hb dX5_replaySolutions_21 rfl (lv_at hl 1 rfl) ?_
          refine lv_aload_n hx hb dX5_replaySolutions_22 rfl (lv_at hl 1 rfl) ?_
          refine q_get (v := .ref (ad 25)) hx hb hown hE inT_X5 hP 0 rfl rfl 5 (by decide) w_217 rfl dX5_replaySolutions_23 ?_
          refine lv_aload_n hx hb dX5_replaySolutions_26 rfl (lv_at hl 1 rfl) ?_
          refine q_get (v := .ref (ad 7)) hx hb hown hE inT_X5 hP 0 rfl rfl 1 (by decide) w_213 rfl dX5_replaySolutions_27 ?_
          refine q_getN (v := .ref (ad 8)) hx hb hown hE inT_X0 hP 7 rfl rfl 0 (by decide) w_128 rfl dX5_replaySolutions_30 ?_
          refine lv_iload_n hx hb dX5_replaySolutions_33 rfl (lv_at hl 0 rfl) ?_
          refine q_iald (f := (p_replay S i) 8) (i := i) hx hb hE hP 8 rfl (by omega) (Nat.le_of_ble_eq_true rfl) dX5_replaySolutions_34 ?_
          refine q_top (y := nI (aT (p_replay S i) i)) (hI_2.xT (by omega)) ?_
          refine lv_aload_n hx hb dX5_replaySolutions_35 rfl (lv_at hl 1 rfl) ?_
          refine q_get (v := .ref (ad 7)) hx hb hown hE inT_X5 hP 0 rfl rfl 1 (by decide) w_213 rfl dX5_replaySolutions_36 ?_
          refine q_getN (v := .ref (ad 9)) hx hb hown hE inT_X0 hP 7 rfl rfl 1 (by decide) w_130 rfl dX5_replaySolutions_39 ?_
          refine lv_iload_n hx hb dX5_replaySolutions_42 rfl (lv_at hl 0 rfl) ?_
          refine q_iald (f := (p_replay S i) 9) (i := i) hx hb hE hP 9 rfl (by omega) (Nat.le_of_ble_eq_true rfl) dX5_replaySolutions_43 ?_
          refine q_top (y := nI (aR (p_replay S i) i)) (hI_2.xR (by omega)) ?_
          refine lv_aload_n hx hb dX5_replaySolutions_44 rfl (lv_at hl 1 rfl) ?_
          refine q_get (v := .ref (ad 7)) hx hb hown hE inT_X5 hP 0 rfl rfl 1 (by decide) w_213 rfl dX5_replaySolutions_45 ?_
          refine q_getN (v := .ref (ad 11)) hx hb hown hE inT_X0 hP 7 rfl rfl 3 (by decide) w_134 rfl dX5_replaySolutions_48 ?_
          refine lv_iload_n hx hb dX5_replaySolutions_51 rfl (lv_at hl 0 rfl) ?_
          refine q_iald (f := (p_replay S i) 11) (i := i) hx hb hE hP 11 rfl (by omega) (Nat.le_of_ble_eq_true rfl) dX5_replaySolutions_52 ?_
          refine q_w0v (q_runV (rest := []) hx hb hml hown hE (c_X5_noteSolved_25 l D cI cZ cL ad (p_replay S i) A (wC_D hD) (aT (p_replay S i) i) (aR (p_replay S i) i) ((p_replay S i) 11 i) (by omega) (by omega)) ck_X5_noteSolved w_502 hP 0 rfl rfl hl.1 rfl ⟨Nat.le_of_ble_eq_true rfl, Nat.le_of_ble_eq_true rfl⟩ (Nat.le_of_ble_eq_true rfl) dX5_replaySolutions_53 ⟨Nat.le_of_ble_eq_true rfl, Nat.le_of_ble_eq_true rfl⟩) hS (fun H locs hP hS => ?_)
          have hI_c3 : I0 (p_noteS (p_replay S i) 25 (aT (p_replay S i) i) (aR (p_replay S i) i) ((p_replay S i) 11 i)) := I0_congr (fun c hc => fr_noteS (by omega)) hI_2
          refine lv_iinc (v := nI (i + 1)) (lv' := [(1, .int (nI (i + 1))), (0, .ref (ad 0))]) hx hb dX5_replaySolutions_56 hl (k := 0) rfl (nI_1 i) (by decide) rfl (fun ls hl => ?_)
          refine lv_goto (tgt := 2) hx hb dX5_replaySolutions_59 (by decide) ?_
          refine ih_2 (i + 1) (by omega) (by omega)  H locs (by rw [show p_replay S (i + 1) = p_noteS (p_replay S i) 25 (aT (p_replay S i) i) (aR (p_replay S i) i) ((p_replay S i) 11 i) from by first | (simp only [bI, p_replay, c_1, c_2, ↓reduceIte]; done) | (simp [bI, p_replay, c_1, c_2]; done) | (simp_all [bI, p_replay]; done)]; exact hP) hS ls ?_
          exact lv_sub hl [0, 1] rfl
  refine hloop_2 (cN S + 1) 0 (by omega) (by omega)  s.heap [] hP hS ls ?_
  exact lv_sub hl [0, 1] rfl

theorem dX5_compareWithOthers_0 : decode cX5_compareWithOthers 0 = .ok (.aload_n 0, 1) := by decide +kernel
theorem dX5_compareWithOthers_1 : decode cX5_compareWithOthers 1 = .ok (.getfield 19, 3) := by decide +kernel
theorem dX5_compareWithOthers_4 : decode cX5_compareWithOthers 4 = .ok (.getfield 303, 3) := by decide +kernel
theorem dX5_compareWithOthers_7 : decode cX5_compareWithOthers 7 = .ok (.iload_n 1, 1) := by decide +kernel
theorem dX5_compareWithOthers_8 : decode cX5_compareWithOthers 8 = .ok (.iaload, 1) := by decide +kernel
theorem dX5_compareWithOthers_9 : decode cX5_compareWithOthers 9 = .ok (.istore_n 2, 1) := by decide +kernel
theorem dX5_compareWithOthers_10 : decode cX5_compareWithOthers 10 = .ok (.iconst 0, 1) := by decide +kernel
theorem dX5_compareWithOthers_11 : decode cX5_compareWithOthers 11 = .ok (.istore_n 3, 1) := by decide +kernel
theorem dX5_compareWithOthers_12 : decode cX5_compareWithOthers 12 = .ok (.iload_n 3, 1) := by decide +kernel
theorem dX5_compareWithOthers_13 : decode cX5_compareWithOthers 13 = .ok (.aload_n 0, 1) := by decide +kernel
theorem dX5_compareWithOthers_14 : decode cX5_compareWithOthers 14 = .ok (.getfield 19, 3) := by decide +kernel
theorem dX5_compareWithOthers_17 : decode cX5_compareWithOthers 17 = .ok (.getfield 132, 3) := by decide +kernel
theorem dX5_compareWithOthers_20 : decode cX5_compareWithOthers 20 = .ok (.if_icmp .ge 71, 3) := by decide +kernel
theorem dX5_compareWithOthers_23 : decode cX5_compareWithOthers 23 = .ok (.aload_n 0, 1) := by decide +kernel
theorem dX5_compareWithOthers_24 : decode cX5_compareWithOthers 24 = .ok (.getfield 19, 3) := by decide +kernel
theorem dX5_compareWithOthers_27 : decode cX5_compareWithOthers 27 = .ok (.getfield 303, 3) := by decide +kernel
theorem dX5_compareWithOthers_30 : decode cX5_compareWithOthers 30 = .ok (.iload_n 3, 1) := by decide +kernel
theorem dX5_compareWithOthers_31 : decode cX5_compareWithOthers 31 = .ok (.iaload, 1) := by decide +kernel
theorem dX5_compareWithOthers_32 : decode cX5_compareWithOthers 32 = .ok (.iload_n 2, 1) := by decide +kernel
theorem dX5_compareWithOthers_33 : decode cX5_compareWithOthers 33 = .ok (.if_icmp .eq 52, 3) := by decide +kernel
theorem dX5_compareWithOthers_36 : decode cX5_compareWithOthers 36 = .ok (.aload_n 0, 1) := by decide +kernel
theorem dX5_compareWithOthers_37 : decode cX5_compareWithOthers 37 = .ok (.getfield 19, 3) := by decide +kernel
theorem dX5_compareWithOthers_40 : decode cX5_compareWithOthers 40 = .ok (.iload_n 1, 1) := by decide +kernel
theorem dX5_compareWithOthers_41 : decode cX5_compareWithOthers 41 = .ok (.iload_n 3, 1) := by decide +kernel
theorem dX5_compareWithOthers_42 : decode cX5_compareWithOthers 42 = .ok (.invokevirtual 317, 3) := by decide +kernel
theorem dX5_compareWithOthers_45 : decode cX5_compareWithOthers 45 = .ok (.ifCond .eq 40, 3) := by decide +kernel
theorem dX5_compareWithOthers_48 : decode cX5_compareWithOthers 48 = .ok (.aload_n 0, 1) := by decide +kernel
theorem dX5_compareWithOthers_49 : decode cX5_compareWithOthers 49 = .ok (.getfield 19, 3) := by decide +kernel
theorem dX5_compareWithOthers_52 : decode cX5_compareWithOthers 52 = .ok (.iload_n 3, 1) := by decide +kernel
theorem dX5_compareWithOthers_53 : decode cX5_compareWithOthers 53 = .ok (.invokevirtual 311, 3) := by decide +kernel
theorem dX5_compareWithOthers_56 : decode cX5_compareWithOthers 56 = .ok (.ifCond .ne 29, 3) := by decide +kernel
theorem dX5_compareWithOthers_59 : decode cX5_compareWithOthers 59 = .ok (.aload_n 0, 1) := by decide +kernel
theorem dX5_compareWithOthers_60 : decode cX5_compareWithOthers 60 = .ok (.getfield 44, 3) := by decide +kernel
theorem dX5_compareWithOthers_63 : decode cX5_compareWithOthers 63 = .ok (.iload_n 2, 1) := by decide +kernel
theorem dX5_compareWithOthers_64 : decode cX5_compareWithOthers 64 = .ok (.aload_n 0, 1) := by decide +kernel
theorem dX5_compareWithOthers_65 : decode cX5_compareWithOthers 65 = .ok (.getfield 19, 3) := by decide +kernel
theorem dX5_compareWithOthers_68 : decode cX5_compareWithOthers 68 = .ok (.getfield 303, 3) := by decide +kernel
theorem dX5_compareWithOthers_71 : decode cX5_compareWithOthers 71 = .ok (.iload_n 3, 1) := by decide +kernel
theorem dX5_compareWithOthers_72 : decode cX5_compareWithOthers 72 = .ok (.iaload, 1) := by decide +kernel
theorem dX5_compareWithOthers_73 : decode cX5_compareWithOthers 73 = .ok (.aload_n 0, 1) := by decide +kernel
theorem dX5_compareWithOthers_74 : decode cX5_compareWithOthers 74 = .ok (.getfield 19, 3) := by decide +kernel
theorem dX5_compareWithOthers_77 : decode cX5_compareWithOthers 77 = .ok (.getfield 306, 3) := by decide +kernel
theorem dX5_compareWithOthers_80 : decode cX5_compareWithOthers 80 = .ok (.iload_n 3, 1) := by decide +kernel
theorem dX5_compareWithOthers_81 : decode cX5_compareWithOthers 81 = .ok (.iaload, 1) := by decide +kernel
theorem dX5_compareWithOthers_82 : decode cX5_compareWithOthers 82 = .ok (.invokevirtual 284, 3) := by decide +kernel
theorem dX5_compareWithOthers_85 : decode cX5_compareWithOthers 85 = .ok (.iinc 3 1, 3) := by decide +kernel
theorem dX5_compareWithOthers_88 : decode cX5_compareWithOthers 88 = .ok (.goto (-76), 3) := by decide +kernel
theorem dX5_compareWithOthers_91 : decode cX5_compareWithOthers 91 = .ok (.return_, 1) := by decide +kernel
set_option maxHeartbeats 4000000 in
set_option maxRecDepth 100000 in
theorem c_X5_compareWithOthers (l : Launch) (D : va_G) (cI cZ cL : ClassId) (ad : Nat → Nat) (S : Mem) (A : Nat → Prop) (hD : va_D A (wC ad cI S)) (a : Nat) (hI : I0 S) (ha : a < cN S) : WR l D cI cZ cL yX5_compareWithOthers cX5_compareWithOthers 4 none 2 [.ref (ad 0), .int (nI a)] A (wC ad cI S) (wC ad cI (p_cmpO S a (cN S))) none := by
  refine WR.of (by decide) (Nat.le_of_ble_eq_true rfl) ?_
  intro p e s m args below meth c ls hx hb hr hml hown hlk hE hP hS hl
  have hl : lv_has ls 4 [(0, .ref (ad 0)), (1, .int (nI a))] := hl
  have hT8 := hI.T8
  have hR16 := hI.R16
  have hN200 := hI.N200
  have ha8 := hI.xT8 ha
  refine lv_aload_n hx hb dX5_compareWithOthers_0 rfl (lv_at hl 0 rfl) ?_
  refine q_get (v := .ref (ad 7)) hx hb hown hE inT_X5 hP 0 rfl rfl 1 (by decide) w_213 rfl dX5_compareWithOthers_1 ?_
  refine q_getN (v := .ref (ad 8)) hx hb hown hE inT_X0 hP 7 rfl rfl 0 (by decide) w_128 rfl dX5_compareWithOthers_4 ?_
  refine lv_iload_n hx hb dX5_compareWithOthers_7 rfl (lv_at hl 1 rfl) ?_
  refine q_iald (f := S 8) (i := a) hx hb hE hP 8 rfl (by omega) (Nat.le_of_ble_eq_true rfl) dX5_compareWithOthers_8 ?_
  refine q_top (y := nI (aT S a)) (hI.xT ha) ?_
  refine lv_istore_n (lv' := [(2, .int (nI (aT S a))), (0, .ref (ad 0)), (1, .int (nI a))]) hx hb dX5_compareWithOthers_9 rfl hl (by decide) rfl (fun ls hl => ?_)
  refine lv_iconst (v := 0) hx hb dX5_compareWithOthers_10 (by decide) ?_
  refine lv_istore_n (lv' := [(3, .int 0), (2, .int (nI (aT S a))), (0, .ref (ad 0)), (1, .int (nI a))]) hx hb dX5_compareWithOthers_11 rfl hl (by decide) rfl (fun ls hl => ?_)
  have hloop_12 : ∀ (n i : Nat), i ≤ cN S → cN S < i + n → ∀ (H : Heap) (locs : List Loc), va_P D vwCl (wC ad cI (p_cmpO S a i)) H → va_S A s.heap H locs → ∀ ls : Array Slot, lv_has ls 4 [(3, .int (nI i)), (2, .int (nI (aT S a))), (0, .ref (ad 0)), (1, .int (nI a))] → W p l e (rm 2 0 0) s m args below meth c H locs 0 0 (MQ below (Qwr D A (wC ad cI (p_cmpO S a (cN S))) none) args s 0 0 A) (F0 m 12 ls []) := by
    intro n
    induction n with
    | zero => intro i h1 h2; exact absurd h2 (by omega)
    | succ n ih_12 =>
      intro i hi_12 hin_12  H locs hP hS ls hl
      have hI_12 : I0 (p_cmpO S a i) := I0_congr (fun c hc => fr_cmpO (by omega) _) hI
      have hcN : cN (p_cmpO S a i) = cN S := cN_congr (fr_cmpO (by omega) _)
      refine lv_iload_n hx hb dX5_compareWithOthers_12 rfl (lv_at hl 0 rfl) ?_
      refine lv_aload_n hx hb dX5_compareWithOthers_13 rfl (lv_at hl 2 rfl) ?_
      refine q_get (v := .ref (ad 7)) hx hb hown hE inT_X5 hP 0 rfl rfl 1 (by decide) w_213 rfl dX5_compareWithOthers_14 ?_
      refine q_getN (v := .int ((p_cmpO S a i) 7 4)) hx hb hown hE inT_X0 hP 7 rfl rfl 4 (by decide) w_136 rfl dX5_compareWithOthers_17 ?_
      refine q_top (y := nI (cN (p_cmpO S a i))) (I0.N hI_12) ?_
      refine q_top (y := nI (cN S)) (congrArg nI hcN) ?_
      refine lv_icmp_ge (tgt := 91) hx hb dX5_compareWithOthers_20 (by decide) (fun c_1 => ?_) (fun c_1 => ?_)
      · skip
        have c_1 : (cN S) ≤ i := n_le (a := cN S) (b := i) (by omega) (by omega) c_1
        have hend_12 : cN S = i := by omega
        subst hend_12
        exact e_wretv hx hb hr hlk hP hS dX5_compareWithOthers_91
      · skip
        have c_1 : i < (cN S) := n_nle (a := cN S) (b := i) (by omega) (by omega) c_1
        have h8 := hI_12.xT8 (k := i) (by omega)
        have h16 := hI_12.xR16 (k := i) (by omega)
        refine lv_aload_n hx hb dX5_compareWithOthers_23 rfl (lv_at hl 2 rfl) ?_
        refine q_get (v := .ref (ad 7)) hx hb hown hE inT_X5 hP 0 rfl rfl 1 (by decide) w_213 rfl dX5_compareWithOthers_24 ?_
        refine q_getN (v := .ref (ad 8)) hx hb hown hE inT_X0 hP 7 rfl rfl 0 (by decide) w_128 rfl dX5_compareWithOthers_27 ?_
        refine lv_iload_n hx hb dX5_compareWithOthers_30 rfl (lv_at hl 0 rfl) ?_
        refine q_iald (f := (p_cmpO S a i) 8) (i := i) hx hb hE hP 8 rfl (by omega) (Nat.le_of_ble_eq_true rfl) dX5_compareWithOthers_31 ?_
        refine lv_iload_n hx hb dX5_compareWithOthers_32 rfl (lv_at hl 1 rfl) ?_
        refine lv_icmp_eq (tgt := 85) hx hb dX5_compareWithOthers_33 (by decide) (fun c_2 => ?_) (fun c_2 => ?_)
        · skip
          refine lv_iinc (v := nI (i + 1)) (lv' := [(3, .int (nI (i + 1))), (2, .int (nI (aT S a))), (0, .ref (ad 0)), (1, .int (nI a))]) hx hb dX5_compareWithOthers_85 hl (k := 0) rfl (nI_1 i) (by decide) rfl (fun ls hl => ?_)
          refine lv_goto (tgt := 12) hx hb dX5_compareWithOthers_88 (by decide) ?_
          refine ih_12 (i + 1) (by omega) (by omega)  H locs (by rw [show p_cmpO S a (i + 1) = p_cmpO S a i from by first | (simp only [bI, p_cmpO, c_1, c_2, ↓reduceIte]; done) | (simp [bI, p_cmpO, c_1, c_2]; done) | (simp_all [bI, p_cmpO]; done)]; exact hP) hS ls ?_
          exact lv_sub hl [0, 1, 2, 3] rfl
        · skip
          refine lv_aload_n hx hb dX5_compareWithOthers_36 rfl (lv_at hl 2 rfl) ?_
          refine q_get (v := .ref (ad 7)) hx hb hown hE inT_X5 hP 0 rfl rfl 1 (by decide) w_213 rfl dX5_compareWithOthers_37 ?_
          refine lv_iload_n hx hb dX5_compareWithOthers_40 rfl (lv_at hl 3 rfl) ?_
          refine lv_iload_n hx hb dX5_compareWithOthers_41 rfl (lv_at hl 0 rfl) ?_
          refine q_rd (q_runVN (rest := []) hx hb hml hown hE (c_X0_areSame l D cI cZ cL ad (p_cmpO S a i) a i (by omega) (by omega)) ck_X0_areSame w_720 hP 7 rfl rfl hl.1 rfl ⟨Nat.le_of_ble_eq_true rfl, Nat.le_of_ble_eq_true rfl⟩ (Nat.le_of_ble_eq_true rfl) dX5_compareWithOthers_42 ⟨Nat.le_of_ble_eq_true rfl, Nat.le_of_ble_eq_true rfl⟩) ?_
          refine lv_if_eq (tgt := 85) hx hb dX5_compareWithOthers_45 (by decide) (fun c_3 => ?_) (fun c_3 => ?_)
          · skip
            have c_3 : p_same (p_cmpO S a i) a i = false := b_f c_3
            refine lv_iinc (v := nI (i + 1)) (lv' := [(3, .int (nI (i + 1))), (2, .int (nI (aT S a))), (0, .ref (ad 0)), (1, .int (nI a))]) hx hb dX5_compareWithOthers_85 hl (k := 0) rfl (nI_1 i) (by decide) rfl (fun ls hl => ?_)
            refine lv_goto (tgt := 12) hx hb dX5_compareWithOthers_88 (by decide) ?_
            refine ih_12 (i + 1) (by omega) (by omega)  H locs (by rw [show p_cmpO S a (i + 1) = p_cmpO S a i from by first | (simp only [bI, p_cmpO, c_1, c_2, c_3, ↓reduceIte]; done) | (simp [bI, p_cmpO, c_1, c_2, c_3]; done) | (simp_all [bI, p_cmpO]; done)]; exact hP) hS ls ?_
            exact lv_sub hl [0, 1, 2, 3] rfl
          · skip
            have c_3 : p_same (p_cmpO S a i) a i = true := b_t c_3
            refine lv_aload_n hx hb dX5_compareWithOthers_48 rfl (lv_at hl 2 rfl) ?_
            refine q_get (v := .ref (ad 7)) hx hb hown hE inT_X5 hP 0 rfl rfl 1 (by decide) w_213 rfl dX5_compareWithOthers_49 ?_
            refine lv_iload_n hx hb dX5_compareWithOthers_52 rfl (lv_at hl 0 rfl) ?_
            refine q_rd (q_runVN (rest := []) hx hb hml hown hE (c_X0_isRepeated l D cI cZ cL ad (p_cmpO S a i) i (by omega)) ck_X0_isRepeated w_708 hP 7 rfl rfl hl.1 rfl ⟨Nat.le_of_ble_eq_true rfl, Nat.le_of_ble_eq_true rfl⟩ (Nat.le_of_ble_eq_true rfl) dX5_compareWithOthers_53 ⟨Nat.le_of_ble_eq_true rfl, Nat.le_of_ble_eq_true rfl⟩) ?_
            refine lv_if_ne (tgt := 85) hx hb dX5_compareWithOthers_56 (by decide) (fun c_4 => ?_) (fun c_4 => ?_)
            · skip
              have c_4 : p_rep (p_cmpO S a i) i = true := b_t c_4
              refine lv_iinc (v := nI (i + 1)) (lv' := [(3, .int (nI (i + 1))), (2, .int (nI (aT S a))), (0, .ref (ad 0)), (1, .int (nI a))]) hx hb dX5_compareWithOthers_85 hl (k := 0) rfl (nI_1 i) (by decide) rfl (fun ls hl => ?_)
              refine lv_goto (tgt := 12) hx hb dX5_compareWithOthers_88 (by decide) ?_
              refine ih_12 (i + 1) (by omega) (by omega)  H locs (by rw [show p_cmpO S a (i + 1) = p_cmpO S a i from by first | (simp only [bI, p_cmpO, c_1, c_2, c_3, c_4, ↓reduceIte]; done) | (simp [bI, p_cmpO, c_1, c_2, c_3, c_4]; done) | (simp_all [bI, p_cmpO]; done)]; exact hP) hS ls ?_
              exact lv_sub hl [0, 1, 2, 3] rfl
            · skip
              have c_4 : p_rep (p_cmpO S a i) i = false := b_f c_4
              refine lv_aload_n hx hb dX5_compareWithOthers_59 rfl (lv_at hl 2 rfl) ?_
              refine q_get (v := .ref (ad 25)) hx hb hown hE inT_X5 hP 0 rfl rfl 5 (by decide) w_217 rfl dX5_compareWithOthers_60 ?_
              refine lv_iload_n hx hb dX5_compareWithOthers_63 rfl (lv_at hl 1 rfl) ?_
              refine lv_aload_n hx hb dX5_compareWithOthers_64 rfl (lv_at hl 2 rfl) ?_
              refine q_get (v := .ref (ad 7)) hx hb hown hE inT_X5 hP 0 rfl rfl 1 (by decide) w_213 rfl dX5_compareWithOthers_65 ?_
              refine q_getN (v := .ref (ad 8)) hx hb hown hE inT_X0 hP 7 rfl rfl 0 (by decide) w_128 rfl dX5_compareWithOthers_68 ?_
              refine lv_iload_n hx hb dX5_compareWithOthers_71 rfl (lv_at hl 0 rfl) ?_
              refine q_iald (f := (p_cmpO S a i) 8) (i := i) hx hb hE hP 8 rfl (by omega) (Nat.le_of_ble_eq_true rfl) dX5_compareWithOthers_72 ?_
              refine q_top (y := nI (aT (p_cmpO S a i) i)) (hI_12.xT (by omega)) ?_
              refine lv_aload_n hx hb dX5_compareWithOthers_73 rfl (lv_at hl 2 rfl) ?_
              refine q_get (v := .ref (ad 7)) hx hb hown hE inT_X5 hP 0 rfl rfl 1 (by decide) w_213 rfl dX5_compareWithOthers_74 ?_
              refine q_getN (v := .ref (ad 9)) hx hb hown hE inT_X0 hP 7 rfl rfl 1 (by decide) w_130 rfl dX5_compareWithOthers_77 ?_
              refine lv_iload_n hx hb dX5_compareWithOthers_80 rfl (lv_at hl 0 rfl) ?_
              refine q_iald (f := (p_cmpO S a i) 9) (i := i) hx hb hE hP 9 rfl (by omega) (Nat.le_of_ble_eq_true rfl) dX5_compareWithOthers_81 ?_
              refine q_top (y := nI (aR (p_cmpO S a i) i)) (hI_12.xR (by omega)) ?_
              refine q_w0v (q_runVN (rest := []) hx hb hml hown hE (c_X2_noteCommon_25 l D cI cZ cL ad (p_cmpO S a i) A (wC_D hD) (aT S a) (aT (p_cmpO S a i) i) (aR (p_cmpO S a i) i) (by omega) (by omega)) ck_X2_noteCommon w_520 hP 25 rfl rfl hl.1 rfl ⟨Nat.le_of_ble_eq_true rfl, Nat.le_of_ble_eq_true rfl⟩ (Nat.le_of_ble_eq_true rfl) dX5_compareWithOthers_82 ⟨Nat.le_of_ble_eq_true rfl, Nat.le_of_ble_eq_true rfl⟩) hS (fun H locs hP hS => ?_)
              refine lv_iinc (v := nI (i + 1)) (lv' := [(3, .int (nI (i + 1))), (2, .int (nI (aT S a))), (0, .ref (ad 0)), (1, .int (nI a))]) hx hb dX5_compareWithOthers_85 hl (k := 0) rfl (nI_1 i) (by decide) rfl (fun ls hl => ?_)
              refine lv_goto (tgt := 12) hx hb dX5_compareWithOthers_88 (by decide) ?_
              refine ih_12 (i + 1) (by omega) (by omega)  H locs (by rw [show p_cmpO S a (i + 1) = p_common (p_cmpO S a i) 25 (aT S a) (aT (p_cmpO S a i) i) (aR (p_cmpO S a i) i) from by first | (simp only [bI, p_cmpO, c_1, c_2, c_3, c_4, ↓reduceIte]; done) | (simp [bI, p_cmpO, c_1, c_2, c_3, c_4]; done) | (simp_all [bI, p_cmpO]; done)]; exact hP) hS ls ?_
              exact lv_sub hl [0, 1, 2, 3] rfl
  refine hloop_12 (cN S + 1) 0 (by omega) (by omega)  s.heap [] hP hS ls ?_
  exact lv_sub hl [0, 1, 2, 3] rfl

theorem dX5_comparePairs_0 : decode cX5_comparePairs 0 = .ok (.iconst 0, 1) := by decide +kernel
theorem dX5_comparePairs_1 : decode cX5_comparePairs 1 = .ok (.istore_n 2, 1) := by decide +kernel
theorem dX5_comparePairs_2 : decode cX5_comparePairs 2 = .ok (.iload_n 2, 1) := by decide +kernel
theorem dX5_comparePairs_3 : decode cX5_comparePairs 3 = .ok (.aload_n 0, 1) := by decide +kernel
theorem dX5_comparePairs_4 : decode cX5_comparePairs 4 = .ok (.getfield 19, 3) := by decide +kernel
theorem dX5_comparePairs_7 : decode cX5_comparePairs 7 = .ok (.getfield 132, 3) := by decide +kernel
theorem dX5_comparePairs_10 : decode cX5_comparePairs 10 = .ok (.if_icmp .ge 46, 3) := by decide +kernel
theorem dX5_comparePairs_13 : decode cX5_comparePairs 13 = .ok (.aload_n 0, 1) := by decide +kernel
theorem dX5_comparePairs_14 : decode cX5_comparePairs 14 = .ok (.getfield 19, 3) := by decide +kernel
theorem dX5_comparePairs_17 : decode cX5_comparePairs 17 = .ok (.getfield 303, 3) := by decide +kernel
theorem dX5_comparePairs_20 : decode cX5_comparePairs 20 = .ok (.iload_n 2, 1) := by decide +kernel
theorem dX5_comparePairs_21 : decode cX5_comparePairs 21 = .ok (.iaload, 1) := by decide +kernel
theorem dX5_comparePairs_22 : decode cX5_comparePairs 22 = .ok (.iload_n 1, 1) := by decide +kernel
theorem dX5_comparePairs_23 : decode cX5_comparePairs 23 = .ok (.if_icmp .ne 27, 3) := by decide +kernel
theorem dX5_comparePairs_26 : decode cX5_comparePairs 26 = .ok (.aload_n 0, 1) := by decide +kernel
theorem dX5_comparePairs_27 : decode cX5_comparePairs 27 = .ok (.iload_n 2, 1) := by decide +kernel
theorem dX5_comparePairs_28 : decode cX5_comparePairs 28 = .ok (.invokevirtual 299, 3) := by decide +kernel
theorem dX5_comparePairs_31 : decode cX5_comparePairs 31 = .ok (.ifCond .ne 19, 3) := by decide +kernel
theorem dX5_comparePairs_34 : decode cX5_comparePairs 34 = .ok (.aload_n 0, 1) := by decide +kernel
theorem dX5_comparePairs_35 : decode cX5_comparePairs 35 = .ok (.getfield 19, 3) := by decide +kernel
theorem dX5_comparePairs_38 : decode cX5_comparePairs 38 = .ok (.iload_n 2, 1) := by decide +kernel
theorem dX5_comparePairs_39 : decode cX5_comparePairs 39 = .ok (.invokevirtual 311, 3) := by decide +kernel
theorem dX5_comparePairs_42 : decode cX5_comparePairs 42 = .ok (.ifCond .ne 8, 3) := by decide +kernel
theorem dX5_comparePairs_45 : decode cX5_comparePairs 45 = .ok (.aload_n 0, 1) := by decide +kernel
theorem dX5_comparePairs_46 : decode cX5_comparePairs 46 = .ok (.iload_n 2, 1) := by decide +kernel
theorem dX5_comparePairs_47 : decode cX5_comparePairs 47 = .ok (.invokevirtual 314, 3) := by decide +kernel
theorem dX5_comparePairs_50 : decode cX5_comparePairs 50 = .ok (.iinc 2 1, 3) := by decide +kernel
theorem dX5_comparePairs_53 : decode cX5_comparePairs 53 = .ok (.goto (-51), 3) := by decide +kernel
theorem dX5_comparePairs_56 : decode cX5_comparePairs 56 = .ok (.return_, 1) := by decide +kernel
set_option maxHeartbeats 4000000 in
set_option maxRecDepth 100000 in
theorem c_X5_comparePairs (l : Launch) (D : va_G) (cI cZ cL : ClassId) (ad : Nat → Nat) (S : Mem) (A : Nat → Prop) (hD : va_D A (wC ad cI S)) (t : Nat) (hI : I0 S) (ht : t < 8) : WR l D cI cZ cL yX5_comparePairs cX5_comparePairs 3 none 3 [.ref (ad 0), .int (nI t)] A (wC ad cI S) (wC ad cI (p_cmpP S t (cN S))) none := by
  refine WR.of (by decide) (Nat.le_of_ble_eq_true rfl) ?_
  intro p e s m args below meth c ls hx hb hr hml hown hlk hE hP hS hl
  have hl : lv_has ls 3 [(0, .ref (ad 0)), (1, .int (nI t))] := hl
  have hT8 := hI.T8
  have hR16 := hI.R16
  have hN200 := hI.N200
  refine lv_iconst (v := 0) hx hb dX5_comparePairs_0 (by decide) ?_
  refine lv_istore_n (lv' := [(2, .int 0), (0, .ref (ad 0)), (1, .int (nI t))]) hx hb dX5_comparePairs_1 rfl hl (by decide) rfl (fun ls hl => ?_)
  have hloop_2 : ∀ (n i : Nat), i ≤ cN S → cN S < i + n → ∀ (H : Heap) (locs : List Loc), va_P D vwCl (wC ad cI (p_cmpP S t i)) H → va_S A s.heap H locs → ∀ ls : Array Slot, lv_has ls 3 [(2, .int (nI i)), (0, .ref (ad 0)), (1, .int (nI t))] → W p l e (rm 3 0 0) s m args below meth c H locs 0 0 (MQ below (Qwr D A (wC ad cI (p_cmpP S t (cN S))) none) args s 0 0 A) (F0 m 2 ls []) := by
    intro n
    induction n with
    | zero => intro i h1 h2; exact absurd h2 (by omega)
    | succ n ih_2 =>
      intro i hi_2 hin_2  H locs hP hS ls hl
      have hI_2 : I0 (p_cmpP S t i) := I0_congr (fun c hc => fr_cmpP (by omega) _) hI
      have hcN : cN (p_cmpP S t i) = cN S := cN_congr (fr_cmpP (by omega) _)
      refine lv_iload_n hx hb dX5_comparePairs_2 rfl (lv_at hl 0 rfl) ?_
      refine lv_aload_n hx hb dX5_comparePairs_3 rfl (lv_at hl 1 rfl) ?_
      refine q_get (v := .ref (ad 7)) hx hb hown hE inT_X5 hP 0 rfl rfl 1 (by decide) w_213 rfl dX5_comparePairs_4 ?_
      refine q_getN (v := .int ((p_cmpP S t i) 7 4)) hx hb hown hE inT_X0 hP 7 rfl rfl 4 (by decide) w_136 rfl dX5_comparePairs_7 ?_
      refine q_top (y := nI (cN (p_cmpP S t i))) (I0.N hI_2) ?_
      refine q_top (y := nI (cN S)) (congrArg nI hcN) ?_
      refine lv_icmp_ge (tgt := 56) hx hb dX5_comparePairs_10 (by decide) (fun c_1 => ?_) (fun c_1 => ?_)
      · skip
        have c_1 : (cN S) ≤ i := n_le (a := cN S) (b := i) (by omega) (by omega) c_1
        have hend_2 : cN S = i := by omega
        subst hend_2
        exact e_wretv hx hb hr hlk hP hS dX5_comparePairs_56
      · skip
        have c_1 : i < (cN S) := n_nle (a := cN S) (b := i) (by omega) (by omega) c_1
        refine lv_aload_n hx hb dX5_comparePairs_13 rfl (lv_at hl 1 rfl) ?_
        refine q_get (v := .ref (ad 7)) hx hb hown hE inT_X5 hP 0 rfl rfl 1 (by decide) w_213 rfl dX5_comparePairs_14 ?_
        refine q_getN (v := .ref (ad 8)) hx hb hown hE inT_X0 hP 7 rfl rfl 0 (by decide) w_128 rfl dX5_comparePairs_17 ?_
        refine lv_iload_n hx hb dX5_comparePairs_20 rfl (lv_at hl 0 rfl) ?_
        refine q_iald (f := (p_cmpP S t i) 8) (i := i) hx hb hE hP 8 rfl (by omega) (Nat.le_of_ble_eq_true rfl) dX5_comparePairs_21 ?_
        refine lv_iload_n hx hb dX5_comparePairs_22 rfl (lv_at hl 2 rfl) ?_
        refine lv_icmp_ne (tgt := 50) hx hb dX5_comparePairs_23 (by decide) (fun c_2 => ?_) (fun c_2 => ?_)
        · skip
          refine lv_iinc (v := nI (i + 1)) (lv' := [(2, .int (nI (i + 1))), (0, .ref (ad 0)), (1, .int (nI t))]) hx hb dX5_comparePairs_50 hl (k := 0) rfl (nI_1 i) (by decide) rfl (fun ls hl => ?_)
          refine lv_goto (tgt := 2) hx hb dX5_comparePairs_53 (by decide) ?_
          refine ih_2 (i + 1) (by omega) (by omega)  H locs (by rw [show p_cmpP S t (i + 1) = p_cmpP S t i from by first | (simp only [bI, p_cmpP, c_1, c_2, ↓reduceIte]; done) | (simp [bI, p_cmpP, c_1, c_2]; done) | (simp_all [bI, p_cmpP]; done)]; exact hP) hS ls ?_
          exact lv_sub hl [0, 1, 2] rfl
        · skip
          refine lv_aload_n hx hb dX5_comparePairs_26 rfl (lv_at hl 1 rfl) ?_
          refine lv_iload_n hx hb dX5_comparePairs_27 rfl (lv_at hl 0 rfl) ?_
          refine q_rd (q_runV (rest := []) hx hb hml hown hE (c_X5_isRight l D cI cZ cL ad (p_cmpP S t i) i hI_2 (by omega)) ck_X5_isRight w_700 hP 0 rfl rfl hl.1 rfl ⟨Nat.le_of_ble_eq_true rfl, Nat.le_of_ble_eq_true rfl⟩ (Nat.le_of_ble_eq_true rfl) dX5_comparePairs_28 ⟨Nat.le_of_ble_eq_true rfl, Nat.le_of_ble_eq_true rfl⟩) ?_
          refine lv_if_ne (tgt := 50) hx hb dX5_comparePairs_31 (by decide) (fun c_3 => ?_) (fun c_3 => ?_)
          · skip
            have c_3 : p_right (p_cmpP S t i) i = true := b_t c_3
            refine lv_iinc (v := nI (i + 1)) (lv' := [(2, .int (nI (i + 1))), (0, .ref (ad 0)), (1, .int (nI t))]) hx hb dX5_comparePairs_50 hl (k := 0) rfl (nI_1 i) (by decide) rfl (fun ls hl => ?_)
            refine lv_goto (tgt := 2) hx hb dX5_comparePairs_53 (by decide) ?_
            refine ih_2 (i + 1) (by omega) (by omega)  H locs (by rw [show p_cmpP S t (i + 1) = p_cmpP S t i from by first | (simp only [bI, p_cmpP, c_1, c_2, c_3, ↓reduceIte]; done) | (simp [bI, p_cmpP, c_1, c_2, c_3]; done) | (simp_all [bI, p_cmpP]; done)]; exact hP) hS ls ?_
            exact lv_sub hl [0, 1, 2] rfl
          · skip
            have c_3 : p_right (p_cmpP S t i) i = false := b_f c_3
            refine lv_aload_n hx hb dX5_comparePairs_34 rfl (lv_at hl 1 rfl) ?_
            refine q_get (v := .ref (ad 7)) hx hb hown hE inT_X5 hP 0 rfl rfl 1 (by decide) w_213 rfl dX5_comparePairs_35 ?_
            refine lv_iload_n hx hb dX5_comparePairs_38 rfl (lv_at hl 0 rfl) ?_
            refine q_rd (q_runVN (rest := []) hx hb hml hown hE (c_X0_isRepeated l D cI cZ cL ad (p_cmpP S t i) i (by omega)) ck_X0_isRepeated w_708 hP 7 rfl rfl hl.1 rfl ⟨Nat.le_of_ble_eq_true rfl, Nat.le_of_ble_eq_true rfl⟩ (Nat.le_of_ble_eq_true rfl) dX5_comparePairs_39 ⟨Nat.le_of_ble_eq_true rfl, Nat.le_of_ble_eq_true rfl⟩) ?_
            refine lv_if_ne (tgt := 50) hx hb dX5_comparePairs_42 (by decide) (fun c_4 => ?_) (fun c_4 => ?_)
            · skip
              have c_4 : p_rep (p_cmpP S t i) i = true := b_t c_4
              refine lv_iinc (v := nI (i + 1)) (lv' := [(2, .int (nI (i + 1))), (0, .ref (ad 0)), (1, .int (nI t))]) hx hb dX5_comparePairs_50 hl (k := 0) rfl (nI_1 i) (by decide) rfl (fun ls hl => ?_)
              refine lv_goto (tgt := 2) hx hb dX5_comparePairs_53 (by decide) ?_
              refine ih_2 (i + 1) (by omega) (by omega)  H locs (by rw [show p_cmpP S t (i + 1) = p_cmpP S t i from by first | (simp only [bI, p_cmpP, c_1, c_2, c_3, c_4, ↓reduceIte]; done) | (simp [bI, p_cmpP, c_1, c_2, c_3, c_4]; done) | (simp_all [bI, p_cmpP]; done)]; exact hP) hS ls ?_
              exact lv_sub hl [0, 1, 2] rfl
            · skip
              have c_4 : p_rep (p_cmpP S t i) i = false := b_f c_4
              refine lv_aload_n hx hb dX5_comparePairs_45 rfl (lv_at hl 1 rfl) ?_
              refine lv_iload_n hx hb dX5_comparePairs_46 rfl (lv_at hl 0 rfl) ?_
              refine q_w0v (q_runV (rest := []) hx hb hml hown hE (c_X5_compareWithOthers l D cI cZ cL ad (p_cmpP S t i) A (wC_D hD) i hI_2 (by omega)) ck_X5_compareWithOthers w_716 hP 0 rfl rfl hl.1 rfl ⟨Nat.le_of_ble_eq_true rfl, Nat.le_of_ble_eq_true rfl⟩ (Nat.le_of_ble_eq_true rfl) dX5_comparePairs_47 ⟨Nat.le_of_ble_eq_true rfl, Nat.le_of_ble_eq_true rfl⟩) hS (fun H locs hP hS => ?_)
              have hI_c5 : I0 (p_cmpO (p_cmpP S t i) i (cN (p_cmpP S t i))) := I0_congr (fun c hc => fr_cmpO (by omega) _) hI_2
              refine lv_iinc (v := nI (i + 1)) (lv' := [(2, .int (nI (i + 1))), (0, .ref (ad 0)), (1, .int (nI t))]) hx hb dX5_comparePairs_50 hl (k := 0) rfl (nI_1 i) (by decide) rfl (fun ls hl => ?_)
              refine lv_goto (tgt := 2) hx hb dX5_comparePairs_53 (by decide) ?_
              refine ih_2 (i + 1) (by omega) (by omega)  H locs (by rw [show p_cmpP S t (i + 1) = p_cmpO (p_cmpP S t i) i (cN (p_cmpP S t i)) from by first | (simp only [bI, p_cmpP, c_1, c_2, c_3, c_4, ↓reduceIte]; done) | (simp [bI, p_cmpP, c_1, c_2, c_3, c_4]; done) | (simp_all [bI, p_cmpP]; done)]; exact hP) hS ls ?_
              exact lv_sub hl [0, 1, 2] rfl
  refine hloop_2 (cN S + 1) 0 (by omega) (by omega)  s.heap [] hP hS ls ?_
  exact lv_sub hl [0, 1, 2] rfl

theorem dX5_replaySales_0 : decode cX5_replaySales 0 = .ok (.iconst 0, 1) := by decide +kernel
theorem dX5_replaySales_1 : decode cX5_replaySales 1 = .ok (.istore_n 2, 1) := by decide +kernel
theorem dX5_replaySales_2 : decode cX5_replaySales 2 = .ok (.iload_n 2, 1) := by decide +kernel
theorem dX5_replaySales_3 : decode cX5_replaySales 3 = .ok (.aload_n 0, 1) := by decide +kernel
theorem dX5_replaySales_4 : decode cX5_replaySales 4 = .ok (.getfield 10, 3) := by decide +kernel
theorem dX5_replaySales_7 : decode cX5_replaySales 7 = .ok (.getfield 76, 3) := by decide +kernel
theorem dX5_replaySales_10 : decode cX5_replaySales 10 = .ok (.if_icmp .ge 45, 3) := by decide +kernel
theorem dX5_replaySales_13 : decode cX5_replaySales 13 = .ok (.iconst 0, 1) := by decide +kernel
theorem dX5_replaySales_14 : decode cX5_replaySales 14 = .ok (.istore_n 3, 1) := by decide +kernel
theorem dX5_replaySales_15 : decode cX5_replaySales 15 = .ok (.iload_n 3, 1) := by decide +kernel
theorem dX5_replaySales_16 : decode cX5_replaySales 16 = .ok (.iconst 3, 1) := by decide +kernel
theorem dX5_replaySales_17 : decode cX5_replaySales 17 = .ok (.if_icmp .ge 32, 3) := by decide +kernel
theorem dX5_replaySales_20 : decode cX5_replaySales 20 = .ok (.aload_n 0, 1) := by decide +kernel
theorem dX5_replaySales_21 : decode cX5_replaySales 21 = .ok (.getfield 44, 3) := by decide +kernel
theorem dX5_replaySales_24 : decode cX5_replaySales 24 = .ok (.iload_n 1, 1) := by decide +kernel
theorem dX5_replaySales_25 : decode cX5_replaySales 25 = .ok (.iload_n 2, 1) := by decide +kernel
theorem dX5_replaySales_26 : decode cX5_replaySales 26 = .ok (.aload_n 0, 1) := by decide +kernel
theorem dX5_replaySales_27 : decode cX5_replaySales 27 = .ok (.getfield 26, 3) := by decide +kernel
theorem dX5_replaySales_30 : decode cX5_replaySales 30 = .ok (.getfield 320, 3) := by decide +kernel
theorem dX5_replaySales_33 : decode cX5_replaySales 33 = .ok (.iload_n 1, 1) := by decide +kernel
theorem dX5_replaySales_34 : decode cX5_replaySales 34 = .ok (.iload_n 2, 1) := by decide +kernel
theorem dX5_replaySales_35 : decode cX5_replaySales 35 = .ok (.iload_n 3, 1) := by decide +kernel
theorem dX5_replaySales_36 : decode cX5_replaySales 36 = .ok (.invokestatic 323, 3) := by decide +kernel
theorem dX5_replaySales_39 : decode cX5_replaySales 39 = .ok (.iaload, 1) := by decide +kernel
theorem dX5_replaySales_40 : decode cX5_replaySales 40 = .ok (.invokevirtual 159, 3) := by decide +kernel
theorem dX5_replaySales_43 : decode cX5_replaySales 43 = .ok (.iinc 3 1, 3) := by decide +kernel
theorem dX5_replaySales_46 : decode cX5_replaySales 46 = .ok (.goto (-31), 3) := by decide +kernel
theorem dX5_replaySales_49 : decode cX5_replaySales 49 = .ok (.iinc 2 1, 3) := by decide +kernel
theorem dX5_replaySales_52 : decode cX5_replaySales 52 = .ok (.goto (-50), 3) := by decide +kernel
theorem dX5_replaySales_55 : decode cX5_replaySales 55 = .ok (.return_, 1) := by decide +kernel
set_option maxHeartbeats 4000000 in
set_option maxRecDepth 100000 in
theorem c_X5_replaySales (l : Launch) (D : va_G) (cI cZ cL : ClassId) (ad : Nat → Nat) (S : Mem) (A : Nat → Prop) (hD : va_D A (wC ad cI S)) (t : Nat) (hI : I0 S) (ht : t < 8) : WR l D cI cZ cL yX5_replaySales cX5_replaySales 4 none 2 [.ref (ad 0), .int (nI t)] A (wC ad cI S) (wC ad cI (p_sals S t (cR S))) none := by
  refine WR.of (by decide) (Nat.le_of_ble_eq_true rfl) ?_
  intro p e s m args below meth c ls hx hb hr hml hown hlk hE hP hS hl
  have hl : lv_has ls 4 [(0, .ref (ad 0)), (1, .int (nI t))] := hl
  have hT8 := hI.T8
  have hR16 := hI.R16
  have hN200 := hI.N200
  refine lv_iconst (v := 0) hx hb dX5_replaySales_0 (by decide) ?_
  refine lv_istore_n (lv' := [(2, .int 0), (0, .ref (ad 0)), (1, .int (nI t))]) hx hb dX5_replaySales_1 rfl hl (by decide) rfl (fun ls hl => ?_)
  have hloop_2 : ∀ (n i : Nat), i ≤ cR S → cR S < i + n → ∀ (H : Heap) (locs : List Loc), va_P D vwCl (wC ad cI (p_sals S t i)) H → va_S A s.heap H locs → ∀ ls : Array Slot, lv_has ls 4 [(2, .int (nI i)), (0, .ref (ad 0)), (1, .int (nI t))] → W p l e (rm 2 0 0) s m args below meth c H locs 0 0 (MQ below (Qwr D A (wC ad cI (p_sals S t (cR S))) none) args s 0 0 A) (F0 m 2 ls []) := by
    intro n
    induction n with
    | zero => intro i h1 h2; exact absurd h2 (by omega)
    | succ n ih_2 =>
      intro i hi_2 hin_2  H locs hP hS ls hl
      have hI_2 : I0 (p_sals S t i) := I0_congr (fun c hc => fr_sals (by omega) _) hI
      refine lv_iload_n hx hb dX5_replaySales_2 rfl (lv_at hl 0 rfl) ?_
      refine lv_aload_n hx hb dX5_replaySales_3 rfl (lv_at hl 1 rfl) ?_
      refine q_get (v := .ref (ad 1)) hx hb hown hE inT_X5 hP 0 rfl rfl 0 (by decide) w_212 rfl dX5_replaySales_4 ?_
      refine q_getN (v := .int ((p_sals S t i) 1 6)) hx hb hown hE inT_X3 hP 1 rfl rfl 6 (by decide) w_104 rfl dX5_replaySales_7 ?_
      refine q_top (y := nI (cR (p_sals S t i))) (I0.R hI_2) ?_
      refine q_top (y := nI (cR S)) (congrArg nI (cR_congr (fr_sals (by omega) _))) ?_
      refine lv_icmp_ge (tgt := 55) hx hb dX5_replaySales_10 (by decide) (fun c_1 => ?_) (fun c_1 => ?_)
      · skip
        have c_1 : (cR S) ≤ i := n_le (a := cR S) (b := i) (by omega) (by omega) c_1
        have hend_2 : cR S = i := by omega
        subst hend_2
        exact e_wretv hx hb hr hlk hP hS dX5_replaySales_55
      · skip
        have c_1 : i < (cR S) := n_nle (a := cR S) (b := i) (by omega) (by omega) c_1
        refine lv_iconst (v := 0) hx hb dX5_replaySales_13 (by decide) ?_
        refine lv_istore_n (lv' := [(3, .int 0), (2, .int (nI i)), (0, .ref (ad 0)), (1, .int (nI t))]) hx hb dX5_replaySales_14 rfl hl (by decide) rfl (fun ls hl => ?_)
        have hloop_15 : ∀ (n j : Nat), j ≤ 3 → 3 < j + n → ∀ (H : Heap) (locs : List Loc), va_P D vwCl (wC ad cI (p_sal1 (p_sals S t i) t i j)) H → va_S A s.heap H locs → ∀ ls : Array Slot, lv_has ls 4 [(3, .int (nI j)), (2, .int (nI i)), (0, .ref (ad 0)), (1, .int (nI t))] → W p l e (rm 2 0 0) s m args below meth c H locs 0 0 (MQ below (Qwr D A (wC ad cI (p_sals S t (cR S))) none) args s 0 0 A) (F0 m 15 ls []) := by
          intro n
          induction n with
          | zero => intro j h1 h2; exact absurd h2 (by omega)
          | succ n ih_15 =>
            intro j hi_15 hin_15  H locs hP hS ls hl
            have hI_15 : I0 (p_sal1 (p_sals S t i) t i j) := I0_congr (fun c hc => (fr_sal1 (by omega) _).trans (fr_sals (by omega) _)) hI
            refine lv_iload_n hx hb dX5_replaySales_15 rfl (lv_at hl 0 rfl) ?_
            refine lv_iconst (v := 3) hx hb dX5_replaySales_16 (by decide) ?_
            refine lv_icmp_ge (tgt := 49) hx hb dX5_replaySales_17 (by decide) (fun c_2 => ?_) (fun c_2 => ?_)
            · skip
              have c_2 : 3 ≤ j := n_le (a := 3) (b := j) (by omega) (by omega) c_2
              have hend_15 : 3 = j := by omega
              subst hend_15
              refine lv_iinc (v := nI (i + 1)) (lv' := [(2, .int (nI (i + 1))), (3, .int (nI 3)), (0, .ref (ad 0)), (1, .int (nI t))]) hx hb dX5_replaySales_49 hl (k := 1) rfl (nI_1 i) (by decide) rfl (fun ls hl => ?_)
              refine lv_goto (tgt := 2) hx hb dX5_replaySales_52 (by decide) ?_
              refine ih_2 (i + 1) (by omega) (by omega)  H locs (by rw [show p_sals S t (i + 1) = p_sal1 (p_sals S t i) t i 3 from by first | (simp only [bI, p_sals, c_1, ↓reduceIte]; done) | (simp [bI, p_sals, c_1]; done) | (simp_all [bI, p_sals]; done)]; exact hP) hS ls ?_
              exact lv_sub hl [0, 2, 3] rfl
            · skip
              have c_2 : j < 3 := n_nle (a := 3) (b := j) (by omega) (by omega) c_2
              refine lv_aload_n hx hb dX5_replaySales_20 rfl (lv_at hl 2 rfl) ?_
              refine q_get (v := .ref (ad 25)) hx hb hown hE inT_X5 hP 0 rfl rfl 5 (by decide) w_217 rfl dX5_replaySales_21 ?_
              refine lv_iload_n hx hb dX5_replaySales_24 rfl (lv_at hl 3 rfl) ?_
              refine lv_iload_n hx hb dX5_replaySales_25 rfl (lv_at hl 1 rfl) ?_
              refine lv_aload_n hx hb dX5_replaySales_26 rfl (lv_at hl 2 rfl) ?_
              refine q_get (v := .ref (ad 12)) hx hb hown hE inT_X5 hP 0 rfl rfl 2 (by decide) w_214 rfl dX5_replaySales_27 ?_
              refine q_getN (v := .ref (ad 14)) hx hb hown hE inT_X4 hP 12 rfl rfl 1 (by decide) w_157 rfl dX5_replaySales_30 ?_
              refine lv_iload_n hx hb dX5_replaySales_33 rfl (lv_at hl 3 rfl) ?_
              refine lv_iload_n hx hb dX5_replaySales_34 rfl (lv_at hl 1 rfl) ?_
              refine lv_iload_n hx hb dX5_replaySales_35 rfl (lv_at hl 0 rfl) ?_
              refine q_rd (q_runS (rest := [.ref (ad 14), .int (nI i), .int (nI t), .ref (ad 25)]) hx hb hml hown hE (c_X5_sale l D cI cZ cL _ t i j) ck_X5_sale w_725 hP hl.1 rfl ⟨Nat.le_of_ble_eq_true rfl, Nat.le_of_ble_eq_true rfl⟩ (Nat.le_of_ble_eq_true rfl) dX5_replaySales_36 ⟨Nat.le_of_ble_eq_true rfl, Nat.le_of_ble_eq_true rfl⟩) ?_
              refine q_iald (f := (p_sal1 (p_sals S t i) t i j) 14) (i := ((t * 16 + i) * 3 + j)) hx hb hE hP 14 rfl (by omega) (Nat.le_of_ble_eq_true rfl) dX5_replaySales_39 ?_
              refine q_w0v (q_runVN (rest := []) hx hb hml hown hE (c_X2_pay_25 l D cI cZ cL ad (p_sal1 (p_sals S t i) t i j) A (wC_D hD) t i ((p_sal1 (p_sals S t i) t i j) 14 ((t * 16 + i) * 3 + j)) (by omega) (by omega)) ck_X2_pay w_558 hP 25 rfl rfl hl.1 rfl ⟨Nat.le_of_ble_eq_true rfl, Nat.le_of_ble_eq_true rfl⟩ (Nat.le_of_ble_eq_true rfl) dX5_replaySales_40 ⟨Nat.le_of_ble_eq_true rfl, Nat.le_of_ble_eq_true rfl⟩) hS (fun H locs hP hS => ?_)
              have hI_c3 : I0 (p_pay (p_sal1 (p_sals S t i) t i j) 25 t i ((p_sal1 (p_sals S t i) t i j) 14 ((t * 16 + i) * 3 + j))) := I0_congr (fun c hc => fr_pay (by omega)) hI_15
              refine lv_iinc (v := nI (j + 1)) (lv' := [(3, .int (nI (j + 1))), (2, .int (nI i)), (0, .ref (ad 0)), (1, .int (nI t))]) hx hb dX5_replaySales_43 hl (k := 0) rfl (nI_1 j) (by decide) rfl (fun ls hl => ?_)
              refine lv_goto (tgt := 15) hx hb dX5_replaySales_46 (by decide) ?_
              refine ih_15 (j + 1) (by omega) (by omega)  H locs (by rw [show p_sal1 (p_sals S t i) t i (j + 1) = p_pay (p_sal1 (p_sals S t i) t i j) 25 t i ((p_sal1 (p_sals S t i) t i j) 14 ((t * 16 + i) * 3 + j)) from by first | (simp only [bI, p_sal1, c_2, ↓reduceIte]; done) | (simp [bI, p_sal1, c_2]; done) | (simp_all [bI, p_sal1]; done)]; exact hP) hS ls ?_
              exact lv_sub hl [0, 1, 2, 3] rfl
        refine hloop_15 (3 + 1) 0 (by omega) (by omega)  H locs hP hS ls ?_
        exact lv_sub hl [0, 1, 2, 3] rfl
  refine hloop_2 (cR S + 1) 0 (by omega) (by omega)  s.heap [] hP hS ls ?_
  exact lv_sub hl [0, 1, 2] rfl

theorem dX5_rateTeams_0 : decode cX5_rateTeams 0 = .ok (.iconst 0, 1) := by decide +kernel
theorem dX5_rateTeams_1 : decode cX5_rateTeams 1 = .ok (.istore_n 1, 1) := by decide +kernel
theorem dX5_rateTeams_2 : decode cX5_rateTeams 2 = .ok (.iload_n 1, 1) := by decide +kernel
theorem dX5_rateTeams_3 : decode cX5_rateTeams 3 = .ok (.aload_n 0, 1) := by decide +kernel
theorem dX5_rateTeams_4 : decode cX5_rateTeams 4 = .ok (.getfield 115, 3) := by decide +kernel
theorem dX5_rateTeams_7 : decode cX5_rateTeams 7 = .ok (.if_icmp .ge 50, 3) := by decide +kernel
theorem dX5_rateTeams_10 : decode cX5_rateTeams 10 = .ok (.aload_n 0, 1) := by decide +kernel
theorem dX5_rateTeams_11 : decode cX5_rateTeams 11 = .ok (.aload_n 0, 1) := by decide +kernel
theorem dX5_rateTeams_12 : decode cX5_rateTeams 12 = .ok (.getfield 40, 3) := by decide +kernel
theorem dX5_rateTeams_15 : decode cX5_rateTeams 15 = .ok (.iload_n 1, 1) := by decide +kernel
theorem dX5_rateTeams_16 : decode cX5_rateTeams 16 = .ok (.invokevirtual 216, 3) := by decide +kernel
theorem dX5_rateTeams_19 : decode cX5_rateTeams 19 = .ok (.istore_n 2, 1) := by decide +kernel
theorem dX5_rateTeams_20 : decode cX5_rateTeams 20 = .ok (.aload_n 0, 1) := by decide +kernel
theorem dX5_rateTeams_21 : decode cX5_rateTeams 21 = .ok (.getfield 47, 3) := by decide +kernel
theorem dX5_rateTeams_24 : decode cX5_rateTeams 24 = .ok (.iload_n 1, 1) := by decide +kernel
theorem dX5_rateTeams_25 : decode cX5_rateTeams 25 = .ok (.aload_n 0, 1) := by decide +kernel
theorem dX5_rateTeams_26 : decode cX5_rateTeams 26 = .ok (.aload_n 0, 1) := by decide +kernel
theorem dX5_rateTeams_27 : decode cX5_rateTeams 27 = .ok (.getfield 40, 3) := by decide +kernel
theorem dX5_rateTeams_30 : decode cX5_rateTeams 30 = .ok (.iload_n 1, 1) := by decide +kernel
theorem dX5_rateTeams_31 : decode cX5_rateTeams 31 = .ok (.iload_n 2, 1) := by decide +kernel
theorem dX5_rateTeams_32 : decode cX5_rateTeams 32 = .ok (.invokevirtual 219, 3) := by decide +kernel
theorem dX5_rateTeams_35 : decode cX5_rateTeams 35 = .ok (.iastore, 1) := by decide +kernel
theorem dX5_rateTeams_36 : decode cX5_rateTeams 36 = .ok (.aload_n 0, 1) := by decide +kernel
theorem dX5_rateTeams_37 : decode cX5_rateTeams 37 = .ok (.getfield 51, 3) := by decide +kernel
theorem dX5_rateTeams_40 : decode cX5_rateTeams 40 = .ok (.iload_n 1, 1) := by decide +kernel
theorem dX5_rateTeams_41 : decode cX5_rateTeams 41 = .ok (.aload_n 0, 1) := by decide +kernel
theorem dX5_rateTeams_42 : decode cX5_rateTeams 42 = .ok (.getfield 40, 3) := by decide +kernel
theorem dX5_rateTeams_45 : decode cX5_rateTeams 45 = .ok (.iload_n 1, 1) := by decide +kernel
theorem dX5_rateTeams_46 : decode cX5_rateTeams 46 = .ok (.iload_n 2, 1) := by decide +kernel
theorem dX5_rateTeams_47 : decode cX5_rateTeams 47 = .ok (.invokevirtual 257, 3) := by decide +kernel
theorem dX5_rateTeams_50 : decode cX5_rateTeams 50 = .ok (.iastore, 1) := by decide +kernel
theorem dX5_rateTeams_51 : decode cX5_rateTeams 51 = .ok (.iinc 1 1, 3) := by decide +kernel
theorem dX5_rateTeams_54 : decode cX5_rateTeams 54 = .ok (.goto (-52), 3) := by decide +kernel
theorem dX5_rateTeams_57 : decode cX5_rateTeams 57 = .ok (.return_, 1) := by decide +kernel
set_option maxHeartbeats 4000000 in
set_option maxRecDepth 100000 in
theorem c_X5_rateTeams (l : Launch) (D : va_G) (cI cZ cL : ClassId) (ad : Nat → Nat) (S : Mem) (A : Nat → Prop) (hD : va_D A (wC ad cI S)) (hI : I0 S) : WR l D cI cZ cL yX5_rateTeams cX5_rateTeams 3 none 5 [.ref (ad 0)] A (wC ad cI S) (wC ad cI (p_rate S (cT S))) none := by
  refine WR.of (by decide) (Nat.le_of_ble_eq_true rfl) ?_
  intro p e s m args below meth c ls hx hb hr hml hown hlk hE hP hS hl
  have hl : lv_has ls 3 [(0, .ref (ad 0))] := hl
  have hT8 := hI.T8
  have hR16 := hI.R16
  have hN200 := hI.N200
  refine lv_iconst (v := 0) hx hb dX5_rateTeams_0 (by decide) ?_
  refine lv_istore_n (lv' := [(1, .int 0), (0, .ref (ad 0))]) hx hb dX5_rateTeams_1 rfl hl (by decide) rfl (fun ls hl => ?_)
  have hloop_2 : ∀ (n i : Nat), i ≤ cT S → cT S < i + n → ∀ (H : Heap) (locs : List Loc), va_P D vwCl (wC ad cI (p_rate S i)) H → va_S A s.heap H locs → ∀ ls : Array Slot, lv_has ls 3 [(1, .int (nI i)), (0, .ref (ad 0))] → W p l e (rm 5 0 0) s m args below meth c H locs 0 0 (MQ below (Qwr D A (wC ad cI (p_rate S (cT S))) none) args s 0 0 A) (F0 m 2 ls []) := by
    intro n
    induction n with
    | zero => intro i h1 h2; exact absurd h2 (by omega)
    | succ n ih_2 =>
      intro i hi_2 hin_2  H locs hP hS ls hl
      have hI_2 : I0 (p_rate S i) := I0_congr (fun c hc => fr_rate (by omega) _) hI
      refine lv_iload_n hx hb dX5_rateTeams_2 rfl (lv_at hl 0 rfl) ?_
      refine lv_aload_n hx hb dX5_rateTeams_3 rfl (lv_at hl 1 rfl) ?_
      refine q_get (v := .int ((p_rate S i) 0 9)) hx hb hown hE inT_X5 hP 0 rfl rfl 9 (by decide) w_221 rfl dX5_rateTeams_4 ?_
      refine q_top (y := nI (cT (p_rate S i))) (I0.T hI_2) ?_
      refine q_top (y := nI (cT S)) (congrArg nI (cT_congr (fr_rate (by omega) _))) ?_
      refine lv_icmp_ge (tgt := 57) hx hb dX5_rateTeams_7 (by decide) (fun c_1 => ?_) (fun c_1 => ?_)
      · skip
        have c_1 : (cT S) ≤ i := n_le (a := cT S) (b := i) (by omega) (by omega) c_1
        have hend_2 : cT S = i := by omega
        subst hend_2
        exact e_wretv hx hb hr hlk hP hS dX5_rateTeams_57
      · skip
        have c_1 : i < (cT S) := n_nle (a := cT S) (b := i) (by omega) (by omega) c_1
        refine lv_aload_n hx hb dX5_rateTeams_10 rfl (lv_at hl 1 rfl) ?_
        refine lv_aload_n hx hb dX5_rateTeams_11 rfl (lv_at hl 1 rfl) ?_
        refine q_get (v := .ref (ad 18)) hx hb hown hE inT_X5 hP 0 rfl rfl 4 (by decide) w_216 rfl dX5_rateTeams_12 ?_
        refine lv_iload_n hx hb dX5_rateTeams_15 rfl (lv_at hl 0 rfl) ?_
        refine q_rd (q_runV (rest := []) hx hb hml hown hE (c_X5_countingSet_18 l D cI cZ cL ad (p_rate S i) i hI_2 (by omega)) ck_X5_countingSet w_261 hP 0 rfl rfl hl.1 rfl ⟨Nat.le_of_ble_eq_true rfl, Nat.le_of_ble_eq_true rfl⟩ (Nat.le_of_ble_eq_true rfl) dX5_rateTeams_16 ⟨Nat.le_of_ble_eq_true rfl, Nat.le_of_ble_eq_true rfl⟩) ?_
        refine lv_istore_n (lv' := [(2, .int (p_count (p_rate S i) 18 i)), (1, .int (nI i)), (0, .ref (ad 0))]) hx hb dX5_rateTeams_19 rfl hl (by decide) rfl (fun ls hl => ?_)
        refine lv_aload_n hx hb dX5_rateTeams_20 rfl (lv_at hl 2 rfl) ?_
        refine q_get (v := .ref (ad 32)) hx hb hown hE inT_X5 hP 0 rfl rfl 6 (by decide) w_218 rfl dX5_rateTeams_21 ?_
        refine lv_iload_n hx hb dX5_rateTeams_24 rfl (lv_at hl 1 rfl) ?_
        refine lv_aload_n hx hb dX5_rateTeams_25 rfl (lv_at hl 2 rfl) ?_
        refine lv_aload_n hx hb dX5_rateTeams_26 rfl (lv_at hl 2 rfl) ?_
        refine q_get (v := .ref (ad 18)) hx hb hown hE inT_X5 hP 0 rfl rfl 4 (by decide) w_216 rfl dX5_rateTeams_27 ?_
        refine lv_iload_n hx hb dX5_rateTeams_30 rfl (lv_at hl 1 rfl) ?_
        refine lv_iload_n hx hb dX5_rateTeams_31 rfl (lv_at hl 0 rfl) ?_
        refine q_rd (q_runV (rest := [.int (nI i), .ref (ad 32)]) hx hb hml hown hE (c_X5_sumUp_18 l D cI cZ cL ad (p_rate S i) i (p_count (p_rate S i) 18 i) hI_2 (by omega)) ck_X5_sumUp w_294 hP 0 rfl rfl hl.1 rfl ⟨Nat.le_of_ble_eq_true rfl, Nat.le_of_ble_eq_true rfl⟩ (Nat.le_of_ble_eq_true rfl) dX5_rateTeams_32 ⟨Nat.le_of_ble_eq_true rfl, Nat.le_of_ble_eq_true rfl⟩) ?_
        refine q_iast (f := (p_rate S i) 32) (i := i) (x := p_sumUp (p_rate S i) 18 i (p_count (p_rate S i) 18 i)) (ws' := (wC ad cI (st (p_rate S i) 32 i (p_sumUp (p_rate S i) 18 i (p_count (p_rate S i) 18 i))))) hx hb hE hP (wC_D hD) hS 32 rfl (by omega) (Nat.le_of_ble_eq_true rfl) (wC_st_32) dX5_rateTeams_35 (fun H locs hP hS => ?_)
        refine lv_aload_n hx hb dX5_rateTeams_36 rfl (lv_at hl 2 rfl) ?_
        refine q_get (v := .ref (ad 33)) hx hb hown hE inT_X5 hP 0 rfl rfl 7 (by decide) w_219 rfl dX5_rateTeams_37 ?_
        refine lv_iload_n hx hb dX5_rateTeams_40 rfl (lv_at hl 1 rfl) ?_
        refine lv_aload_n hx hb dX5_rateTeams_41 rfl (lv_at hl 2 rfl) ?_
        refine q_get (v := .ref (ad 18)) hx hb hown hE inT_X5 hP 0 rfl rfl 4 (by decide) w_216 rfl dX5_rateTeams_42 ?_
        refine lv_iload_n hx hb dX5_rateTeams_45 rfl (lv_at hl 1 rfl) ?_
        refine lv_iload_n hx hb dX5_rateTeams_46 rfl (lv_at hl 0 rfl) ?_
        refine q_rd (q_runVN (rest := [.int (nI i), .ref (ad 33)]) hx hb hml hown hE (c_X2_lastSolveMinute_18 l D cI cZ cL ad (st (p_rate S i) 32 i (p_sumUp (p_rate S i) 18 i (p_count (p_rate S i) 18 i))) i (p_count (p_rate S i) 18 i) (by omega)) ck_X2_lastSolveMinute w_302 hP 18 rfl rfl hl.1 rfl ⟨Nat.le_of_ble_eq_true rfl, Nat.le_of_ble_eq_true rfl⟩ (Nat.le_of_ble_eq_true rfl) dX5_rateTeams_47 ⟨Nat.le_of_ble_eq_true rfl, Nat.le_of_ble_eq_true rfl⟩) ?_
        refine q_iast (f := (st (p_rate S i) 32 i (p_sumUp (p_rate S i) 18 i (p_count (p_rate S i) 18 i))) 33) (i := i) (x := p_last (st (p_rate S i) 32 i (p_sumUp (p_rate S i) 18 i (p_count (p_rate S i) 18 i))) 18 i (p_count (p_rate S i) 18 i)) (ws' := (wC ad cI (st (st (p_rate S i) 32 i (p_sumUp (p_rate S i) 18 i (p_count (p_rate S i) 18 i))) 33 i (p_last (st (p_rate S i) 32 i (p_sumUp (p_rate S i) 18 i (p_count (p_rate S i) 18 i))) 18 i (p_count (p_rate S i) 18 i))))) hx hb hE hP (wC_D hD) hS 33 rfl (by omega) (Nat.le_of_ble_eq_true rfl) (wC_st_33) dX5_rateTeams_50 (fun H locs hP hS => ?_)
        refine lv_iinc (v := nI (i + 1)) (lv' := [(1, .int (nI (i + 1))), (2, .int (p_count (p_rate S i) 18 i)), (0, .ref (ad 0))]) hx hb dX5_rateTeams_51 hl (k := 1) rfl (nI_1 i) (by decide) rfl (fun ls hl => ?_)
        refine lv_goto (tgt := 2) hx hb dX5_rateTeams_54 (by decide) ?_
        refine ih_2 (i + 1) (by omega) (by omega)  H locs (by rw [show p_rate S (i + 1) = st (st (p_rate S i) 32 i (p_sumUp (p_rate S i) 18 i (p_count (p_rate S i) 18 i))) 33 i (p_last (st (p_rate S i) 32 i (p_sumUp (p_rate S i) 18 i (p_count (p_rate S i) 18 i))) 18 i (p_count (p_rate S i) 18 i)) from by rfl]; exact hP) hS ls ?_
        exact lv_sub hl [0, 2] rfl
  refine hloop_2 (cT S + 1) 0 (by omega) (by omega)  s.heap [] hP hS ls ?_
  exact lv_sub hl [0, 1] rfl
end
section
/-! throws: the words that each throw needs are in the tables -/
abbrev tw_names : List String := ["java/lang/RuntimeException", "java/lang/Exception"]
theorem tw_names_ok : ∀ n ∈ tw_names, Bundle.fit n = true := by decide +kernel
theorem q_flags {l : Launch} (h : l.flags = flags0) : l.stackTraces = false := by
  unfold Launch.stackTraces; rw [h]; decide +kernel
theorem tw_X5_65_69_g : ∀ w ∈ Cond.classLink "PuzzleRegistry" 65 "java/lang/IllegalStateException" :: Cond.initialized "java/lang/IllegalStateException" :: vx_atS "PuzzleRegistry" 69 "java/lang/IllegalStateException" tw_names, vx_ot w = true := by decide +kernel
theorem tw_X5_65_69 : ∀ w ∈ vx_atS "PuzzleRegistry" 69 "java/lang/IllegalStateException" tw_names, w ∈ TW := by decide +kernel
theorem tw_X5_89_93_g : ∀ w ∈ Cond.classLink "PuzzleRegistry" 89 "java/lang/IllegalArgumentException" :: Cond.initialized "java/lang/IllegalArgumentException" :: vx_atS "PuzzleRegistry" 93 "java/lang/IllegalArgumentException" tw_names, vx_ot w = true := by decide +kernel
theorem tw_X5_89_93 : ∀ w ∈ vx_atS "PuzzleRegistry" 93 "java/lang/IllegalArgumentException" tw_names, w ∈ TW := by decide +kernel
theorem tw_X5_248_252_g : ∀ w ∈ Cond.classLink "PuzzleRegistry" 248 "java/lang/IndexOutOfBoundsException" :: Cond.initialized "java/lang/IndexOutOfBoundsException" :: vx_atS "PuzzleRegistry" 252 "java/lang/IndexOutOfBoundsException" tw_names, vx_ot w = true := by decide +kernel
theorem tw_X5_248_252 : ∀ w ∈ vx_atS "PuzzleRegistry" 252 "java/lang/IndexOutOfBoundsException" tw_names, w ∈ TW := by decide +kernel
end
section
theorem dX5_requireTeam_0 : decode cX5_requireTeam 0 = .ok (.iload_n 1, 1) := by decide +kernel
theorem dX5_requireTeam_1 : decode cX5_requireTeam 1 = .ok (.ifCond .lt 11, 3) := by decide +kernel
theorem dX5_requireTeam_4 : decode cX5_requireTeam 4 = .ok (.iload_n 1, 1) := by decide +kernel
theorem dX5_requireTeam_5 : decode cX5_requireTeam 5 = .ok (.aload_n 0, 1) := by decide +kernel
theorem dX5_requireTeam_6 : decode cX5_requireTeam 6 = .ok (.getfield 115, 3) := by decide +kernel
theorem dX5_requireTeam_9 : decode cX5_requireTeam 9 = .ok (.if_icmp .lt 13, 3) := by decide +kernel
theorem dX5_requireTeam_22 : decode cX5_requireTeam 22 = .ok (.return_, 1) := by decide +kernel
set_option maxHeartbeats 4000000 in
set_option maxRecDepth 100000 in
theorem c_X5_requireTeam (l : Launch) (D : va_G) (cI cZ cL : ClassId) (ad : Nat → Nat) (S : Mem) (t : Nat) (hI : I0 S) (ht : t < cT S) : RD l D cI cZ cL yX5_requireTeam cX5_requireTeam 2 none 0 [.ref (ad 0), .int (nI t)] (wC ad cI S) none := by
  refine RD.of (by decide) (Nat.le_of_ble_eq_true rfl) ?_
  intro p e s m args below meth c ls hx hb hr hml hown hlk hE hP hl
  have hl : lv_has ls 2 [(0, .ref (ad 0)), (1, .int (nI t))] := hl
  have hT8 := hI.T8
  have hR16 := hI.R16
  have hN200 := hI.N200
  refine lv_iload_n hx hb dX5_requireTeam_0 rfl (lv_at hl 1 rfl) ?_
  refine lv_if_lt (tgt := 12) hx hb dX5_requireTeam_1 (by decide) (fun c_1 => ?_) (fun c_1 => ?_)
  · skip
    have c_1 : t < 0 := n_lt (a := t) (b := 0) (by omega) (by omega) c_1
    exfalso; omega
  · skip
    have c_1 : 0 ≤ t := n_nlt (a := t) (b := 0) (by omega) (by omega) c_1
    refine lv_iload_n hx hb dX5_requireTeam_4 rfl (lv_at hl 1 rfl) ?_
    refine lv_aload_n hx hb dX5_requireTeam_5 rfl (lv_at hl 0 rfl) ?_
    refine q_get (v := .int (S 0 9)) hx hb hown hE inT_X5 hP 0 rfl rfl 9 (by decide) w_221 rfl dX5_requireTeam_6 ?_
    refine q_top (y := nI (cT S)) (I0.T hI) ?_
    refine lv_icmp_lt (tgt := 22) hx hb dX5_requireTeam_9 (by decide) (fun c_2 => ?_) (fun c_2 => ?_)
    · skip
      have c_2 : t < (cT S) := n_lt (a := t) (b := cT S) (by omega) (by omega) c_2
      exact e_retv hx hb hr hlk dX5_requireTeam_22
    · skip
      have c_2 : (cT S) ≤ t := n_nlt (a := t) (b := cT S) (by omega) (by omega) c_2
      exfalso; omega

theorem dX5_requireRiddle_0 : decode cX5_requireRiddle 0 = .ok (.iload_n 1, 1) := by decide +kernel
theorem dX5_requireRiddle_1 : decode cX5_requireRiddle 1 = .ok (.ifCond .lt 14, 3) := by decide +kernel
theorem dX5_requireRiddle_4 : decode cX5_requireRiddle 4 = .ok (.iload_n 1, 1) := by decide +kernel
theorem dX5_requireRiddle_5 : decode cX5_requireRiddle 5 = .ok (.aload_n 0, 1) := by decide +kernel
theorem dX5_requireRiddle_6 : decode cX5_requireRiddle 6 = .ok (.getfield 10, 3) := by decide +kernel
theorem dX5_requireRiddle_9 : decode cX5_requireRiddle 9 = .ok (.getfield 76, 3) := by decide +kernel
theorem dX5_requireRiddle_12 : decode cX5_requireRiddle 12 = .ok (.if_icmp .lt 13, 3) := by decide +kernel
theorem dX5_requireRiddle_25 : decode cX5_requireRiddle 25 = .ok (.return_, 1) := by decide +kernel
set_option maxHeartbeats 4000000 in
set_option maxRecDepth 100000 in
theorem c_X5_requireRiddle (l : Launch) (D : va_G) (cI cZ cL : ClassId) (ad : Nat → Nat) (S : Mem) (r : Nat) (hI : I0 S) (hr : r < cR S) : RD l D cI cZ cL yX5_requireRiddle cX5_requireRiddle 2 none 0 [.ref (ad 0), .int (nI r)] (wC ad cI S) none := by
  refine RD.of (by decide) (Nat.le_of_ble_eq_true rfl) ?_
  intro p e s m args below meth c ls hx hb hr hml hown hlk hE hP hl
  have hl : lv_has ls 2 [(0, .ref (ad 0)), (1, .int (nI r))] := hl
  have hT8 := hI.T8
  have hR16 := hI.R16
  have hN200 := hI.N200
  refine lv_iload_n hx hb dX5_requireRiddle_0 rfl (lv_at hl 1 rfl) ?_
  refine lv_if_lt (tgt := 15) hx hb dX5_requireRiddle_1 (by decide) (fun c_1 => ?_) (fun c_1 => ?_)
  · skip
    have c_1 : r < 0 := n_lt (a := r) (b := 0) (by omega) (by omega) c_1
    exfalso; omega
  · skip
    have c_1 : 0 ≤ r := n_nlt (a := r) (b := 0) (by omega) (by omega) c_1
    refine lv_iload_n hx hb dX5_requireRiddle_4 rfl (lv_at hl 1 rfl) ?_
    refine lv_aload_n hx hb dX5_requireRiddle_5 rfl (lv_at hl 0 rfl) ?_
    refine q_get (v := .ref (ad 1)) hx hb hown hE inT_X5 hP 0 rfl rfl 0 (by decide) w_212 rfl dX5_requireRiddle_6 ?_
    refine q_getN (v := .int (S 1 6)) hx hb hown hE inT_X3 hP 1 rfl rfl 6 (by decide) w_104 rfl dX5_requireRiddle_9 ?_
    refine q_top (y := nI (cR S)) (I0.R hI) ?_
    refine lv_icmp_lt (tgt := 25) hx hb dX5_requireRiddle_12 (by decide) (fun c_2 => ?_) (fun c_2 => ?_)
    · skip
      have c_2 : r < (cR S) := n_lt (a := r) (b := cR S) (by omega) (by omega) c_2
      exact e_retv hx hb hr hlk dX5_requireRiddle_25
    · skip
      have c_2 : (cR S) ≤ r := n_nlt (a := r) (b := cR S) (by omega) (by omega) c_2
      exfalso; omega

theorem dX5_requireRange_0 : decode cX5_requireRange 0 = .ok (.iload_n 0, 1) := by decide +kernel
theorem dX5_requireRange_1 : decode cX5_requireRange 1 = .ok (.iload_n 1, 1) := by decide +kernel
theorem dX5_requireRange_2 : decode cX5_requireRange 2 = .ok (.if_icmp .lt 8, 3) := by decide +kernel
theorem dX5_requireRange_5 : decode cX5_requireRange 5 = .ok (.iload_n 0, 1) := by decide +kernel
theorem dX5_requireRange_6 : decode cX5_requireRange 6 = .ok (.iload_n 2, 1) := by decide +kernel
theorem dX5_requireRange_7 : decode cX5_requireRange 7 = .ok (.if_icmp .le 13, 3) := by decide +kernel
theorem dX5_requireRange_20 : decode cX5_requireRange 20 = .ok (.return_, 1) := by decide +kernel
set_option maxHeartbeats 4000000 in
set_option maxRecDepth 100000 in
theorem c_X5_requireRange (l : Launch) (D : va_G) (cI cZ cL : ClassId) (ws : va_W) (v : Int32) (lo : Int32) (up : Int32) (hok : okr v lo up = true) : RD l D cI cZ cL yX5_requireRange cX5_requireRange 3 none 0 [.int v, .int lo, .int up] ws none := by
  refine RD.of (by decide) (Nat.le_of_ble_eq_true rfl) ?_
  intro p e s m args below meth c ls hx hb hr hml hown hlk hE hP hl
  have hl : lv_has ls 3 [(0, .int v), (1, .int lo), (2, .int up)] := hl
  refine lv_iload_n hx hb dX5_requireRange_0 rfl (lv_at hl 0 rfl) ?_
  refine lv_iload_n hx hb dX5_requireRange_1 rfl (lv_at hl 1 rfl) ?_
  refine lv_icmp_lt (tgt := 10) hx hb dX5_requireRange_2 (by decide) (fun c_1 => ?_) (fun c_1 => ?_)
  · skip
    exact absurd hok (by simp [okr, c_1])
  · skip
    refine lv_iload_n hx hb dX5_requireRange_5 rfl (lv_at hl 0 rfl) ?_
    refine lv_iload_n hx hb dX5_requireRange_6 rfl (lv_at hl 2 rfl) ?_
    refine lv_icmp_le (tgt := 20) hx hb dX5_requireRange_7 (by decide) (fun c_2 => ?_) (fun c_2 => ?_)
    · skip
      exact e_retv hx hb hr hlk dX5_requireRange_20
    · skip
      exact absurd hok (by simp [okr, c_1, c_2])

theorem dX5_requireTeam_12 : decode cX5_requireTeam 12 = .ok (.new 248, 3) := by decide +kernel
theorem dX5_requireTeam_15 : decode cX5_requireTeam 15 = .ok (.dup, 1) := by decide +kernel
theorem dX5_requireTeam_16 : decode cX5_requireTeam 16 = .ok (.ldc 250, 2) := by decide +kernel
theorem dX5_requireTeam_18 : decode cX5_requireTeam 18 = .ok (.invokespecial 252, 3) := by decide +kernel
theorem dX5_requireTeam_21 : decode cX5_requireTeam 21 = .ok (.athrow, 1) := by decide +kernel
set_option maxHeartbeats 4000000 in
set_option maxRecDepth 100000 in
theorem c_X5_requireTeam_T (l : Launch) (hfl : l.flags = flags0) (D : va_G) (cI cZ cL : ClassId) (ad : Nat → Nat) (S : Mem) (x : Int32) (hI : I0 S) (hno : okn x (cT S) = false) : TH l D cI cZ cL yX5_requireTeam cX5_requireTeam 2 none 6 [.ref (ad 0), .int x] (wC ad cI S) "java/lang/IndexOutOfBoundsException" := by
  refine TH.of (by decide) (Nat.le_of_ble_eq_true rfl) ?_
  intro p e s m args below meth c ls hx hb hr hml hown hlk hxt hE hT hZ hP hl
  have hl : lv_has ls 2 [(0, .ref (ad 0)), (1, .int x)] := hl
  have hT8 := hI.T8
  have hR16 := hI.R16
  have hN200 := hI.N200
  refine lv_iload_n hx hb dX5_requireTeam_0 rfl (lv_at hl 1 rfl) ?_
  refine lv_if_lt (tgt := 12) hx hb dX5_requireTeam_1 (by decide) (fun c_1 => ?_) (fun c_1 => ?_)
  · skip
    obtain ⟨sa, hsa⟩ := hT "PuzzleRegistry" 250 "there is no such team" (List.mem_of_getElem? (i := 492) (by decide +kernel))
    exact vx_throwS (rest := []) (A := q_no) (names := tw_names) hx hb (q_flags hfl) hown rfl tw_names_ok (hE.1 _ w_440 args) (hE.1 _ w_73 args) hsa (fun w h => hE.1 w (tw_X5_248_252 w h) args) tw_X5_248_252_g hZ.1 hZ.2 va_S.rf (hl.1.trans hml.symm) dX5_requireTeam_12 dX5_requireTeam_15 dX5_requireTeam_16 dX5_requireTeam_18 dX5_requireTeam_21 (fun x hx => (hxt x hx).elim) (Nat.le_of_ble_eq_true rfl) (Nat.le_of_ble_eq_true rfl) (Nat.le_of_ble_eq_true rfl) (Nat.le_of_ble_eq_true rfl) hlk (fun t h1 h2 h3 => ⟨rfl, h2, fun q h4 _ => h3 q h4⟩) (fun _ h => nomatch h) (Nat.le_refl _) (Nat.le_refl _)
  · skip
    refine lv_iload_n hx hb dX5_requireTeam_4 rfl (lv_at hl 1 rfl) ?_
    refine lv_aload_n hx hb dX5_requireTeam_5 rfl (lv_at hl 0 rfl) ?_
    refine q_get (v := .int (S 0 9)) hx hb hown hE inT_X5 hP 0 rfl rfl 9 (by decide) w_221 rfl dX5_requireTeam_6 ?_
    refine q_top (y := nI (cT S)) (I0.T hI) ?_
    refine lv_icmp_lt (tgt := 22) hx hb dX5_requireTeam_9 (by decide) (fun c_2 => ?_) (fun c_2 => ?_)
    · skip
      exact absurd c_2 (okn_n0 hno c_1 (by omega))
    · skip
      obtain ⟨sa, hsa⟩ := hT "PuzzleRegistry" 250 "there is no such team" (List.mem_of_getElem? (i := 492) (by decide +kernel))
      exact vx_throwS (rest := []) (A := q_no) (names := tw_names) hx hb (q_flags hfl) hown rfl tw_names_ok (hE.1 _ w_440 args) (hE.1 _ w_73 args) hsa (fun w h => hE.1 w (tw_X5_248_252 w h) args) tw_X5_248_252_g hZ.1 hZ.2 va_S.rf (hl.1.trans hml.symm) dX5_requireTeam_12 dX5_requireTeam_15 dX5_requireTeam_16 dX5_requireTeam_18 dX5_requireTeam_21 (fun x hx => (hxt x hx).elim) (Nat.le_of_ble_eq_true rfl) (Nat.le_of_ble_eq_true rfl) (Nat.le_of_ble_eq_true rfl) (Nat.le_of_ble_eq_true rfl) hlk (fun t h1 h2 h3 => ⟨rfl, h2, fun q h4 _ => h3 q h4⟩) (fun _ h => nomatch h) (Nat.le_refl _) (Nat.le_refl _)

theorem dX5_requireRiddle_15 : decode cX5_requireRiddle 15 = .ok (.new 248, 3) := by decide +kernel
theorem dX5_requireRiddle_18 : decode cX5_requireRiddle 18 = .ok (.dup, 1) := by decide +kernel
theorem dX5_requireRiddle_19 : decode cX5_requireRiddle 19 = .ok (.ldc 253, 2) := by decide +kernel
theorem dX5_requireRiddle_21 : decode cX5_requireRiddle 21 = .ok (.invokespecial 252, 3) := by decide +kernel
theorem dX5_requireRiddle_24 : decode cX5_requireRiddle 24 = .ok (.athrow, 1) := by decide +kernel
set_option maxHeartbeats 4000000 in
set_option maxRecDepth 100000 in
theorem c_X5_requireRiddle_T (l : Launch) (hfl : l.flags = flags0) (D : va_G) (cI cZ cL : ClassId) (ad : Nat → Nat) (S : Mem) (x : Int32) (hI : I0 S) (hno : okn x (cR S) = false) : TH l D cI cZ cL yX5_requireRiddle cX5_requireRiddle 2 none 6 [.ref (ad 0), .int x] (wC ad cI S) "java/lang/IndexOutOfBoundsException" := by
  refine TH.of (by decide) (Nat.le_of_ble_eq_true rfl) ?_
  intro p e s m args below meth c ls hx hb hr hml hown hlk hxt hE hT hZ hP hl
  have hl : lv_has ls 2 [(0, .ref (ad 0)), (1, .int x)] := hl
  have hT8 := hI.T8
  have hR16 := hI.R16
  have hN200 := hI.N200
  refine lv_iload_n hx hb dX5_requireRiddle_0 rfl (lv_at hl 1 rfl) ?_
  refine lv_if_lt (tgt := 15) hx hb dX5_requireRiddle_1 (by decide) (fun c_1 => ?_) (fun c_1 => ?_)
  · skip
    obtain ⟨sa, hsa⟩ := hT "PuzzleRegistry" 253 "there is no such riddle" (List.mem_of_getElem? (i := 449) (by decide +kernel))
    exact vx_throwS (rest := []) (A := q_no) (names := tw_names) hx hb (q_flags hfl) hown rfl tw_names_ok (hE.1 _ w_440 args) (hE.1 _ w_73 args) hsa (fun w h => hE.1 w (tw_X5_248_252 w h) args) tw_X5_248_252_g hZ.1 hZ.2 va_S.rf (hl.1.trans hml.symm) dX5_requireRiddle_15 dX5_requireRiddle_18 dX5_requireRiddle_19 dX5_requireRiddle_21 dX5_requireRiddle_24 (fun x hx => (hxt x hx).elim) (Nat.le_of_ble_eq_true rfl) (Nat.le_of_ble_eq_true rfl) (Nat.le_of_ble_eq_true rfl) (Nat.le_of_ble_eq_true rfl) hlk (fun t h1 h2 h3 => ⟨rfl, h2, fun q h4 _ => h3 q h4⟩) (fun _ h => nomatch h) (Nat.le_refl _) (Nat.le_refl _)
  · skip
    refine lv_iload_n hx hb dX5_requireRiddle_4 rfl (lv_at hl 1 rfl) ?_
    refine lv_aload_n hx hb dX5_requireRiddle_5 rfl (lv_at hl 0 rfl) ?_
    refine q_get (v := .ref (ad 1)) hx hb hown hE inT_X5 hP 0 rfl rfl 0 (by decide) w_212 rfl dX5_requireRiddle_6 ?_
    refine q_getN (v := .int (S 1 6)) hx hb hown hE inT_X3 hP 1 rfl rfl 6 (by decide) w_104 rfl dX5_requireRiddle_9 ?_
    refine q_top (y := nI (cR S)) (I0.R hI) ?_
    refine lv_icmp_lt (tgt := 25) hx hb dX5_requireRiddle_12 (by decide) (fun c_2 => ?_) (fun c_2 => ?_)
    · skip
      exact absurd c_2 (okn_n0 hno c_1 (by omega))
    · skip
      obtain ⟨sa, hsa⟩ := hT "PuzzleRegistry" 253 "there is no such riddle" (List.mem_of_getElem? (i := 449) (by decide +kernel))
      exact vx_throwS (rest := []) (A := q_no) (names := tw_names) hx hb (q_flags hfl) hown rfl tw_names_ok (hE.1 _ w_440 args) (hE.1 _ w_73 args) hsa (fun w h => hE.1 w (tw_X5_248_252 w h) args) tw_X5_248_252_g hZ.1 hZ.2 va_S.rf (hl.1.trans hml.symm) dX5_requireRiddle_15 dX5_requireRiddle_18 dX5_requireRiddle_19 dX5_requireRiddle_21 dX5_requireRiddle_24 (fun x hx => (hxt x hx).elim) (Nat.le_of_ble_eq_true rfl) (Nat.le_of_ble_eq_true rfl) (Nat.le_of_ble_eq_true rfl) (Nat.le_of_ble_eq_true rfl) hlk (fun t h1 h2 h3 => ⟨rfl, h2, fun q h4 _ => h3 q h4⟩) (fun _ h => nomatch h) (Nat.le_refl _) (Nat.le_refl _)

theorem dX5_requireRange_10 : decode cX5_requireRange 10 = .ok (.new 89, 3) := by decide +kernel
theorem dX5_requireRange_13 : decode cX5_requireRange 13 = .ok (.dup, 1) := by decide +kernel
theorem dX5_requireRange_14 : decode cX5_requireRange 14 = .ok (.ldc 255, 2) := by decide +kernel
theorem dX5_requireRange_16 : decode cX5_requireRange 16 = .ok (.invokespecial 93, 3) := by decide +kernel
theorem dX5_requireRange_19 : decode cX5_requireRange 19 = .ok (.athrow, 1) := by decide +kernel
set_option maxHeartbeats 4000000 in
set_option maxRecDepth 100000 in
theorem c_X5_requireRange_T (l : Launch) (hfl : l.flags = flags0) (D : va_G) (cI cZ cL : ClassId) (ws : va_W) (v : Int32) (lo : Int32) (up : Int32) (hno : okr v lo up = false) : TH l D cI cZ cL yX5_requireRange cX5_requireRange 3 none 6 [.int v, .int lo, .int up] ws "java/lang/IllegalArgumentException" := by
  refine TH.of (by decide) (Nat.le_of_ble_eq_true rfl) ?_
  intro p e s m args below meth c ls hx hb hr hml hown hlk hxt hE hT hZ hP hl
  have hl : lv_has ls 3 [(0, .int v), (1, .int lo), (2, .int up)] := hl
  refine lv_iload_n hx hb dX5_requireRange_0 rfl (lv_at hl 0 rfl) ?_
  refine lv_iload_n hx hb dX5_requireRange_1 rfl (lv_at hl 1 rfl) ?_
  refine lv_icmp_lt (tgt := 10) hx hb dX5_requireRange_2 (by decide) (fun c_1 => ?_) (fun c_1 => ?_)
  · skip
    obtain ⟨sa, hsa⟩ := hT "PuzzleRegistry" 255 "an argument is out of its range" (List.mem_of_getElem? (i := 373) (by decide +kernel))
    exact vx_throwS (rest := []) (A := q_no) (names := tw_names) hx hb (q_flags hfl) hown rfl tw_names_ok (hE.1 _ w_331 args) (hE.1 _ w_71 args) hsa (fun w h => hE.1 w (tw_X5_89_93 w h) args) tw_X5_89_93_g hZ.1 hZ.2 va_S.rf (hl.1.trans hml.symm) dX5_requireRange_10 dX5_requireRange_13 dX5_requireRange_14 dX5_requireRange_16 dX5_requireRange_19 (fun x hx => (hxt x hx).elim) (Nat.le_of_ble_eq_true rfl) (Nat.le_of_ble_eq_true rfl) (Nat.le_of_ble_eq_true rfl) (Nat.le_of_ble_eq_true rfl) hlk (fun t h1 h2 h3 => ⟨rfl, h2, fun q h4 _ => h3 q h4⟩) (fun _ h => nomatch h) (Nat.le_refl _) (Nat.le_refl _)
  · skip
    refine lv_iload_n hx hb dX5_requireRange_5 rfl (lv_at hl 0 rfl) ?_
    refine lv_iload_n hx hb dX5_requireRange_6 rfl (lv_at hl 2 rfl) ?_
    refine lv_icmp_le (tgt := 20) hx hb dX5_requireRange_7 (by decide) (fun c_2 => ?_) (fun c_2 => ?_)
    · skip
      exact absurd hno (by simp [okr, c_1, c_2])
    · skip
      obtain ⟨sa, hsa⟩ := hT "PuzzleRegistry" 255 "an argument is out of its range" (List.mem_of_getElem? (i := 373) (by decide +kernel))
      exact vx_throwS (rest := []) (A := q_no) (names := tw_names) hx hb (q_flags hfl) hown rfl tw_names_ok (hE.1 _ w_331 args) (hE.1 _ w_71 args) hsa (fun w h => hE.1 w (tw_X5_89_93 w h) args) tw_X5_89_93_g hZ.1 hZ.2 va_S.rf (hl.1.trans hml.symm) dX5_requireRange_10 dX5_requireRange_13 dX5_requireRange_14 dX5_requireRange_16 dX5_requireRange_19 (fun x hx => (hxt x hx).elim) (Nat.le_of_ble_eq_true rfl) (Nat.le_of_ble_eq_true rfl) (Nat.le_of_ble_eq_true rfl) (Nat.le_of_ble_eq_true rfl) hlk (fun t h1 h2 h3 => ⟨rfl, h2, fun q h4 _ => h3 q h4⟩) (fun _ h => nomatch h) (Nat.le_refl _) (Nat.le_refl _)
end
