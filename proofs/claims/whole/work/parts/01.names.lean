-- ===== PART A: goes FIRST, ahead of the names: the tables' words, and 'selects' of the private methods out of them =====
/-- a private method of a class that the tables say can be made, by its rows of tables_1 -/
def lw_okq (q : MethodName × Nat) : Prop := (q.1.cls ≠ "java/lang/invoke/MethodHandle" ∧ q.1.cls ≠ "java/lang/invoke/VarHandle") ∧ Cond.instantiable q.1.cls q.2 ∈ tables_1 ∧ Cond.privateMethod q.1 ∈ tables_1 ∧ Cond.instanceMethod q.1 ∈ tables_1
theorem lw_p0 : lw_okq (⟨"BoardStones$Reader", "nextToken", "()V"⟩, 7) := ⟨⟨by decide +kernel, by decide +kernel⟩, List.mem_of_getElem? (i := 23) (by decide +kernel), List.mem_of_getElem? (i := 315) (by decide +kernel), List.mem_of_getElem? (i := 316) (by decide +kernel)⟩
theorem lw_p1 : lw_okq (⟨"BoardStones$Reader", "takeLetters", "()V"⟩, 7) := ⟨⟨by decide +kernel, by decide +kernel⟩, List.mem_of_getElem? (i := 23) (by decide +kernel), List.mem_of_getElem? (i := 322) (by decide +kernel), List.mem_of_getElem? (i := 323) (by decide +kernel)⟩
theorem lw_p2 : lw_okq (⟨"BoardStones$Reader", "takeNumber", "()V"⟩, 7) := ⟨⟨by decide +kernel, by decide +kernel⟩, List.mem_of_getElem? (i := 23) (by decide +kernel), List.mem_of_getElem? (i := 329) (by decide +kernel), List.mem_of_getElem? (i := 330) (by decide +kernel)⟩
theorem lw_p3 : lw_okq (⟨"BoardStones$Reader", "readItem", "(LBoardStones$House;I)V"⟩, 7) := ⟨⟨by decide +kernel, by decide +kernel⟩, List.mem_of_getElem? (i := 23) (by decide +kernel), List.mem_of_getElem? (i := 336) (by decide +kernel), List.mem_of_getElem? (i := 337) (by decide +kernel)⟩
theorem lw_p4 : lw_okq (⟨"BoardStones$Reader", "readRooms", "(LBoardStones$House;I)V"⟩, 7) := ⟨⟨by decide +kernel, by decide +kernel⟩, List.mem_of_getElem? (i := 23) (by decide +kernel), List.mem_of_getElem? (i := 340) (by decide +kernel), List.mem_of_getElem? (i := 341) (by decide +kernel)⟩
theorem lw_p5 : lw_okq (⟨"BoardStones$Reader", "readNumber", "(II)I"⟩, 7) := ⟨⟨by decide +kernel, by decide +kernel⟩, List.mem_of_getElem? (i := 23) (by decide +kernel), List.mem_of_getElem? (i := 344) (by decide +kernel), List.mem_of_getElem? (i := 345) (by decide +kernel)⟩
theorem lw_p6 : lw_okq (⟨"BoardStones$Reader", "readStop", "()V"⟩, 7) := ⟨⟨by decide +kernel, by decide +kernel⟩, List.mem_of_getElem? (i := 23) (by decide +kernel), List.mem_of_getElem? (i := 348) (by decide +kernel), List.mem_of_getElem? (i := 349) (by decide +kernel)⟩
theorem lw_p7 : lw_okq (⟨"BoardStones$Reader", "readPath", "(LBoardStones$House;)V"⟩, 7) := ⟨⟨by decide +kernel, by decide +kernel⟩, List.mem_of_getElem? (i := 23) (by decide +kernel), List.mem_of_getElem? (i := 352) (by decide +kernel), List.mem_of_getElem? (i := 353) (by decide +kernel)⟩
theorem lw_p8 : lw_okq (⟨"BoardStones$Reader", "refuseAlike", "(II)V"⟩, 7) := ⟨⟨by decide +kernel, by decide +kernel⟩, List.mem_of_getElem? (i := 23) (by decide +kernel), List.mem_of_getElem? (i := 356) (by decide +kernel), List.mem_of_getElem? (i := 357) (by decide +kernel)⟩
theorem lw_p9 : lw_okq (⟨"BoardStones$Reader", "readDirector", "(LBoardStones$House;)V"⟩, 7) := ⟨⟨by decide +kernel, by decide +kernel⟩, List.mem_of_getElem? (i := 23) (by decide +kernel), List.mem_of_getElem? (i := 364) (by decide +kernel), List.mem_of_getElem? (i := 365) (by decide +kernel)⟩
theorem lw_p10 : lw_okq (⟨"BoardStones$Reader", "readFriends", "(LBoardStones$House;)V"⟩, 7) := ⟨⟨by decide +kernel, by decide +kernel⟩, List.mem_of_getElem? (i := 23) (by decide +kernel), List.mem_of_getElem? (i := 372) (by decide +kernel), List.mem_of_getElem? (i := 373) (by decide +kernel)⟩
theorem lw_p11 : lw_okq (⟨"BoardStones$Reader", "readChild", "(LBoardStones$House;)V"⟩, 7) := ⟨⟨by decide +kernel, by decide +kernel⟩, List.mem_of_getElem? (i := 23) (by decide +kernel), List.mem_of_getElem? (i := 384) (by decide +kernel), List.mem_of_getElem? (i := 385) (by decide +kernel)⟩
theorem lw_p12 : lw_okq (⟨"BoardStones", "whoMayGo", "(I)I"⟩, 10) := ⟨⟨by decide +kernel, by decide +kernel⟩, List.mem_of_getElem? (i := 15) (by decide +kernel), List.mem_of_getElem? (i := 407) (by decide +kernel), List.mem_of_getElem? (i := 408) (by decide +kernel)⟩
theorem lw_p13 : lw_okq (⟨"BoardStones", "mayGo", "(II)Z"⟩, 10) := ⟨⟨by decide +kernel, by decide +kernel⟩, List.mem_of_getElem? (i := 15) (by decide +kernel), List.mem_of_getElem? (i := 411) (by decide +kernel), List.mem_of_getElem? (i := 412) (by decide +kernel)⟩
theorem lw_p14 : lw_okq (⟨"BoardStones", "strengthLeft", "(I)I"⟩, 10) := ⟨⟨by decide +kernel, by decide +kernel⟩, List.mem_of_getElem? (i := 15) (by decide +kernel), List.mem_of_getElem? (i := 415) (by decide +kernel), List.mem_of_getElem? (i := 416) (by decide +kernel)⟩
theorem lw_p15 : lw_okq (⟨"BoardStones$History", "loseOldest", "()V"⟩, 2) := ⟨⟨by decide +kernel, by decide +kernel⟩, List.mem_of_getElem? (i := 159) (by decide +kernel), List.mem_of_getElem? (i := 448) (by decide +kernel), List.mem_of_getElem? (i := 449) (by decide +kernel)⟩
def lw_privs_1 : List (MethodName × Nat) := [(⟨"BoardStones$Reader", "nextToken", "()V"⟩, 7), (⟨"BoardStones$Reader", "takeLetters", "()V"⟩, 7), (⟨"BoardStones$Reader", "takeNumber", "()V"⟩, 7), (⟨"BoardStones$Reader", "readItem", "(LBoardStones$House;I)V"⟩, 7), (⟨"BoardStones$Reader", "readRooms", "(LBoardStones$House;I)V"⟩, 7), (⟨"BoardStones$Reader", "readNumber", "(II)I"⟩, 7), (⟨"BoardStones$Reader", "readStop", "()V"⟩, 7), (⟨"BoardStones$Reader", "readPath", "(LBoardStones$House;)V"⟩, 7), (⟨"BoardStones$Reader", "refuseAlike", "(II)V"⟩, 7), (⟨"BoardStones$Reader", "readDirector", "(LBoardStones$House;)V"⟩, 7), (⟨"BoardStones$Reader", "readFriends", "(LBoardStones$House;)V"⟩, 7), (⟨"BoardStones$Reader", "readChild", "(LBoardStones$House;)V"⟩, 7), (⟨"BoardStones", "whoMayGo", "(I)I"⟩, 10), (⟨"BoardStones", "mayGo", "(II)Z"⟩, 10), (⟨"BoardStones", "strengthLeft", "(I)I"⟩, 10), (⟨"BoardStones$History", "loseOldest", "()V"⟩, 2)]
theorem lw_r1 : ∀ q ∈ lw_privs_1, lw_okq q := List.forall_mem_cons.mpr ⟨lw_p0, List.forall_mem_cons.mpr ⟨lw_p1, List.forall_mem_cons.mpr ⟨lw_p2, List.forall_mem_cons.mpr ⟨lw_p3, List.forall_mem_cons.mpr ⟨lw_p4, List.forall_mem_cons.mpr ⟨lw_p5, List.forall_mem_cons.mpr ⟨lw_p6, List.forall_mem_cons.mpr ⟨lw_p7, List.forall_mem_cons.mpr ⟨lw_p8, List.forall_mem_cons.mpr ⟨lw_p9, List.forall_mem_cons.mpr ⟨lw_p10, List.forall_mem_cons.mpr ⟨lw_p11, List.forall_mem_cons.mpr ⟨lw_p12, List.forall_mem_cons.mpr ⟨lw_p13, List.forall_mem_cons.mpr ⟨lw_p14, List.forall_mem_cons.mpr ⟨lw_p15, fun _ h => absurd h List.not_mem_nil⟩⟩⟩⟩⟩⟩⟩⟩⟩⟩⟩⟩⟩⟩⟩⟩
theorem lw_p16 : lw_okq (⟨"BoardStones", "whoIsIn", "(I)I"⟩, 10) := ⟨⟨by decide +kernel, by decide +kernel⟩, List.mem_of_getElem? (i := 15) (by decide +kernel), List.mem_of_getElem? (i := 482) (by decide +kernel), List.mem_of_getElem? (i := 483) (by decide +kernel)⟩
theorem lw_p17 : lw_okq (⟨"BoardStones$Ways", "lessen", "(III)V"⟩, 4) := ⟨⟨by decide +kernel, by decide +kernel⟩, List.mem_of_getElem? (i := 197) (by decide +kernel), List.mem_of_getElem? (i := 523) (by decide +kernel), List.mem_of_getElem? (i := 524) (by decide +kernel)⟩
theorem lw_p18 : lw_okq (⟨"BoardStones", "stonesTogether", "()I"⟩, 10) := ⟨⟨by decide +kernel, by decide +kernel⟩, List.mem_of_getElem? (i := 15) (by decide +kernel), List.mem_of_getElem? (i := 545) (by decide +kernel), List.mem_of_getElem? (i := 546) (by decide +kernel)⟩
theorem lw_p19 : lw_okq (⟨"BoardStones$Couples", "mostOf", "(ILBoardStones$House;LBoardStones$Now;)I"⟩, 3) := ⟨⟨by decide +kernel, by decide +kernel⟩, List.mem_of_getElem? (i := 218) (by decide +kernel), List.mem_of_getElem? (i := 578) (by decide +kernel), List.mem_of_getElem? (i := 579) (by decide +kernel)⟩
theorem lw_p20 : lw_okq (⟨"BoardStones$Couples", "settle", "(IILBoardStones$House;LBoardStones$Now;)I"⟩, 3) := ⟨⟨by decide +kernel, by decide +kernel⟩, List.mem_of_getElem? (i := 218) (by decide +kernel), List.mem_of_getElem? (i := 590) (by decide +kernel), List.mem_of_getElem? (i := 591) (by decide +kernel)⟩
theorem lw_p21 : lw_okq (⟨"BoardStones", "asDirector", "(I)I"⟩, 10) := ⟨⟨by decide +kernel, by decide +kernel⟩, List.mem_of_getElem? (i := 15) (by decide +kernel), List.mem_of_getElem? (i := 636) (by decide +kernel), List.mem_of_getElem? (i := 637) (by decide +kernel)⟩
theorem lw_p22 : lw_okq (⟨"BoardStones", "asFounder", "(I)I"⟩, 10) := ⟨⟨by decide +kernel, by decide +kernel⟩, List.mem_of_getElem? (i := 15) (by decide +kernel), List.mem_of_getElem? (i := 640) (by decide +kernel), List.mem_of_getElem? (i := 641) (by decide +kernel)⟩
theorem lw_p23 : lw_okq (⟨"BoardStones", "asChair", "(I)I"⟩, 10) := ⟨⟨by decide +kernel, by decide +kernel⟩, List.mem_of_getElem? (i := 15) (by decide +kernel), List.mem_of_getElem? (i := 645) (by decide +kernel), List.mem_of_getElem? (i := 646) (by decide +kernel)⟩
theorem lw_p24 : lw_okq (⟨"BoardStones", "asElder", "(I)I"⟩, 10) := ⟨⟨by decide +kernel, by decide +kernel⟩, List.mem_of_getElem? (i := 15) (by decide +kernel), List.mem_of_getElem? (i := 650) (by decide +kernel), List.mem_of_getElem? (i := 651) (by decide +kernel)⟩
theorem lw_p25 : lw_okq (⟨"BoardStones", "asBursar", "(I)I"⟩, 10) := ⟨⟨by decide +kernel, by decide +kernel⟩, List.mem_of_getElem? (i := 15) (by decide +kernel), List.mem_of_getElem? (i := 655) (by decide +kernel), List.mem_of_getElem? (i := 656) (by decide +kernel)⟩
theorem lw_p26 : lw_okq (⟨"BoardStones", "asClerk", "(I)I"⟩, 10) := ⟨⟨by decide +kernel, by decide +kernel⟩, List.mem_of_getElem? (i := 15) (by decide +kernel), List.mem_of_getElem? (i := 660) (by decide +kernel), List.mem_of_getElem? (i := 661) (by decide +kernel)⟩
theorem lw_p27 : lw_okq (⟨"BoardStonesModel", "next", "()V"⟩, 34) := ⟨⟨by decide +kernel, by decide +kernel⟩, List.mem_of_getElem? (i := 694) (by decide +kernel), List.mem_of_getElem? (i := 820) (by decide +kernel), List.mem_of_getElem? (i := 821) (by decide +kernel)⟩
theorem lw_p28 : lw_okq (⟨"BoardStonesModel", "readRooms", "(I)V"⟩, 34) := ⟨⟨by decide +kernel, by decide +kernel⟩, List.mem_of_getElem? (i := 694) (by decide +kernel), List.mem_of_getElem? (i := 830) (by decide +kernel), List.mem_of_getElem? (i := 831) (by decide +kernel)⟩
theorem lw_p29 : lw_okq (⟨"BoardStonesModel", "must", "(Z)V"⟩, 34) := ⟨⟨by decide +kernel, by decide +kernel⟩, List.mem_of_getElem? (i := 694) (by decide +kernel), List.mem_of_getElem? (i := 834) (by decide +kernel), List.mem_of_getElem? (i := 835) (by decide +kernel)⟩
theorem lw_p30 : lw_okq (⟨"BoardStonesModel", "goOn", "()V"⟩, 34) := ⟨⟨by decide +kernel, by decide +kernel⟩, List.mem_of_getElem? (i := 694) (by decide +kernel), List.mem_of_getElem? (i := 838) (by decide +kernel), List.mem_of_getElem? (i := 839) (by decide +kernel)⟩
theorem lw_p31 : lw_okq (⟨"BoardStonesModel", "number", "(II)I"⟩, 34) := ⟨⟨by decide +kernel, by decide +kernel⟩, List.mem_of_getElem? (i := 694) (by decide +kernel), List.mem_of_getElem? (i := 842) (by decide +kernel), List.mem_of_getElem? (i := 843) (by decide +kernel)⟩
def lw_privs_2 : List (MethodName × Nat) := [(⟨"BoardStones", "whoIsIn", "(I)I"⟩, 10), (⟨"BoardStones$Ways", "lessen", "(III)V"⟩, 4), (⟨"BoardStones", "stonesTogether", "()I"⟩, 10), (⟨"BoardStones$Couples", "mostOf", "(ILBoardStones$House;LBoardStones$Now;)I"⟩, 3), (⟨"BoardStones$Couples", "settle", "(IILBoardStones$House;LBoardStones$Now;)I"⟩, 3), (⟨"BoardStones", "asDirector", "(I)I"⟩, 10), (⟨"BoardStones", "asFounder", "(I)I"⟩, 10), (⟨"BoardStones", "asChair", "(I)I"⟩, 10), (⟨"BoardStones", "asElder", "(I)I"⟩, 10), (⟨"BoardStones", "asBursar", "(I)I"⟩, 10), (⟨"BoardStones", "asClerk", "(I)I"⟩, 10), (⟨"BoardStonesModel", "next", "()V"⟩, 34), (⟨"BoardStonesModel", "readRooms", "(I)V"⟩, 34), (⟨"BoardStonesModel", "must", "(Z)V"⟩, 34), (⟨"BoardStonesModel", "goOn", "()V"⟩, 34), (⟨"BoardStonesModel", "number", "(II)I"⟩, 34)]
theorem lw_r2 : ∀ q ∈ lw_privs_2, lw_okq q := List.forall_mem_cons.mpr ⟨lw_p16, List.forall_mem_cons.mpr ⟨lw_p17, List.forall_mem_cons.mpr ⟨lw_p18, List.forall_mem_cons.mpr ⟨lw_p19, List.forall_mem_cons.mpr ⟨lw_p20, List.forall_mem_cons.mpr ⟨lw_p21, List.forall_mem_cons.mpr ⟨lw_p22, List.forall_mem_cons.mpr ⟨lw_p23, List.forall_mem_cons.mpr ⟨lw_p24, List.forall_mem_cons.mpr ⟨lw_p25, List.forall_mem_cons.mpr ⟨lw_p26, List.forall_mem_cons.mpr ⟨lw_p27, List.forall_mem_cons.mpr ⟨lw_p28, List.forall_mem_cons.mpr ⟨lw_p29, List.forall_mem_cons.mpr ⟨lw_p30, List.forall_mem_cons.mpr ⟨lw_p31, fun _ h => absurd h List.not_mem_nil⟩⟩⟩⟩⟩⟩⟩⟩⟩⟩⟩⟩⟩⟩⟩⟩
theorem lw_p32 : lw_okq (⟨"BoardStonesModel", "end", "()V"⟩, 34) := ⟨⟨by decide +kernel, by decide +kernel⟩, List.mem_of_getElem? (i := 694) (by decide +kernel), List.mem_of_getElem? (i := 846) (by decide +kernel), List.mem_of_getElem? (i := 847) (by decide +kernel)⟩
theorem lw_p33 : lw_okq (⟨"BoardStonesModel", "readPath", "()V"⟩, 34) := ⟨⟨by decide +kernel, by decide +kernel⟩, List.mem_of_getElem? (i := 694) (by decide +kernel), List.mem_of_getElem? (i := 850) (by decide +kernel), List.mem_of_getElem? (i := 851) (by decide +kernel)⟩
theorem lw_p34 : lw_okq (⟨"BoardStonesModel", "unlike", "(II)I"⟩, 34) := ⟨⟨by decide +kernel, by decide +kernel⟩, List.mem_of_getElem? (i := 694) (by decide +kernel), List.mem_of_getElem? (i := 854) (by decide +kernel), List.mem_of_getElem? (i := 855) (by decide +kernel)⟩
theorem lw_p35 : lw_okq (⟨"BoardStonesModel", "readDirector", "()V"⟩, 34) := ⟨⟨by decide +kernel, by decide +kernel⟩, List.mem_of_getElem? (i := 694) (by decide +kernel), List.mem_of_getElem? (i := 858) (by decide +kernel), List.mem_of_getElem? (i := 859) (by decide +kernel)⟩
theorem lw_p36 : lw_okq (⟨"BoardStonesModel", "readFriends", "()V"⟩, 34) := ⟨⟨by decide +kernel, by decide +kernel⟩, List.mem_of_getElem? (i := 694) (by decide +kernel), List.mem_of_getElem? (i := 862) (by decide +kernel), List.mem_of_getElem? (i := 863) (by decide +kernel)⟩
theorem lw_p37 : lw_okq (⟨"BoardStonesModel", "readChild", "()V"⟩, 34) := ⟨⟨by decide +kernel, by decide +kernel⟩, List.mem_of_getElem? (i := 694) (by decide +kernel), List.mem_of_getElem? (i := 866) (by decide +kernel), List.mem_of_getElem? (i := 867) (by decide +kernel)⟩
theorem lw_p38 : lw_okq (⟨"BoardStonesModel", "take", "()V"⟩, 34) := ⟨⟨by decide +kernel, by decide +kernel⟩, List.mem_of_getElem? (i := 694) (by decide +kernel), List.mem_of_getElem? (i := 870) (by decide +kernel), List.mem_of_getElem? (i := 871) (by decide +kernel)⟩
theorem lw_p39 : lw_okq (⟨"BoardStonesModel", "isPath", "(I)Z"⟩, 34) := ⟨⟨by decide +kernel, by decide +kernel⟩, List.mem_of_getElem? (i := 694) (by decide +kernel), List.mem_of_getElem? (i := 878) (by decide +kernel), List.mem_of_getElem? (i := 879) (by decide +kernel)⟩
theorem lw_p40 : lw_okq (⟨"BoardStonesModel", "may", "(II)Z"⟩, 34) := ⟨⟨by decide +kernel, by decide +kernel⟩, List.mem_of_getElem? (i := 694) (by decide +kernel), List.mem_of_getElem? (i := 883) (by decide +kernel), List.mem_of_getElem? (i := 884) (by decide +kernel)⟩
theorem lw_p41 : lw_okq (⟨"BoardStonesModel", "of", "(II)I"⟩, 34) := ⟨⟨by decide +kernel, by decide +kernel⟩, List.mem_of_getElem? (i := 694) (by decide +kernel), List.mem_of_getElem? (i := 887) (by decide +kernel), List.mem_of_getElem? (i := 888) (by decide +kernel)⟩
theorem lw_p42 : lw_okq (⟨"BoardStonesModel", "strength", "(I)I"⟩, 34) := ⟨⟨by decide +kernel, by decide +kernel⟩, List.mem_of_getElem? (i := 694) (by decide +kernel), List.mem_of_getElem? (i := 891) (by decide +kernel), List.mem_of_getElem? (i := 892) (by decide +kernel)⟩
theorem lw_p43 : lw_okq (⟨"BoardStonesModel", "isDirector", "(I)Z"⟩, 34) := ⟨⟨by decide +kernel, by decide +kernel⟩, List.mem_of_getElem? (i := 694) (by decide +kernel), List.mem_of_getElem? (i := 899) (by decide +kernel), List.mem_of_getElem? (i := 900) (by decide +kernel)⟩
theorem lw_p44 : lw_okq (⟨"BoardStonesModel", "gravity", "(I)I"⟩, 34) := ⟨⟨by decide +kernel, by decide +kernel⟩, List.mem_of_getElem? (i := 694) (by decide +kernel), List.mem_of_getElem? (i := 903) (by decide +kernel), List.mem_of_getElem? (i := 904) (by decide +kernel)⟩
theorem lw_p45 : lw_okq (⟨"BoardStonesModel", "friends", "(I)I"⟩, 34) := ⟨⟨by decide +kernel, by decide +kernel⟩, List.mem_of_getElem? (i := 694) (by decide +kernel), List.mem_of_getElem? (i := 907) (by decide +kernel), List.mem_of_getElem? (i := 908) (by decide +kernel)⟩
theorem lw_p46 : lw_okq (⟨"BoardStonesModel", "reach", "(I)I"⟩, 34) := ⟨⟨by decide +kernel, by decide +kernel⟩, List.mem_of_getElem? (i := 694) (by decide +kernel), List.mem_of_getElem? (i := 911) (by decide +kernel), List.mem_of_getElem? (i := 912) (by decide +kernel)⟩
theorem lw_p47 : lw_okq (⟨"BoardStonesModel", "lay", "(I)V"⟩, 34) := ⟨⟨by decide +kernel, by decide +kernel⟩, List.mem_of_getElem? (i := 694) (by decide +kernel), List.mem_of_getElem? (i := 915) (by decide +kernel), List.mem_of_getElem? (i := 916) (by decide +kernel)⟩
def lw_privs_3 : List (MethodName × Nat) := [(⟨"BoardStonesModel", "end", "()V"⟩, 34), (⟨"BoardStonesModel", "readPath", "()V"⟩, 34), (⟨"BoardStonesModel", "unlike", "(II)I"⟩, 34), (⟨"BoardStonesModel", "readDirector", "()V"⟩, 34), (⟨"BoardStonesModel", "readFriends", "()V"⟩, 34), (⟨"BoardStonesModel", "readChild", "()V"⟩, 34), (⟨"BoardStonesModel", "take", "()V"⟩, 34), (⟨"BoardStonesModel", "isPath", "(I)Z"⟩, 34), (⟨"BoardStonesModel", "may", "(II)Z"⟩, 34), (⟨"BoardStonesModel", "of", "(II)I"⟩, 34), (⟨"BoardStonesModel", "strength", "(I)I"⟩, 34), (⟨"BoardStonesModel", "isDirector", "(I)Z"⟩, 34), (⟨"BoardStonesModel", "gravity", "(I)I"⟩, 34), (⟨"BoardStonesModel", "friends", "(I)I"⟩, 34), (⟨"BoardStonesModel", "reach", "(I)I"⟩, 34), (⟨"BoardStonesModel", "lay", "(I)V"⟩, 34)]
theorem lw_r3 : ∀ q ∈ lw_privs_3, lw_okq q := List.forall_mem_cons.mpr ⟨lw_p32, List.forall_mem_cons.mpr ⟨lw_p33, List.forall_mem_cons.mpr ⟨lw_p34, List.forall_mem_cons.mpr ⟨lw_p35, List.forall_mem_cons.mpr ⟨lw_p36, List.forall_mem_cons.mpr ⟨lw_p37, List.forall_mem_cons.mpr ⟨lw_p38, List.forall_mem_cons.mpr ⟨lw_p39, List.forall_mem_cons.mpr ⟨lw_p40, List.forall_mem_cons.mpr ⟨lw_p41, List.forall_mem_cons.mpr ⟨lw_p42, List.forall_mem_cons.mpr ⟨lw_p43, List.forall_mem_cons.mpr ⟨lw_p44, List.forall_mem_cons.mpr ⟨lw_p45, List.forall_mem_cons.mpr ⟨lw_p46, List.forall_mem_cons.mpr ⟨lw_p47, fun _ h => absurd h List.not_mem_nil⟩⟩⟩⟩⟩⟩⟩⟩⟩⟩⟩⟩⟩⟩⟩⟩
theorem lw_p48 : lw_okq (⟨"BoardStonesModel", "other", "(II)I"⟩, 34) := ⟨⟨by decide +kernel, by decide +kernel⟩, List.mem_of_getElem? (i := 694) (by decide +kernel), List.mem_of_getElem? (i := 927) (by decide +kernel), List.mem_of_getElem? (i := 928) (by decide +kernel)⟩
theorem lw_p49 : lw_okq (⟨"BoardStonesModel", "keepPast", "()V"⟩, 34) := ⟨⟨by decide +kernel, by decide +kernel⟩, List.mem_of_getElem? (i := 694) (by decide +kernel), List.mem_of_getElem? (i := 931) (by decide +kernel), List.mem_of_getElem? (i := 932) (by decide +kernel)⟩
theorem lw_p50 : lw_okq (⟨"BoardStonesModel", "isRoom", "(I)Z"⟩, 34) := ⟨⟨by decide +kernel, by decide +kernel⟩, List.mem_of_getElem? (i := 694) (by decide +kernel), List.mem_of_getElem? (i := 952) (by decide +kernel), List.mem_of_getElem? (i := 953) (by decide +kernel)⟩
theorem lw_p51 : lw_okq (⟨"BoardStonesModel", "spreadOf", "(I)I"⟩, 34) := ⟨⟨by decide +kernel, by decide +kernel⟩, List.mem_of_getElem? (i := 694) (by decide +kernel), List.mem_of_getElem? (i := 956) (by decide +kernel), List.mem_of_getElem? (i := 957) (by decide +kernel)⟩
theorem lw_p52 : lw_okq (⟨"BoardStonesModel", "meet", "()V"⟩, 34) := ⟨⟨by decide +kernel, by decide +kernel⟩, List.mem_of_getElem? (i := 694) (by decide +kernel), List.mem_of_getElem? (i := 974) (by decide +kernel), List.mem_of_getElem? (i := 975) (by decide +kernel)⟩
theorem lw_p53 : lw_okq (⟨"BoardStonesModel", "fewestToAll", "()I"⟩, 34) := ⟨⟨by decide +kernel, by decide +kernel⟩, List.mem_of_getElem? (i := 694) (by decide +kernel), List.mem_of_getElem? (i := 978) (by decide +kernel), List.mem_of_getElem? (i := 979) (by decide +kernel)⟩
theorem lw_p54 : lw_okq (⟨"BoardStonesModel", "stones", "()I"⟩, 34) := ⟨⟨by decide +kernel, by decide +kernel⟩, List.mem_of_getElem? (i := 694) (by decide +kernel), List.mem_of_getElem? (i := 982) (by decide +kernel), List.mem_of_getElem? (i := 983) (by decide +kernel)⟩
theorem lw_p55 : lw_okq (⟨"BoardStonesModel", "widest", "(II)I"⟩, 34) := ⟨⟨by decide +kernel, by decide +kernel⟩, List.mem_of_getElem? (i := 694) (by decide +kernel), List.mem_of_getElem? (i := 994) (by decide +kernel), List.mem_of_getElem? (i := 995) (by decide +kernel)⟩
theorem lw_p56 : lw_okq (⟨"BoardStonesModel", "layPairs", "()V"⟩, 34) := ⟨⟨by decide +kernel, by decide +kernel⟩, List.mem_of_getElem? (i := 694) (by decide +kernel), List.mem_of_getElem? (i := 1006) (by decide +kernel), List.mem_of_getElem? (i := 1007) (by decide +kernel)⟩
theorem lw_p57 : lw_okq (⟨"BoardStonesModel", "fit", "(II)Z"⟩, 34) := ⟨⟨by decide +kernel, by decide +kernel⟩, List.mem_of_getElem? (i := 694) (by decide +kernel), List.mem_of_getElem? (i := 1010) (by decide +kernel), List.mem_of_getElem? (i := 1011) (by decide +kernel)⟩
theorem lw_p58 : lw_okq (⟨"BoardStonesModel", "whoBits", "()I"⟩, 34) := ⟨⟨by decide +kernel, by decide +kernel⟩, List.mem_of_getElem? (i := 694) (by decide +kernel), List.mem_of_getElem? (i := 1032) (by decide +kernel), List.mem_of_getElem? (i := 1033) (by decide +kernel)⟩
theorem lw_p59 : lw_okq (⟨"BoardStonesModel", "founder", "(I)I"⟩, 34) := ⟨⟨by decide +kernel, by decide +kernel⟩, List.mem_of_getElem? (i := 694) (by decide +kernel), List.mem_of_getElem? (i := 1046) (by decide +kernel), List.mem_of_getElem? (i := 1047) (by decide +kernel)⟩
theorem lw_p60 : lw_okq (⟨"BoardStonesModel", "chair", "(I)I"⟩, 34) := ⟨⟨by decide +kernel, by decide +kernel⟩, List.mem_of_getElem? (i := 694) (by decide +kernel), List.mem_of_getElem? (i := 1051) (by decide +kernel), List.mem_of_getElem? (i := 1052) (by decide +kernel)⟩
def lw_privs_4 : List (MethodName × Nat) := [(⟨"BoardStonesModel", "other", "(II)I"⟩, 34), (⟨"BoardStonesModel", "keepPast", "()V"⟩, 34), (⟨"BoardStonesModel", "isRoom", "(I)Z"⟩, 34), (⟨"BoardStonesModel", "spreadOf", "(I)I"⟩, 34), (⟨"BoardStonesModel", "meet", "()V"⟩, 34), (⟨"BoardStonesModel", "fewestToAll", "()I"⟩, 34), (⟨"BoardStonesModel", "stones", "()I"⟩, 34), (⟨"BoardStonesModel", "widest", "(II)I"⟩, 34), (⟨"BoardStonesModel", "layPairs", "()V"⟩, 34), (⟨"BoardStonesModel", "fit", "(II)Z"⟩, 34), (⟨"BoardStonesModel", "whoBits", "()I"⟩, 34), (⟨"BoardStonesModel", "founder", "(I)I"⟩, 34), (⟨"BoardStonesModel", "chair", "(I)I"⟩, 34)]
theorem lw_r4 : ∀ q ∈ lw_privs_4, lw_okq q := List.forall_mem_cons.mpr ⟨lw_p48, List.forall_mem_cons.mpr ⟨lw_p49, List.forall_mem_cons.mpr ⟨lw_p50, List.forall_mem_cons.mpr ⟨lw_p51, List.forall_mem_cons.mpr ⟨lw_p52, List.forall_mem_cons.mpr ⟨lw_p53, List.forall_mem_cons.mpr ⟨lw_p54, List.forall_mem_cons.mpr ⟨lw_p55, List.forall_mem_cons.mpr ⟨lw_p56, List.forall_mem_cons.mpr ⟨lw_p57, List.forall_mem_cons.mpr ⟨lw_p58, List.forall_mem_cons.mpr ⟨lw_p59, List.forall_mem_cons.mpr ⟨lw_p60, fun _ h => absurd h List.not_mem_nil⟩⟩⟩⟩⟩⟩⟩⟩⟩⟩⟩⟩⟩
def lw_privs : List (MethodName × Nat) := lw_privs_1 ++ (lw_privs_2 ++ (lw_privs_3 ++ (lw_privs_4)))
def lw_tbl : List Cond := k2_sels lw_privs ++ tables_1
theorem lw_privs_ok : ∀ q ∈ lw_privs, lw_okq q := by
  show ∀ q ∈ lw_privs_1 ++ (lw_privs_2 ++ (lw_privs_3 ++ (lw_privs_4))), lw_okq q
  exact List.forall_mem_append.mpr ⟨lw_r1, List.forall_mem_append.mpr ⟨lw_r2, List.forall_mem_append.mpr ⟨lw_r3, lw_r4⟩⟩⟩

/-! ===== BEGIN words of one list among another's, by their places ===== -/
theorem goodIn_r {big : List Cond} (ws : List Cond) (ps : List Nat) (hp : ws = ps.filterMap (fun i => big[i]?)) (h : ws.all goodWord = true) : GoodIn big ws := by
  intro w hw
  have h1 := List.all_eq_true.mp h w hw
  rw [hp] at hw
  obtain ⟨i, -, hi⟩ := List.mem_filterMap.mp hw
  have hm : w ∈ big := by first | exact List.mem_of_getElem? hi | exact List.getElem?_mem hi
  exact ⟨hm, good_of_word h1⟩
theorem goodIn_app {big a b : List Cond} (ha : GoodIn big a) (hb : GoodIn big b) : GoodIn big (a ++ b) := fun w h => (List.mem_append.mp h).elim (ha w) (hb w)
theorem goodIn_ca {big a b : List Cond} {c : Cond} (ha : GoodIn big (c :: a)) (hb : GoodIn big b) : GoodIn big (c :: (a ++ b)) := fun w h => (List.mem_cons.mp h).elim (fun e => ha w (List.mem_cons.mpr (Or.inl e))) (fun h => (List.mem_append.mp h).elim (fun h => ha w (List.mem_cons.mpr (Or.inr h))) (hb w))
theorem goodIn_sub {big ws : List Cond} (hm : ∀ w ∈ ws, w ∈ big) (h : ws.all goodWord = true) : GoodIn big ws := fun w hw => ⟨hm w hw, good_of_word (List.all_eq_true.mp h w hw)⟩
/-! ===== END ===== -/

/-! ===== BEGIN printed: names, fields, word lists, decode rows ===== -/
def RX0 : String := "BoardStones$Couples"
def TX0 : u_T := fun k => match k with
  | 0 => ("BoardStones$Couples", "most", "[I", true)
  | 1 => ("BoardStones$Couples", "partner", "[I", true)
  | _ => ("BoardStones$Couples", "count", "I", false)
def tyX0 : Nat → FieldType := fun k => match k with
  | 0 => .array .int
  | 1 => .array .int
  | _ => .int
abbrev wsX00 : List Cond := u_ws RX0 TX0 3
theorem nmX0 : ∀ a, a < 3 → ∀ b, b < 3 → a ≠ b → (TX0 a).2.1 ≠ (TX0 b).2.1 := by decide +kernel
theorem tyX0_ok : ∀ k, k < 3 → parseFieldDescriptor (TX0 k).2.2.1 = some (tyX0 k) := by decide +kernel
abbrev cX0_init : ByteArray := prog_2_method_1_code
def yX0_init : MethodName := ⟨RX0, "<init>", "()V"⟩
abbrev cX0_find : ByteArray := prog_2_method_2_code
def yX0_find : MethodName := ⟨RX0, "find", "(LBoardStones$House;LBoardStones$Now;)V"⟩
abbrev cX0_mostOf : ByteArray := prog_2_method_3_code
def yX0_mostOf : MethodName := ⟨RX0, "mostOf", "(ILBoardStones$House;LBoardStones$Now;)I"⟩
abbrev cX0_settle : ByteArray := prog_2_method_4_code
def yX0_settle : MethodName := ⟨RX0, "settle", "(IILBoardStones$House;LBoardStones$Now;)I"⟩
abbrev cX0_lowestOf : ByteArray := prog_2_method_5_code
def yX0_lowestOf : MethodName := ⟨RX0, "lowestOf", "(I)I"⟩
abbrev cX0_canPair : ByteArray := prog_2_method_6_code
def yX0_canPair : MethodName := ⟨RX0, "canPair", "(IILBoardStones$House;LBoardStones$Now;)Z"⟩
def RX1 : String := "BoardStones$Fractions"
def TX1 : u_T := fun k => match k with
  | _ => ("", "", "", false)
def tyX1 : Nat → FieldType := fun k => match k with
  | _ => .int
abbrev wsX10 : List Cond := u_ws RX1 TX1 0
theorem nmX1 : ∀ a, a < 0 → ∀ b, b < 0 → a ≠ b → (TX1 a).2.1 ≠ (TX1 b).2.1 := by decide +kernel
theorem tyX1_ok : ∀ k, k < 0 → parseFieldDescriptor (TX1 k).2.2.1 = some (tyX1 k) := by decide +kernel
abbrev cX1_atMost : ByteArray := prog_3_method_2_code
def yX1_atMost : MethodName := ⟨RX1, "atMost", "(III)I"⟩
abbrev cX1_power : ByteArray := prog_3_method_3_code
def yX1_power : MethodName := ⟨RX1, "power", "(II)I"⟩
abbrev cX1_commonDivisor : ByteArray := prog_3_method_4_code
def yX1_commonDivisor : MethodName := ⟨RX1, "commonDivisor", "(II)I"⟩
def RX2 : String := "BoardStones$Hearing"
def TX2 : u_T := fun k => match k with
  | 0 => ("BoardStones$Hearing", "path", "[I", true)
  | 1 => ("BoardStones$Hearing", "went", "[I", true)
  | _ => ("BoardStones$Hearing", "size", "I", false)
def tyX2 : Nat → FieldType := fun k => match k with
  | 0 => .array .int
  | 1 => .array .int
  | _ => .int
abbrev wsX20 : List Cond := u_ws RX2 TX2 3
theorem nmX2 : ∀ a, a < 3 → ∀ b, b < 3 → a ≠ b → (TX2 a).2.1 ≠ (TX2 b).2.1 := by decide +kernel
theorem tyX2_ok : ∀ k, k < 3 → parseFieldDescriptor (TX2 k).2.2.1 = some (tyX2 k) := by decide +kernel
abbrev cX2_init : ByteArray := prog_4_method_1_code
def yX2_init : MethodName := ⟨RX2, "<init>", "()V"⟩
abbrev cX2_add : ByteArray := prog_4_method_2_code
def yX2_add : MethodName := ⟨RX2, "add", "(II)Z"⟩
def RX3 : String := "BoardStones$History"
def TX3 : u_T := fun k => match k with
  | 0 => ("BoardStones$History", "ahead", "[LBoardStones$Now;", true)
  | _ => ("BoardStones$History", "known", "I", false)
def tyX3 : Nat → FieldType := fun k => match k with
  | 0 => .array (.object "BoardStones$Now")
  | _ => .int
abbrev wsX30 : List Cond := u_ws RX3 TX3 2
theorem nmX3 : ∀ a, a < 2 → ∀ b, b < 2 → a ≠ b → (TX3 a).2.1 ≠ (TX3 b).2.1 := by decide +kernel
theorem tyX3_ok : ∀ k, k < 2 → parseFieldDescriptor (TX3 k).2.2.1 = some (tyX3 k) := by decide +kernel
abbrev cX3_init : ByteArray := prog_5_method_1_code
def yX3_init : MethodName := ⟨RX3, "<init>", "()V"⟩
abbrev cX3_remember : ByteArray := prog_5_method_2_code
def yX3_remember : MethodName := ⟨RX3, "remember", "(LBoardStones$Now;)V"⟩
abbrev cX3_takeBack : ByteArray := prog_5_method_3_code
def yX3_takeBack : MethodName := ⟨RX3, "takeBack", "(LBoardStones$Now;)V"⟩
abbrev cX3_copyFrom : ByteArray := prog_5_method_4_code
def yX3_copyFrom : MethodName := ⟨RX3, "copyFrom", "(LBoardStones$History;)V"⟩
abbrev cX3_loseOldest : ByteArray := prog_5_method_5_code
def yX3_loseOldest : MethodName := ⟨RX3, "loseOldest", "()V"⟩
def RX4 : String := "BoardStones$House"
def TX4 : u_T := fun k => match k with
  | 0 => ("BoardStones$House", "rooms", "I", false)
  | 1 => ("BoardStones$House", "paths", "I", false)
  | 2 => ("BoardStones$House", "directors", "I", false)
  | 3 => ("BoardStones$House", "children", "I", false)
  | 4 => ("BoardStones$House", "oneEnd", "[I", true)
  | 5 => ("BoardStones$House", "otherEnd", "[I", true)
  | 6 => ("BoardStones$House", "steps", "[I", true)
  | 7 => ("BoardStones$House", "strength", "[I", true)
  | 8 => ("BoardStones$House", "stone", "[I", true)
  | 9 => ("BoardStones$House", "gravity", "[I", true)
  | 10 => ("BoardStones$House", "room", "[I", true)
  | 11 => ("BoardStones$House", "friends", "[I", true)
  | _ => ("BoardStones$House", "nerve", "[I", true)
def tyX4 : Nat → FieldType := fun k => match k with
  | 0 => .int
  | 1 => .int
  | 2 => .int
  | 3 => .int
  | 4 => .array .int
  | 5 => .array .int
  | 6 => .array .int
  | 7 => .array .int
  | 8 => .array .int
  | 9 => .array .int
  | 10 => .array .int
  | 11 => .array .int
  | _ => .array .int
abbrev wsX40 : List Cond := u_ws RX4 TX4 13
theorem nmX4 : ∀ a, a < 13 → ∀ b, b < 13 → a ≠ b → (TX4 a).2.1 ≠ (TX4 b).2.1 := by decide +kernel
theorem tyX4_ok : ∀ k, k < 13 → parseFieldDescriptor (TX4 k).2.2.1 = some (tyX4 k) := by decide +kernel
abbrev cX4_init : ByteArray := prog_6_method_1_code
def yX4_init : MethodName := ⟨RX4, "<init>", "()V"⟩
abbrev cX4_tellNothing : ByteArray := prog_6_method_2_code
def yX4_tellNothing : MethodName := ⟨RX4, "tellNothing", "()V"⟩
abbrev cX4_addPath : ByteArray := prog_6_method_3_code
def yX4_addPath : MethodName := ⟨RX4, "addPath", "(III)V"⟩
abbrev cX4_addDirector : ByteArray := prog_6_method_4_code
def yX4_addDirector : MethodName := ⟨RX4, "addDirector", "(IIII)V"⟩
abbrev cX4_addFriends : ByteArray := prog_6_method_5_code
def yX4_addFriends : MethodName := ⟨RX4, "addFriends", "(II)V"⟩
abbrev cX4_addChild : ByteArray := prog_6_method_6_code
def yX4_addChild : MethodName := ⟨RX4, "addChild", "(I)V"⟩
abbrev cX4_hasRoom : ByteArray := prog_6_method_7_code
def yX4_hasRoom : MethodName := ⟨RX4, "hasRoom", "(I)Z"⟩
abbrev cX4_hasPath : ByteArray := prog_6_method_8_code
def yX4_hasPath : MethodName := ⟨RX4, "hasPath", "(I)Z"⟩
abbrev cX4_hasDirector : ByteArray := prog_6_method_9_code
def yX4_hasDirector : MethodName := ⟨RX4, "hasDirector", "(I)Z"⟩
abbrev cX4_hasChild : ByteArray := prog_6_method_10_code
def yX4_hasChild : MethodName := ⟨RX4, "hasChild", "(I)Z"⟩
abbrev cX4_allDirectors : ByteArray := prog_6_method_11_code
def yX4_allDirectors : MethodName := ⟨RX4, "allDirectors", "()I"⟩
abbrev cX4_acrossFrom : ByteArray := prog_6_method_12_code
def yX4_acrossFrom : MethodName := ⟨RX4, "acrossFrom", "(II)I"⟩
abbrev cX4_reachable : ByteArray := prog_6_method_13_code
def yX4_reachable : MethodName := ⟨RX4, "reachable", "(II)I"⟩
abbrev cX4_laughFrom : ByteArray := prog_6_method_14_code
def yX4_laughFrom : MethodName := ⟨RX4, "laughFrom", "(I)I"⟩
abbrev cX4_fewestToLaugh : ByteArray := prog_6_method_15_code
def yX4_fewestToLaugh : MethodName := ⟨RX4, "fewestToLaugh", "()I"⟩
def RX5 : String := "BoardStones$Image"
def TX5 : u_T := fun k => match k with
  | 0 => ("BoardStones$Image", "present", "LBoardStones$Now;", true)
  | 1 => ("BoardStones$Image", "history", "LBoardStones$History;", true)
  | _ => ("BoardStones$Image", "kept", "Z", false)
def tyX5 : Nat → FieldType := fun k => match k with
  | 0 => .object "BoardStones$Now"
  | 1 => .object "BoardStones$History"
  | _ => .boolean
abbrev wsX50 : List Cond := u_ws RX5 TX5 3
theorem nmX5 : ∀ a, a < 3 → ∀ b, b < 3 → a ≠ b → (TX5 a).2.1 ≠ (TX5 b).2.1 := by decide +kernel
theorem tyX5_ok : ∀ k, k < 3 → parseFieldDescriptor (TX5 k).2.2.1 = some (tyX5 k) := by decide +kernel
abbrev cX5_init : ByteArray := prog_7_method_1_code
def yX5_init : MethodName := ⟨RX5, "<init>", "()V"⟩
abbrev cX5_take : ByteArray := prog_7_method_2_code
def yX5_take : MethodName := ⟨RX5, "take", "(LBoardStones$Now;LBoardStones$History;)V"⟩
abbrev cX5_give : ByteArray := prog_7_method_3_code
def yX5_give : MethodName := ⟨RX5, "give", "(LBoardStones$Now;LBoardStones$History;)V"⟩
def RX6 : String := "BoardStones$Now"
def TX6 : u_T := fun k => match k with
  | 0 => ("BoardStones$Now", "room", "[I", true)
  | 1 => ("BoardStones$Now", "stone", "[I", true)
  | 2 => ("BoardStones$Now", "weary", "[I", true)
  | 3 => ("BoardStones$Now", "lookedInto", "[I", true)
  | 4 => ("BoardStones$Now", "hurt", "[I", true)
  | _ => ("BoardStones$Now", "laughing", "I", false)
def tyX6 : Nat → FieldType := fun k => match k with
  | 0 => .array .int
  | 1 => .array .int
  | 2 => .array .int
  | 3 => .array .int
  | 4 => .array .int
  | _ => .int
abbrev wsX60 : List Cond := u_ws RX6 TX6 6
theorem nmX6 : ∀ a, a < 6 → ∀ b, b < 6 → a ≠ b → (TX6 a).2.1 ≠ (TX6 b).2.1 := by decide +kernel
theorem tyX6_ok : ∀ k, k < 6 → parseFieldDescriptor (TX6 k).2.2.1 = some (tyX6 k) := by decide +kernel
abbrev cX6_init : ByteArray := prog_8_method_1_code
def yX6_init : MethodName := ⟨RX6, "<init>", "()V"⟩
abbrev cX6_begin : ByteArray := prog_8_method_2_code
def yX6_begin : MethodName := ⟨RX6, "begin", "(LBoardStones$House;)V"⟩
abbrev cX6_copyFrom : ByteArray := prog_8_method_3_code
def yX6_copyFrom : MethodName := ⟨RX6, "copyFrom", "(LBoardStones$Now;)V"⟩
abbrev cX6_lookInto : ByteArray := prog_8_method_4_code
def yX6_lookInto : MethodName := ⟨RX6, "lookInto", "(II)V"⟩
def RX7 : String := "BoardStones$Reader"
def TX7 : u_T := fun k => match k with
  | 0 => ("BoardStones$Reader", "bytes", "[I", true)
  | 1 => ("BoardStones$Reader", "length", "I", false)
  | 2 => ("BoardStones$Reader", "at", "I", false)
  | 3 => ("BoardStones$Reader", "place", "I", false)
  | 4 => ("BoardStones$Reader", "kind", "I", false)
  | 5 => ("BoardStones$Reader", "value", "I", false)
  | _ => ("BoardStones$Reader", "failed", "Z", false)
def tyX7 : Nat → FieldType := fun k => match k with
  | 0 => .array .int
  | 1 => .int
  | 2 => .int
  | 3 => .int
  | 4 => .int
  | 5 => .int
  | _ => .boolean
abbrev wsX70 : List Cond := u_ws RX7 TX7 7
theorem nmX7 : ∀ a, a < 7 → ∀ b, b < 7 → a ≠ b → (TX7 a).2.1 ≠ (TX7 b).2.1 := by decide +kernel
theorem tyX7_ok : ∀ k, k < 7 → parseFieldDescriptor (TX7 k).2.2.1 = some (tyX7 k) := by decide +kernel
abbrev cX7_init : ByteArray := prog_9_method_1_code
def yX7_init : MethodName := ⟨RX7, "<init>", "()V"⟩
abbrev cX7_append : ByteArray := prog_9_method_2_code
def yX7_append : MethodName := ⟨RX7, "append", "(I)Z"⟩
abbrev cX7_drop : ByteArray := prog_9_method_3_code
def yX7_drop : MethodName := ⟨RX7, "drop", "()I"⟩
abbrev cX7_readInto : ByteArray := prog_9_method_4_code
def yX7_readInto : MethodName := ⟨RX7, "readInto", "(LBoardStones$House;)I"⟩
abbrev cX7_readItem : ByteArray := prog_9_method_5_code
def yX7_readItem : MethodName := ⟨RX7, "readItem", "(LBoardStones$House;I)V"⟩
abbrev cX7_readRooms : ByteArray := prog_9_method_6_code
def yX7_readRooms : MethodName := ⟨RX7, "readRooms", "(LBoardStones$House;I)V"⟩
abbrev cX7_readPath : ByteArray := prog_9_method_7_code
def yX7_readPath : MethodName := ⟨RX7, "readPath", "(LBoardStones$House;)V"⟩
abbrev cX7_readDirector : ByteArray := prog_9_method_8_code
def yX7_readDirector : MethodName := ⟨RX7, "readDirector", "(LBoardStones$House;)V"⟩
abbrev cX7_readFriends : ByteArray := prog_9_method_9_code
def yX7_readFriends : MethodName := ⟨RX7, "readFriends", "(LBoardStones$House;)V"⟩
abbrev cX7_readChild : ByteArray := prog_9_method_10_code
def yX7_readChild : MethodName := ⟨RX7, "readChild", "(LBoardStones$House;)V"⟩
abbrev cX7_readNumber : ByteArray := prog_9_method_11_code
def yX7_readNumber : MethodName := ⟨RX7, "readNumber", "(II)I"⟩
abbrev cX7_refuseAlike : ByteArray := prog_9_method_12_code
def yX7_refuseAlike : MethodName := ⟨RX7, "refuseAlike", "(II)V"⟩
abbrev cX7_readStop : ByteArray := prog_9_method_13_code
def yX7_readStop : MethodName := ⟨RX7, "readStop", "()V"⟩
abbrev cX7_nextToken : ByteArray := prog_9_method_14_code
def yX7_nextToken : MethodName := ⟨RX7, "nextToken", "()V"⟩
abbrev cX7_takeLetters : ByteArray := prog_9_method_15_code
def yX7_takeLetters : MethodName := ⟨RX7, "takeLetters", "()V"⟩
abbrev cX7_takeNumber : ByteArray := prog_9_method_16_code
def yX7_takeNumber : MethodName := ⟨RX7, "takeNumber", "()V"⟩
abbrev cX7_isLetter : ByteArray := prog_9_method_17_code
def yX7_isLetter : MethodName := ⟨RX7, "isLetter", "(I)Z"⟩
abbrev cX7_isDigit : ByteArray := prog_9_method_18_code
def yX7_isDigit : MethodName := ⟨RX7, "isDigit", "(I)Z"⟩
def RX8 : String := "BoardStones$Ways"
def TX8 : u_T := fun k => match k with
  | 0 => ("BoardStones$Ways", "least", "[I", true)
  | 1 => ("BoardStones$Ways", "together", "[I", true)
  | 2 => ("BoardStones$Ways", "meetingRoom", "I", false)
  | _ => ("BoardStones$Ways", "meetingWeariness", "I", false)
def tyX8 : Nat → FieldType := fun k => match k with
  | 0 => .array .int
  | 1 => .array .int
  | 2 => .int
  | _ => .int
abbrev wsX80 : List Cond := u_ws RX8 TX8 4
theorem nmX8 : ∀ a, a < 4 → ∀ b, b < 4 → a ≠ b → (TX8 a).2.1 ≠ (TX8 b).2.1 := by decide +kernel
theorem tyX8_ok : ∀ k, k < 4 → parseFieldDescriptor (TX8 k).2.2.1 = some (tyX8 k) := by decide +kernel
abbrev cX8_init : ByteArray := prog_10_method_1_code
def yX8_init : MethodName := ⟨RX8, "<init>", "()V"⟩
abbrev cX8_findFrom : ByteArray := prog_10_method_2_code
def yX8_findFrom : MethodName := ⟨RX8, "findFrom", "(LBoardStones$House;III)V"⟩
abbrev cX8_lessen : ByteArray := prog_10_method_3_code
def yX8_lessen : MethodName := ⟨RX8, "lessen", "(III)V"⟩
abbrev cX8_leadTo : ByteArray := prog_10_method_4_code
def yX8_leadTo : MethodName := ⟨RX8, "leadTo", "(I)Z"⟩
abbrev cX8_wearinessTo : ByteArray := prog_10_method_5_code
def yX8_wearinessTo : MethodName := ⟨RX8, "wearinessTo", "(I)I"⟩
abbrev cX8_pathsTo : ByteArray := prog_10_method_6_code
def yX8_pathsTo : MethodName := ⟨RX8, "pathsTo", "(I)I"⟩
abbrev cX8_findMeeting : ByteArray := prog_10_method_7_code
def yX8_findMeeting : MethodName := ⟨RX8, "findMeeting", "(LBoardStones$House;LBoardStones$Now;)Z"⟩
def RX9 : String := "BoardStones"
def TX9 : u_T := fun k => match k with
  | 0 => ("BoardStones", "text", "LBoardStones$Reader;", true)
  | 1 => ("BoardStones", "told", "LBoardStones$House;", false)
  | 2 => ("BoardStones", "spare", "LBoardStones$House;", false)
  | 3 => ("BoardStones", "present", "LBoardStones$Now;", true)
  | 4 => ("BoardStones", "history", "LBoardStones$History;", true)
  | 5 => ("BoardStones", "images", "[LBoardStones$Image;", true)
  | 6 => ("BoardStones", "hearing", "LBoardStones$Hearing;", true)
  | 7 => ("BoardStones", "ways", "LBoardStones$Ways;", true)
  | 8 => ("BoardStones", "couples", "LBoardStones$Couples;", true)
  | _ => ("BoardStones", "traced", "J", false)
def tyX9 : Nat → FieldType := fun k => match k with
  | 0 => .object "BoardStones$Reader"
  | 1 => .object "BoardStones$House"
  | 2 => .object "BoardStones$House"
  | 3 => .object "BoardStones$Now"
  | 4 => .object "BoardStones$History"
  | 5 => .array (.object "BoardStones$Image")
  | 6 => .object "BoardStones$Hearing"
  | 7 => .object "BoardStones$Ways"
  | 8 => .object "BoardStones$Couples"
  | _ => .long
abbrev wsX90 : List Cond := u_ws RX9 TX9 10
theorem nmX9 : ∀ a, a < 10 → ∀ b, b < 10 → a ≠ b → (TX9 a).2.1 ≠ (TX9 b).2.1 := by decide +kernel
theorem tyX9_ok : ∀ k, k < 10 → parseFieldDescriptor (TX9 k).2.2.1 = some (tyX9 k) := by decide +kernel
abbrev cX9_init : ByteArray := prog_1_method_1_code
def yX9_init : MethodName := ⟨RX9, "<init>", "()V"⟩
abbrev cX9_type : ByteArray := prog_1_method_2_code
def yX9_type : MethodName := ⟨RX9, "type", "(I)I"⟩
abbrev cX9_clear : ByteArray := prog_1_method_3_code
def yX9_clear : MethodName := ⟨RX9, "clear", "()I"⟩
abbrev cX9_house : ByteArray := prog_1_method_4_code
def yX9_house : MethodName := ⟨RX9, "house", "()I"⟩
abbrev cX9_path : ByteArray := prog_1_method_5_code
def yX9_path : MethodName := ⟨RX9, "path", "(II)I"⟩
abbrev cX9_director : ByteArray := prog_1_method_6_code
def yX9_director : MethodName := ⟨RX9, "director", "(II)I"⟩
abbrev cX9_child : ByteArray := prog_1_method_7_code
def yX9_child : MethodName := ⟨RX9, "child", "(II)I"⟩
abbrev cX9_goes : ByteArray := prog_1_method_8_code
def yX9_goes : MethodName := ⟨RX9, "goes", "(II)I"⟩
abbrev cX9_rests : ByteArray := prog_1_method_9_code
def yX9_rests : MethodName := ⟨RX9, "rests", "(I)I"⟩
abbrev cX9_offends : ByteArray := prog_1_method_10_code
def yX9_offends : MethodName := ⟨RX9, "offends", "(III)I"⟩
abbrev cX9_shifts : ByteArray := prog_1_method_11_code
def yX9_shifts : MethodName := ⟨RX9, "shifts", "(II)I"⟩
abbrev cX9_calls : ByteArray := prog_1_method_12_code
def yX9_calls : MethodName := ⟨RX9, "calls", "(I)I"⟩
abbrev cX9_undo : ByteArray := prog_1_method_13_code
def yX9_undo : MethodName := ⟨RX9, "undo", "()I"⟩
abbrev cX9_now : ByteArray := prog_1_method_14_code
def yX9_now : MethodName := ⟨RX9, "now", "(I)I"⟩
abbrev cX9_way : ByteArray := prog_1_method_15_code
def yX9_way : MethodName := ⟨RX9, "way", "(III)I"⟩
abbrev cX9_edge : ByteArray := prog_1_method_16_code
def yX9_edge : MethodName := ⟨RX9, "edge", "(II)I"⟩
abbrev cX9_spread : ByteArray := prog_1_method_17_code
def yX9_spread : MethodName := ⟨RX9, "spread", "(I)I"⟩
abbrev cX9_pair : ByteArray := prog_1_method_18_code
def yX9_pair : MethodName := ⟨RX9, "pair", "(I)I"⟩
abbrev cX9_odds : ByteArray := prog_1_method_19_code
def yX9_odds : MethodName := ⟨RX9, "odds", "(III)I"⟩
abbrev cX9_hears : ByteArray := prog_1_method_20_code
def yX9_hears : MethodName := ⟨RX9, "hears", "(II)I"⟩
abbrev cX9_forget : ByteArray := prog_1_method_21_code
def yX9_forget : MethodName := ⟨RX9, "forget", "()I"⟩
abbrev cX9_who : ByteArray := prog_1_method_22_code
def yX9_who : MethodName := ⟨RX9, "who", "()I"⟩
abbrev cX9_ask : ByteArray := prog_1_method_23_code
def yX9_ask : MethodName := ⟨RX9, "ask", "()I"⟩
abbrev cX9_mark : ByteArray := prog_1_method_24_code
def yX9_mark : MethodName := ⟨RX9, "mark", "(II)I"⟩
abbrev cX9_keep : ByteArray := prog_1_method_25_code
def yX9_keep : MethodName := ⟨RX9, "keep", "(I)I"⟩
abbrev cX9_back : ByteArray := prog_1_method_26_code
def yX9_back : MethodName := ⟨RX9, "back", "(I)I"⟩
abbrev cX9_count : ByteArray := prog_1_method_27_code
def yX9_count : MethodName := ⟨RX9, "count", "(I)I"⟩
abbrev cX9_trace : ByteArray := prog_1_method_28_code
def yX9_trace : MethodName := ⟨RX9, "trace", "()J"⟩
abbrev cX9_asDirector : ByteArray := prog_1_method_29_code
def yX9_asDirector : MethodName := ⟨RX9, "asDirector", "(I)I"⟩
abbrev cX9_asFounder : ByteArray := prog_1_method_30_code
def yX9_asFounder : MethodName := ⟨RX9, "asFounder", "(I)I"⟩
abbrev cX9_asChair : ByteArray := prog_1_method_31_code
def yX9_asChair : MethodName := ⟨RX9, "asChair", "(I)I"⟩
abbrev cX9_asElder : ByteArray := prog_1_method_32_code
def yX9_asElder : MethodName := ⟨RX9, "asElder", "(I)I"⟩
abbrev cX9_asBursar : ByteArray := prog_1_method_33_code
def yX9_asBursar : MethodName := ⟨RX9, "asBursar", "(I)I"⟩
abbrev cX9_asClerk : ByteArray := prog_1_method_34_code
def yX9_asClerk : MethodName := ⟨RX9, "asClerk", "(I)I"⟩
abbrev cX9_strengthLeft : ByteArray := prog_1_method_35_code
def yX9_strengthLeft : MethodName := ⟨RX9, "strengthLeft", "(I)I"⟩
abbrev cX9_mayGo : ByteArray := prog_1_method_36_code
def yX9_mayGo : MethodName := ⟨RX9, "mayGo", "(II)Z"⟩
abbrev cX9_whoMayGo : ByteArray := prog_1_method_37_code
def yX9_whoMayGo : MethodName := ⟨RX9, "whoMayGo", "(I)I"⟩
abbrev cX9_whoIsIn : ByteArray := prog_1_method_38_code
def yX9_whoIsIn : MethodName := ⟨RX9, "whoIsIn", "(I)I"⟩
abbrev cX9_stonesTogether : ByteArray := prog_1_method_39_code
def yX9_stonesTogether : MethodName := ⟨RX9, "stonesTogether", "()I"⟩
abbrev cX9_has : ByteArray := prog_1_method_40_code
def yX9_has : MethodName := ⟨RX9, "has", "(II)Z"⟩
abbrev cX9_copyRow : ByteArray := prog_1_method_41_code
def yX9_copyRow : MethodName := ⟨RX9, "copyRow", "([I[I)V"⟩
def RX10 : String := "BoardStonesModel"
def TX10 : u_T := fun k => match k with
  | 0 => ("BoardStonesModel", "rooms", "I", false)
  | 1 => ("BoardStonesModel", "paths", "I", false)
  | 2 => ("BoardStonesModel", "path", "[I", true)
  | 3 => ("BoardStonesModel", "directors", "I", false)
  | 4 => ("BoardStonesModel", "director", "[I", true)
  | 5 => ("BoardStonesModel", "children", "I", false)
  | 6 => ("BoardStonesModel", "nerve", "[I", true)
  | 7 => ("BoardStonesModel", "now", "[I", true)
  | 8 => ("BoardStonesModel", "past", "[I", true)
  | 9 => ("BoardStonesModel", "acts", "I", false)
  | 10 => ("BoardStonesModel", "images", "[I", true)
  | 11 => ("BoardStonesModel", "isKept", "[Z", true)
  | 12 => ("BoardStonesModel", "heard", "[I", true)
  | 13 => ("BoardStonesModel", "heards", "I", false)
  | 14 => ("BoardStonesModel", "traced", "J", false)
  | 15 => ("BoardStonesModel", "text", "[I", true)
  | 16 => ("BoardStonesModel", "letters", "I", false)
  | 17 => ("BoardStonesModel", "at", "I", false)
  | 18 => ("BoardStonesModel", "fault", "I", false)
  | 19 => ("BoardStonesModel", "token", "I", false)
  | 20 => ("BoardStonesModel", "start", "I", false)
  | 21 => ("BoardStonesModel", "freshRooms", "I", false)
  | 22 => ("BoardStonesModel", "freshPaths", "I", false)
  | 23 => ("BoardStonesModel", "freshPath", "[I", true)
  | 24 => ("BoardStonesModel", "freshDirectors", "I", false)
  | 25 => ("BoardStonesModel", "freshDirector", "[I", true)
  | 26 => ("BoardStonesModel", "freshRoom", "[I", true)
  | 27 => ("BoardStonesModel", "freshStone", "[I", true)
  | 28 => ("BoardStonesModel", "freshChildren", "I", false)
  | 29 => ("BoardStonesModel", "freshNerve", "[I", true)
  | 30 => ("BoardStonesModel", "far", "[I", true)
  | 31 => ("BoardStonesModel", "meetRoom", "I", false)
  | 32 => ("BoardStonesModel", "meetWeary", "I", false)
  | _ => ("BoardStonesModel", "most", "[I", true)
def tyX10 : Nat → FieldType := fun k => match k with
  | 0 => .int
  | 1 => .int
  | 2 => .array .int
  | 3 => .int
  | 4 => .array .int
  | 5 => .int
  | 6 => .array .int
  | 7 => .array .int
  | 8 => .array .int
  | 9 => .int
  | 10 => .array .int
  | 11 => .array .boolean
  | 12 => .array .int
  | 13 => .int
  | 14 => .long
  | 15 => .array .int
  | 16 => .int
  | 17 => .int
  | 18 => .int
  | 19 => .int
  | 20 => .int
  | 21 => .int
  | 22 => .int
  | 23 => .array .int
  | 24 => .int
  | 25 => .array .int
  | 26 => .array .int
  | 27 => .array .int
  | 28 => .int
  | 29 => .array .int
  | 30 => .array .int
  | 31 => .int
  | 32 => .int
  | _ => .array .int
abbrev wsX100 : List Cond := u_ws RX10 TX10 34
theorem nmX10 : ∀ a, a < 34 → ∀ b, b < 34 → a ≠ b → (TX10 a).2.1 ≠ (TX10 b).2.1 := by decide +kernel
theorem tyX10_ok : ∀ k, k < 34 → parseFieldDescriptor (TX10 k).2.2.1 = some (tyX10 k) := by decide +kernel
abbrev cX10_init : ByteArray := prog_12_method_1_code
def yX10_init : MethodName := ⟨RX10, "<init>", "()V"⟩
abbrev cX10_in : ByteArray := prog_12_method_3_code
def yX10_in : MethodName := ⟨RX10, "in", "(JJJ)Z"⟩
abbrev cX10_has : ByteArray := prog_12_method_4_code
def yX10_has : MethodName := ⟨RX10, "has", "(II)Z"⟩
abbrev cX10_bits : ByteArray := prog_12_method_5_code
def yX10_bits : MethodName := ⟨RX10, "bits", "(I)I"⟩
abbrev cX10_isDirector : ByteArray := prog_12_method_6_code
def yX10_isDirector : MethodName := ⟨RX10, "isDirector", "(I)Z"⟩
abbrev cX10_isPath : ByteArray := prog_12_method_7_code
def yX10_isPath : MethodName := ⟨RX10, "isPath", "(I)Z"⟩
abbrev cX10_isRoom : ByteArray := prog_12_method_8_code
def yX10_isRoom : MethodName := ⟨RX10, "isRoom", "(I)Z"⟩
abbrev cX10_of : ByteArray := prog_12_method_9_code
def yX10_of : MethodName := ⟨RX10, "of", "(II)I"⟩
abbrev cX10_strength : ByteArray := prog_12_method_10_code
def yX10_strength : MethodName := ⟨RX10, "strength", "(I)I"⟩
abbrev cX10_gravity : ByteArray := prog_12_method_11_code
def yX10_gravity : MethodName := ⟨RX10, "gravity", "(I)I"⟩
abbrev cX10_friends : ByteArray := prog_12_method_12_code
def yX10_friends : MethodName := ⟨RX10, "friends", "(I)I"⟩
abbrev cX10_stones : ByteArray := prog_12_method_13_code
def yX10_stones : MethodName := ⟨RX10, "stones", "()I"⟩
abbrev cX10_type : ByteArray := prog_12_method_14_code
def yX10_type : MethodName := ⟨RX10, "type", "(I)I"⟩
abbrev cX10_clear : ByteArray := prog_12_method_15_code
def yX10_clear : MethodName := ⟨RX10, "clear", "()I"⟩
abbrev cX10_isFigure : ByteArray := prog_12_method_16_code
def yX10_isFigure : MethodName := ⟨RX10, "isFigure", "(I)Z"⟩
abbrev cX10_isLetter : ByteArray := prog_12_method_17_code
def yX10_isLetter : MethodName := ⟨RX10, "isLetter", "(I)Z"⟩
abbrev cX10_next : ByteArray := prog_12_method_18_code
def yX10_next : MethodName := ⟨RX10, "next", "()V"⟩
abbrev cX10_must : ByteArray := prog_12_method_19_code
def yX10_must : MethodName := ⟨RX10, "must", "(Z)V"⟩
abbrev cX10_goOn : ByteArray := prog_12_method_20_code
def yX10_goOn : MethodName := ⟨RX10, "goOn", "()V"⟩
abbrev cX10_number : ByteArray := prog_12_method_21_code
def yX10_number : MethodName := ⟨RX10, "number", "(II)I"⟩
abbrev cX10_unlike : ByteArray := prog_12_method_22_code
def yX10_unlike : MethodName := ⟨RX10, "unlike", "(II)I"⟩
abbrev cX10_end : ByteArray := prog_12_method_23_code
def yX10_end : MethodName := ⟨RX10, "end", "()V"⟩
abbrev cX10_readPath : ByteArray := prog_12_method_24_code
def yX10_readPath : MethodName := ⟨RX10, "readPath", "()V"⟩
abbrev cX10_readDirector : ByteArray := prog_12_method_25_code
def yX10_readDirector : MethodName := ⟨RX10, "readDirector", "()V"⟩
abbrev cX10_readFriends : ByteArray := prog_12_method_26_code
def yX10_readFriends : MethodName := ⟨RX10, "readFriends", "()V"⟩
abbrev cX10_readChild : ByteArray := prog_12_method_27_code
def yX10_readChild : MethodName := ⟨RX10, "readChild", "()V"⟩
abbrev cX10_readRooms : ByteArray := prog_12_method_28_code
def yX10_readRooms : MethodName := ⟨RX10, "readRooms", "(I)V"⟩
abbrev cX10_take : ByteArray := prog_12_method_29_code
def yX10_take : MethodName := ⟨RX10, "take", "()V"⟩
abbrev cX10_house : ByteArray := prog_12_method_30_code
def yX10_house : MethodName := ⟨RX10, "house", "()I"⟩
abbrev cX10_may : ByteArray := prog_12_method_31_code
def yX10_may : MethodName := ⟨RX10, "may", "(II)Z"⟩
abbrev cX10_other : ByteArray := prog_12_method_32_code
def yX10_other : MethodName := ⟨RX10, "other", "(II)I"⟩
abbrev cX10_lay : ByteArray := prog_12_method_33_code
def yX10_lay : MethodName := ⟨RX10, "lay", "(I)V"⟩
abbrev cX10_reach : ByteArray := prog_12_method_34_code
def yX10_reach : MethodName := ⟨RX10, "reach", "(I)I"⟩
abbrev cX10_widest : ByteArray := prog_12_method_35_code
def yX10_widest : MethodName := ⟨RX10, "widest", "(II)I"⟩
abbrev cX10_path : ByteArray := prog_12_method_36_code
def yX10_path : MethodName := ⟨RX10, "path", "(II)I"⟩
abbrev cX10_director : ByteArray := prog_12_method_37_code
def yX10_director : MethodName := ⟨RX10, "director", "(II)I"⟩
abbrev cX10_child : ByteArray := prog_12_method_38_code
def yX10_child : MethodName := ⟨RX10, "child", "(II)I"⟩
abbrev cX10_keepPast : ByteArray := prog_12_method_39_code
def yX10_keepPast : MethodName := ⟨RX10, "keepPast", "()V"⟩
abbrev cX10_goes : ByteArray := prog_12_method_40_code
def yX10_goes : MethodName := ⟨RX10, "goes", "(II)I"⟩
abbrev cX10_rests : ByteArray := prog_12_method_41_code
def yX10_rests : MethodName := ⟨RX10, "rests", "(I)I"⟩
abbrev cX10_offends : ByteArray := prog_12_method_42_code
def yX10_offends : MethodName := ⟨RX10, "offends", "(III)I"⟩
abbrev cX10_shifts : ByteArray := prog_12_method_43_code
def yX10_shifts : MethodName := ⟨RX10, "shifts", "(II)I"⟩
abbrev cX10_spreadOf : ByteArray := prog_12_method_44_code
def yX10_spreadOf : MethodName := ⟨RX10, "spreadOf", "(I)I"⟩
abbrev cX10_calls : ByteArray := prog_12_method_45_code
def yX10_calls : MethodName := ⟨RX10, "calls", "(I)I"⟩
abbrev cX10_undo : ByteArray := prog_12_method_46_code
def yX10_undo : MethodName := ⟨RX10, "undo", "()I"⟩
abbrev cX10_meet : ByteArray := prog_12_method_47_code
def yX10_meet : MethodName := ⟨RX10, "meet", "()V"⟩
abbrev cX10_fewestToAll : ByteArray := prog_12_method_48_code
def yX10_fewestToAll : MethodName := ⟨RX10, "fewestToAll", "()I"⟩
abbrev cX10_now : ByteArray := prog_12_method_49_code
def yX10_now : MethodName := ⟨RX10, "now", "(I)I"⟩
abbrev cX10_way : ByteArray := prog_12_method_50_code
def yX10_way : MethodName := ⟨RX10, "way", "(III)I"⟩
abbrev cX10_edge : ByteArray := prog_12_method_51_code
def yX10_edge : MethodName := ⟨RX10, "edge", "(II)I"⟩
abbrev cX10_spread : ByteArray := prog_12_method_52_code
def yX10_spread : MethodName := ⟨RX10, "spread", "(I)I"⟩
abbrev cX10_fit : ByteArray := prog_12_method_53_code
def yX10_fit : MethodName := ⟨RX10, "fit", "(II)Z"⟩
abbrev cX10_layPairs : ByteArray := prog_12_method_54_code
def yX10_layPairs : MethodName := ⟨RX10, "layPairs", "()V"⟩
abbrev cX10_pair : ByteArray := prog_12_method_55_code
def yX10_pair : MethodName := ⟨RX10, "pair", "(I)I"⟩
abbrev cX10_odds : ByteArray := prog_12_method_56_code
def yX10_odds : MethodName := ⟨RX10, "odds", "(III)I"⟩
abbrev cX10_hears : ByteArray := prog_12_method_57_code
def yX10_hears : MethodName := ⟨RX10, "hears", "(II)I"⟩
abbrev cX10_forget : ByteArray := prog_12_method_58_code
def yX10_forget : MethodName := ⟨RX10, "forget", "()I"⟩
abbrev cX10_whoBits : ByteArray := prog_12_method_59_code
def yX10_whoBits : MethodName := ⟨RX10, "whoBits", "()I"⟩
abbrev cX10_who : ByteArray := prog_12_method_60_code
def yX10_who : MethodName := ⟨RX10, "who", "()I"⟩
abbrev cX10_ask : ByteArray := prog_12_method_61_code
def yX10_ask : MethodName := ⟨RX10, "ask", "()I"⟩
abbrev cX10_founder : ByteArray := prog_12_method_62_code
def yX10_founder : MethodName := ⟨RX10, "founder", "(I)I"⟩
abbrev cX10_chair : ByteArray := prog_12_method_63_code
def yX10_chair : MethodName := ⟨RX10, "chair", "(I)I"⟩
abbrev cX10_mark : ByteArray := prog_12_method_64_code
def yX10_mark : MethodName := ⟨RX10, "mark", "(II)I"⟩
abbrev cX10_keep : ByteArray := prog_12_method_65_code
def yX10_keep : MethodName := ⟨RX10, "keep", "(I)I"⟩
abbrev cX10_back : ByteArray := prog_12_method_66_code
def yX10_back : MethodName := ⟨RX10, "back", "(I)I"⟩
abbrev cX10_count : ByteArray := prog_12_method_67_code
def yX10_count : MethodName := ⟨RX10, "count", "(I)I"⟩
abbrev cX10_trace : ByteArray := prog_12_method_68_code
def yX10_trace : MethodName := ⟨RX10, "trace", "()J"⟩
def RJ6 : String := "java/lang/Integer"
def TJ6 : u_T := fun k => match k with
  | _ => ("", "", "", false)
def tyJ6 : Nat → FieldType := fun k => match k with
  | _ => .int
abbrev wsJ60 : List Cond := u_ws RJ6 TJ6 0
theorem nmJ6 : ∀ a, a < 0 → ∀ b, b < 0 → a ≠ b → (TJ6 a).2.1 ≠ (TJ6 b).2.1 := by decide +kernel
theorem tyJ6_ok : ∀ k, k < 0 → parseFieldDescriptor (TJ6 k).2.2.1 = some (tyJ6 k) := by decide +kernel
abbrev cJ6_bitCount_0f7a4 : ByteArray := prog_13_method_49_code
def yJ6_bitCount_0f7a4 : MethodName := ⟨RJ6, "bitCount", "(I)I"⟩
def RJ9 : String := "java/lang/Math"
def TJ9 : u_T := fun k => match k with
  | _ => ("", "", "", false)
def tyJ9 : Nat → FieldType := fun k => match k with
  | _ => .int
abbrev wsJ90 : List Cond := u_ws RJ9 TJ9 0
theorem nmJ9 : ∀ a, a < 0 → ∀ b, b < 0 → a ≠ b → (TJ9 a).2.1 ≠ (TJ9 b).2.1 := by decide +kernel
theorem tyJ9_ok : ∀ k, k < 0 → parseFieldDescriptor (TJ9 k).2.2.1 = some (tyJ9 k) := by decide +kernel
abbrev cJ9_max_7cf53 : ByteArray := prog_14_method_65_code
def yJ9_max_7cf53 : MethodName := ⟨RJ9, "max", "(II)I"⟩
abbrev cJ9_min_7cf53 : ByteArray := prog_14_method_69_code
def yJ9_min_7cf53 : MethodName := ⟨RJ9, "min", "(II)I"⟩
def RL : String := "BoardStonesLaw"
abbrev cL_law : ByteArray := code
def yL_law : MethodName := ⟨RL, "law", "([I)Z"⟩
