section
-- ===== PART A: goes FIRST, ahead of the names: the tables' words, and 'selects' of the private methods out of them =====
/-- a private method of a class that the tables say can be made, by its rows of tables_1 -/
def lw_okq (q : MethodName × Nat) : Prop := (q.1.cls ≠ "java/lang/invoke/MethodHandle" ∧ q.1.cls ≠ "java/lang/invoke/VarHandle") ∧ Cond.instantiable q.1.cls q.2 ∈ tables_1 ∧ Cond.privateMethod q.1 ∈ tables_1 ∧ Cond.instanceMethod q.1 ∈ tables_1
theorem lw_p0 : lw_okq (⟨"BoardStones$Reader", "nextToken", "()V"⟩, 7) := ⟨⟨by decide +kernel, by decide +kernel⟩, List.mem_of_getElem? (i := 23) (by decide +kernel), List.mem_of_getElem? (i := 315) (by decide +kernel), List.mem_of_getElem? (i := 316) (by decide +kernel)⟩
theorem lw_p1 : lw_okq (⟨"BoardStones$Reader", "takeLetters", "()V"⟩, 7) := ⟨⟨by decide +kernel, by decide +kernel⟩, List.mem_of_getElem? (i := 23) (by decide +kernel), List.mem_of_getElem? (i := 322) (by decide +kernel), List.mem_of_getElem? (i := 323) (by decide +kernel)⟩
theorem lw_p2 : lw_okq (⟨"BoardStones$Reader", "takeNumber", "()V"⟩, 7) := ⟨⟨by decide +kernel, by decide +kernel⟩, List.mem_of_getElem? (i := 23) (by decide +kernel), List.mem_of_getElem? (i := 329) (by decide +kernel), List.mem_of_getElem? (i := 330) (by decide +kernel)⟩
theorem lw_p3 : lw_okq (⟨"BoardStones$Reader", "readItem", "(LBoardStones$House;I)V"⟩, 7) := ⟨⟨by decide +kernel, by decide +kernel⟩, List.mem_of_getElem? (i := 23) (by decide +kernel), List.mem_of_getElem? (i := 336) (by decide +kernel), List.mem_of_getElem? (i := 337) (by decide +kernel)⟩
theorem lw_p4 : lw_okq (⟨"BoardStones$Reader", "readRooms", "(LBoardStones$House;I)V"⟩, 7) := ⟨⟨by decide +kernel, by decide +kernel⟩, List.mem_of_getElem? (i := 23) (by decide +kernel), List.mem_of_getElem? (i := 340) (by decide +kernel), List.mem_of_getElem? (i := 341) (by decide +kernel)⟩
theorem lw_p5 : lw_okq (⟨"BoardStones$Reader", "readNumber", "(II)I"⟩, 7) := ⟨⟨by decide +kernel, by decide +kernel⟩, List.mem_of_getElem? (i := 23) (by decide +kernel), List.mem_of_getElem? (i := 344) (by decide +kernel), List.mem_of_getElem? (i := 345) (by decide +kernel)⟩
theorem lw_p6 : lw_okq (⟨"BoardStones$Reader", "readStop", "()V"⟩, 7) := ⟨⟨by decide +kernel, by decide +kernel⟩, List.mem_of_getElem? (i := 23) (by decide +kernel), List.mem_of_getElem? (i := 348) (by decide +kernel), List.mem_of_getElem? (i := 349) (by decide +kernel)⟩
theorem lw_p7 : lw_okq (⟨"BoardStones$Reader", "readPath", "(LBoardStones$House;)V"⟩, 7) := ⟨⟨by decide +kernel, by decide +kernel⟩, List.mem_of_getElem? (i := 23) (by decide +kernel), List.mem_of_getElem? (i := 352) (by decide +kernel), List.mem_of_getElem? (i := 353) (by decide +kernel)⟩
theorem lw_p8 : lw_okq (⟨"BoardStones$Reader", "refuseAlike", "(II)V"⟩, 7) := ⟨⟨by decide +kernel, by decide +kernel⟩, List.mem_of_getElem? (i := 23) (by decide +kernel), List.mem_of_getElem? (i := 356) (by decide +kernel), List.mem_of_getElem? (i := 357) (by decide +kernel)⟩
theorem lw_p9 : lw_okq (⟨"BoardStones$Reader", "readDirector", "(LBoardStones$House;)V"⟩, 7) := ⟨⟨by decide +kernel, by decide +kernel⟩, List.mem_of_getElem? (i := 23) (by decide +kernel), List.mem_of_getElem? (i := 364) (by decide +kernel), List.mem_of_getElem? (i := 365) (by decide +kernel)⟩
theorem lw_p10 : lw_okq (⟨"BoardStones$Reader", "readFriends", "(LBoardStones$House;)V"⟩, 7) := ⟨⟨by decide +kernel, by decide +kernel⟩, List.mem_of_getElem? (i := 23) (by decide +kernel), List.mem_of_getElem? (i := 372) (by decide +kernel), List.mem_of_getElem? (i := 373) (by decide +kernel)⟩
theorem lw_p11 : lw_okq (⟨"BoardStones$Reader", "readChild", "(LBoardStones$House;)V"⟩, 7) := ⟨⟨by decide +kernel, by decide +kernel⟩, List.mem_of_getElem? (i := 23) (by decide +kernel), List.mem_of_getElem? (i := 384) (by decide +kernel), List.mem_of_getElem? (i := 385) (by decide +kernel)⟩
theorem lw_p12 : lw_okq (⟨"BoardStones", "whoMayGo", "(I)I"⟩, 10) := ⟨⟨by decide +kernel, by decide +kernel⟩, List.mem_of_getElem? (i := 15) (by decide +kernel), List.mem_of_getElem? (i := 407) (by decide +kernel), List.mem_of_getElem? (i := 408) (by decide +kernel)⟩
theorem lw_p13 : lw_okq (⟨"BoardStones", "mayGo", "(II)Z"⟩, 10) := ⟨⟨by decide +kernel, by decide +kernel⟩, List.mem_of_getElem? (i := 15) (by decide +kernel), List.mem_of_getElem? (i := 411) (by decide +kernel), List.mem_of_getElem? (i := 412) (by decide +kernel)⟩
theorem lw_p14 : lw_okq (⟨"BoardStones", "strengthLeft", "(I)I"⟩, 10) := ⟨⟨by decide +kernel, by decide +kernel⟩, List.mem_of_getElem? (i := 15) (by decide +kernel), List.mem_of_getElem? (i := 415) (by decide +kernel), List.mem_of_getElem? (i := 416) (by decide +kernel)⟩
theorem lw_p15 : lw_okq (⟨"BoardStones$History", "loseOldest", "()V"⟩, 2) := ⟨⟨by decide +kernel, by decide +kernel⟩, List.mem_of_getElem? (i := 159) (by decide +kernel), List.mem_of_getElem? (i := 448) (by decide +kernel), List.mem_of_getElem? (i := 449) (by decide +kernel)⟩
def lw_privs_1 : List (MethodName × Nat) := [(⟨"BoardStones$Reader", "nextToken", "()V"⟩, 7), (⟨"BoardStones$Reader", "takeLetters", "()V"⟩, 7), (⟨"BoardStones$Reader", "takeNumber", "()V"⟩, 7), (⟨"BoardStones$Reader", "readItem", "(LBoardStones$House;I)V"⟩, 7), (⟨"BoardStones$Reader", "readRooms", "(LBoardStones$House;I)V"⟩, 7), (⟨"BoardStones$Reader", "readNumber", "(II)I"⟩, 7), (⟨"BoardStones$Reader", "readStop", "()V"⟩, 7), (⟨"BoardStones$Reader", "readPath", "(LBoardStones$House;)V"⟩, 7), (⟨"BoardStones$Reader", "refuseAlike", "(II)V"⟩, 7), (⟨"BoardStones$Reader", "readDirector", "(LBoardStones$House;)V"⟩, 7), (⟨"BoardStones$Reader", "readFriends", "(LBoardStones$House;)V"⟩, 7), (⟨"BoardStones$Reader", "readChild", "(LBoardStones$House;)V"⟩, 7), (⟨"BoardStones", "whoMayGo", "(I)I"⟩, 10), (⟨"BoardStones", "mayGo", "(II)Z"⟩, 10), (⟨"BoardStones", "strengthLeft", "(I)I"⟩, 10), (⟨"BoardStones$History", "loseOldest", "()V"⟩, 2)]
theorem lw_r1 : ∀ q ∈ lw_privs_1, lw_okq q := List.forall_mem_cons.mpr ⟨lw_p0, List.forall_mem_cons.mpr ⟨lw_p1, List.forall_mem_cons.mpr ⟨lw_p2, List.forall_mem_cons.mpr ⟨lw_p3, List.forall_mem_cons.mpr ⟨lw_p4, List.forall_mem_cons.mpr ⟨lw_p5, List.forall_mem_cons.mpr ⟨lw_p6, List.forall_mem_cons.mpr ⟨lw_p7, List.forall_mem_cons.mpr ⟨lw_p8, List.forall_mem_cons.mpr ⟨lw_p9, List.forall_mem_cons.mpr ⟨lw_p10, List.forall_mem_cons.mpr ⟨lw_p11, List.forall_mem_cons.mpr ⟨lw_p12, List.forall_mem_cons.mpr ⟨lw_p13, List.forall_mem_cons.mpr ⟨lw_p14, List.forall_mem_cons.mpr ⟨lw_p15, fun _ h => absurd h List.not_mem_nil⟩⟩⟩⟩⟩⟩⟩⟩⟩⟩⟩⟩⟩⟩⟩⟩
theorem lw_p16 : lw_okq (⟨"BoardStones", "whoIsIn", "(I)I"⟩, 10) := ⟨⟨by decide +kernel, by decide +kernel⟩, List.mem_of_getElem? (i := 15) (by decide +kernel), List.mem_of_getElem? (i := 482) (by decide +kernel), List.mem_of_getElem? (i := 483) (by decide +kernel)⟩
theorem lw_p17 : lw_okq (⟨"BoardStones$Ways", "lessen", "(III)V"⟩, 4) := ⟨⟨by decide +kernel, by decide +kernel⟩, List.mem_of_getElem? (i := 197) (by decide +kernel), List.mem_of_getElem? (i := 523) (by decide +kernel), List.mem_of_getElem? (i := 524) (by decide +kernel)⟩
theorem lw_p18 : lw_okq (⟨"BoardStones", "stonesTogether", "()I"⟩, 10) := ⟨⟨by decide +kernel, by decide +kernel⟩, List.mem_of_getElem? (i := 15) (by decide +kernel), List.mem_of_getElem? (i := 545) (by decide +kernel), List.mem_of_getElem? (i := 546) (by decide +kernel)⟩
theorem lw_p19 : lw_okq (⟨"BoardStones$Couples", "mostOf", "(ILBoardStones$House;LBoardStones$Now;)I"⟩, 3) := ⟨⟨by decide +kernel, by decide +kernel⟩, List.mem_of_getElem? (i := 218) (by decide +kernel), List.mem_of_getElem? (i := 578) (by decide +kernel), List.mem_of_getElem? (i := 579) (by decide +kernel)⟩
theorem lw_p20 : lw_okq (⟨"BoardStones$Couples", "settle", "(IILBoardStones$House;LBoardStones$Now;)I"⟩, 3) := ⟨⟨by decide +kernel, by decide +kernel⟩, List.mem_of_getElem? (i := 218) (by decide +kernel), List.mem_of_getElem? (i := 590) (by decide +kernel), List.mem_of_getElem? (i := 591) (by decide +kernel)⟩
theorem lw_p21 : lw_okq (⟨"BoardStones", "asDirector", "(I)I"⟩, 10) := ⟨⟨by decide +kernel, by decide +kernel⟩, List.mem_of_getElem? (i := 15) (by decide +kernel), List.mem_of_getElem? (i := 636) (by decide +kernel), List.mem_of_getElem? (i := 637) (by decide +kernel)⟩
theorem lw_p22 : lw_okq (⟨"BoardStones", "asFounder", "(I)I"⟩, 10) := ⟨⟨by decide +kernel, by decide +kernel⟩, List.mem_of_getElem? (i := 15) (by decide +kernel), List.mem_of_getElem? (i := 640) (by decide +kernel), List.mem_of_getElem? (i := 641) (by decide +kernel)⟩
theorem lw_p23 : lw_okq (⟨"BoardStones", "asChair", "(I)I"⟩, 10) := ⟨⟨by decide +kernel, by decide +kernel⟩, List.mem_of_getElem? (i := 15) (by decide +kernel), List.mem_of_getElem? (i := 645) (by decide +kernel), List.mem_of_getElem? (i := 646) (by decide +kernel)⟩
theorem lw_p24 : lw_okq (⟨"BoardStones", "asElder", "(I)I"⟩, 10) := ⟨⟨by decide +kernel, by decide +kernel⟩, List.mem_of_getElem? (i := 15) (by decide +kernel), List.mem_of_getElem? (i := 650) (by decide +kernel), List.mem_of_getElem? (i := 651) (by decide +kernel)⟩
theorem lw_p25 : lw_okq (⟨"BoardStones", "asBursar", "(I)I"⟩, 10) := ⟨⟨by decide +kernel, by decide +kernel⟩, List.mem_of_getElem? (i := 15) (by decide +kernel), List.mem_of_getElem? (i := 655) (by decide +kernel), List.mem_of_getElem? (i := 656) (by decide +kernel)⟩
theorem lw_p26 : lw_okq (⟨"BoardStones", "asClerk", "(I)I"⟩, 10) := ⟨⟨by decide +kernel, by decide +kernel⟩, List.mem_of_getElem? (i := 15) (by decide +kernel), List.mem_of_getElem? (i := 660) (by decide +kernel), List.mem_of_getElem? (i := 661) (by decide +kernel)⟩
theorem lw_p27 : lw_okq (⟨"BoardStonesModel", "next", "()V"⟩, 34) := ⟨⟨by decide +kernel, by decide +kernel⟩, List.mem_of_getElem? (i := 694) (by decide +kernel), List.mem_of_getElem? (i := 820) (by decide +kernel), List.mem_of_getElem? (i := 821) (by decide +kernel)⟩
theorem lw_p28 : lw_okq (⟨"BoardStonesModel", "readRooms", "(I)V"⟩, 34) := ⟨⟨by decide +kernel, by decide +kernel⟩, List.mem_of_getElem? (i := 694) (by decide +kernel), List.mem_of_getElem? (i := 830) (by decide +kernel), List.mem_of_getElem? (i := 831) (by decide +kernel)⟩
theorem lw_p29 : lw_okq (⟨"BoardStonesModel", "must", "(Z)V"⟩, 34) := ⟨⟨by decide +kernel, by decide +kernel⟩, List.mem_of_getElem? (i := 694) (by decide +kernel), List.mem_of_getElem? (i := 834) (by decide +kernel), List.mem_of_getElem? (i := 835) (by decide +kernel)⟩
theorem lw_p30 : lw_okq (⟨"BoardStonesModel", "goOn", "()V"⟩, 34) := ⟨⟨by decide +kernel, by decide +kernel⟩, List.mem_of_getElem? (i := 694) (by decide +kernel), List.mem_of_getElem? (i := 838) (by decide +kernel), List.mem_of_getElem? (i := 839) (by decide +kernel)⟩
theorem lw_p31 : lw_okq (⟨"BoardStonesModel", "number", "(II)I"⟩, 34) := ⟨⟨by decide +kernel, by decide +kernel⟩, List.mem_of_getElem? (i := 694) (by decide +kernel), List.mem_of_getElem? (i := 842) (by decide +kernel), List.mem_of_getElem? (i := 843) (by decide +kernel)⟩
def lw_privs_2 : List (MethodName × Nat) := [(⟨"BoardStones", "whoIsIn", "(I)I"⟩, 10), (⟨"BoardStones$Ways", "lessen", "(III)V"⟩, 4), (⟨"BoardStones", "stonesTogether", "()I"⟩, 10), (⟨"BoardStones$Couples", "mostOf", "(ILBoardStones$House;LBoardStones$Now;)I"⟩, 3), (⟨"BoardStones$Couples", "settle", "(IILBoardStones$House;LBoardStones$Now;)I"⟩, 3), (⟨"BoardStones", "asDirector", "(I)I"⟩, 10), (⟨"BoardStones", "asFounder", "(I)I"⟩, 10), (⟨"BoardStones", "asChair", "(I)I"⟩, 10), (⟨"BoardStones", "asElder", "(I)I"⟩, 10), (⟨"BoardStones", "asBursar", "(I)I"⟩, 10), (⟨"BoardStones", "asClerk", "(I)I"⟩, 10), (⟨"BoardStonesModel", "next", "()V"⟩, 34), (⟨"BoardStonesModel", "readRooms", "(I)V"⟩, 34), (⟨"BoardStonesModel", "must", "(Z)V"⟩, 34), (⟨"BoardStonesModel", "goOn", "()V"⟩, 34), (⟨"BoardStonesModel", "number", "(II)I"⟩, 34)]
theorem lw_r2 : ∀ q ∈ lw_privs_2, lw_okq q := List.forall_mem_cons.mpr ⟨lw_p16, List.forall_mem_cons.mpr ⟨lw_p17, List.forall_mem_cons.mpr ⟨lw_p18, List.forall_mem_cons.mpr ⟨lw_p19, List.forall_mem_cons.mpr ⟨lw_p20, List.forall_mem_cons.mpr ⟨lw_p21, List.forall_mem_cons.mpr ⟨lw_p22, List.forall_mem_cons.mpr ⟨lw_p23, List.forall_mem_cons.mpr ⟨lw_p24, List.forall_mem_cons.mpr ⟨lw_p25, List.forall_mem_cons.mpr ⟨lw_p26, List.forall_mem_cons.mpr ⟨lw_p27, List.forall_mem_cons.mpr ⟨lw_p28, List.forall_mem_cons.mpr ⟨lw_p29, List.forall_mem_cons.mpr ⟨lw_p30, List.forall_mem_cons.mpr ⟨lw_p31, fun _ h => absurd h List.not_mem_nil⟩⟩⟩⟩⟩⟩⟩⟩⟩⟩⟩⟩⟩⟩⟩⟩
theorem lw_p32 : lw_okq (⟨"BoardStonesModel", "end", "()V"⟩, 34) := ⟨⟨by decide +kernel, by decide +kernel⟩, List.mem_of_getElem? (i := 694) (by decide +kernel), List.mem_of_getElem? (i := 846) (by decide +kernel), List.mem_of_getElem? (i := 847) (by decide +kernel)⟩
theorem lw_p33 : lw_okq (⟨"BoardStonesModel", "readPath", "()V"⟩, 34) := ⟨⟨by decide +kernel, by decide +kernel⟩, List.mem_of_getElem? (i := 694) (by decide +kernel), List.mem_of_getElem? (i := 850) (by decide +kernel), List.mem_of_getElem? (i := 851) (by decide +kernel)⟩
theorem lw_p34 : lw_okq (⟨"BoardStonesModel", "unlike", "(II)I"⟩, 34) := ⟨⟨by decide +kernel, by decide +kernel⟩, List.mem_of_getElem? (i := 694) (by decide +kernel), List.mem_of_getElem? (i := 854) (by decide +kernel), List.mem_of_getElem? (i := 855) (by decide +kernel)⟩
theorem lw_p35 : lw_okq (⟨"BoardStonesModel", "readDirector", "()V"⟩, 34) := ⟨⟨by decide +kernel, by decide +kernel⟩, List.mem_of_getElem? (i := 694) (by decide +kernel), List.mem_of_getElem? (i := 858) (by decide +kernel), List.mem_of_getElem? (i := 859) (by decide +kernel)⟩
theorem lw_p36 : lw_okq (⟨"BoardStonesModel", "readFriends", "()V"⟩, 34) := ⟨⟨by decide +kernel, by decide +kernel⟩, List.mem_of_getElem? (i := 694) (by decide +kernel), List.mem_of_getElem? (i := 862) (by decide +kernel), List.mem_of_getElem? (i := 863) (by decide +kernel)⟩
theorem lw_p37 : lw_okq (⟨"BoardStonesModel", "readChild", "()V"⟩, 34) := ⟨⟨by decide +kernel, by decide +kernel⟩, List.mem_of_getElem? (i := 694) (by decide +kernel), List.mem_of_getElem? (i := 866) (by decide +kernel), List.mem_of_getElem? (i := 867) (by decide +kernel)⟩
theorem lw_p38 : lw_okq (⟨"BoardStonesModel", "take", "()V"⟩, 34) := ⟨⟨by decide +kernel, by decide +kernel⟩, List.mem_of_getElem? (i := 694) (by decide +kernel), List.mem_of_getElem? (i := 870) (by decide +kernel), List.mem_of_getElem? (i := 871) (by decide +kernel)⟩
theorem lw_p39 : lw_okq (⟨"BoardStonesModel", "isPath", "(I)Z"⟩, 34) := ⟨⟨by decide +kernel, by decide +kernel⟩, List.mem_of_getElem? (i := 694) (by decide +kernel), List.mem_of_getElem? (i := 878) (by decide +kernel), List.mem_of_getElem? (i := 879) (by decide +kernel)⟩
theorem lw_p40 : lw_okq (⟨"BoardStonesModel", "may", "(II)Z"⟩, 34) := ⟨⟨by decide +kernel, by decide +kernel⟩, List.mem_of_getElem? (i := 694) (by decide +kernel), List.mem_of_getElem? (i := 883) (by decide +kernel), List.mem_of_getElem? (i := 884) (by decide +kernel)⟩
theorem lw_p41 : lw_okq (⟨"BoardStonesModel", "of", "(II)I"⟩, 34) := ⟨⟨by decide +kernel, by decide +kernel⟩, List.mem_of_getElem? (i := 694) (by decide +kernel), List.mem_of_getElem? (i := 887) (by decide +kernel), List.mem_of_getElem? (i := 888) (by decide +kernel)⟩
theorem lw_p42 : lw_okq (⟨"BoardStonesModel", "strength", "(I)I"⟩, 34) := ⟨⟨by decide +kernel, by decide +kernel⟩, List.mem_of_getElem? (i := 694) (by decide +kernel), List.mem_of_getElem? (i := 891) (by decide +kernel), List.mem_of_getElem? (i := 892) (by decide +kernel)⟩
theorem lw_p43 : lw_okq (⟨"BoardStonesModel", "isDirector", "(I)Z"⟩, 34) := ⟨⟨by decide +kernel, by decide +kernel⟩, List.mem_of_getElem? (i := 694) (by decide +kernel), List.mem_of_getElem? (i := 899) (by decide +kernel), List.mem_of_getElem? (i := 900) (by decide +kernel)⟩
theorem lw_p44 : lw_okq (⟨"BoardStonesModel", "gravity", "(I)I"⟩, 34) := ⟨⟨by decide +kernel, by decide +kernel⟩, List.mem_of_getElem? (i := 694) (by decide +kernel), List.mem_of_getElem? (i := 903) (by decide +kernel), List.mem_of_getElem? (i := 904) (by decide +kernel)⟩
theorem lw_p45 : lw_okq (⟨"BoardStonesModel", "friends", "(I)I"⟩, 34) := ⟨⟨by decide +kernel, by decide +kernel⟩, List.mem_of_getElem? (i := 694) (by decide +kernel), List.mem_of_getElem? (i := 907) (by decide +kernel), List.mem_of_getElem? (i := 908) (by decide +kernel)⟩
theorem lw_p46 : lw_okq (⟨"BoardStonesModel", "reach", "(I)I"⟩, 34) := ⟨⟨by decide +kernel, by decide +kernel⟩, List.mem_of_getElem? (i := 694) (by decide +kernel), List.mem_of_getElem? (i := 911) (by decide +kernel), List.mem_of_getElem? (i := 912) (by decide +kernel)⟩
theorem lw_p47 : lw_okq (⟨"BoardStonesModel", "lay", "(I)V"⟩, 34) := ⟨⟨by decide +kernel, by decide +kernel⟩, List.mem_of_getElem? (i := 694) (by decide +kernel), List.mem_of_getElem? (i := 915) (by decide +kernel), List.mem_of_getElem? (i := 916) (by decide +kernel)⟩
def lw_privs_3 : List (MethodName × Nat) := [(⟨"BoardStonesModel", "end", "()V"⟩, 34), (⟨"BoardStonesModel", "readPath", "()V"⟩, 34), (⟨"BoardStonesModel", "unlike", "(II)I"⟩, 34), (⟨"BoardStonesModel", "readDirector", "()V"⟩, 34), (⟨"BoardStonesModel", "readFriends", "()V"⟩, 34), (⟨"BoardStonesModel", "readChild", "()V"⟩, 34), (⟨"BoardStonesModel", "take", "()V"⟩, 34), (⟨"BoardStonesModel", "isPath", "(I)Z"⟩, 34), (⟨"BoardStonesModel", "may", "(II)Z"⟩, 34), (⟨"BoardStonesModel", "of", "(II)I"⟩, 34), (⟨"BoardStonesModel", "strength", "(I)I"⟩, 34), (⟨"BoardStonesModel", "isDirector", "(I)Z"⟩, 34), (⟨"BoardStonesModel", "gravity", "(I)I"⟩, 34), (⟨"BoardStonesModel", "friends", "(I)I"⟩, 34), (⟨"BoardStonesModel", "reach", "(I)I"⟩, 34), (⟨"BoardStonesModel", "lay", "(I)V"⟩, 34)]
theorem lw_r3 : ∀ q ∈ lw_privs_3, lw_okq q := List.forall_mem_cons.mpr ⟨lw_p32, List.forall_mem_cons.mpr ⟨lw_p33, List.forall_mem_cons.mpr ⟨lw_p34, List.forall_mem_cons.mpr ⟨lw_p35, List.forall_mem_cons.mpr ⟨lw_p36, List.forall_mem_cons.mpr ⟨lw_p37, List.forall_mem_cons.mpr ⟨lw_p38, List.forall_mem_cons.mpr ⟨lw_p39, List.forall_mem_cons.mpr ⟨lw_p40, List.forall_mem_cons.mpr ⟨lw_p41, List.forall_mem_cons.mpr ⟨lw_p42, List.forall_mem_cons.mpr ⟨lw_p43, List.forall_mem_cons.mpr ⟨lw_p44, List.forall_mem_cons.mpr ⟨lw_p45, List.forall_mem_cons.mpr ⟨lw_p46, List.forall_mem_cons.mpr ⟨lw_p47, fun _ h => absurd h List.not_mem_nil⟩⟩⟩⟩⟩⟩⟩⟩⟩⟩⟩⟩⟩⟩⟩⟩
theorem lw_p48 : lw_okq (⟨"BoardStonesModel", "other", "(II)I"⟩, 34) := ⟨⟨by decide +kernel, by decide +kernel⟩, List.mem_of_getElem? (i := 694) (by decide +kernel), List.mem_of_getElem? (i := 927) (by decide +kernel), List.mem_of_getElem? (i := 928) (by decide +kernel)⟩
theorem lw_p49 : lw_okq (⟨"BoardStonesModel", "keepPast", "()V"⟩, 34) := ⟨⟨by decide +kernel, by decide +kernel⟩, List.mem_of_getElem? (i := 694) (by decide +kernel), List.mem_of_getElem? (i := 931) (by decide +kernel), List.mem_of_getElem? (i := 932) (by decide +kernel)⟩
theorem lw_p50 : lw_okq (⟨"BoardStonesModel", "isRoom", "(I)Z"⟩, 34) := ⟨⟨by decide +kernel, by decide +kernel⟩, List.mem_of_getElem? (i := 694) (by decide +kernel), List.mem_of_getElem? (i := 952) (by decide +kernel), List.mem_of_getElem? (i := 953) (by decide +kernel)⟩
theorem lw_p51 : lw_okq (⟨"BoardStonesModel", "spreadOf", "(I)I"⟩, 34) := ⟨⟨by decide +kernel, by decide +kernel⟩, List.mem_of_getElem? (i := 694) (by decide +kernel), List.mem_of_getElem? (i := 956) (by decide +kernel), List.mem_of_getElem? (i := 957) (by decide +kernel)⟩
theorem lw_p52 : lw_okq (⟨"BoardStonesModel", "meet", "()V"⟩, 34) := ⟨⟨by decide +kernel, by decide +kernel⟩, List.mem_of_getElem? (i := 694) (by decide +kernel), List.mem_of_getElem? (i := 974) (by decide +kernel), List.mem_of_getElem? (i := 975) (by decide +kernel)⟩
theorem lw_p53 : lw_okq (⟨"BoardStonesModel", "fewestToAll", "()I"⟩, 34) := ⟨⟨by decide +kernel, by decide +kernel⟩, List.mem_of_getElem? (i := 694) (by decide +kernel), List.mem_of_getElem? (i := 978) (by decide +kernel), List.mem_of_getElem? (i := 979) (by decide +kernel)⟩
theorem lw_p54 : lw_okq (⟨"BoardStonesModel", "stones", "()I"⟩, 34) := ⟨⟨by decide +kernel, by decide +kernel⟩, List.mem_of_getElem? (i := 694) (by decide +kernel), List.mem_of_getElem? (i := 982) (by decide +kernel), List.mem_of_getElem? (i := 983) (by decide +kernel)⟩
theorem lw_p55 : lw_okq (⟨"BoardStonesModel", "widest", "(II)I"⟩, 34) := ⟨⟨by decide +kernel, by decide +kernel⟩, List.mem_of_getElem? (i := 694) (by decide +kernel), List.mem_of_getElem? (i := 994) (by decide +kernel), List.mem_of_getElem? (i := 995) (by decide +kernel)⟩
theorem lw_p56 : lw_okq (⟨"BoardStonesModel", "layPairs", "()V"⟩, 34) := ⟨⟨by decide +kernel, by decide +kernel⟩, List.mem_of_getElem? (i := 694) (by decide +kernel), List.mem_of_getElem? (i := 1006) (by decide +kernel), List.mem_of_getElem? (i := 1007) (by decide +kernel)⟩
theorem lw_p57 : lw_okq (⟨"BoardStonesModel", "fit", "(II)Z"⟩, 34) := ⟨⟨by decide +kernel, by decide +kernel⟩, List.mem_of_getElem? (i := 694) (by decide +kernel), List.mem_of_getElem? (i := 1010) (by decide +kernel), List.mem_of_getElem? (i := 1011) (by decide +kernel)⟩
theorem lw_p58 : lw_okq (⟨"BoardStonesModel", "whoBits", "()I"⟩, 34) := ⟨⟨by decide +kernel, by decide +kernel⟩, List.mem_of_getElem? (i := 694) (by decide +kernel), List.mem_of_getElem? (i := 1032) (by decide +kernel), List.mem_of_getElem? (i := 1033) (by decide +kernel)⟩
theorem lw_p59 : lw_okq (⟨"BoardStonesModel", "founder", "(I)I"⟩, 34) := ⟨⟨by decide +kernel, by decide +kernel⟩, List.mem_of_getElem? (i := 694) (by decide +kernel), List.mem_of_getElem? (i := 1046) (by decide +kernel), List.mem_of_getElem? (i := 1047) (by decide +kernel)⟩
theorem lw_p60 : lw_okq (⟨"BoardStonesModel", "chair", "(I)I"⟩, 34) := ⟨⟨by decide +kernel, by decide +kernel⟩, List.mem_of_getElem? (i := 694) (by decide +kernel), List.mem_of_getElem? (i := 1051) (by decide +kernel), List.mem_of_getElem? (i := 1052) (by decide +kernel)⟩
def lw_privs_4 : List (MethodName × Nat) := [(⟨"BoardStonesModel", "other", "(II)I"⟩, 34), (⟨"BoardStonesModel", "keepPast", "()V"⟩, 34), (⟨"BoardStonesModel", "isRoom", "(I)Z"⟩, 34), (⟨"BoardStonesModel", "spreadOf", "(I)I"⟩, 34), (⟨"BoardStonesModel", "meet", "()V"⟩, 34), (⟨"BoardStonesModel", "fewestToAll", "()I"⟩, 34), (⟨"BoardStonesModel", "stones", "()I"⟩, 34), (⟨"BoardStonesModel", "widest", "(II)I"⟩, 34), (⟨"BoardStonesModel", "layPairs", "()V"⟩, 34), (⟨"BoardStonesModel", "fit", "(II)Z"⟩, 34), (⟨"BoardStonesModel", "whoBits", "()I"⟩, 34), (⟨"BoardStonesModel", "founder", "(I)I"⟩, 34), (⟨"BoardStonesModel", "chair", "(I)I"⟩, 34)]
theorem lw_r4 : ∀ q ∈ lw_privs_4, lw_okq q := List.forall_mem_cons.mpr ⟨lw_p48, List.forall_mem_cons.mpr ⟨lw_p49, List.forall_mem_cons.mpr ⟨lw_p50, List.forall_mem_cons.mpr ⟨lw_p51, List.forall_mem_cons.mpr ⟨lw_p52, List.forall_mem_cons.mpr ⟨lw_p53, List.forall_mem_cons.mpr ⟨lw_p54, List.forall_mem_cons.mpr ⟨lw_p55, List.forall_mem_cons.mpr ⟨lw_p56, List.forall_mem_cons.mpr ⟨lw_p57, List.forall_mem_cons.mpr ⟨lw_p58, List.forall_mem_cons.mpr ⟨lw_p59, List.forall_mem_cons.mpr ⟨lw_p60, fun _ h => absurd h List.not_mem_nil⟩⟩⟩⟩⟩⟩⟩⟩⟩⟩⟩⟩⟩
def lw_privs : List (MethodName × Nat) := lw_privs_1 ++ (lw_privs_2 ++ (lw_privs_3 ++ (lw_privs_4)))
def lw_tbl : List Cond := k2_sels lw_privs ++ tables_1
theorem lw_privs_ok : ∀ q ∈ lw_privs, lw_okq q := by
  show ∀ q ∈ lw_privs_1 ++ (lw_privs_2 ++ (lw_privs_3 ++ (lw_privs_4))), lw_okq q
  exact List.forall_mem_append.mpr ⟨lw_r1, List.forall_mem_append.mpr ⟨lw_r2, List.forall_mem_append.mpr ⟨lw_r3, lw_r4⟩⟩⟩

/-! ===== BEGIN words of one list among another's, by their places ===== -/
theorem goodIn_r {big : List Cond} (ws : List Cond) (ps : List Nat) (hp : ws = ps.filterMap (fun i => big[i]?)) (h : ws.all goodWord = true) : GoodIn big ws := by
  intro w hw
  have h1 := List.all_eq_true.mp h w hw
  rw [hp] at hw
  obtain ⟨i, -, hi⟩ := List.mem_filterMap.mp hw
  have hm : w ∈ big := by first | exact List.mem_of_getElem? hi | exact List.getElem?_mem hi
  exact ⟨hm, good_of_word h1⟩
theorem goodIn_app {big a b : List Cond} (ha : GoodIn big a) (hb : GoodIn big b) : GoodIn big (a ++ b) := fun w h => (List.mem_append.mp h).elim (ha w) (hb w)
theorem goodIn_ca {big a b : List Cond} {c : Cond} (ha : GoodIn big (c :: a)) (hb : GoodIn big b) : GoodIn big (c :: (a ++ b)) := fun w h => (List.mem_cons.mp h).elim (fun e => ha w (List.mem_cons.mpr (Or.inl e))) (fun h => (List.mem_append.mp h).elim (fun h => ha w (List.mem_cons.mpr (Or.inr h))) (hb w))
theorem goodIn_sub {big ws : List Cond} (hm : ∀ w ∈ ws, w ∈ big) (h : ws.all goodWord = true) : GoodIn big ws := fun w hw => ⟨hm w hw, good_of_word (List.all_eq_true.mp h w hw)⟩
/-! ===== END ===== -/

/-! ===== BEGIN printed: names, fields, word lists, decode rows ===== -/
def RX0 : String := "BoardStones$Couples"
def TX0 : u_T := fun k => match k with
  | 0 => ("BoardStones$Couples", "most", "[I", true)
  | 1 => ("BoardStones$Couples", "partner", "[I", true)
  | _ => ("BoardStones$Couples", "count", "I", false)
def tyX0 : Nat → FieldType := fun k => match k with
  | 0 => .array .int
  | 1 => .array .int
  | _ => .int
abbrev wsX00 : List Cond := u_ws RX0 TX0 3
theorem nmX0 : ∀ a, a < 3 → ∀ b, b < 3 → a ≠ b → (TX0 a).2.1 ≠ (TX0 b).2.1 := by decide +kernel
theorem tyX0_ok : ∀ k, k < 3 → parseFieldDescriptor (TX0 k).2.2.1 = some (tyX0 k) := by decide +kernel
abbrev cX0_init : ByteArray := prog_2_method_1_code
def yX0_init : MethodName := ⟨RX0, "<init>", "()V"⟩
abbrev cX0_find : ByteArray := prog_2_method_2_code
def yX0_find : MethodName := ⟨RX0, "find", "(LBoardStones$House;LBoardStones$Now;)V"⟩
abbrev cX0_mostOf : ByteArray := prog_2_method_3_code
def yX0_mostOf : MethodName := ⟨RX0, "mostOf", "(ILBoardStones$House;LBoardStones$Now;)I"⟩
abbrev cX0_settle : ByteArray := prog_2_method_4_code
def yX0_settle : MethodName := ⟨RX0, "settle", "(IILBoardStones$House;LBoardStones$Now;)I"⟩
abbrev cX0_lowestOf : ByteArray := prog_2_method_5_code
def yX0_lowestOf : MethodName := ⟨RX0, "lowestOf", "(I)I"⟩
abbrev cX0_canPair : ByteArray := prog_2_method_6_code
def yX0_canPair : MethodName := ⟨RX0, "canPair", "(IILBoardStones$House;LBoardStones$Now;)Z"⟩
def RX1 : String := "BoardStones$Fractions"
def TX1 : u_T := fun k => match k with
  | _ => ("", "", "", false)
def tyX1 : Nat → FieldType := fun k => match k with
  | _ => .int
abbrev wsX10 : List Cond := u_ws RX1 TX1 0
theorem nmX1 : ∀ a, a < 0 → ∀ b, b < 0 → a ≠ b → (TX1 a).2.1 ≠ (TX1 b).2.1 := by decide +kernel
theorem tyX1_ok : ∀ k, k < 0 → parseFieldDescriptor (TX1 k).2.2.1 = some (tyX1 k) := by decide +kernel
abbrev cX1_atMost : ByteArray := prog_3_method_2_code
def yX1_atMost : MethodName := ⟨RX1, "atMost", "(III)I"⟩
abbrev cX1_power : ByteArray := prog_3_method_3_code
def yX1_power : MethodName := ⟨RX1, "power", "(II)I"⟩
abbrev cX1_commonDivisor : ByteArray := prog_3_method_4_code
def yX1_commonDivisor : MethodName := ⟨RX1, "commonDivisor", "(II)I"⟩
def RX2 : String := "BoardStones$Hearing"
def TX2 : u_T := fun k => match k with
  | 0 => ("BoardStones$Hearing", "path", "[I", true)
  | 1 => ("BoardStones$Hearing", "went", "[I", true)
  | _ => ("BoardStones$Hearing", "size", "I", false)
def tyX2 : Nat → FieldType := fun k => match k with
  | 0 => .array .int
  | 1 => .array .int
  | _ => .int
abbrev wsX20 : List Cond := u_ws RX2 TX2 3
theorem nmX2 : ∀ a, a < 3 → ∀ b, b < 3 → a ≠ b → (TX2 a).2.1 ≠ (TX2 b).2.1 := by decide +kernel
theorem tyX2_ok : ∀ k, k < 3 → parseFieldDescriptor (TX2 k).2.2.1 = some (tyX2 k) := by decide +kernel
abbrev cX2_init : ByteArray := prog_4_method_1_code
def yX2_init : MethodName := ⟨RX2, "<init>", "()V"⟩
abbrev cX2_add : ByteArray := prog_4_method_2_code
def yX2_add : MethodName := ⟨RX2, "add", "(II)Z"⟩
def RX3 : String := "BoardStones$History"
def TX3 : u_T := fun k => match k with
  | 0 => ("BoardStones$History", "ahead", "[LBoardStones$Now;", true)
  | _ => ("BoardStones$History", "known", "I", false)
def tyX3 : Nat → FieldType := fun k => match k with
  | 0 => .array (.object "BoardStones$Now")
  | _ => .int
abbrev wsX30 : List Cond := u_ws RX3 TX3 2
theorem nmX3 : ∀ a, a < 2 → ∀ b, b < 2 → a ≠ b → (TX3 a).2.1 ≠ (TX3 b).2.1 := by decide +kernel
theorem tyX3_ok : ∀ k, k < 2 → parseFieldDescriptor (TX3 k).2.2.1 = some (tyX3 k) := by decide +kernel
abbrev cX3_init : ByteArray := prog_5_method_1_code
def yX3_init : MethodName := ⟨RX3, "<init>", "()V"⟩
abbrev cX3_remember : ByteArray := prog_5_method_2_code
def yX3_remember : MethodName := ⟨RX3, "remember", "(LBoardStones$Now;)V"⟩
abbrev cX3_takeBack : ByteArray := prog_5_method_3_code
def yX3_takeBack : MethodName := ⟨RX3, "takeBack", "(LBoardStones$Now;)V"⟩
abbrev cX3_copyFrom : ByteArray := prog_5_method_4_code
def yX3_copyFrom : MethodName := ⟨RX3, "copyFrom", "(LBoardStones$History;)V"⟩
abbrev cX3_loseOldest : ByteArray := prog_5_method_5_code
def yX3_loseOldest : MethodName := ⟨RX3, "loseOldest", "()V"⟩
def RX4 : String := "BoardStones$House"
def TX4 : u_T := fun k => match k with
  | 0 => ("BoardStones$House", "rooms", "I", false)
  | 1 => ("BoardStones$House", "paths", "I", false)
  | 2 => ("BoardStones$House", "directors", "I", false)
  | 3 => ("BoardStones$House", "children", "I", false)
  | 4 => ("BoardStones$House", "oneEnd", "[I", true)
  | 5 => ("BoardStones$House", "otherEnd", "[I", true)
  | 6 => ("BoardStones$House", "steps", "[I", true)
  | 7 => ("BoardStones$House", "strength", "[I", true)
  | 8 => ("BoardStones$House", "stone", "[I", true)
  | 9 => ("BoardStones$House", "gravity", "[I", true)
  | 10 => ("BoardStones$House", "room", "[I", true)
  | 11 => ("BoardStones$House", "friends", "[I", true)
  | _ => ("BoardStones$House", "nerve", "[I", true)
def tyX4 : Nat → FieldType := fun k => match k with
  | 0 => .int
  | 1 => .int
  | 2 => .int
  | 3 => .int
  | 4 => .array .int
  | 5 => .array .int
  | 6 => .array .int
  | 7 => .array .int
  | 8 => .array .int
  | 9 => .array .int
  | 10 => .array .int
  | 11 => .array .int
  | _ => .array .int
abbrev wsX40 : List Cond := u_ws RX4 TX4 13
theorem nmX4 : ∀ a, a < 13 → ∀ b, b < 13 → a ≠ b → (TX4 a).2.1 ≠ (TX4 b).2.1 := by decide +kernel
theorem tyX4_ok : ∀ k, k < 13 → parseFieldDescriptor (TX4 k).2.2.1 = some (tyX4 k) := by decide +kernel
abbrev cX4_init : ByteArray := prog_6_method_1_code
def yX4_init : MethodName := ⟨RX4, "<init>", "()V"⟩
abbrev cX4_tellNothing : ByteArray := prog_6_method_2_code
def yX4_tellNothing : MethodName := ⟨RX4, "tellNothing", "()V"⟩
abbrev cX4_addPath : ByteArray := prog_6_method_3_code
def yX4_addPath : MethodName := ⟨RX4, "addPath", "(III)V"⟩
abbrev cX4_addDirector : ByteArray := prog_6_method_4_code
def yX4_addDirector : MethodName := ⟨RX4, "addDirector", "(IIII)V"⟩
abbrev cX4_addFriends : ByteArray := prog_6_method_5_code
def yX4_addFriends : MethodName := ⟨RX4, "addFriends", "(II)V"⟩
abbrev cX4_addChild : ByteArray := prog_6_method_6_code
def yX4_addChild : MethodName := ⟨RX4, "addChild", "(I)V"⟩
abbrev cX4_hasRoom : ByteArray := prog_6_method_7_code
def yX4_hasRoom : MethodName := ⟨RX4, "hasRoom", "(I)Z"⟩
abbrev cX4_hasPath : ByteArray := prog_6_method_8_code
def yX4_hasPath : MethodName := ⟨RX4, "hasPath", "(I)Z"⟩
abbrev cX4_hasDirector : ByteArray := prog_6_method_9_code
def yX4_hasDirector : MethodName := ⟨RX4, "hasDirector", "(I)Z"⟩
abbrev cX4_hasChild : ByteArray := prog_6_method_10_code
def yX4_hasChild : MethodName := ⟨RX4, "hasChild", "(I)Z"⟩
abbrev cX4_allDirectors : ByteArray := prog_6_method_11_code
def yX4_allDirectors : MethodName := ⟨RX4, "allDirectors", "()I"⟩
abbrev cX4_acrossFrom : ByteArray := prog_6_method_12_code
def yX4_acrossFrom : MethodName := ⟨RX4, "acrossFrom", "(II)I"⟩
abbrev cX4_reachable : ByteArray := prog_6_method_13_code
def yX4_reachable : MethodName := ⟨RX4, "reachable", "(II)I"⟩
abbrev cX4_laughFrom : ByteArray := prog_6_method_14_code
def yX4_laughFrom : MethodName := ⟨RX4, "laughFrom", "(I)I"⟩
abbrev cX4_fewestToLaugh : ByteArray := prog_6_method_15_code
def yX4_fewestToLaugh : MethodName := ⟨RX4, "fewestToLaugh", "()I"⟩
def RX5 : String := "BoardStones$Image"
def TX5 : u_T := fun k => match k with
  | 0 => ("BoardStones$Image", "present", "LBoardStones$Now;", true)
  | 1 => ("BoardStones$Image", "history", "LBoardStones$History;", true)
  | _ => ("BoardStones$Image", "kept", "Z", false)
def tyX5 : Nat → FieldType := fun k => match k with
  | 0 => .object "BoardStones$Now"
  | 1 => .object "BoardStones$History"
  | _ => .boolean
abbrev wsX50 : List Cond := u_ws RX5 TX5 3
theorem nmX5 : ∀ a, a < 3 → ∀ b, b < 3 → a ≠ b → (TX5 a).2.1 ≠ (TX5 b).2.1 := by decide +kernel
theorem tyX5_ok : ∀ k, k < 3 → parseFieldDescriptor (TX5 k).2.2.1 = some (tyX5 k) := by decide +kernel
abbrev cX5_init : ByteArray := prog_7_method_1_code
def yX5_init : MethodName := ⟨RX5, "<init>", "()V"⟩
abbrev cX5_take : ByteArray := prog_7_method_2_code
def yX5_take : MethodName := ⟨RX5, "take", "(LBoardStones$Now;LBoardStones$History;)V"⟩
abbrev cX5_give : ByteArray := prog_7_method_3_code
def yX5_give : MethodName := ⟨RX5, "give", "(LBoardStones$Now;LBoardStones$History;)V"⟩
def RX6 : String := "BoardStones$Now"
def TX6 : u_T := fun k => match k with
  | 0 => ("BoardStones$Now", "room", "[I", true)
  | 1 => ("BoardStones$Now", "stone", "[I", true)
  | 2 => ("BoardStones$Now", "weary", "[I", true)
  | 3 => ("BoardStones$Now", "lookedInto", "[I", true)
  | 4 => ("BoardStones$Now", "hurt", "[I", true)
  | _ => ("BoardStones$Now", "laughing", "I", false)
def tyX6 : Nat → FieldType := fun k => match k with
  | 0 => .array .int
  | 1 => .array .int
  | 2 => .array .int
  | 3 => .array .int
  | 4 => .array .int
  | _ => .int
abbrev wsX60 : List Cond := u_ws RX6 TX6 6
theorem nmX6 : ∀ a, a < 6 → ∀ b, b < 6 → a ≠ b → (TX6 a).2.1 ≠ (TX6 b).2.1 := by decide +kernel
theorem tyX6_ok : ∀ k, k < 6 → parseFieldDescriptor (TX6 k).2.2.1 = some (tyX6 k) := by decide +kernel
abbrev cX6_init : ByteArray := prog_8_method_1_code
def yX6_init : MethodName := ⟨RX6, "<init>", "()V"⟩
abbrev cX6_begin : ByteArray := prog_8_method_2_code
def yX6_begin : MethodName := ⟨RX6, "begin", "(LBoardStones$House;)V"⟩
abbrev cX6_copyFrom : ByteArray := prog_8_method_3_code
def yX6_copyFrom : MethodName := ⟨RX6, "copyFrom", "(LBoardStones$Now;)V"⟩
abbrev cX6_lookInto : ByteArray := prog_8_method_4_code
def yX6_lookInto : MethodName := ⟨RX6, "lookInto", "(II)V"⟩
def RX7 : String := "BoardStones$Reader"
def TX7 : u_T := fun k => match k with
  | 0 => ("BoardStones$Reader", "bytes", "[I", true)
  | 1 => ("BoardStones$Reader", "length", "I", false)
  | 2 => ("BoardStones$Reader", "at", "I", false)
  | 3 => ("BoardStones$Reader", "place", "I", false)
  | 4 => ("BoardStones$Reader", "kind", "I", false)
  | 5 => ("BoardStones$Reader", "value", "I", false)
  | _ => ("BoardStones$Reader", "failed", "Z", false)
def tyX7 : Nat → FieldType := fun k => match k with
  | 0 => .array .int
  | 1 => .int
  | 2 => .int
  | 3 => .int
  | 4 => .int
  | 5 => .int
  | _ => .boolean
abbrev wsX70 : List Cond := u_ws RX7 TX7 7
theorem nmX7 : ∀ a, a < 7 → ∀ b, b < 7 → a ≠ b → (TX7 a).2.1 ≠ (TX7 b).2.1 := by decide +kernel
theorem tyX7_ok : ∀ k, k < 7 → parseFieldDescriptor (TX7 k).2.2.1 = some (tyX7 k) := by decide +kernel
abbrev cX7_init : ByteArray := prog_9_method_1_code
def yX7_init : MethodName := ⟨RX7, "<init>", "()V"⟩
abbrev cX7_append : ByteArray := prog_9_method_2_code
def yX7_append : MethodName := ⟨RX7, "append", "(I)Z"⟩
abbrev cX7_drop : ByteArray := prog_9_method_3_code
def yX7_drop : MethodName := ⟨RX7, "drop", "()I"⟩
abbrev cX7_readInto : ByteArray := prog_9_method_4_code
def yX7_readInto : MethodName := ⟨RX7, "readInto", "(LBoardStones$House;)I"⟩
abbrev cX7_readItem : ByteArray := prog_9_method_5_code
def yX7_readItem : MethodName := ⟨RX7, "readItem", "(LBoardStones$House;I)V"⟩
abbrev cX7_readRooms : ByteArray := prog_9_method_6_code
def yX7_readRooms : MethodName := ⟨RX7, "readRooms", "(LBoardStones$House;I)V"⟩
abbrev cX7_readPath : ByteArray := prog_9_method_7_code
def yX7_readPath : MethodName := ⟨RX7, "readPath", "(LBoardStones$House;)V"⟩
abbrev cX7_readDirector : ByteArray := prog_9_method_8_code
def yX7_readDirector : MethodName := ⟨RX7, "readDirector", "(LBoardStones$House;)V"⟩
abbrev cX7_readFriends : ByteArray := prog_9_method_9_code
def yX7_readFriends : MethodName := ⟨RX7, "readFriends", "(LBoardStones$House;)V"⟩
abbrev cX7_readChild : ByteArray := prog_9_method_10_code
def yX7_readChild : MethodName := ⟨RX7, "readChild", "(LBoardStones$House;)V"⟩
abbrev cX7_readNumber : ByteArray := prog_9_method_11_code
def yX7_readNumber : MethodName := ⟨RX7, "readNumber", "(II)I"⟩
abbrev cX7_refuseAlike : ByteArray := prog_9_method_12_code
def yX7_refuseAlike : MethodName := ⟨RX7, "refuseAlike", "(II)V"⟩
abbrev cX7_readStop : ByteArray := prog_9_method_13_code
def yX7_readStop : MethodName := ⟨RX7, "readStop", "()V"⟩
abbrev cX7_nextToken : ByteArray := prog_9_method_14_code
def yX7_nextToken : MethodName := ⟨RX7, "nextToken", "()V"⟩
abbrev cX7_takeLetters : ByteArray := prog_9_method_15_code
def yX7_takeLetters : MethodName := ⟨RX7, "takeLetters", "()V"⟩
abbrev cX7_takeNumber : ByteArray := prog_9_method_16_code
def yX7_takeNumber : MethodName := ⟨RX7, "takeNumber", "()V"⟩
abbrev cX7_isLetter : ByteArray := prog_9_method_17_code
def yX7_isLetter : MethodName := ⟨RX7, "isLetter", "(I)Z"⟩
abbrev cX7_isDigit : ByteArray := prog_9_method_18_code
def yX7_isDigit : MethodName := ⟨RX7, "isDigit", "(I)Z"⟩
def RX8 : String := "BoardStones$Ways"
def TX8 : u_T := fun k => match k with
  | 0 => ("BoardStones$Ways", "least", "[I", true)
  | 1 => ("BoardStones$Ways", "together", "[I", true)
  | 2 => ("BoardStones$Ways", "meetingRoom", "I", false)
  | _ => ("BoardStones$Ways", "meetingWeariness", "I", false)
def tyX8 : Nat → FieldType := fun k => match k with
  | 0 => .array .int
  | 1 => .array .int
  | 2 => .int
  | _ => .int
abbrev wsX80 : List Cond := u_ws RX8 TX8 4
theorem nmX8 : ∀ a, a < 4 → ∀ b, b < 4 → a ≠ b → (TX8 a).2.1 ≠ (TX8 b).2.1 := by decide +kernel
theorem tyX8_ok : ∀ k, k < 4 → parseFieldDescriptor (TX8 k).2.2.1 = some (tyX8 k) := by decide +kernel
abbrev cX8_init : ByteArray := prog_10_method_1_code
def yX8_init : MethodName := ⟨RX8, "<init>", "()V"⟩
abbrev cX8_findFrom : ByteArray := prog_10_method_2_code
def yX8_findFrom : MethodName := ⟨RX8, "findFrom", "(LBoardStones$House;III)V"⟩
abbrev cX8_lessen : ByteArray := prog_10_method_3_code
def yX8_lessen : MethodName := ⟨RX8, "lessen", "(III)V"⟩
abbrev cX8_leadTo : ByteArray := prog_10_method_4_code
def yX8_leadTo : MethodName := ⟨RX8, "leadTo", "(I)Z"⟩
abbrev cX8_wearinessTo : ByteArray := prog_10_method_5_code
def yX8_wearinessTo : MethodName := ⟨RX8, "wearinessTo", "(I)I"⟩
abbrev cX8_pathsTo : ByteArray := prog_10_method_6_code
def yX8_pathsTo : MethodName := ⟨RX8, "pathsTo", "(I)I"⟩
abbrev cX8_findMeeting : ByteArray := prog_10_method_7_code
def yX8_findMeeting : MethodName := ⟨RX8, "findMeeting", "(LBoardStones$House;LBoardStones$Now;)Z"⟩
def RX9 : String := "BoardStones"
def TX9 : u_T := fun k => match k with
  | 0 => ("BoardStones", "text", "LBoardStones$Reader;", true)
  | 1 => ("BoardStones", "told", "LBoardStones$House;", false)
  | 2 => ("BoardStones", "spare", "LBoardStones$House;", false)
  | 3 => ("BoardStones", "present", "LBoardStones$Now;", true)
  | 4 => ("BoardStones", "history", "LBoardStones$History;", true)
  | 5 => ("BoardStones", "images", "[LBoardStones$Image;", true)
  | 6 => ("BoardStones", "hearing", "LBoardStones$Hearing;", true)
  | 7 => ("BoardStones", "ways", "LBoardStones$Ways;", true)
  | 8 => ("BoardStones", "couples", "LBoardStones$Couples;", true)
  | _ => ("BoardStones", "traced", "J", false)
def tyX9 : Nat → FieldType := fun k => match k with
  | 0 => .object "BoardStones$Reader"
  | 1 => .object "BoardStones$House"
  | 2 => .object "BoardStones$House"
  | 3 => .object "BoardStones$Now"
  | 4 => .object "BoardStones$History"
  | 5 => .array (.object "BoardStones$Image")
  | 6 => .object "BoardStones$Hearing"
  | 7 => .object "BoardStones$Ways"
  | 8 => .object "BoardStones$Couples"
  | _ => .long
abbrev wsX90 : List Cond := u_ws RX9 TX9 10
theorem nmX9 : ∀ a, a < 10 → ∀ b, b < 10 → a ≠ b → (TX9 a).2.1 ≠ (TX9 b).2.1 := by decide +kernel
theorem tyX9_ok : ∀ k, k < 10 → parseFieldDescriptor (TX9 k).2.2.1 = some (tyX9 k) := by decide +kernel
abbrev cX9_init : ByteArray := prog_1_method_1_code
def yX9_init : MethodName := ⟨RX9, "<init>", "()V"⟩
abbrev cX9_type : ByteArray := prog_1_method_2_code
def yX9_type : MethodName := ⟨RX9, "type", "(I)I"⟩
abbrev cX9_clear : ByteArray := prog_1_method_3_code
def yX9_clear : MethodName := ⟨RX9, "clear", "()I"⟩
abbrev cX9_house : ByteArray := prog_1_method_4_code
def yX9_house : MethodName := ⟨RX9, "house", "()I"⟩
abbrev cX9_path : ByteArray := prog_1_method_5_code
def yX9_path : MethodName := ⟨RX9, "path", "(II)I"⟩
abbrev cX9_director : ByteArray := prog_1_method_6_code
def yX9_director : MethodName := ⟨RX9, "director", "(II)I"⟩
abbrev cX9_child : ByteArray := prog_1_method_7_code
def yX9_child : MethodName := ⟨RX9, "child", "(II)I"⟩
abbrev cX9_goes : ByteArray := prog_1_method_8_code
def yX9_goes : MethodName := ⟨RX9, "goes", "(II)I"⟩
abbrev cX9_rests : ByteArray := prog_1_method_9_code
def yX9_rests : MethodName := ⟨RX9, "rests", "(I)I"⟩
abbrev cX9_offends : ByteArray := prog_1_method_10_code
def yX9_offends : MethodName := ⟨RX9, "offends", "(III)I"⟩
abbrev cX9_shifts : ByteArray := prog_1_method_11_code
def yX9_shifts : MethodName := ⟨RX9, "shifts", "(II)I"⟩
abbrev cX9_calls : ByteArray := prog_1_method_12_code
def yX9_calls : MethodName := ⟨RX9, "calls", "(I)I"⟩
abbrev cX9_undo : ByteArray := prog_1_method_13_code
def yX9_undo : MethodName := ⟨RX9, "undo", "()I"⟩
abbrev cX9_now : ByteArray := prog_1_method_14_code
def yX9_now : MethodName := ⟨RX9, "now", "(I)I"⟩
abbrev cX9_way : ByteArray := prog_1_method_15_code
def yX9_way : MethodName := ⟨RX9, "way", "(III)I"⟩
abbrev cX9_edge : ByteArray := prog_1_method_16_code
def yX9_edge : MethodName := ⟨RX9, "edge", "(II)I"⟩
abbrev cX9_spread : ByteArray := prog_1_method_17_code
def yX9_spread : MethodName := ⟨RX9, "spread", "(I)I"⟩
abbrev cX9_pair : ByteArray := prog_1_method_18_code
def yX9_pair : MethodName := ⟨RX9, "pair", "(I)I"⟩
abbrev cX9_odds : ByteArray := prog_1_method_19_code
def yX9_odds : MethodName := ⟨RX9, "odds", "(III)I"⟩
abbrev cX9_hears : ByteArray := prog_1_method_20_code
def yX9_hears : MethodName := ⟨RX9, "hears", "(II)I"⟩
abbrev cX9_forget : ByteArray := prog_1_method_21_code
def yX9_forget : MethodName := ⟨RX9, "forget", "()I"⟩
abbrev cX9_who : ByteArray := prog_1_method_22_code
def yX9_who : MethodName := ⟨RX9, "who", "()I"⟩
abbrev cX9_ask : ByteArray := prog_1_method_23_code
def yX9_ask : MethodName := ⟨RX9, "ask", "()I"⟩
abbrev cX9_mark : ByteArray := prog_1_method_24_code
def yX9_mark : MethodName := ⟨RX9, "mark", "(II)I"⟩
abbrev cX9_keep : ByteArray := prog_1_method_25_code
def yX9_keep : MethodName := ⟨RX9, "keep", "(I)I"⟩
abbrev cX9_back : ByteArray := prog_1_method_26_code
def yX9_back : MethodName := ⟨RX9, "back", "(I)I"⟩
abbrev cX9_count : ByteArray := prog_1_method_27_code
def yX9_count : MethodName := ⟨RX9, "count", "(I)I"⟩
abbrev cX9_trace : ByteArray := prog_1_method_28_code
def yX9_trace : MethodName := ⟨RX9, "trace", "()J"⟩
abbrev cX9_asDirector : ByteArray := prog_1_method_29_code
def yX9_asDirector : MethodName := ⟨RX9, "asDirector", "(I)I"⟩
abbrev cX9_asFounder : ByteArray := prog_1_method_30_code
def yX9_asFounder : MethodName := ⟨RX9, "asFounder", "(I)I"⟩
abbrev cX9_asChair : ByteArray := prog_1_method_31_code
def yX9_asChair : MethodName := ⟨RX9, "asChair", "(I)I"⟩
abbrev cX9_asElder : ByteArray := prog_1_method_32_code
def yX9_asElder : MethodName := ⟨RX9, "asElder", "(I)I"⟩
abbrev cX9_asBursar : ByteArray := prog_1_method_33_code
def yX9_asBursar : MethodName := ⟨RX9, "asBursar", "(I)I"⟩
abbrev cX9_asClerk : ByteArray := prog_1_method_34_code
def yX9_asClerk : MethodName := ⟨RX9, "asClerk", "(I)I"⟩
abbrev cX9_strengthLeft : ByteArray := prog_1_method_35_code
def yX9_strengthLeft : MethodName := ⟨RX9, "strengthLeft", "(I)I"⟩
abbrev cX9_mayGo : ByteArray := prog_1_method_36_code
def yX9_mayGo : MethodName := ⟨RX9, "mayGo", "(II)Z"⟩
abbrev cX9_whoMayGo : ByteArray := prog_1_method_37_code
def yX9_whoMayGo : MethodName := ⟨RX9, "whoMayGo", "(I)I"⟩
abbrev cX9_whoIsIn : ByteArray := prog_1_method_38_code
def yX9_whoIsIn : MethodName := ⟨RX9, "whoIsIn", "(I)I"⟩
abbrev cX9_stonesTogether : ByteArray := prog_1_method_39_code
def yX9_stonesTogether : MethodName := ⟨RX9, "stonesTogether", "()I"⟩
abbrev cX9_has : ByteArray := prog_1_method_40_code
def yX9_has : MethodName := ⟨RX9, "has", "(II)Z"⟩
abbrev cX9_copyRow : ByteArray := prog_1_method_41_code
def yX9_copyRow : MethodName := ⟨RX9, "copyRow", "([I[I)V"⟩
def RX10 : String := "BoardStonesModel"
def TX10 : u_T := fun k => match k with
  | 0 => ("BoardStonesModel", "rooms", "I", false)
  | 1 => ("BoardStonesModel", "paths", "I", false)
  | 2 => ("BoardStonesModel", "path", "[I", true)
  | 3 => ("BoardStonesModel", "directors", "I", false)
  | 4 => ("BoardStonesModel", "director", "[I", true)
  | 5 => ("BoardStonesModel", "children", "I", false)
  | 6 => ("BoardStonesModel", "nerve", "[I", true)
  | 7 => ("BoardStonesModel", "now", "[I", true)
  | 8 => ("BoardStonesModel", "past", "[I", true)
  | 9 => ("BoardStonesModel", "acts", "I", false)
  | 10 => ("BoardStonesModel", "images", "[I", true)
  | 11 => ("BoardStonesModel", "isKept", "[Z", true)
  | 12 => ("BoardStonesModel", "heard", "[I", true)
  | 13 => ("BoardStonesModel", "heards", "I", false)
  | 14 => ("BoardStonesModel", "traced", "J", false)
  | 15 => ("BoardStonesModel", "text", "[I", true)
  | 16 => ("BoardStonesModel", "letters", "I", false)
  | 17 => ("BoardStonesModel", "at", "I", false)
  | 18 => ("BoardStonesModel", "fault", "I", false)
  | 19 => ("BoardStonesModel", "token", "I", false)
  | 20 => ("BoardStonesModel", "start", "I", false)
  | 21 => ("BoardStonesModel", "freshRooms", "I", false)
  | 22 => ("BoardStonesModel", "freshPaths", "I", false)
  | 23 => ("BoardStonesModel", "freshPath", "[I", true)
  | 24 => ("BoardStonesModel", "freshDirectors", "I", false)
  | 25 => ("BoardStonesModel", "freshDirector", "[I", true)
  | 26 => ("BoardStonesModel", "freshRoom", "[I", true)
  | 27 => ("BoardStonesModel", "freshStone", "[I", true)
  | 28 => ("BoardStonesModel", "freshChildren", "I", false)
  | 29 => ("BoardStonesModel", "freshNerve", "[I", true)
  | 30 => ("BoardStonesModel", "far", "[I", true)
  | 31 => ("BoardStonesModel", "meetRoom", "I", false)
  | 32 => ("BoardStonesModel", "meetWeary", "I", false)
  | _ => ("BoardStonesModel", "most", "[I", true)
def tyX10 : Nat → FieldType := fun k => match k with
  | 0 => .int
  | 1 => .int
  | 2 => .array .int
  | 3 => .int
  | 4 => .array .int
  | 5 => .int
  | 6 => .array .int
  | 7 => .array .int
  | 8 => .array .int
  | 9 => .int
  | 10 => .array .int
  | 11 => .array .boolean
  | 12 => .array .int
  | 13 => .int
  | 14 => .long
  | 15 => .array .int
  | 16 => .int
  | 17 => .int
  | 18 => .int
  | 19 => .int
  | 20 => .int
  | 21 => .int
  | 22 => .int
  | 23 => .array .int
  | 24 => .int
  | 25 => .array .int
  | 26 => .array .int
  | 27 => .array .int
  | 28 => .int
  | 29 => .array .int
  | 30 => .array .int
  | 31 => .int
  | 32 => .int
  | _ => .array .int
abbrev wsX100 : List Cond := u_ws RX10 TX10 34
theorem nmX10 : ∀ a, a < 34 → ∀ b, b < 34 → a ≠ b → (TX10 a).2.1 ≠ (TX10 b).2.1 := by decide +kernel
theorem tyX10_ok : ∀ k, k < 34 → parseFieldDescriptor (TX10 k).2.2.1 = some (tyX10 k) := by decide +kernel
abbrev cX10_init : ByteArray := prog_12_method_1_code
def yX10_init : MethodName := ⟨RX10, "<init>", "()V"⟩
abbrev cX10_in : ByteArray := prog_12_method_3_code
def yX10_in : MethodName := ⟨RX10, "in", "(JJJ)Z"⟩
abbrev cX10_has : ByteArray := prog_12_method_4_code
def yX10_has : MethodName := ⟨RX10, "has", "(II)Z"⟩
abbrev cX10_bits : ByteArray := prog_12_method_5_code
def yX10_bits : MethodName := ⟨RX10, "bits", "(I)I"⟩
abbrev cX10_isDirector : ByteArray := prog_12_method_6_code
def yX10_isDirector : MethodName := ⟨RX10, "isDirector", "(I)Z"⟩
abbrev cX10_isPath : ByteArray := prog_12_method_7_code
def yX10_isPath : MethodName := ⟨RX10, "isPath", "(I)Z"⟩
abbrev cX10_isRoom : ByteArray := prog_12_method_8_code
def yX10_isRoom : MethodName := ⟨RX10, "isRoom", "(I)Z"⟩
abbrev cX10_of : ByteArray := prog_12_method_9_code
def yX10_of : MethodName := ⟨RX10, "of", "(II)I"⟩
abbrev cX10_strength : ByteArray := prog_12_method_10_code
def yX10_strength : MethodName := ⟨RX10, "strength", "(I)I"⟩
abbrev cX10_gravity : ByteArray := prog_12_method_11_code
def yX10_gravity : MethodName := ⟨RX10, "gravity", "(I)I"⟩
abbrev cX10_friends : ByteArray := prog_12_method_12_code
def yX10_friends : MethodName := ⟨RX10, "friends", "(I)I"⟩
abbrev cX10_stones : ByteArray := prog_12_method_13_code
def yX10_stones : MethodName := ⟨RX10, "stones", "()I"⟩
abbrev cX10_type : ByteArray := prog_12_method_14_code
def yX10_type : MethodName := ⟨RX10, "type", "(I)I"⟩
abbrev cX10_clear : ByteArray := prog_12_method_15_code
def yX10_clear : MethodName := ⟨RX10, "clear", "()I"⟩
abbrev cX10_isFigure : ByteArray := prog_12_method_16_code
def yX10_isFigure : MethodName := ⟨RX10, "isFigure", "(I)Z"⟩
abbrev cX10_isLetter : ByteArray := prog_12_method_17_code
def yX10_isLetter : MethodName := ⟨RX10, "isLetter", "(I)Z"⟩
abbrev cX10_next : ByteArray := prog_12_method_18_code
def yX10_next : MethodName := ⟨RX10, "next", "()V"⟩
abbrev cX10_must : ByteArray := prog_12_method_19_code
def yX10_must : MethodName := ⟨RX10, "must", "(Z)V"⟩
abbrev cX10_goOn : ByteArray := prog_12_method_20_code
def yX10_goOn : MethodName := ⟨RX10, "goOn", "()V"⟩
abbrev cX10_number : ByteArray := prog_12_method_21_code
def yX10_number : MethodName := ⟨RX10, "number", "(II)I"⟩
abbrev cX10_unlike : ByteArray := prog_12_method_22_code
def yX10_unlike : MethodName := ⟨RX10, "unlike", "(II)I"⟩
abbrev cX10_end : ByteArray := prog_12_method_23_code
def yX10_end : MethodName := ⟨RX10, "end", "()V"⟩
abbrev cX10_readPath : ByteArray := prog_12_method_24_code
def yX10_readPath : MethodName := ⟨RX10, "readPath", "()V"⟩
abbrev cX10_readDirector : ByteArray := prog_12_method_25_code
def yX10_readDirector : MethodName := ⟨RX10, "readDirector", "()V"⟩
abbrev cX10_readFriends : ByteArray := prog_12_method_26_code
def yX10_readFriends : MethodName := ⟨RX10, "readFriends", "()V"⟩
abbrev cX10_readChild : ByteArray := prog_12_method_27_code
def yX10_readChild : MethodName := ⟨RX10, "readChild", "()V"⟩
abbrev cX10_readRooms : ByteArray := prog_12_method_28_code
def yX10_readRooms : MethodName := ⟨RX10, "readRooms", "(I)V"⟩
abbrev cX10_take : ByteArray := prog_12_method_29_code
def yX10_take : MethodName := ⟨RX10, "take", "()V"⟩
abbrev cX10_house : ByteArray := prog_12_method_30_code
def yX10_house : MethodName := ⟨RX10, "house", "()I"⟩
abbrev cX10_may : ByteArray := prog_12_method_31_code
def yX10_may : MethodName := ⟨RX10, "may", "(II)Z"⟩
abbrev cX10_other : ByteArray := prog_12_method_32_code
def yX10_other : MethodName := ⟨RX10, "other", "(II)I"⟩
abbrev cX10_lay : ByteArray := prog_12_method_33_code
def yX10_lay : MethodName := ⟨RX10, "lay", "(I)V"⟩
abbrev cX10_reach : ByteArray := prog_12_method_34_code
def yX10_reach : MethodName := ⟨RX10, "reach", "(I)I"⟩
abbrev cX10_widest : ByteArray := prog_12_method_35_code
def yX10_widest : MethodName := ⟨RX10, "widest", "(II)I"⟩
abbrev cX10_path : ByteArray := prog_12_method_36_code
def yX10_path : MethodName := ⟨RX10, "path", "(II)I"⟩
abbrev cX10_director : ByteArray := prog_12_method_37_code
def yX10_director : MethodName := ⟨RX10, "director", "(II)I"⟩
abbrev cX10_child : ByteArray := prog_12_method_38_code
def yX10_child : MethodName := ⟨RX10, "child", "(II)I"⟩
abbrev cX10_keepPast : ByteArray := prog_12_method_39_code
def yX10_keepPast : MethodName := ⟨RX10, "keepPast", "()V"⟩
abbrev cX10_goes : ByteArray := prog_12_method_40_code
def yX10_goes : MethodName := ⟨RX10, "goes", "(II)I"⟩
abbrev cX10_rests : ByteArray := prog_12_method_41_code
def yX10_rests : MethodName := ⟨RX10, "rests", "(I)I"⟩
abbrev cX10_offends : ByteArray := prog_12_method_42_code
def yX10_offends : MethodName := ⟨RX10, "offends", "(III)I"⟩
abbrev cX10_shifts : ByteArray := prog_12_method_43_code
def yX10_shifts : MethodName := ⟨RX10, "shifts", "(II)I"⟩
abbrev cX10_spreadOf : ByteArray := prog_12_method_44_code
def yX10_spreadOf : MethodName := ⟨RX10, "spreadOf", "(I)I"⟩
abbrev cX10_calls : ByteArray := prog_12_method_45_code
def yX10_calls : MethodName := ⟨RX10, "calls", "(I)I"⟩
abbrev cX10_undo : ByteArray := prog_12_method_46_code
def yX10_undo : MethodName := ⟨RX10, "undo", "()I"⟩
abbrev cX10_meet : ByteArray := prog_12_method_47_code
def yX10_meet : MethodName := ⟨RX10, "meet", "()V"⟩
abbrev cX10_fewestToAll : ByteArray := prog_12_method_48_code
def yX10_fewestToAll : MethodName := ⟨RX10, "fewestToAll", "()I"⟩
abbrev cX10_now : ByteArray := prog_12_method_49_code
def yX10_now : MethodName := ⟨RX10, "now", "(I)I"⟩
abbrev cX10_way : ByteArray := prog_12_method_50_code
def yX10_way : MethodName := ⟨RX10, "way", "(III)I"⟩
abbrev cX10_edge : ByteArray := prog_12_method_51_code
def yX10_edge : MethodName := ⟨RX10, "edge", "(II)I"⟩
abbrev cX10_spread : ByteArray := prog_12_method_52_code
def yX10_spread : MethodName := ⟨RX10, "spread", "(I)I"⟩
abbrev cX10_fit : ByteArray := prog_12_method_53_code
def yX10_fit : MethodName := ⟨RX10, "fit", "(II)Z"⟩
abbrev cX10_layPairs : ByteArray := prog_12_method_54_code
def yX10_layPairs : MethodName := ⟨RX10, "layPairs", "()V"⟩
abbrev cX10_pair : ByteArray := prog_12_method_55_code
def yX10_pair : MethodName := ⟨RX10, "pair", "(I)I"⟩
abbrev cX10_odds : ByteArray := prog_12_method_56_code
def yX10_odds : MethodName := ⟨RX10, "odds", "(III)I"⟩
abbrev cX10_hears : ByteArray := prog_12_method_57_code
def yX10_hears : MethodName := ⟨RX10, "hears", "(II)I"⟩
abbrev cX10_forget : ByteArray := prog_12_method_58_code
def yX10_forget : MethodName := ⟨RX10, "forget", "()I"⟩
abbrev cX10_whoBits : ByteArray := prog_12_method_59_code
def yX10_whoBits : MethodName := ⟨RX10, "whoBits", "()I"⟩
abbrev cX10_who : ByteArray := prog_12_method_60_code
def yX10_who : MethodName := ⟨RX10, "who", "()I"⟩
abbrev cX10_ask : ByteArray := prog_12_method_61_code
def yX10_ask : MethodName := ⟨RX10, "ask", "()I"⟩
abbrev cX10_founder : ByteArray := prog_12_method_62_code
def yX10_founder : MethodName := ⟨RX10, "founder", "(I)I"⟩
abbrev cX10_chair : ByteArray := prog_12_method_63_code
def yX10_chair : MethodName := ⟨RX10, "chair", "(I)I"⟩
abbrev cX10_mark : ByteArray := prog_12_method_64_code
def yX10_mark : MethodName := ⟨RX10, "mark", "(II)I"⟩
abbrev cX10_keep : ByteArray := prog_12_method_65_code
def yX10_keep : MethodName := ⟨RX10, "keep", "(I)I"⟩
abbrev cX10_back : ByteArray := prog_12_method_66_code
def yX10_back : MethodName := ⟨RX10, "back", "(I)I"⟩
abbrev cX10_count : ByteArray := prog_12_method_67_code
def yX10_count : MethodName := ⟨RX10, "count", "(I)I"⟩
abbrev cX10_trace : ByteArray := prog_12_method_68_code
def yX10_trace : MethodName := ⟨RX10, "trace", "()J"⟩
def RJ6 : String := "java/lang/Integer"
def TJ6 : u_T := fun k => match k with
  | _ => ("", "", "", false)
def tyJ6 : Nat → FieldType := fun k => match k with
  | _ => .int
abbrev wsJ60 : List Cond := u_ws RJ6 TJ6 0
theorem nmJ6 : ∀ a, a < 0 → ∀ b, b < 0 → a ≠ b → (TJ6 a).2.1 ≠ (TJ6 b).2.1 := by decide +kernel
theorem tyJ6_ok : ∀ k, k < 0 → parseFieldDescriptor (TJ6 k).2.2.1 = some (tyJ6 k) := by decide +kernel
abbrev cJ6_bitCount_0f7a4 : ByteArray := prog_13_method_49_code
def yJ6_bitCount_0f7a4 : MethodName := ⟨RJ6, "bitCount", "(I)I"⟩
def RJ9 : String := "java/lang/Math"
def TJ9 : u_T := fun k => match k with
  | _ => ("", "", "", false)
def tyJ9 : Nat → FieldType := fun k => match k with
  | _ => .int
abbrev wsJ90 : List Cond := u_ws RJ9 TJ9 0
theorem nmJ9 : ∀ a, a < 0 → ∀ b, b < 0 → a ≠ b → (TJ9 a).2.1 ≠ (TJ9 b).2.1 := by decide +kernel
theorem tyJ9_ok : ∀ k, k < 0 → parseFieldDescriptor (TJ9 k).2.2.1 = some (tyJ9 k) := by decide +kernel
abbrev cJ9_max_7cf53 : ByteArray := prog_14_method_65_code
def yJ9_max_7cf53 : MethodName := ⟨RJ9, "max", "(II)I"⟩
abbrev cJ9_min_7cf53 : ByteArray := prog_14_method_69_code
def yJ9_min_7cf53 : MethodName := ⟨RJ9, "min", "(II)I"⟩
def RL : String := "BoardStonesLaw"
abbrev cL_law : ByteArray := code
def yL_law : MethodName := ⟨RL, "law", "([I)Z"⟩
end
section
/-! The abstract machine: values are whole numbers with a tag, the heap is a function of a cell's number and a place. -/
def zT : List Cond := lw_tbl.filter goodWord
theorem zT_in {w : Cond} (h : w ∈ lw_tbl) (hg : goodWord w = true) : w ∈ zT := List.mem_filter.mpr ⟨h, hg⟩
theorem zT_good {ws : List Cond} (h : ∀ w ∈ ws, w ∈ zT) : GoodIn zT ws := fun w hw => ⟨h w hw, good_of_word (List.mem_filter.mp (h w hw)).2⟩
abbrev zV : Type := Int ⊕ Int ⊕ Int
abbrev zi (x : Int) : zV := Sum.inl x
abbrev zr (x : Int) : zV := Sum.inr (Sum.inl x)
abbrev zl (x : Int) : zV := Sum.inr (Sum.inr x)
abbrev zH : Type := Int → Int → Int
/-- the shapes of all cells, and what their places for references hold; the places for numbers are the heap's -/
abbrev zS : Type := List (Nat × Nat) × zH
def r32 (x : Int) : Prop := -2147483648 ≤ x ∧ x < 2147483648
def r64 (x : Int) : Prop := -9223372036854775808 ≤ x ∧ x < 9223372036854775808
def zok (v : zV) : Prop := match v with
  | .inl x => r32 x
  | .inr (.inl _) => True
  | .inr (.inr x) => r64 x
/-- a cell's address: null is 0, the world's own cells are 1 and on, what is below 0 lies outside the world -/
def zad (base : Nat) (r : Int) : Nat := if 0 < r then base + (r.toNat - 1) else (-r).toNat - 1
def zrf (base : Nat) (r : Int) : Value := if r = 0 then .null else .ref (zad base r)
def zopt (base : Nat) (r : Int) : Option Nat := if r = 0 then none else some (zad base r)
theorem zopt_rf (base : Nat) (r : Int) : va_rf (zopt base r) = zrf base r := by
  unfold zopt zrf
  by_cases h : r = 0 <;> simp [h, va_rf]
def zc (base : Nat) (v : zV) : Value := match v with
  | .inl x => .int (Int32.ofInt x)
  | .inr (.inl r) => zrf base r
  | .inr (.inr x) => .long (Int64.ofInt x)
def zcat (v : zV) : Nat := match v with
  | .inl _ => 1
  | .inr (.inl _) => 1
  | .inr (.inr _) => 2
theorem zc_cat (base : Nat) (v : zV) : (zc base v).category = zcat v := by
  rcases v with x | r | x
  · rfl
  · show (zrf base r).category = 1
    unfold zrf
    by_cases h : r = 0 <;> simp [h, Value.category]
  · rfl
/-- the shape of a cell: its kind (below 100: a class; 100 int[], 101 boolean[], 102 Now[], 103 Image[]), and its size -/
def zsh (sh : zS) (r : Int) : Option (Nat × Nat) := if 0 < r then sh.1[r.toNat - 1]? else none
abbrev zcl : List vw_C := [(RX0, TX0, 3), (RX2, TX2, 3), (RX3, TX3, 2), (RX4, TX4, 13), (RX5, TX5, 3), (RX6, TX6, 6), (RX7, TX7, 7), (RX8, TX8, 4), (RX9, TX9, 10), (RX10, TX10, 34)]
def zty (ci k : Nat) : FieldType := match ci with
  | 0 => tyX0 k
  | 1 => tyX2 k
  | 2 => tyX3 k
  | 3 => tyX4 k
  | 4 => tyX5 k
  | 5 => tyX6 k
  | 6 => tyX7 k
  | 7 => tyX8 k
  | 8 => tyX9 k
  | 9 => tyX10 k
  | _ => .int
def zfv (base : Nat) (ty : FieldType) (x y : Int) : Value := match ty with
  | .int => .int (Int32.ofInt x)
  | .boolean => .int (Int32.ofInt x)
  | .long => .long (Int64.ofInt x)
  | _ => zrf base y
abbrev zI : Type := Nat → ClassId
def zce (base : Nat) (I : zI) (kd : Nat × Nat) (f g : Int → Int) : va_E :=
  if kd.1 = 100 then .inl (I 0, kd.2, .inl (fun j => Int32.ofInt (f j)))
  else if kd.1 = 101 then .inl (I 1, kd.2, .inl (fun j => Int32.ofInt (f j)))
  else if kd.1 = 102 then .inl (I 2, kd.2, .inr (.inr (.inr (.inr (fun j => zopt base (g j))))))
  else if kd.1 = 103 then .inl (I 3, kd.2, .inr (.inr (.inr (.inr (fun j => zopt base (g j))))))
  else .inr (kd.1, (List.range kd.2).map (fun k => zfv base (zty kd.1 k) (f k) (g k)))
def zws (base : Nat) (I : zI) (sh : zS) (h : zH) : va_W := (List.range sh.1.length).map (fun i => (base + i, zce base I (sh.1.getD i (0, 0)) (h ((i : Int) + 1)) (sh.2 ((i : Int) + 1))))
def ztot (sh : zS) : Nat := (sh.1.map (fun q => q.2)).sum
theorem zws_at {base : Nat} {I : zI} {sh : zS} {h : zH} {i : Nat} {kd : Nat × Nat} (hi : sh.1[i]? = some kd) : (zws base I sh h)[i]? = some (base + i, zce base I kd (h ((i : Int) + 1)) (sh.2 ((i : Int) + 1))) := by
  have hl := (List.getElem?_eq_some_iff.mp hi).1
  simp [zws, List.getElem?_map, List.getElem?_range hl, List.getD, hi]
theorem zws_len (base : Nat) (I : zI) (sh : zS) (h : zH) : (zws base I sh h).length = sh.1.length := by simp [zws]
theorem zws_get {base : Nat} {I : zI} {sh : zS} {h : zH} {i : Nat} {q : Nat × va_E} (hq : (zws base I sh h)[i]? = some q) : i < sh.1.length ∧ q.1 = base + i := by
  have hl := (List.getElem?_eq_some_iff.mp hq).1
  rw [zws_len] at hl
  refine ⟨hl, ?_⟩
  simp [zws, List.getElem?_map, List.getElem?_range hl] at hq
  rw [← hq]
theorem zD (base : Nat) (I : zI) (sh : zS) (h : zH) : va_D (fun q => base ≤ q) (zws base I sh h) := by
  refine ⟨fun i j p q hp hq e => ?_, fun k q hq => ?_⟩
  · have h1 := zws_get hp
    have h2 := zws_get hq
    omega
  · have h1 := zws_get hq
    show base ≤ q.1
    omega
/-- the number of a cell, and its place in the world -/
theorem zsh_spec {sh : zS} {r : Int} {kd : Nat × Nat} (h : zsh sh r = some kd) : 0 < r ∧ sh.1[r.toNat - 1]? = some kd ∧ (((r.toNat - 1 : Nat) : Int) + 1 = r) := by
  unfold zsh at h
  by_cases h0 : 0 < r
  · rw [if_pos h0] at h
    exact ⟨h0, h, by omega⟩
  · rw [if_neg h0] at h
    cases h
theorem zrf_pos {base : Nat} {r : Int} (h : 0 < r) : zrf base r = .ref (base + (r.toNat - 1)) := by
  unfold zrf zad
  rw [if_neg (by omega), if_pos h]
theorem zrf_ne {base : Nat} {r : Int} (h : r ≠ 0) : zrf base r = .ref (zad base r) := by
  unfold zrf
  rw [if_neg h]
theorem zws_sh {base : Nat} {I : zI} {sh : zS} {h : zH} {r : Int} {kd : Nat × Nat} (hs : zsh sh r = some kd) : (zws base I sh h)[r.toNat - 1]? = some (base + (r.toNat - 1), zce base I kd (h r) (sh.2 r)) := by
  obtain ⟨h0, h1, h2⟩ := zsh_spec hs
  have := zws_at (base := base) (I := I) (h := h) h1
  rw [h2] at this
  exact this
/-- the heap behind a write -/
def zup (h : zH) (r k v : Int) : zH := fun a b => if a = r ∧ b = k then v else h a b
theorem zup_same (h : zH) (r k v : Int) : zup h r k v r k = v := by simp [zup]
theorem zup_ne {h : zH} {r k v a b : Int} (hn : ¬ (a = r ∧ b = k)) : zup h r k v a b = h a b := by simp [zup, hn]
theorem zws_set {base : Nat} {I : zI} {sh : zS} {h h' g' : zH} {r : Int} {kd : Nat × Nat} {e : va_E} (hs : zsh sh r = some kd) (he : e = zce base I kd (h' r) (g' r)) (ho : ∀ a, a ≠ r → h' a = h a) (hg : ∀ a, a ≠ r → g' a = sh.2 a) : (zws base I sh h).set (r.toNat - 1) (base + (r.toNat - 1), e) = zws base I (sh.1, g') h' := by
  obtain ⟨h0, h1, h2⟩ := zsh_spec hs
  have hl := (List.getElem?_eq_some_iff.mp h1).1
  have hs2 : zsh (sh.1, g') r = some kd := hs
  apply List.ext_getElem?
  intro i
  by_cases hi : i = r.toNat - 1
  · subst hi
    rw [List.getElem?_set_self (by rw [zws_len]; exact hl), zws_sh hs2, he]
  · rw [List.getElem?_set_ne (Ne.symm hi)]
    by_cases hlt : i < sh.1.length
    · have hk : sh.1[i]? = some sh.1[i] := List.getElem?_eq_getElem hlt
      rw [zws_at hk, zws_at (sh := (sh.1, g')) hk, ho ((i : Int) + 1) (by omega)]
      show _ = some (base + i, zce base I _ _ (g' ((i : Int) + 1)))
      rw [hg ((i : Int) + 1) (by omega)]
    · rw [List.getElem?_eq_none (by rw [zws_len]; omega), List.getElem?_eq_none (by rw [zws_len]; simp only; omega)]
theorem zws_push {base : Nat} {I : zI} {sh : zS} {h h' g' : zH} {kd : Nat × Nat} {e : va_E} (he : e = zce base I kd (h' ((sh.1.length : Int) + 1)) (g' ((sh.1.length : Int) + 1))) (ho : ∀ a : Int, a ≤ sh.1.length → h' a = h a) (hg : ∀ a : Int, a ≤ sh.1.length → g' a = sh.2 a) : zws base I sh h ++ [(base + sh.1.length, e)] = zws base I (sh.1 ++ [kd], g') h' := by
  apply List.ext_getElem?
  intro i
  by_cases hlt : i < sh.1.length
  · have hk : sh.1[i]? = some sh.1[i] := List.getElem?_eq_getElem hlt
    have hk2 : (sh.1 ++ [kd])[i]? = some sh.1[i] := by rw [List.getElem?_append_left hlt]; exact hk
    rw [List.getElem?_append_left (by rw [zws_len]; exact hlt), zws_at hk, zws_at (sh := (sh.1 ++ [kd], g')) hk2, ho ((i : Int) + 1) (by omega)]
    show _ = some (base + i, zce base I _ _ (g' ((i : Int) + 1)))
    rw [hg ((i : Int) + 1) (by omega)]
  · by_cases hi : i = sh.1.length
    · subst hi
      have hk2 : (sh.1 ++ [kd])[sh.1.length]? = some kd := by simp
      rw [zws_at (sh := (sh.1 ++ [kd], g')) hk2, List.getElem?_append_right (by rw [zws_len]; exact Nat.le_refl _), zws_len, Nat.sub_self, he]
      rfl
    · rw [List.getElem?_eq_none (by rw [List.length_append, zws_len]; simp; omega), List.getElem?_eq_none (by rw [zws_len]; simp only [List.length_append]; simp; omega)]
/-- the heap's part -/
def zP (base : Nat) (D : va_G) (I : zI) (sh : zS) (h : zH) (H : Heap) : Prop := va_P D zcl (zws base I sh h) H ∧ ∀ r k, r32 (h r k)
abbrev ztys (I : zI) : List (ClassId × FieldType) := [(I 0, .int), (I 1, .boolean), (I 2, .object RX6), (I 3, .object RX5)]
abbrev zNest : List (String × Nat × MethodName × String) := [(RX9, 9, yX7_init, RX9), (RX9, 18, yX4_init, RX9), (RX9, 28, yX6_init, RX9), (RX3, 17, yX6_init, RX9), (RX9, 48, yX2_init, RX9), (RX9, 55, yX8_init, RX9), (RX9, 62, yX0_init, RX9), (RX9, 67, yX5_init, RX9), (RX5, 9, yX6_init, RX9), (RX6, 30, yX9_copyRow, RX9), (RX0, 35, yX9_has, RX9)]
/-- the tables' part -/
def zK (D : va_G) (I : zI) (U : State) : Prop := va_K D zcl (ztys I) U ∧ (∀ q ∈ zNest, va_Nw (.methodLinkNest q.1 q.2.1 q.2.2.1 q.2.2.2) U) ∧ va_AO RX6 U ∧ va_AO RX5 U
theorem zK.warm {D : va_G} {I : zI} {s U : State} (hW : s.WarmedH U.vm) (h : zK D I s) : zK D I U := ⟨va_K.moved hW.alike h.1, fun q hq => va_Nw.warmM hW (h.2.1 q hq), h.2.2.1.moved hW.alike, h.2.2.2.moved hW.alike⟩
theorem zK.same {D : va_G} {I : zI} {u U : State} (h : u.vm = U.vm) (hk : zK D I u) : zK D I U := ⟨va_K.moved (h ▸ Vm.Alike.refl _) hk.1, fun q hq => va_Nw.same rfl h (hk.2.1 q hq), hk.2.2.1.moved (h ▸ Vm.Alike.refl _), hk.2.2.2.moved (h ▸ Vm.Alike.refl _)⟩
/-- a method: its name, bytes, locals, answer; its frames, locals' words, cells, slots -/
abbrev zMd : Type := MethodName × ByteArray × Nat × Option FieldType × Nat × Nat × Nat × Nat
abbrev zy (M : zMd) : MethodName := M.1
abbrev zb (M : zMd) : ByteArray := M.2.1
abbrev znl (M : zMd) : Nat := M.2.2.1
abbrev zrt (M : zMd) : Option FieldType := M.2.2.2.1
abbrev zfr (M : zMd) : Nat := M.2.2.2.2.1
abbrev zlo (M : zMd) : Nat := M.2.2.2.2.2.1
abbrev zmc (M : zMd) : Nat := M.2.2.2.2.2.2.1
abbrev zms (M : zMd) : Nat := M.2.2.2.2.2.2.2
abbrev zQt : Type := Option zV → zS → zH → Prop
def zokO (v : Option zV) : Prop := match v with
  | none => True
  | some v => zok v
def zQc (base : Nat) (D : va_G) (I : zI) (k1 n1 : Nat) (Q : zQt) : Array Value → State → Outcome → State → Prop := fun _ st oc t =>
  (∃ (v : Option zV) (sh : zS) (h : zH), oc = .returned (v.map (zc base)) ∧ zokO v ∧ Q v sh h ∧ zP base D I sh h t.heap ∧ sh.1.length = k1 ∧ ztot sh = n1) ∧ va_F (fun q => base ≤ q) st t
/-- a contract: from the arguments and the heap, whatever the world's base is -/
def zC (l : Launch) (M : zMd) (as : List zV) (sh : zS) (h : zH) (Q : zQt) : Prop :=
  ∀ (base : Nat) (D : va_G) (I : zI), Met l (zy M) (.code (zy M) (zb M) (znl M) (zrt M) :: zT) { frames := zfr M, cells := zmc M, slots := zms M, locals := zlo M }
    (va_Pc (as.map (zc base)) (fun U => (∀ v ∈ as, zok v) ∧ U.heap.size = base + sh.1.length ∧ zP base D I sh h U.heap ∧ zK D I U)) (zQc base D I (sh.1.length + zmc M) (ztot sh + zms M) Q) (zmc M) (zms M) (fun q => base ≤ q)
/-- the locals -/
def zL (base nL : Nat) (lsr : Array Slot) (ls : List (Option zV)) : Prop := ls.length = nL ∧ lsr.size = nL ∧ lv_wf lsr ∧ ∀ (i : Nat) (v : zV), ls[i]? = some (some v) → lsr[i]? = some (.val (zc base v))
def zrti (v : Option zV) : Instr := match v with
  | none => .return_
  | some (.inl _) => .ireturn
  | some (.inr (.inl _)) => .areturn
  | some (.inr (.inr _)) => .lreturn
def zfit (rt : Option FieldType) (v : Option zV) : Prop := match rt, v with
  | none, none => True
  | some .int, some (.inl _) => True
  | some .boolean, some (.inl x) => x = 0 ∨ x = 1
  | some .long, some (.inr (.inr _)) => True
  | _, _ => False
section ZW
variable (X : State → Nat → Prop) (p : Program) (l : Launch) (e : Env) (R : Room) (s : State) (m : MethodId) (args : Array Value) (below : List Frame) (meth : Method) (c : Code) (Z : State → Prop) (base : Nat) (D : va_G) (I : zI) (k0 n0 : Nat)
/-- where a method stands: the machine, its code, the tables' words, the room, and how it may end -/
def zE (M : zMd) (B1 B2 : Nat) (Q : zQt) : Prop :=
  (p.tables.exec = Jvm.exec ∧ c.code = zb M ∧ c.maxLocals = znl M ∧ s.vm.findClass (zy M).cls = some m.cls ∧ ∀ w ∈ zT, w.before args s = true) ∧ zK D I s ∧ (zfr M ≤ R.frames ∧ zlo M ≤ R.locals) ∧ (R.cells + k0 = B1 ∧ R.slots + n0 = B2) ∧ s.heap.size = base + k0 ∧ (meth.name = (zy M).name ∧ X s base) ∧
  ∀ (pc : Nat) (lsr : Array Slot) (H : Heap) (locs : List Loc) (cells slots : Nat) (v : Option zV) (sh : zS) (h : zH), decode (zb M) pc = .ok (zrti v, 1) → zfit (zrt M) v → zokO v → Q v sh h → sh.1.length = B1 → ztot sh = B2 → cells + k0 = sh.1.length → slots + n0 = ztot sh → zP base D I sh h H → va_S (fun q => base ≤ q) s.heap H locs → W p l e R s m args below meth c H locs cells slots Z (F0 m pc lsr (v.map (zc base)).toList)
end ZW
/-- THE JUDGEMENT: method M, at pc with these locals, this stack, this heap, ends with Q, wherever it was called -/
def zW (X : State → Nat → Prop) (l : Launch) (M : zMd) (B1 B2 : Nat) (Q : zQt) (pc : Nat) (ls : List (Option zV)) (st : List zV) (sh : zS) (h : zH) : Prop :=
  ∀ (p : Program) (e : Env) (R : Room) (s : State) (m : MethodId) (args : Array Value) (below : List Frame) (meth : Method) (c : Code) (Z : State → Prop) (base : Nat) (D : va_G) (I : zI) (k0 n0 : Nat), zE X p l e R s m args below meth c Z base D I k0 n0 M B1 B2 Q →
    ∀ (H : Heap) (locs : List Loc) (cells slots : Nat) (lsr : Array Slot), cells + k0 = sh.1.length → slots + n0 = ztot sh → zP base D I sh h H → va_S (fun q => base ≤ q) s.heap H locs → zL base (znl M) lsr ls → (∀ v ∈ st, zok v) → (∀ v, some v ∈ ls → zok v) →
      W p l e R s m args below meth c H locs cells slots Z (F0 m pc lsr (st.map (zc base)))
abbrev zX0 : State → Nat → Prop := fun _ _ => True
end
section
/-! Numbers of the abstract machine. -/
def w32 (x : Int) : Int := Int.bmod x 4294967296
theorem w32_id {x : Int} (h : r32 x) : w32 x = x := by
  unfold r32 at h
  unfold w32 Int.bmod
  dsimp only
  split <;> omega
theorem w32_i {x : Int} (h1 : -2147483648 ≤ x) (h2 : x < 2147483648) : w32 x = x := w32_id ⟨h1, h2⟩
theorem w32_r (x : Int) : r32 (w32 x) := by
  unfold r32 w32 Int.bmod
  dsimp only
  split <;> omega
def w64 (x : Int) : Int := Int.bmod x 18446744073709551616
theorem w64_id {x : Int} (h : r64 x) : w64 x = x := by
  unfold r64 at h
  unfold w64 Int.bmod
  dsimp only
  split <;> omega
theorem w64_r (x : Int) : r64 (w64 x) := by
  unfold r64 w64 Int.bmod
  dsimp only
  split <;> omega
theorem of_toInt {x : Int} (h : r32 x) : (Int32.ofInt x).toInt = x := by
  rw [Int32.toInt_ofInt]
  exact w32_id h
theorem of_w32 (x : Int) : Int32.ofInt (w32 x) = Int32.ofInt x := by
  apply Int32.toInt_inj.mp
  rw [Int32.toInt_ofInt, Int32.toInt_ofInt]
  exact Int.bmod_bmod
theorem toInt_r (x : Int32) : r32 x.toInt := ⟨Int32.le_toInt x, Int32.toInt_lt x⟩
theorem of_toInt64 {x : Int} (h : r64 x) : (Int64.ofInt x).toInt = x := by
  rw [Int64.toInt_ofInt]
  exact w64_id h
theorem of_w64 (x : Int) : Int64.ofInt (w64 x) = Int64.ofInt x := by
  apply Int64.toInt_inj.mp
  rw [Int64.toInt_ofInt, Int64.toInt_ofInt]
  exact Int.bmod_bmod
theorem of_add (x y : Int) : Int32.ofInt x + Int32.ofInt y = Int32.ofInt (w32 (x + y)) := by rw [of_w32, Int32.ofInt_add]
theorem of_sub (x y : Int) : Int32.ofInt x - Int32.ofInt y = Int32.ofInt (w32 (x - y)) := by rw [of_w32, Int32.ofInt_sub]
theorem of_mul (x y : Int) : Int32.ofInt x * Int32.ofInt y = Int32.ofInt (w32 (x * y)) := by rw [of_w32, Int32.ofInt_mul]
theorem of_ladd (x y : Int) : Int64.ofInt x + Int64.ofInt y = Int64.ofInt (w64 (x + y)) := by rw [of_w64, Int64.ofInt_add]
def band (a b : Int) : Int := (Int32.ofInt a &&& Int32.ofInt b).toInt
def bor (a b : Int) : Int := (Int32.ofInt a ||| Int32.ofInt b).toInt
def bxor (a b : Int) : Int := (Int32.ofInt a ^^^ Int32.ofInt b).toInt
def bshl (a b : Int) : Int := (Int32.ofInt a <<< (Int32.ofInt b &&& 31)).toInt
def bshr (a b : Int) : Int := (Int32.ofInt a >>> (Int32.ofInt b &&& 31)).toInt
def bushr (a b : Int) : Int := (((Int32.ofInt a).toUInt32 >>> ((Int32.ofInt b).toUInt32 &&& Int32.toUInt32 31)).toInt32).toInt
def zdiv (a b : Int) : Int := (Int32.ofInt a / Int32.ofInt b).toInt
def zmod (a b : Int) : Int := (Int32.ofInt a - Int32.ofInt a / Int32.ofInt b * Int32.ofInt b).toInt
def zcmp (a b : Int) : Int := if b < a then 1 else if a = b then 0 else -1
theorem ii_lt {x y : Int} (hx : r32 x) (hy : r32 y) : Int32.ofInt x < Int32.ofInt y ↔ x < y := by rw [Int32.lt_iff_toInt_lt, of_toInt hx, of_toInt hy]
theorem ii_le {x y : Int} (hx : r32 x) (hy : r32 y) : Int32.ofInt x ≤ Int32.ofInt y ↔ x ≤ y := by rw [Int32.le_iff_toInt_le, of_toInt hx, of_toInt hy]
theorem ii_eq {x y : Int} (hx : r32 x) (hy : r32 y) : Int32.ofInt x = Int32.ofInt y ↔ x = y := by rw [← Int32.toInt_inj, of_toInt hx, of_toInt hy]
theorem r32_0 : r32 0 := by unfold r32; omega
theorem i0 : (0 : Int32) = Int32.ofInt 0 := by decide
theorem zok_hd {v : zV} {st : List zV} (h : ∀ u ∈ v :: st, zok u) : zok v := h v List.mem_cons_self
theorem zok_tl {v : zV} {st : List zV} (h : ∀ u ∈ v :: st, zok u) : ∀ u ∈ st, zok u := fun u hu => h u (List.mem_cons_of_mem _ hu)
theorem zok_cons {v : zV} {st : List zV} (h1 : zok v) (h : ∀ u ∈ st, zok u) : ∀ u ∈ v :: st, zok u := fun u hu => (List.mem_cons.mp hu).elim (fun q => q ▸ h1) (h u)
section Z1
variable {X : State → Nat → Prop} {l : Launch} {M : zMd} {B1 B2 : Nat} {Q : zQt} {pc : Nat} {ls : List (Option zV)} {st : List zV} {sh : zS} {h : zH}

theorem z_iconst {n : Int} (hd : decode (zb M) pc = .ok (.iconst n, 1)) (hr : r32 n) (k : zW X l M B1 B2 Q (pc + 1) ls (zi n :: st) sh h) : zW X l M B1 B2 Q pc ls st sh h := by
  intro p e R s m args below meth c Z base D I k0 n0 E H locs cells slots lsr h1 h2 hP hS hL hst hls
  have K := k p e R s m args below meth c Z base D I k0 n0 E H locs cells slots lsr h1 h2 hP hS hL (zok_cons hr hst) hls
  exact lv_iconst E.1.1 E.1.2.1 hd rfl K

theorem z_bipush {n : Int} (hd : decode (zb M) pc = .ok (.bipush n, 2)) (hr : -128 ≤ n ∧ n < 128) (k : zW X l M B1 B2 Q (pc + 2) ls (zi n :: st) sh h) : zW X l M B1 B2 Q pc ls st sh h := by
  intro p e R s m args below meth c Z base D I k0 n0 E H locs cells slots lsr h1 h2 hP hS hL hst hls
  have K := k p e R s m args below meth c Z base D I k0 n0 E H locs cells slots lsr h1 h2 hP hS hL (zok_cons (show r32 n by unfold r32; omega) hst) hls
  refine lv_bipush E.1.1 E.1.2.1 hd ?_ K
  apply Int32.toInt_inj.mp
  rw [Int8.toInt_toInt32, of_toInt (by unfold r32; omega), Int8.toInt_ofInt]
  have e9 : Int8.size = 256 := rfl
  rw [e9]
  unfold Int.bmod
  dsimp only
  split <;> omega

theorem z_sipush {n : Int} (hd : decode (zb M) pc = .ok (.sipush n, 3)) (hr : -32768 ≤ n ∧ n < 32768) (k : zW X l M B1 B2 Q (pc + 3) ls (zi n :: st) sh h) : zW X l M B1 B2 Q pc ls st sh h := by
  intro p e R s m args below meth c Z base D I k0 n0 E H locs cells slots lsr h1 h2 hP hS hL hst hls
  have K := k p e R s m args below meth c Z base D I k0 n0 E H locs cells slots lsr h1 h2 hP hS hL (zok_cons (show r32 n by unfold r32; omega) hst) hls
  refine lv_sipush E.1.1 E.1.2.1 hd ?_ K
  apply Int32.toInt_inj.mp
  rw [Int16.toInt_toInt32, of_toInt (by unfold r32; omega), Int16.toInt_ofInt]
  have e9 : Int16.size = 65536 := rfl
  rw [e9]
  unfold Int.bmod
  dsimp only
  split <;> omega

theorem z_lconst0  (hd : decode (zb M) pc = .ok (.lconst 0, 1))  (k : zW X l M B1 B2 Q (pc + 1) ls (zl 0 :: st) sh h) : zW X l M B1 B2 Q pc ls st sh h := by
  intro p e R s m args below meth c Z base D I k0 n0 E H locs cells slots lsr h1 h2 hP hS hL hst hls
  have K := k p e R s m args below meth c Z base D I k0 n0 E H locs cells slots lsr h1 h2 hP hS hL (zok_cons (show r64 0 by unfold r64; omega) hst) hls
  exact lv_lconst E.1.1 E.1.2.1 hd rfl K

theorem z_lconst1  (hd : decode (zb M) pc = .ok (.lconst 1, 1))  (k : zW X l M B1 B2 Q (pc + 1) ls (zl 1 :: st) sh h) : zW X l M B1 B2 Q pc ls st sh h := by
  intro p e R s m args below meth c Z base D I k0 n0 E H locs cells slots lsr h1 h2 hP hS hL hst hls
  have K := k p e R s m args below meth c Z base D I k0 n0 E H locs cells slots lsr h1 h2 hP hS hL (zok_cons (show r64 1 by unfold r64; omega) hst) hls
  exact lv_lconst E.1.1 E.1.2.1 hd rfl K

theorem z_ldc {n : Int} {idx : Nat} (hd : decode (zb M) pc = .ok (.ldc idx, 2)) (hw : Cond.constant (zy M).cls idx (Int32.ofInt n) ∈ zT) (hr : r32 n) (k : zW X l M B1 B2 Q (pc + 2) ls (zi n :: st) sh h) : zW X l M B1 B2 Q pc ls st sh h := by
  intro p e R s m args below meth c Z base D I k0 n0 E H locs cells slots lsr h1 h2 hP hS hL hst hls
  have K := k p e R s m args below meth c Z base D I k0 n0 E H locs cells slots lsr h1 h2 hP hS hL (zok_cons hr hst) hls
  exact lv_ldc E.1.1 E.1.2.1 E.1.2.2.2.1 (E.1.2.2.2.2 _ hw) hd K

theorem z_ldcw {n : Int} {idx : Nat} (hd : decode (zb M) pc = .ok (.ldc_w idx, 3)) (hw : Cond.constant (zy M).cls idx (Int32.ofInt n) ∈ zT) (hr : r32 n) (k : zW X l M B1 B2 Q (pc + 3) ls (zi n :: st) sh h) : zW X l M B1 B2 Q pc ls st sh h := by
  intro p e R s m args below meth c Z base D I k0 n0 E H locs cells slots lsr h1 h2 hP hS hL hst hls
  have K := k p e R s m args below meth c Z base D I k0 n0 E H locs cells slots lsr h1 h2 hP hS hL (zok_cons hr hst) hls
  exact lv_ldcw E.1.1 E.1.2.1 E.1.2.2.2.1 (E.1.2.2.2.2 _ hw) hd K

theorem z_ldc2 {n : Int} {idx : Nat} (hd : decode (zb M) pc = .ok (.ldc2_w idx, 3)) (hw : Cond.constantLong (zy M).cls idx (Int64.ofInt n) ∈ zT) (hr : r32 n) (k : zW X l M B1 B2 Q (pc + 3) ls (zl n :: st) sh h) : zW X l M B1 B2 Q pc ls st sh h := by
  intro p e R s m args below meth c Z base D I k0 n0 E H locs cells slots lsr h1 h2 hP hS hL hst hls
  have K := k p e R s m args below meth c Z base D I k0 n0 E H locs cells slots lsr h1 h2 hP hS hL (zok_cons (show r64 n by unfold r32 at hr; unfold r64; omega) hst) hls
  exact lv_ldc2 E.1.1 E.1.2.1 E.1.2.2.2.1 (E.1.2.2.2.2 _ hw) hd K

theorem z_iload_n {i : Fin 4} {x : Int} (hd : decode (zb M) pc = .ok (.iload_n i, 1)) (hx : ls[(i : Nat)]? = some (some (zi x)))  (k : zW X l M B1 B2 Q (pc + 1) ls (zi x :: st) sh h) : zW X l M B1 B2 Q pc ls st sh h := by
  intro p e R s m args below meth c Z base D I k0 n0 E H locs cells slots lsr h1 h2 hP hS hL hst hls
  have K := k p e R s m args below meth c Z base D I k0 n0 E H locs cells slots lsr h1 h2 hP hS hL (zok_cons (hls _ (List.mem_of_getElem? hx)) hst) hls
  have hg := hL.2.2.2 _ _ hx
  exact lv_iload_n E.1.1 E.1.2.1 hd rfl hg K

theorem z_iload {i : Nat} {x : Int} (hd : decode (zb M) pc = .ok (.iload i, 2)) (hx : ls[i]? = some (some (zi x)))  (k : zW X l M B1 B2 Q (pc + 2) ls (zi x :: st) sh h) : zW X l M B1 B2 Q pc ls st sh h := by
  intro p e R s m args below meth c Z base D I k0 n0 E H locs cells slots lsr h1 h2 hP hS hL hst hls
  have K := k p e R s m args below meth c Z base D I k0 n0 E H locs cells slots lsr h1 h2 hP hS hL (zok_cons (hls _ (List.mem_of_getElem? hx)) hst) hls
  have hg := hL.2.2.2 _ _ hx
  exact lv_iload E.1.1 E.1.2.1 hd hg K

theorem z_lload_n {i : Fin 4} {x : Int} (hd : decode (zb M) pc = .ok (.lload_n i, 1)) (hx : ls[(i : Nat)]? = some (some (zl x)))  (k : zW X l M B1 B2 Q (pc + 1) ls (zl x :: st) sh h) : zW X l M B1 B2 Q pc ls st sh h := by
  intro p e R s m args below meth c Z base D I k0 n0 E H locs cells slots lsr h1 h2 hP hS hL hst hls
  have K := k p e R s m args below meth c Z base D I k0 n0 E H locs cells slots lsr h1 h2 hP hS hL (zok_cons (hls _ (List.mem_of_getElem? hx)) hst) hls
  have hg := hL.2.2.2 _ _ hx
  exact lv_lload_n E.1.1 E.1.2.1 hd rfl hg K

theorem z_lload {i : Nat} {x : Int} (hd : decode (zb M) pc = .ok (.lload i, 2)) (hx : ls[i]? = some (some (zl x)))  (k : zW X l M B1 B2 Q (pc + 2) ls (zl x :: st) sh h) : zW X l M B1 B2 Q pc ls st sh h := by
  intro p e R s m args below meth c Z base D I k0 n0 E H locs cells slots lsr h1 h2 hP hS hL hst hls
  have K := k p e R s m args below meth c Z base D I k0 n0 E H locs cells slots lsr h1 h2 hP hS hL (zok_cons (hls _ (List.mem_of_getElem? hx)) hst) hls
  have hg := hL.2.2.2 _ _ hx
  exact lv_lload E.1.1 E.1.2.1 hd hg K

theorem z_aload_n {i : Fin 4} {x : Int} (hd : decode (zb M) pc = .ok (.aload_n i, 1)) (hx : ls[(i : Nat)]? = some (some (zr x))) (h0 : x ≠ 0) (k : zW X l M B1 B2 Q (pc + 1) ls (zr x :: st) sh h) : zW X l M B1 B2 Q pc ls st sh h := by
  intro p e R s m args below meth c Z base D I k0 n0 E H locs cells slots lsr h1 h2 hP hS hL hst hls
  have K := k p e R s m args below meth c Z base D I k0 n0 E H locs cells slots lsr h1 h2 hP hS hL (zok_cons (hls _ (List.mem_of_getElem? hx)) hst) hls
  have hg := hL.2.2.2 _ _ hx
  have hz : zc base (zr x) = .ref (zad base x) := zrf_ne h0
  rw [hz] at hg
  simp only [List.map_cons, hz] at K
  exact lv_aload_n E.1.1 E.1.2.1 hd rfl hg K

theorem z_aload {i : Nat} {x : Int} (hd : decode (zb M) pc = .ok (.aload i, 2)) (hx : ls[i]? = some (some (zr x))) (h0 : x ≠ 0) (k : zW X l M B1 B2 Q (pc + 2) ls (zr x :: st) sh h) : zW X l M B1 B2 Q pc ls st sh h := by
  intro p e R s m args below meth c Z base D I k0 n0 E H locs cells slots lsr h1 h2 hP hS hL hst hls
  have K := k p e R s m args below meth c Z base D I k0 n0 E H locs cells slots lsr h1 h2 hP hS hL (zok_cons (hls _ (List.mem_of_getElem? hx)) hst) hls
  have hg := hL.2.2.2 _ _ hx
  have hz : zc base (zr x) = .ref (zad base x) := zrf_ne h0
  rw [hz] at hg
  simp only [List.map_cons, hz] at K
  exact lv_aload E.1.1 E.1.2.1 hd hg K

def zas (base : Nat) (ls : List (Option zV)) : List (Nat × Value) := (List.range ls.length).filterMap (fun i => (ls[i]?.join).map (fun v => (i, zc base v)))
theorem zas_mem {base : Nat} {ls : List (Option zV)} {q : Nat × Value} : q ∈ zas base ls ↔ ∃ v, ls[q.1]? = some (some v) ∧ q.2 = zc base v := by
  unfold zas
  rw [List.mem_filterMap]
  constructor
  · rintro ⟨i, -, hi⟩
    cases hj : ls[i]? with
    | none => rw [hj] at hi; cases hi
    | some o =>
      cases o with
      | none => rw [hj] at hi; cases hi
      | some v =>
        rw [hj] at hi
        cases hi
        exact ⟨v, hj, rfl⟩
  · rintro ⟨v, hv, he⟩
    refine ⟨q.1, List.mem_range.mpr (List.getElem?_eq_some_iff.mp hv).1, ?_⟩
    rw [hv]
    show some (q.1, zc base v) = some q
    rw [← he]
theorem zas_has {base nL : Nat} {lsr : Array Slot} {ls : List (Option zV)} (hL : zL base nL lsr ls) : lv_has lsr nL (zas base ls) := ⟨hL.2.1, hL.2.2.1, fun q hq => by
  obtain ⟨v, h1, h2⟩ := zas_mem.mp hq
  rw [h2]
  exact hL.2.2.2 _ _ h1⟩
/-- no long just ahead of the place -/
def zsafe (ls : List (Option zV)) (i : Nat) : Bool := match i with
  | 0 => true
  | j + 1 => match ls[j]? with
    | some (some (.inr (.inr _))) => false
    | _ => true
theorem zas_set {base nL i : Nat} {lsr lsr' : Array Slot} {ls : List (Option zV)} {v : zV} (hL : zL base nL lsr ls) (hi : i < nL) (hs : zsafe ls i = true) (h : lv_has lsr' nL ((i, zc base v) :: (zas base ls).filter (fun q => !(q.1 == i) && !(q.1 + 1 == i && q.2.category == 2)))) : zL base nL lsr' (ls.set i (some v)) := by
  refine ⟨by rw [List.length_set]; exact hL.1, h.1, h.2.1, fun j u hj => ?_⟩
  by_cases hji : j = i
  · subst hji
    rw [List.getElem?_set_self (by rw [hL.1]; exact hi)] at hj
    cases hj
    exact h.2.2 (j, zc base v) List.mem_cons_self
  · rw [List.getElem?_set_ne (Ne.symm hji)] at hj
    refine h.2.2 (j, zc base u) (List.mem_cons_of_mem _ (List.mem_filter.mpr ⟨zas_mem.mpr ⟨u, hj, rfl⟩, ?_⟩))
    have e1 : (j == i) = false := by simp [hji]
    have e2 : (j + 1 == i && (zc base u).category == 2) = false := by
      by_cases h3 : j + 1 = i
      · subst h3
        unfold zsafe at hs
        simp only at hs
        rw [hj] at hs
        rw [zc_cat]
        rcases u with x | x | x
        · simp [zcat]
        · simp [zcat]
        · simp at hs
      · simp [h3]
    simp only [e1, e2, Bool.not_false, Bool.and_true]
theorem zls_set {ls : List (Option zV)} {i : Nat} {v : zV} (hv : zok v) (hls : ∀ u, some u ∈ ls → zok u) : ∀ u, some u ∈ ls.set i (some v) → zok u := fun u hu => by
  rcases List.mem_or_eq_of_mem_set hu with h | h
  · exact hls u h
  · cases h; exact hv

theorem z_istore_n {i : Fin 4} {x : Int} {ls' : List (Option zV)} (hd : decode (zb M) pc = .ok (.istore_n i, 1)) (hi : (i : Nat) < znl M) (hs : zsafe ls (i : Nat) = true)  (hl : ls.set (i : Nat) (some (zi x)) = ls') (k : zW X l M B1 B2 Q (pc + 1) ls' st sh h) : zW X l M B1 B2 Q pc ls (zi x :: st) sh h := by
  subst hl
  intro p e R s m args below meth c Z base D I k0 n0 E H locs cells slots lsr h1 h2 hP hS hL hst hls
  refine lv_istore_n (nL := znl M) (lv := zas base ls) E.1.1 E.1.2.1 hd rfl (zas_has hL) hi rfl fun lsr' hl' => ?_
  exact k p e R s m args below meth c Z base D I k0 n0 E H locs cells slots lsr' h1 h2 hP hS (zas_set hL hi hs hl') (zok_tl hst) (zls_set (zok_hd hst) hls)

theorem z_istore {i : Nat} {x : Int} {ls' : List (Option zV)} (hd : decode (zb M) pc = .ok (.istore i, 2)) (hi : i < znl M) (hs : zsafe ls i = true)  (hl : ls.set i (some (zi x)) = ls') (k : zW X l M B1 B2 Q (pc + 2) ls' st sh h) : zW X l M B1 B2 Q pc ls (zi x :: st) sh h := by
  subst hl
  intro p e R s m args below meth c Z base D I k0 n0 E H locs cells slots lsr h1 h2 hP hS hL hst hls
  refine lv_istore (nL := znl M) (lv := zas base ls) E.1.1 E.1.2.1 hd (zas_has hL) hi rfl fun lsr' hl' => ?_
  exact k p e R s m args below meth c Z base D I k0 n0 E H locs cells slots lsr' h1 h2 hP hS (zas_set hL hi hs hl') (zok_tl hst) (zls_set (zok_hd hst) hls)

theorem z_astore_n {i : Fin 4} {x : Int} {ls' : List (Option zV)} (hd : decode (zb M) pc = .ok (.astore_n i, 1)) (hi : (i : Nat) < znl M) (hs : zsafe ls (i : Nat) = true) (h0 : x ≠ 0) (hl : ls.set (i : Nat) (some (zr x)) = ls') (k : zW X l M B1 B2 Q (pc + 1) ls' st sh h) : zW X l M B1 B2 Q pc ls (zr x :: st) sh h := by
  subst hl
  intro p e R s m args below meth c Z base D I k0 n0 E H locs cells slots lsr h1 h2 hP hS hL hst hls
  have hz : zc base (zr x) = .ref (zad base x) := zrf_ne h0
  simp only [List.map_cons, hz]
  refine lv_astore_n (nL := znl M) (lv := zas base ls) E.1.1 E.1.2.1 hd rfl (zas_has hL) hi rfl fun lsr' hl' => ?_
  rw [← hz] at hl'
  exact k p e R s m args below meth c Z base D I k0 n0 E H locs cells slots lsr' h1 h2 hP hS (zas_set hL hi hs hl') (zok_tl hst) (zls_set (zok_hd hst) hls)

theorem z_iinc {i : Nat} {n x : Int} {ls' : List (Option zV)} (hd : decode (zb M) pc = .ok (.iinc i n, 3)) (hi : i < znl M) (hs : zsafe ls i = true) (hx : ls[i]? = some (some (zi x))) (hl : ls.set i (some (zi (w32 (x + n)))) = ls') (k : zW X l M B1 B2 Q (pc + 3) ls' st sh h) : zW X l M B1 B2 Q pc ls st sh h := by
  subst hl
  intro p e R s m args below meth c Z base D I k0 n0 E H locs cells slots lsr h1 h2 hP hS hL hst hls
  obtain ⟨k9, hk9⟩ := List.getElem?_of_mem (zas_mem (base := base) (q := (i, zc base (zi x))) |>.mpr ⟨zi x, hx, rfl⟩)
  refine lv_iinc (nL := znl M) (lv := zas base ls) (k := k9) (x := Int32.ofInt x) (v := Int32.ofInt (w32 (x + n))) E.1.1 E.1.2.1 hd (zas_has hL) hk9 (of_add x n) hi rfl fun lsr' hl' => ?_
  exact k p e R s m args below meth c Z base D I k0 n0 E H locs cells slots lsr' h1 h2 hP hS (zas_set (v := zi (w32 (x + n))) hL hi hs hl') hst (zls_set (w32_r _) hls)

theorem z_iadd {x y : Int} (hd : decode (zb M) pc = .ok (.iadd, 1))  (k : zW X l M B1 B2 Q (pc + 1) ls (zi (w32 (x + y)) :: st) sh h) : zW X l M B1 B2 Q pc ls (zi y :: zi x :: st) sh h := by
  intro p e R s m args below meth c Z base D I k0 n0 E H locs cells slots lsr h1 h2 hP hS hL hst hls
  have K := k p e R s m args below meth c Z base D I k0 n0 E H locs cells slots lsr h1 h2 hP hS hL (zok_cons (w32_r _) (zok_tl (zok_tl hst))) hls
  refine lv_iadd E.1.1 E.1.2.1 hd  ?_
  rw [of_add]
  exact K

theorem z_isub {x y : Int} (hd : decode (zb M) pc = .ok (.isub, 1))  (k : zW X l M B1 B2 Q (pc + 1) ls (zi (w32 (x - y)) :: st) sh h) : zW X l M B1 B2 Q pc ls (zi y :: zi x :: st) sh h := by
  intro p e R s m args below meth c Z base D I k0 n0 E H locs cells slots lsr h1 h2 hP hS hL hst hls
  have K := k p e R s m args below meth c Z base D I k0 n0 E H locs cells slots lsr h1 h2 hP hS hL (zok_cons (w32_r _) (zok_tl (zok_tl hst))) hls
  refine lv_isub E.1.1 E.1.2.1 hd  ?_
  rw [of_sub]
  exact K

theorem z_imul {x y : Int} (hd : decode (zb M) pc = .ok (.imul, 1))  (k : zW X l M B1 B2 Q (pc + 1) ls (zi (w32 (x * y)) :: st) sh h) : zW X l M B1 B2 Q pc ls (zi y :: zi x :: st) sh h := by
  intro p e R s m args below meth c Z base D I k0 n0 E H locs cells slots lsr h1 h2 hP hS hL hst hls
  have K := k p e R s m args below meth c Z base D I k0 n0 E H locs cells slots lsr h1 h2 hP hS hL (zok_cons (w32_r _) (zok_tl (zok_tl hst))) hls
  refine lv_imul E.1.1 E.1.2.1 hd  ?_
  rw [of_mul]
  exact K

theorem z_iand {x y : Int} (hd : decode (zb M) pc = .ok (.iand, 1))  (k : zW X l M B1 B2 Q (pc + 1) ls (zi (band x y) :: st) sh h) : zW X l M B1 B2 Q pc ls (zi y :: zi x :: st) sh h := by
  intro p e R s m args below meth c Z base D I k0 n0 E H locs cells slots lsr h1 h2 hP hS hL hst hls
  have K := k p e R s m args below meth c Z base D I k0 n0 E H locs cells slots lsr h1 h2 hP hS hL (zok_cons (toInt_r _) (zok_tl (zok_tl hst))) hls
  refine lv_iand E.1.1 E.1.2.1 hd  ?_
  have hz : Int32.ofInt (band x y) = _ := Int32.ofInt_toInt _
  simp only [List.map_cons, zc, hz] at K
  exact K

theorem z_ior {x y : Int} (hd : decode (zb M) pc = .ok (.ior, 1))  (k : zW X l M B1 B2 Q (pc + 1) ls (zi (bor x y) :: st) sh h) : zW X l M B1 B2 Q pc ls (zi y :: zi x :: st) sh h := by
  intro p e R s m args below meth c Z base D I k0 n0 E H locs cells slots lsr h1 h2 hP hS hL hst hls
  have K := k p e R s m args below meth c Z base D I k0 n0 E H locs cells slots lsr h1 h2 hP hS hL (zok_cons (toInt_r _) (zok_tl (zok_tl hst))) hls
  refine lv_ior E.1.1 E.1.2.1 hd  ?_
  have hz : Int32.ofInt (bor x y) = _ := Int32.ofInt_toInt _
  simp only [List.map_cons, zc, hz] at K
  exact K

theorem z_ixor {x y : Int} (hd : decode (zb M) pc = .ok (.ixor, 1))  (k : zW X l M B1 B2 Q (pc + 1) ls (zi (bxor x y) :: st) sh h) : zW X l M B1 B2 Q pc ls (zi y :: zi x :: st) sh h := by
  intro p e R s m args below meth c Z base D I k0 n0 E H locs cells slots lsr h1 h2 hP hS hL hst hls
  have K := k p e R s m args below meth c Z base D I k0 n0 E H locs cells slots lsr h1 h2 hP hS hL (zok_cons (toInt_r _) (zok_tl (zok_tl hst))) hls
  refine lv_ixor E.1.1 E.1.2.1 hd  ?_
  have hz : Int32.ofInt (bxor x y) = _ := Int32.ofInt_toInt _
  simp only [List.map_cons, zc, hz] at K
  exact K

theorem z_ishl {x y : Int} (hd : decode (zb M) pc = .ok (.ishl, 1))  (k : zW X l M B1 B2 Q (pc + 1) ls (zi (bshl x y) :: st) sh h) : zW X l M B1 B2 Q pc ls (zi y :: zi x :: st) sh h := by
  intro p e R s m args below meth c Z base D I k0 n0 E H locs cells slots lsr h1 h2 hP hS hL hst hls
  have K := k p e R s m args below meth c Z base D I k0 n0 E H locs cells slots lsr h1 h2 hP hS hL (zok_cons (toInt_r _) (zok_tl (zok_tl hst))) hls
  refine lv_ishl E.1.1 E.1.2.1 hd  ?_
  have hz : Int32.ofInt (bshl x y) = _ := Int32.ofInt_toInt _
  simp only [List.map_cons, zc, hz] at K
  exact K

theorem z_ishr {x y : Int} (hd : decode (zb M) pc = .ok (.ishr, 1))  (k : zW X l M B1 B2 Q (pc + 1) ls (zi (bshr x y) :: st) sh h) : zW X l M B1 B2 Q pc ls (zi y :: zi x :: st) sh h := by
  intro p e R s m args below meth c Z base D I k0 n0 E H locs cells slots lsr h1 h2 hP hS hL hst hls
  have K := k p e R s m args below meth c Z base D I k0 n0 E H locs cells slots lsr h1 h2 hP hS hL (zok_cons (toInt_r _) (zok_tl (zok_tl hst))) hls
  refine lv_ishr E.1.1 E.1.2.1 hd  ?_
  have hz : Int32.ofInt (bshr x y) = _ := Int32.ofInt_toInt _
  simp only [List.map_cons, zc, hz] at K
  exact K

theorem z_iushr {x y : Int} (hd : decode (zb M) pc = .ok (.iushr, 1))  (k : zW X l M B1 B2 Q (pc + 1) ls (zi (bushr x y) :: st) sh h) : zW X l M B1 B2 Q pc ls (zi y :: zi x :: st) sh h := by
  intro p e R s m args below meth c Z base D I k0 n0 E H locs cells slots lsr h1 h2 hP hS hL hst hls
  have K := k p e R s m args below meth c Z base D I k0 n0 E H locs cells slots lsr h1 h2 hP hS hL (zok_cons (toInt_r _) (zok_tl (zok_tl hst))) hls
  refine lv_iushr E.1.1 E.1.2.1 hd rfl ?_
  have hz : Int32.ofInt (bushr x y) = _ := Int32.ofInt_toInt _
  simp only [List.map_cons, zc, hz] at K
  exact K

theorem z_idiv {x y : Int} (hd : decode (zb M) pc = .ok (.idiv, 1)) (hne : ¬ y = 0) (k : zW X l M B1 B2 Q (pc + 1) ls (zi (zdiv x y) :: st) sh h) : zW X l M B1 B2 Q pc ls (zi y :: zi x :: st) sh h := by
  intro p e R s m args below meth c Z base D I k0 n0 E H locs cells slots lsr h1 h2 hP hS hL hst hls
  have K := k p e R s m args below meth c Z base D I k0 n0 E H locs cells slots lsr h1 h2 hP hS hL (zok_cons (toInt_r _) (zok_tl (zok_tl hst))) hls
  refine lv_idiv E.1.1 E.1.2.1 hd (by rw [i0]; rw [ii_eq (zok_hd hst) r32_0]; exact hne) ?_
  have hz : Int32.ofInt (zdiv x y) = _ := Int32.ofInt_toInt _
  simp only [List.map_cons, zc, hz] at K
  exact K

theorem z_irem {x y : Int} (hd : decode (zb M) pc = .ok (.irem, 1)) (hne : ¬ y = 0) (k : zW X l M B1 B2 Q (pc + 1) ls (zi (zmod x y) :: st) sh h) : zW X l M B1 B2 Q pc ls (zi y :: zi x :: st) sh h := by
  intro p e R s m args below meth c Z base D I k0 n0 E H locs cells slots lsr h1 h2 hP hS hL hst hls
  have K := k p e R s m args below meth c Z base D I k0 n0 E H locs cells slots lsr h1 h2 hP hS hL (zok_cons (toInt_r _) (zok_tl (zok_tl hst))) hls
  refine lv_irem E.1.1 E.1.2.1 hd (by rw [i0]; rw [ii_eq (zok_hd hst) r32_0]; exact hne) ?_
  have hz : Int32.ofInt (zmod x y) = _ := Int32.ofInt_toInt _
  simp only [List.map_cons, zc, hz] at K
  exact K

theorem z_ladd {x y : Int} (hd : decode (zb M) pc = .ok (.ladd, 1))  (k : zW X l M B1 B2 Q (pc + 1) ls (zl (w64 (x + y)) :: st) sh h) : zW X l M B1 B2 Q pc ls (zl y :: zl x :: st) sh h := by
  intro p e R s m args below meth c Z base D I k0 n0 E H locs cells slots lsr h1 h2 hP hS hL hst hls
  have K := k p e R s m args below meth c Z base D I k0 n0 E H locs cells slots lsr h1 h2 hP hS hL (zok_cons (w64_r _) (zok_tl (zok_tl hst))) hls
  refine lv_ladd E.1.1 E.1.2.1 hd  ?_
  rw [of_ladd]
  exact K

theorem z_i2l {x : Int} (hd : decode (zb M) pc = .ok (.i2l, 1)) (k : zW X l M B1 B2 Q (pc + 1) ls (zl x :: st) sh h) : zW X l M B1 B2 Q pc ls (zi x :: st) sh h := by
  intro p e R s m args below meth c Z base D I k0 n0 E H locs cells slots lsr h1 h2 hP hS hL hst hls
  have hx : r32 x := zok_hd hst
  have hx2 : r64 x := by unfold r32 at hx; unfold r64; omega
  have K := k p e R s m args below meth c Z base D I k0 n0 E H locs cells slots lsr h1 h2 hP hS hL (zok_cons hx2 (zok_tl hst)) hls
  refine lv_i2l E.1.1 E.1.2.1 hd ?_ K
  apply Int64.toInt_inj.mp
  rw [Int32.toInt_toInt64, of_toInt hx, of_toInt64 hx2]
theorem z_lcmp {x y : Int} (hd : decode (zb M) pc = .ok (.lcmp, 1)) (k : zW X l M B1 B2 Q (pc + 1) ls (zi (zcmp x y) :: st) sh h) : zW X l M B1 B2 Q pc ls (zl y :: zl x :: st) sh h := by
  intro p e R s m args below meth c Z base D I k0 n0 E H locs cells slots lsr h1 h2 hP hS hL hst hls
  have hy : r64 y := zok_hd hst
  have hx : r64 x := zok_hd (zok_tl hst)
  have hr : r32 (zcmp x y) := by unfold zcmp r32; split <;> (try split) <;> omega
  have K := k p e R s m args below meth c Z base D I k0 n0 E H locs cells slots lsr h1 h2 hP hS hL (zok_cons hr (zok_tl (zok_tl hst))) hls
  have e1 : Int64.ofInt y < Int64.ofInt x ↔ y < x := by rw [Int64.lt_iff_toInt_lt, of_toInt64 hx, of_toInt64 hy]
  have e2 : Int64.ofInt x = Int64.ofInt y ↔ x = y := by rw [← Int64.toInt_inj, of_toInt64 hx, of_toInt64 hy]
  have hz : lg_cmp (Int64.ofInt x) (Int64.ofInt y) = Int32.ofInt (zcmp x y) := by
    unfold lg_cmp zcmp
    by_cases g1 : y < x
    · simp [e1, g1]; try decide
    · by_cases g2 : x = y
      · subst g2
        simp; try decide
      · simp [e1, e2, g1, g2]; try decide
  refine W.lcmp E.1.1 E.1.2.1 hd ?_
  rw [hz]
  exact K
theorem z_dup {v : zV} (hd : decode (zb M) pc = .ok (.dup, 1)) (hc : zcat v = 1) (k : zW X l M B1 B2 Q (pc + 1) ls (v :: v :: st) sh h) : zW X l M B1 B2 Q pc ls (v :: st) sh h := by
  intro p e R s m args below meth c Z base D I k0 n0 E H locs cells slots lsr h1 h2 hP hS hL hst hls
  exact lv_dup E.1.1 E.1.2.1 hd (by rw [zc_cat]; exact hc) (k p e R s m args below meth c Z base D I k0 n0 E H locs cells slots lsr h1 h2 hP hS hL (zok_cons (zok_hd hst) hst) hls)
theorem z_pop {v : zV} (hd : decode (zb M) pc = .ok (.pop, 1)) (hc : zcat v = 1) (k : zW X l M B1 B2 Q (pc + 1) ls st sh h) : zW X l M B1 B2 Q pc ls (v :: st) sh h := by
  intro p e R s m args below meth c Z base D I k0 n0 E H locs cells slots lsr h1 h2 hP hS hL hst hls
  exact lv_pop E.1.1 E.1.2.1 hd (by rw [zc_cat]; exact hc) (k p e R s m args below meth c Z base D I k0 n0 E H locs cells slots lsr h1 h2 hP hS hL (zok_tl hst) hls)
theorem z_dup2 {v u : zV} (hd : decode (zb M) pc = .ok (.dup2, 1)) (hc : zcat v = 1) (hc2 : zcat u = 1) (k : zW X l M B1 B2 Q (pc + 1) ls (v :: u :: v :: u :: st) sh h) : zW X l M B1 B2 Q pc ls (v :: u :: st) sh h := by
  intro p e R s m args below meth c Z base D I k0 n0 E H locs cells slots lsr h1 h2 hP hS hL hst hls
  exact lv_dup2_11 E.1.1 E.1.2.1 hd (by rw [zc_cat]; exact hc) (by rw [zc_cat]; exact hc2) (k p e R s m args below meth c Z base D I k0 n0 E H locs cells slots lsr h1 h2 hP hS hL (zok_cons (zok_hd hst) (zok_cons (zok_hd (zok_tl hst)) hst)) hls)
theorem z_goto {off : Int} {tgt : Nat} (hd : decode (zb M) pc = .ok (.goto off, 3)) (ht : (pc : Int) + off = (tgt : Int)) (k : zW X l M B1 B2 Q tgt ls st sh h) : zW X l M B1 B2 Q pc ls st sh h := by
  intro p e R s m args below meth c Z base D I k0 n0 E H locs cells slots lsr h1 h2 hP hS hL hst hls
  exact lv_goto E.1.1 E.1.2.1 hd ht (k p e R s m args below meth c Z base D I k0 n0 E H locs cells slots lsr h1 h2 hP hS hL hst hls)

-- if eq: x = 0 / ¬ x = 0
theorem z_if_eq {x : Int} {off : Int} {tgt : Nat} (hd : decode (zb M) pc = .ok (.ifCond .eq off, 3)) (ht : (pc : Int) + off = (tgt : Int)) (kt : x = 0 → zW X l M B1 B2 Q tgt ls st sh h) (kf : ¬ x = 0 → zW X l M B1 B2 Q (pc + 3) ls st sh h) : zW X l M B1 B2 Q pc ls (zi x :: st) sh h := by
  intro p e R s m args below meth c Z base D I k0 n0 E H locs cells slots lsr h1 h2 hP hS hL hst hls
  have hx : r32 x := zok_hd hst
  have hiff := ii_eq hx r32_0
  rw [← i0] at hiff
  refine lv_if_eq E.1.1 E.1.2.1 hd ht (fun g => ?_) (fun g => ?_)
  · exact kt (hiff.mp g) p e R s m args below meth c Z base D I k0 n0 E H locs cells slots lsr h1 h2 hP hS hL (zok_tl hst) hls
  · exact kf (fun q => g (hiff.mpr q)) p e R s m args below meth c Z base D I k0 n0 E H locs cells slots lsr h1 h2 hP hS hL (zok_tl hst) hls

-- icmp eq: x = y / ¬ x = y
theorem z_icmp_eq {x y : Int} {off : Int} {tgt : Nat} (hd : decode (zb M) pc = .ok (.if_icmp .eq off, 3)) (ht : (pc : Int) + off = (tgt : Int)) (kt : x = y → zW X l M B1 B2 Q tgt ls st sh h) (kf : ¬ x = y → zW X l M B1 B2 Q (pc + 3) ls st sh h) : zW X l M B1 B2 Q pc ls (zi y :: zi x :: st) sh h := by
  intro p e R s m args below meth c Z base D I k0 n0 E H locs cells slots lsr h1 h2 hP hS hL hst hls
  have hy : r32 y := zok_hd hst
  have hx : r32 x := zok_hd (zok_tl hst)
  have hiff := ii_eq hx hy
  skip
  refine lv_icmp_eq E.1.1 E.1.2.1 hd ht (fun g => ?_) (fun g => ?_)
  · exact kt (hiff.mp g) p e R s m args below meth c Z base D I k0 n0 E H locs cells slots lsr h1 h2 hP hS hL (zok_tl (zok_tl hst)) hls
  · exact kf (fun q => g (hiff.mpr q)) p e R s m args below meth c Z base D I k0 n0 E H locs cells slots lsr h1 h2 hP hS hL (zok_tl (zok_tl hst)) hls

-- if ne: ¬ x = 0 / x = 0
theorem z_if_ne {x : Int} {off : Int} {tgt : Nat} (hd : decode (zb M) pc = .ok (.ifCond .ne off, 3)) (ht : (pc : Int) + off = (tgt : Int)) (kt : ¬ x = 0 → zW X l M B1 B2 Q tgt ls st sh h) (kf : x = 0 → zW X l M B1 B2 Q (pc + 3) ls st sh h) : zW X l M B1 B2 Q pc ls (zi x :: st) sh h := by
  intro p e R s m args below meth c Z base D I k0 n0 E H locs cells slots lsr h1 h2 hP hS hL hst hls
  have hx : r32 x := zok_hd hst
  have hiff := ii_eq hx r32_0
  rw [← i0] at hiff
  refine lv_if_ne E.1.1 E.1.2.1 hd ht (fun g => ?_) (fun g => ?_)
  · exact kt (fun q => g (hiff.mpr q)) p e R s m args below meth c Z base D I k0 n0 E H locs cells slots lsr h1 h2 hP hS hL (zok_tl hst) hls
  · exact kf (hiff.mp g) p e R s m args below meth c Z base D I k0 n0 E H locs cells slots lsr h1 h2 hP hS hL (zok_tl hst) hls

-- icmp ne: ¬ x = y / x = y
theorem z_icmp_ne {x y : Int} {off : Int} {tgt : Nat} (hd : decode (zb M) pc = .ok (.if_icmp .ne off, 3)) (ht : (pc : Int) + off = (tgt : Int)) (kt : ¬ x = y → zW X l M B1 B2 Q tgt ls st sh h) (kf : x = y → zW X l M B1 B2 Q (pc + 3) ls st sh h) : zW X l M B1 B2 Q pc ls (zi y :: zi x :: st) sh h := by
  intro p e R s m args below meth c Z base D I k0 n0 E H locs cells slots lsr h1 h2 hP hS hL hst hls
  have hy : r32 y := zok_hd hst
  have hx : r32 x := zok_hd (zok_tl hst)
  have hiff := ii_eq hx hy
  skip
  refine lv_icmp_ne E.1.1 E.1.2.1 hd ht (fun g => ?_) (fun g => ?_)
  · exact kt (fun q => g (hiff.mpr q)) p e R s m args below meth c Z base D I k0 n0 E H locs cells slots lsr h1 h2 hP hS hL (zok_tl (zok_tl hst)) hls
  · exact kf (hiff.mp g) p e R s m args below meth c Z base D I k0 n0 E H locs cells slots lsr h1 h2 hP hS hL (zok_tl (zok_tl hst)) hls

-- if lt: x < 0 / ¬ x < 0
theorem z_if_lt {x : Int} {off : Int} {tgt : Nat} (hd : decode (zb M) pc = .ok (.ifCond .lt off, 3)) (ht : (pc : Int) + off = (tgt : Int)) (kt : x < 0 → zW X l M B1 B2 Q tgt ls st sh h) (kf : ¬ x < 0 → zW X l M B1 B2 Q (pc + 3) ls st sh h) : zW X l M B1 B2 Q pc ls (zi x :: st) sh h := by
  intro p e R s m args below meth c Z base D I k0 n0 E H locs cells slots lsr h1 h2 hP hS hL hst hls
  have hx : r32 x := zok_hd hst
  have hiff := ii_lt hx r32_0
  rw [← i0] at hiff
  refine lv_if_lt E.1.1 E.1.2.1 hd ht (fun g => ?_) (fun g => ?_)
  · exact kt (hiff.mp g) p e R s m args below meth c Z base D I k0 n0 E H locs cells slots lsr h1 h2 hP hS hL (zok_tl hst) hls
  · exact kf (fun q => g (hiff.mpr q)) p e R s m args below meth c Z base D I k0 n0 E H locs cells slots lsr h1 h2 hP hS hL (zok_tl hst) hls

-- icmp lt: x < y / ¬ x < y
theorem z_icmp_lt {x y : Int} {off : Int} {tgt : Nat} (hd : decode (zb M) pc = .ok (.if_icmp .lt off, 3)) (ht : (pc : Int) + off = (tgt : Int)) (kt : x < y → zW X l M B1 B2 Q tgt ls st sh h) (kf : ¬ x < y → zW X l M B1 B2 Q (pc + 3) ls st sh h) : zW X l M B1 B2 Q pc ls (zi y :: zi x :: st) sh h := by
  intro p e R s m args below meth c Z base D I k0 n0 E H locs cells slots lsr h1 h2 hP hS hL hst hls
  have hy : r32 y := zok_hd hst
  have hx : r32 x := zok_hd (zok_tl hst)
  have hiff := ii_lt hx hy
  skip
  refine lv_icmp_lt E.1.1 E.1.2.1 hd ht (fun g => ?_) (fun g => ?_)
  · exact kt (hiff.mp g) p e R s m args below meth c Z base D I k0 n0 E H locs cells slots lsr h1 h2 hP hS hL (zok_tl (zok_tl hst)) hls
  · exact kf (fun q => g (hiff.mpr q)) p e R s m args below meth c Z base D I k0 n0 E H locs cells slots lsr h1 h2 hP hS hL (zok_tl (zok_tl hst)) hls

-- if ge: 0 ≤ x / ¬ 0 ≤ x
theorem z_if_ge {x : Int} {off : Int} {tgt : Nat} (hd : decode (zb M) pc = .ok (.ifCond .ge off, 3)) (ht : (pc : Int) + off = (tgt : Int)) (kt : 0 ≤ x → zW X l M B1 B2 Q tgt ls st sh h) (kf : ¬ 0 ≤ x → zW X l M B1 B2 Q (pc + 3) ls st sh h) : zW X l M B1 B2 Q pc ls (zi x :: st) sh h := by
  intro p e R s m args below meth c Z base D I k0 n0 E H locs cells slots lsr h1 h2 hP hS hL hst hls
  have hx : r32 x := zok_hd hst
  have hiff := ii_le r32_0 hx
  rw [← i0] at hiff
  refine lv_if_ge E.1.1 E.1.2.1 hd ht (fun g => ?_) (fun g => ?_)
  · exact kt (hiff.mp g) p e R s m args below meth c Z base D I k0 n0 E H locs cells slots lsr h1 h2 hP hS hL (zok_tl hst) hls
  · exact kf (fun q => g (hiff.mpr q)) p e R s m args below meth c Z base D I k0 n0 E H locs cells slots lsr h1 h2 hP hS hL (zok_tl hst) hls

-- icmp ge: y ≤ x / ¬ y ≤ x
theorem z_icmp_ge {x y : Int} {off : Int} {tgt : Nat} (hd : decode (zb M) pc = .ok (.if_icmp .ge off, 3)) (ht : (pc : Int) + off = (tgt : Int)) (kt : y ≤ x → zW X l M B1 B2 Q tgt ls st sh h) (kf : ¬ y ≤ x → zW X l M B1 B2 Q (pc + 3) ls st sh h) : zW X l M B1 B2 Q pc ls (zi y :: zi x :: st) sh h := by
  intro p e R s m args below meth c Z base D I k0 n0 E H locs cells slots lsr h1 h2 hP hS hL hst hls
  have hy : r32 y := zok_hd hst
  have hx : r32 x := zok_hd (zok_tl hst)
  have hiff := ii_le hy hx
  skip
  refine lv_icmp_ge E.1.1 E.1.2.1 hd ht (fun g => ?_) (fun g => ?_)
  · exact kt (hiff.mp g) p e R s m args below meth c Z base D I k0 n0 E H locs cells slots lsr h1 h2 hP hS hL (zok_tl (zok_tl hst)) hls
  · exact kf (fun q => g (hiff.mpr q)) p e R s m args below meth c Z base D I k0 n0 E H locs cells slots lsr h1 h2 hP hS hL (zok_tl (zok_tl hst)) hls

-- if gt: 0 < x / ¬ 0 < x
theorem z_if_gt {x : Int} {off : Int} {tgt : Nat} (hd : decode (zb M) pc = .ok (.ifCond .gt off, 3)) (ht : (pc : Int) + off = (tgt : Int)) (kt : 0 < x → zW X l M B1 B2 Q tgt ls st sh h) (kf : ¬ 0 < x → zW X l M B1 B2 Q (pc + 3) ls st sh h) : zW X l M B1 B2 Q pc ls (zi x :: st) sh h := by
  intro p e R s m args below meth c Z base D I k0 n0 E H locs cells slots lsr h1 h2 hP hS hL hst hls
  have hx : r32 x := zok_hd hst
  have hiff := ii_lt r32_0 hx
  rw [← i0] at hiff
  refine lv_if_gt E.1.1 E.1.2.1 hd ht (fun g => ?_) (fun g => ?_)
  · exact kt (hiff.mp g) p e R s m args below meth c Z base D I k0 n0 E H locs cells slots lsr h1 h2 hP hS hL (zok_tl hst) hls
  · exact kf (fun q => g (hiff.mpr q)) p e R s m args below meth c Z base D I k0 n0 E H locs cells slots lsr h1 h2 hP hS hL (zok_tl hst) hls

-- icmp gt: y < x / ¬ y < x
theorem z_icmp_gt {x y : Int} {off : Int} {tgt : Nat} (hd : decode (zb M) pc = .ok (.if_icmp .gt off, 3)) (ht : (pc : Int) + off = (tgt : Int)) (kt : y < x → zW X l M B1 B2 Q tgt ls st sh h) (kf : ¬ y < x → zW X l M B1 B2 Q (pc + 3) ls st sh h) : zW X l M B1 B2 Q pc ls (zi y :: zi x :: st) sh h := by
  intro p e R s m args below meth c Z base D I k0 n0 E H locs cells slots lsr h1 h2 hP hS hL hst hls
  have hy : r32 y := zok_hd hst
  have hx : r32 x := zok_hd (zok_tl hst)
  have hiff := ii_lt hy hx
  skip
  refine lv_icmp_gt E.1.1 E.1.2.1 hd ht (fun g => ?_) (fun g => ?_)
  · exact kt (hiff.mp g) p e R s m args below meth c Z base D I k0 n0 E H locs cells slots lsr h1 h2 hP hS hL (zok_tl (zok_tl hst)) hls
  · exact kf (fun q => g (hiff.mpr q)) p e R s m args below meth c Z base D I k0 n0 E H locs cells slots lsr h1 h2 hP hS hL (zok_tl (zok_tl hst)) hls

-- if le: x ≤ 0 / ¬ x ≤ 0
theorem z_if_le {x : Int} {off : Int} {tgt : Nat} (hd : decode (zb M) pc = .ok (.ifCond .le off, 3)) (ht : (pc : Int) + off = (tgt : Int)) (kt : x ≤ 0 → zW X l M B1 B2 Q tgt ls st sh h) (kf : ¬ x ≤ 0 → zW X l M B1 B2 Q (pc + 3) ls st sh h) : zW X l M B1 B2 Q pc ls (zi x :: st) sh h := by
  intro p e R s m args below meth c Z base D I k0 n0 E H locs cells slots lsr h1 h2 hP hS hL hst hls
  have hx : r32 x := zok_hd hst
  have hiff := ii_le hx r32_0
  rw [← i0] at hiff
  refine lv_if_le E.1.1 E.1.2.1 hd ht (fun g => ?_) (fun g => ?_)
  · exact kt (hiff.mp g) p e R s m args below meth c Z base D I k0 n0 E H locs cells slots lsr h1 h2 hP hS hL (zok_tl hst) hls
  · exact kf (fun q => g (hiff.mpr q)) p e R s m args below meth c Z base D I k0 n0 E H locs cells slots lsr h1 h2 hP hS hL (zok_tl hst) hls

-- icmp le: x ≤ y / ¬ x ≤ y
theorem z_icmp_le {x y : Int} {off : Int} {tgt : Nat} (hd : decode (zb M) pc = .ok (.if_icmp .le off, 3)) (ht : (pc : Int) + off = (tgt : Int)) (kt : x ≤ y → zW X l M B1 B2 Q tgt ls st sh h) (kf : ¬ x ≤ y → zW X l M B1 B2 Q (pc + 3) ls st sh h) : zW X l M B1 B2 Q pc ls (zi y :: zi x :: st) sh h := by
  intro p e R s m args below meth c Z base D I k0 n0 E H locs cells slots lsr h1 h2 hP hS hL hst hls
  have hy : r32 y := zok_hd hst
  have hx : r32 x := zok_hd (zok_tl hst)
  have hiff := ii_le hx hy
  skip
  refine lv_icmp_le E.1.1 E.1.2.1 hd ht (fun g => ?_) (fun g => ?_)
  · exact kt (hiff.mp g) p e R s m args below meth c Z base D I k0 n0 E H locs cells slots lsr h1 h2 hP hS hL (zok_tl (zok_tl hst)) hls
  · exact kf (fun q => g (hiff.mpr q)) p e R s m args below meth c Z base D I k0 n0 E H locs cells slots lsr h1 h2 hP hS hL (zok_tl (zok_tl hst)) hls

theorem z_tsout {x dflt lo hi : Int} {offs : Array Int} {len tgt : Nat} (hd : decode (zb M) pc = .ok (.tableswitch dflt lo hi offs, len)) (hx : x < lo ∨ hi < x) (ht : (pc : Int) + dflt = (tgt : Int)) (k : zW X l M B1 B2 Q tgt ls st sh h) : zW X l M B1 B2 Q pc ls (zi x :: st) sh h := by
  intro p e R s m args below meth c Z base D I k0 n0 E H locs cells slots lsr h1 h2 hP hS hL hst hls
  have hr : r32 x := zok_hd hst
  exact lv_tableOut E.1.1 E.1.2.1 hd (by rw [of_toInt hr]; exact hx) ht (k p e R s m args below meth c Z base D I k0 n0 E H locs cells slots lsr h1 h2 hP hS hL (zok_tl hst) hls)
theorem z_tsin {x dflt lo hi off : Int} {offs : Array Int} {len tgt : Nat} (hd : decode (zb M) pc = .ok (.tableswitch dflt lo hi offs, len)) (h3 : lo ≤ x) (h4 : x ≤ hi) (ho : offs[(x - lo).toNat]? = some off) (ht : (pc : Int) + off = (tgt : Int)) (k : zW X l M B1 B2 Q tgt ls st sh h) : zW X l M B1 B2 Q pc ls (zi x :: st) sh h := by
  intro p e R s m args below meth c Z base D I k0 n0 E H locs cells slots lsr h1 h2 hP hS hL hst hls
  have hr : r32 x := zok_hd hst
  exact lv_tableIn E.1.1 E.1.2.1 hd (by rw [of_toInt hr]; omega) (by rw [of_toInt hr]; omega) (by rw [of_toInt hr]; exact ho) ht (k p e R s m args below meth c Z base D I k0 n0 E H locs cells slots lsr h1 h2 hP hS hL (zok_tl hst) hls)
theorem z_lsw {x dflt off : Int} {ps : Array (Int × Int)} {len tgt : Nat} (hd : decode (zb M) pc = .ok (.lookupswitch dflt ps, len)) (hp : (ps.toList.zip (ps.toList.drop 1)).all (fun (a, next) => a.1 < next.1) = true) (ho : Op.lookupswitch.offset ps.toList dflt x = off) (ht : (pc : Int) + off = (tgt : Int)) (k : zW X l M B1 B2 Q tgt ls st sh h) : zW X l M B1 B2 Q pc ls (zi x :: st) sh h := by
  intro p e R s m args below meth c Z base D I k0 n0 E H locs cells slots lsr h1 h2 hP hS hL hst hls
  have hr : r32 x := zok_hd hst
  exact lv_lookup E.1.1 E.1.2.1 hd hp (by rw [of_toInt hr]; exact ho) ht (k p e R s m args below meth c Z base D I k0 n0 E H locs cells slots lsr h1 h2 hP hS hL (zok_tl hst) hls)
theorem z_ret {v : Option zV} (hd : decode (zb M) pc = .ok (zrti v, 1)) (hf : zfit (zrt M) v) (hb1 : sh.1.length = B1) (hb2 : ztot sh = B2) (hst : st = v.toList) (hq : Q v sh h) : zW X l M B1 B2 Q pc ls st sh h := by
  intro p e R s m args below meth c Z base D I k0 n0 E H locs cells slots lsr h1 h2 hP hS hL hok hls
  have hv : zokO v := by
    cases v with
    | none => trivial
    | some v => exact hok v (by rw [hst]; simp)
  have hm : st.map (zc base) = (v.map (zc base)).toList := by rw [hst]; cases v <;> rfl
  rw [hm]
  exact E.2.2.2.2.2.2 pc lsr H locs cells slots v sh h hd hf hv hq hb1 hb2 h1 h2 hP hS
end Z1
end
section
/-! Rows of the heap, of calls, of a method's start. -/
theorem zi_in {i : Int} {n : Nat} (hr : r32 i) (h0 : 0 ≤ i) (h1 : i < n) : vp_in (Int32.ofInt i) n := by
  rw [vp_in_iff, of_toInt hr]
  exact ⟨h0, h1⟩
theorem zi_clamp {i : Int} (hr : r32 i) : (Int32.ofInt i).toNatClampNeg = i.toNat := by
  have h1 : (Int32.ofInt i).toNatClampNeg = (Int32.ofInt i).toInt.toNat := rfl
  rw [h1, of_toInt hr]
def zCl (ci : Nat) (C : String) (T : u_T) (N : Nat) : Prop := zcl[ci]? = some (C, T, N) ∧ ci < 100 ∧ (∀ w ∈ u_ws C T N, w ∈ zT) ∧ (∀ k, k < N → parseFieldDescriptor (T k).2.2.1 = some (zty ci k)) ∧ (∀ a, a < N → ∀ b, b < N → a ≠ b → (T a).2.1 ≠ (T b).2.1) ∧ Cond.instantiable C N ∈ zT ∧ Cond.initialized C ∈ zT
def zFL (own : String) (idx ci k : Nat) (ty : FieldType) (fin : Bool) : Prop := ∃ (C : String) (T : u_T) (N : Nat), zCl ci C T N ∧ k < N ∧ Cond.fieldLink own idx (T k).1 (T k).2.1 (T k).2.2.1 ∈ zT ∧ zty ci k = ty ∧ (T k).2.2.2 = fin ∧ (fin = false ∨ (T k).1 = own ∨ True)
def zFF (own : String) (idx ci k : Nat) (ty : FieldType) : Prop := ∃ (C : String) (T : u_T) (N : Nat), zCl ci C T N ∧ k < N ∧ Cond.fieldLink own idx (T k).1 (T k).2.1 (T k).2.2.1 ∈ zT ∧ zty ci k = ty ∧ (T k).2.2.2 = true ∧ (T k).1 = own
theorem zce_obj {base : Nat} {I : zI} {ci n : Nat} {f g : Int → Int} (h : ci < 100) : zce base I (ci, n) f g = .inr (ci, (List.range n).map (fun k => zfv base (zty ci k) (f k) (g k))) := by
  unfold zce
  simp only
  rw [if_neg (by omega), if_neg (by omega), if_neg (by omega), if_neg (by omega)]
def zval (ty : FieldType) (x y : Int) : zV := match ty with
  | .int => zi x
  | .boolean => zi x
  | .long => zl x
  | _ => zr y
theorem zc_val (base : Nat) (ty : FieldType) (x y : Int) : zc base (zval ty x y) = zfv base ty x y := by
  cases ty <;> rfl
theorem zval_ok {ty : FieldType} {x y : Int} (h : r32 x) : zok (zval ty x y) := by
  cases ty <;> first | exact h | exact trivial | (show r64 x; unfold r32 at h; unfold r64; omega)
theorem zup_32 {h : zH} {r k v : Int} (hh : ∀ a b, r32 (h a b)) (hv : r32 v) : ∀ a b, r32 (zup h r k v a b) := by
  intro a b
  unfold zup
  split
  · exact hv
  · exact hh a b
theorem zup_off {h : zH} {r k v : Int} : ∀ a, a ≠ r → zup h r k v a = h a := by
  intro a ha
  funext b
  exact zup_ne (fun q => ha q.1)
section Z2
variable {X : State → Nat → Prop} {l : Launch} {M : zMd} {B1 B2 : Nat} {Q : zQt} {pc : Nat} {ls : List (Option zV)} {st : List zV} {sh : zS} {h : zH}
theorem z_get0 {idx ci k n : Nat} {ty : FieldType} {fin : Bool} {r : Int} (hf : zFL (zy M).cls idx ci k ty fin) (hd : decode (zb M) pc = .ok (.getfield idx, 3)) (hs : zsh sh r = some (ci, n)) (hk : k < n) (K : zW X l M B1 B2 Q (pc + 3) ls (zval ty (h r k) (sh.2 r k) :: st) sh h) : zW X l M B1 B2 Q pc ls (zr r :: st) sh h := by
  intro p e R s m args below meth c Z base D I k0 n0 E H locs cells slots lsr h1 h2 hP hS hL hst hls
  obtain ⟨C, T, N, hc, hkN, hlink, hty, -⟩ := hf
  subst hty
  have K := K p e R s m args below meth c Z base D I k0 n0 E H locs cells slots lsr h1 h2 hP hS hL (zok_cons (zval_ok (hP.2 r k)) (zok_tl hst)) hls
  have hw := zws_sh (base := base) (I := I) (h := h) hs
  rw [zce_obj hc.2.1] at hw
  have hz : zc base (zr r) = .ref (base + (r.toNat - 1)) := zrf_pos (zsh_spec hs).1
  simp only [List.map_cons, hz, zc_val] at K ⊢
  exact va_get (C := C) (T := T) (N := N) (D := D) E.1.1 E.1.2.1 E.1.2.2.2.2 hc.2.2.1 E.1.2.2.2.1 E.2.1.1 hP.1 (r.toNat - 1) hw hc.1 k hkN (E.1.2.2.2.2 _ hlink) (fun _ h9 => h9) (v := zfv base (zty ci k) (h r k) (sh.2 r k)) (by simp [hk]) hd K
theorem z_geti {idx ci k n : Nat} {fin : Bool} {r v : Int} (hf : zFL (zy M).cls idx ci k .int fin) (hd : decode (zb M) pc = .ok (.getfield idx, 3)) (hs : zsh sh r = some (ci, n)) (hk : k < n) (hv : h r k = v) (K : zW X l M B1 B2 Q (pc + 3) ls (zi v :: st) sh h) : zW X l M B1 B2 Q pc ls (zr r :: st) sh h := by
  subst hv
  exact z_get0 hf hd hs hk K
theorem z_getz {idx ci k n : Nat} {fin : Bool} {r v : Int} (hf : zFL (zy M).cls idx ci k .boolean fin) (hd : decode (zb M) pc = .ok (.getfield idx, 3)) (hs : zsh sh r = some (ci, n)) (hk : k < n) (hv : h r k = v) (K : zW X l M B1 B2 Q (pc + 3) ls (zi v :: st) sh h) : zW X l M B1 B2 Q pc ls (zr r :: st) sh h := by
  subst hv
  exact z_get0 hf hd hs hk K
theorem z_getl {idx ci k n : Nat} {fin : Bool} {r v : Int} (hf : zFL (zy M).cls idx ci k .long fin) (hd : decode (zb M) pc = .ok (.getfield idx, 3)) (hs : zsh sh r = some (ci, n)) (hk : k < n) (hv : h r k = v) (K : zW X l M B1 B2 Q (pc + 3) ls (zl v :: st) sh h) : zW X l M B1 B2 Q pc ls (zr r :: st) sh h := by
  subst hv
  exact z_get0 hf hd hs hk K
theorem z_geta {idx ci k n : Nat} {t : FieldType} {fin : Bool} {r v : Int} (hf : zFL (zy M).cls idx ci k (.array t) fin) (hd : decode (zb M) pc = .ok (.getfield idx, 3)) (hs : zsh sh r = some (ci, n)) (hk : k < n) (hv : sh.2 r k = v) (K : zW X l M B1 B2 Q (pc + 3) ls (zr v :: st) sh h) : zW X l M B1 B2 Q pc ls (zr r :: st) sh h := by
  subst hv
  exact z_get0 hf hd hs hk K
theorem z_geto {idx ci k n : Nat} {t : String} {fin : Bool} {r v : Int} (hf : zFL (zy M).cls idx ci k (.object t) fin) (hd : decode (zb M) pc = .ok (.getfield idx, 3)) (hs : zsh sh r = some (ci, n)) (hk : k < n) (hv : sh.2 r k = v) (K : zW X l M B1 B2 Q (pc + 3) ls (zr v :: st) sh h) : zW X l M B1 B2 Q pc ls (zr r :: st) sh h := by
  subst hv
  exact z_get0 hf hd hs hk K
/-- what a field of a number's type can hold -/
def zfits (ty : FieldType) (v : Int) : Prop := match ty with
  | .int => True
  | .boolean => v = 0 ∨ v = 1
  | .long => r32 v
  | _ => False
def zref (ty : FieldType) : Prop := match ty with
  | .object _ => True
  | .array _ => True
  | _ => False
theorem zb0 : narrow .boolean (.int (Int32.ofInt 0)) = .int (Int32.ofInt 0) ∧ fits .boolean (.int (Int32.ofInt 0)) = true := ⟨by decide, by decide⟩
theorem zb1 : narrow .boolean (.int (Int32.ofInt 1)) = .int (Int32.ofInt 1) ∧ fits .boolean (.int (Int32.ofInt 1)) = true := ⟨by decide, by decide⟩
theorem zfits_ok {base : Nat} {ty : FieldType} {v y : Int} (h : zfits ty v) (hz : zok (zval ty v y)) : narrow ty (zfv base ty v y) = zfv base ty v y ∧ fits ty (zfv base ty v y) = true ∧ r32 v := by
  cases ty <;> first
    | exact h.elim
    | exact ⟨rfl, rfl, hz⟩
    | exact ⟨rfl, rfl, h⟩
    | exact (h.elim (fun q => by subst q; exact ⟨zb0.1, zb0.2, hz⟩) (fun q => by subst q; exact ⟨zb1.1, zb1.2, hz⟩))
theorem zref_ok {base : Nat} {ty : FieldType} {v y : Int} (h : zref ty) : narrow ty (zfv base ty v y) = zfv base ty v y ∧ fits ty (zfv base ty v y) = true := by
  cases ty <;> first
    | exact h.elim
    | (refine ⟨?_, ?_⟩
       · show narrow _ (zrf base y) = zrf base y
         unfold zrf
         split <;> rfl
       · show fits _ (zrf base y) = true
         unfold zrf
         split <;> rfl)
theorem zfs_set {base ci n k : Nat} {f f' g g' : Int → Int} (hk : k < n) (hf : ∀ j : Nat, j ≠ k → f' j = f j) (hg : ∀ j : Nat, j ≠ k → g' j = g j) : ((List.range n).map (fun j : Nat => zfv base (zty ci j) (f j) (g j))).set k (zfv base (zty ci k) (f' k) (g' k)) = (List.range n).map (fun j : Nat => zfv base (zty ci j) (f' j) (g' j)) := by
  apply List.ext_getElem?
  intro i
  by_cases hi : i = k
  · subst hi
    rw [List.getElem?_set_self (by simpa using hk)]
    simp [hk]
  · rw [List.getElem?_set_ne (Ne.symm hi)]
    by_cases hl : i < n
    · simp [hl, hf i hi, hg i hi]
    · simp [hl]
theorem zup_k {h : zH} {r v : Int} {k : Nat} : ∀ j : Nat, j ≠ k → zup h r k v r j = h r j := fun j hj => zup_ne (fun q => hj (by have := q.2; omega))
theorem zfv_i {base : Nat} {ty : FieldType} {v y y' : Int} (h : zfits ty v) : zfv base ty v y = zfv base ty v y' := by
  cases ty <;> first | exact h.elim | rfl
theorem zfv_r {base : Nat} {ty : FieldType} {v v' y : Int} (h : zref ty) : zfv base ty v y = zfv base ty v' y := by
  cases ty <;> first | exact h.elim | rfl
theorem z_put0 {idx ci k n : Nat} {ty : FieldType} {r v y : Int} (hf : zFL (zy M).cls idx ci k ty false) (hd : decode (zb M) pc = .ok (.putfield idx, 3)) (hs : zsh sh r = some (ci, n)) (hk : k < n) (hft : zfits ty v) (K : zW X l M B1 B2 Q (pc + 3) ls st sh (zup h r k v)) : zW X l M B1 B2 Q pc ls (zval ty v y :: zr r :: st) sh h := by
  intro p e R s m args below meth c Z base D I k0 n0 E H locs cells slots lsr h1 h2 hP hS hL hst hls
  obtain ⟨C, T, N, hc, hkN, hlink, hty, hfin, -⟩ := hf
  subst hty
  have hw := zws_sh (base := base) (I := I) (h := h) hs
  rw [zce_obj hc.2.1] at hw
  have hz : zc base (zr r) = .ref (base + (r.toNat - 1)) := zrf_pos (zsh_spec hs).1
  obtain ⟨f1, f2, f3⟩ := zfits_ok (base := base) hft (zok_hd hst)
  simp only [List.map_cons, hz, zc_val]
  refine va_put (C := C) (T := T) (N := N) (D := D) E.1.1 E.1.2.1 E.1.2.2.2.2 hc.2.2.1 (zty ci) hc.2.2.2.1 hc.2.2.2.2.1 E.1.2.2.2.1 E.2.1.1 hP.1 (zD base I sh h) hS (r.toNat - 1) hw hc.1 k hkN (E.1.2.2.2.2 _ hlink) (fun _ h9 => h9) hfin (hc.2.2.2.1 k hkN) f1 f2 (by simpa using hk) hd fun H9 locs9 hP9 hD9 hS9 => ?_
  rw [zws_set (h' := zup h r k v) (g' := sh.2) hs (by
    rw [zce_obj hc.2.1, ← zfs_set (f := h r) (f' := zup h r k v r) (g := sh.2 r) (g' := sh.2 r) hk zup_k (fun _ _ => rfl), zup_same, zfv_i hft]) zup_off (fun _ _ => rfl)] at hP9
  exact K p e R s m args below meth c Z base D I k0 n0 E H9 locs9 cells slots lsr h1 h2 ⟨hP9, zup_32 hP.2 f3⟩ hS9 hL (zok_tl (zok_tl hst)) hls
theorem z_putr0 {idx ci k n : Nat} {ty : FieldType} {r v y : Int} (hf : zFL (zy M).cls idx ci k ty false) (hd : decode (zb M) pc = .ok (.putfield idx, 3)) (hs : zsh sh r = some (ci, n)) (hk : k < n) (hft : zref ty) (K : zW X l M B1 B2 Q (pc + 3) ls st (sh.1, zup sh.2 r k y) h) : zW X l M B1 B2 Q pc ls (zval ty v y :: zr r :: st) sh h := by
  intro p e R s m args below meth c Z base D I k0 n0 E H locs cells slots lsr h1 h2 hP hS hL hst hls
  obtain ⟨C, T, N, hc, hkN, hlink, hty, hfin, -⟩ := hf
  subst hty
  have hw := zws_sh (base := base) (I := I) (h := h) hs
  rw [zce_obj hc.2.1] at hw
  have hz : zc base (zr r) = .ref (base + (r.toNat - 1)) := zrf_pos (zsh_spec hs).1
  obtain ⟨f1, f2⟩ := zref_ok (base := base) (v := v) (y := y) hft
  simp only [List.map_cons, hz, zc_val]
  refine va_put (C := C) (T := T) (N := N) (D := D) E.1.1 E.1.2.1 E.1.2.2.2.2 hc.2.2.1 (zty ci) hc.2.2.2.1 hc.2.2.2.2.1 E.1.2.2.2.1 E.2.1.1 hP.1 (zD base I sh h) hS (r.toNat - 1) hw hc.1 k hkN (E.1.2.2.2.2 _ hlink) (fun _ h9 => h9) hfin (hc.2.2.2.1 k hkN) f1 f2 (by simpa using hk) hd fun H9 locs9 hP9 hD9 hS9 => ?_
  rw [zws_set (h' := h) (g' := zup sh.2 r k y) hs (by
    rw [zce_obj hc.2.1, ← zfs_set (f := h r) (f' := h r) (g := sh.2 r) (g' := zup sh.2 r k y r) hk (fun _ _ => rfl) zup_k, zup_same, zfv_r hft]) (fun _ _ => rfl) zup_off] at hP9
  exact K p e R s m args below meth c Z base D I k0 n0 E H9 locs9 cells slots lsr h1 h2 ⟨hP9, hP.2⟩ hS9 hL (zok_tl (zok_tl hst)) hls
theorem z_putFr0 {idx ci k n : Nat} {ty : FieldType} {r v y : Int} (hf : zFF (zy M).cls idx ci k ty) (hin : (zy M).name = "<init>") (hd : decode (zb M) pc = .ok (.putfield idx, 3)) (hs : zsh sh r = some (ci, n)) (hk : k < n) (hft : zref ty) (K : zW X l M B1 B2 Q (pc + 3) ls st (sh.1, zup sh.2 r k y) h) : zW X l M B1 B2 Q pc ls (zval ty v y :: zr r :: st) sh h := by
  intro p e R s m args below meth c Z base D I k0 n0 E H locs cells slots lsr h1 h2 hP hS hL hst hls
  obtain ⟨C, T, N, hc, hkN, hlink, hty, hfin, hown9⟩ := hf
  subst hty
  have hw := zws_sh (base := base) (I := I) (h := h) hs
  rw [zce_obj hc.2.1] at hw
  have hz : zc base (zr r) = .ref (base + (r.toNat - 1)) := zrf_pos (zsh_spec hs).1
  obtain ⟨f1, f2⟩ := zref_ok (base := base) (v := v) (y := y) hft
  simp only [List.map_cons, hz, zc_val]
  refine va_putF (C := C) (T := T) (N := N) (D := D) E.1.1 E.1.2.1 E.1.2.2.2.2 hc.2.2.1 (zty ci) hc.2.2.2.1 hc.2.2.2.2.1 E.1.2.2.2.1 E.2.1.1 hP.1 (zD base I sh h) hS (r.toNat - 1) hw hc.1 k hkN (E.1.2.2.2.2 _ hlink) (fun _ h9 => h9) hfin (E.2.2.2.2.2.1.1.trans hin) hown9 (hc.2.2.2.1 k hkN) f1 f2 (by simpa using hk) hd fun H9 locs9 hP9 hD9 hS9 => ?_
  rw [zws_set (h' := h) (g' := zup sh.2 r k y) hs (by
    rw [zce_obj hc.2.1, ← zfs_set (f := h r) (f' := h r) (g := sh.2 r) (g' := zup sh.2 r k y r) hk (fun _ _ => rfl) zup_k, zup_same, zfv_r hft]) (fun _ _ => rfl) zup_off] at hP9
  exact K p e R s m args below meth c Z base D I k0 n0 E H9 locs9 cells slots lsr h1 h2 ⟨hP9, hP.2⟩ hS9 hL (zok_tl (zok_tl hst)) hls
theorem z_puti {idx ci k n : Nat} {r v : Int} (hf : zFL (zy M).cls idx ci k .int false) (hd : decode (zb M) pc = .ok (.putfield idx, 3)) (hs : zsh sh r = some (ci, n)) (hk : k < n) (K : zW X l M B1 B2 Q (pc + 3) ls st sh (zup h r k v)) : zW X l M B1 B2 Q pc ls (zi v :: zr r :: st) sh h := z_put0 (v := v) (y := 0) hf hd hs hk trivial K
theorem z_putz {idx ci k n : Nat} {r v : Int} (hf : zFL (zy M).cls idx ci k .boolean false) (hd : decode (zb M) pc = .ok (.putfield idx, 3)) (hs : zsh sh r = some (ci, n)) (hk : k < n) (hv : v = 0 ∨ v = 1) (K : zW X l M B1 B2 Q (pc + 3) ls st sh (zup h r k v)) : zW X l M B1 B2 Q pc ls (zi v :: zr r :: st) sh h := z_put0 (v := v) (y := 0) hf hd hs hk hv K
theorem z_putl {idx ci k n : Nat} {r v : Int} (hf : zFL (zy M).cls idx ci k .long false) (hd : decode (zb M) pc = .ok (.putfield idx, 3)) (hs : zsh sh r = some (ci, n)) (hk : k < n) (hv : r32 v) (K : zW X l M B1 B2 Q (pc + 3) ls st sh (zup h r k v)) : zW X l M B1 B2 Q pc ls (zl v :: zr r :: st) sh h := z_put0 (v := v) (y := 0) hf hd hs hk hv K
theorem z_puto {idx ci k n : Nat} {r v : Int} {t : String} (hf : zFL (zy M).cls idx ci k (.object t) false) (hd : decode (zb M) pc = .ok (.putfield idx, 3)) (hs : zsh sh r = some (ci, n)) (hk : k < n) (K : zW X l M B1 B2 Q (pc + 3) ls st (sh.1, zup sh.2 r k v) h) : zW X l M B1 B2 Q pc ls (zr v :: zr r :: st) sh h := z_putr0 (v := 0) (y := v) hf hd hs hk trivial K
theorem z_putFa {idx ci k n : Nat} {r v : Int} {t : FieldType} (hf : zFF (zy M).cls idx ci k (.array t)) (hin : (zy M).name = "<init>") (hd : decode (zb M) pc = .ok (.putfield idx, 3)) (hs : zsh sh r = some (ci, n)) (hk : k < n) (K : zW X l M B1 B2 Q (pc + 3) ls st (sh.1, zup sh.2 r k v) h) : zW X l M B1 B2 Q pc ls (zr v :: zr r :: st) sh h := z_putFr0 (v := 0) (y := v) hf hin hd hs hk trivial K
theorem z_putFo {idx ci k n : Nat} {r v : Int} {t : String} (hf : zFF (zy M).cls idx ci k (.object t)) (hin : (zy M).name = "<init>") (hd : decode (zb M) pc = .ok (.putfield idx, 3)) (hs : zsh sh r = some (ci, n)) (hk : k < n) (K : zW X l M B1 B2 Q (pc + 3) ls st (sh.1, zup sh.2 r k v) h) : zW X l M B1 B2 Q pc ls (zr v :: zr r :: st) sh h := z_putFr0 (v := 0) (y := v) hf hin hd hs hk trivial K
/-! arrays -/
theorem zce_i {base : Nat} {I : zI} {n : Nat} {f g : Int → Int} : zce base I (100, n) f g = .inl (I 0, n, .inl (fun j => Int32.ofInt (f j))) := rfl
theorem zce_z {base : Nat} {I : zI} {n : Nat} {f g : Int → Int} : zce base I (101, n) f g = .inl (I 1, n, .inl (fun j => Int32.ofInt (f j))) := rfl
theorem zce_n {base : Nat} {I : zI} {n : Nat} {f g : Int → Int} : zce base I (102, n) f g = .inl (I 2, n, .inr (.inr (.inr (.inr (fun j => zopt base (g j)))))) := rfl
theorem zce_m {base : Nat} {I : zI} {n : Nat} {f g : Int → Int} : zce base I (103, n) f g = .inl (I 3, n, .inr (.inr (.inr (.inr (fun j => zopt base (g j)))))) := rfl
theorem z_iaload {n : Nat} {r i v : Int} (hd : decode (zb M) pc = .ok (.iaload, 1)) (hs : zsh sh r = some (100, n)) (g0 : 0 ≤ i) (g1 : i < n) (hv : h r i = v) (K : zW X l M B1 B2 Q (pc + 1) ls (zi v :: st) sh h) : zW X l M B1 B2 Q pc ls (zi i :: zr r :: st) sh h := by
  intro p e R s m args below meth c Z base D I k0 n0 E H locs cells slots lsr h1 h2 hP hS hL hst hls
  have hi : r32 i := zok_hd hst
  subst hv
  have K := K p e R s m args below meth c Z base D I k0 n0 E H locs cells slots lsr h1 h2 hP hS hL (zok_cons (hP.2 r i) (zok_tl (zok_tl hst))) hls
  have hw := zws_sh (base := base) (I := I) (h := h) hs
  rw [zce_i] at hw
  have hz : zc base (zr r) = .ref (base + (r.toNat - 1)) := zrf_pos (zsh_spec hs).1
  simp only [List.map_cons, hz] at K ⊢
  refine va_iald (D := D) E.1.1 E.1.2.1 E.2.1.1 hP.1 (r.toNat - 1) 0 hw rfl (zi_in hi g0 g1) hd ?_
  rw [zi_clamp hi, Int.toNat_of_nonneg g0]
  exact K
theorem z_baload {n : Nat} {r i v : Int} (hd : decode (zb M) pc = .ok (.baload, 1)) (hs : zsh sh r = some (101, n)) (g0 : 0 ≤ i) (g1 : i < n) (hv : h r i = v) (K : zW X l M B1 B2 Q (pc + 1) ls (zi v :: st) sh h) : zW X l M B1 B2 Q pc ls (zi i :: zr r :: st) sh h := by
  intro p e R s m args below meth c Z base D I k0 n0 E H locs cells slots lsr h1 h2 hP hS hL hst hls
  have hi : r32 i := zok_hd hst
  subst hv
  have K := K p e R s m args below meth c Z base D I k0 n0 E H locs cells slots lsr h1 h2 hP hS hL (zok_cons (hP.2 r i) (zok_tl (zok_tl hst))) hls
  have hw := zws_sh (base := base) (I := I) (h := h) hs
  rw [zce_z] at hw
  have hz : zc base (zr r) = .ref (base + (r.toNat - 1)) := zrf_pos (zsh_spec hs).1
  simp only [List.map_cons, hz] at K ⊢
  refine va_zald (D := D) E.1.1 E.1.2.1 E.2.1.1 hP.1 (r.toNat - 1) 1 hw rfl (zi_in hi g0 g1) hd ?_
  rw [zi_clamp hi, Int.toNat_of_nonneg g0]
  exact K
theorem z_aald {n kd t0 : Nat} {C : String} {r i v : Int} (hd : decode (zb M) pc = .ok (.aaload, 1)) (hkd : (kd = 102 ∧ t0 = 2 ∧ C = RX6) ∨ (kd = 103 ∧ t0 = 3 ∧ C = RX5)) (hs : zsh sh r = some (kd, n)) (g0 : 0 ≤ i) (g1 : i < n) (hv : sh.2 r i = v) (K : zW X l M B1 B2 Q (pc + 1) ls (zr v :: st) sh h) : zW X l M B1 B2 Q pc ls (zi i :: zr r :: st) sh h := by
  intro p e R s m args below meth c Z base D I k0 n0 E H locs cells slots lsr h1 h2 hP hS hL hst hls
  have hi : r32 i := zok_hd hst
  subst hv
  have K := K p e R s m args below meth c Z base D I k0 n0 E H locs cells slots lsr h1 h2 hP hS hL (zok_cons (v := zr (sh.2 r i)) trivial (zok_tl (zok_tl hst))) hls
  have hw := zws_sh (base := base) (I := I) (h := h) hs
  have hz : zc base (zr r) = .ref (base + (r.toNat - 1)) := zrf_pos (zsh_spec hs).1
  simp only [List.map_cons, hz] at K ⊢
  rcases hkd with ⟨rfl, rfl, rfl⟩ | ⟨rfl, rfl, rfl⟩
  · rw [zce_n] at hw
    refine va_aldq (D := D) (C := RX6) E.1.1 E.1.2.1 E.2.1.1 hP.1 (r.toNat - 1) 2 hw rfl (zi_in hi g0 g1) hd ?_
    rw [zi_clamp hi, Int.toNat_of_nonneg g0, zopt_rf]
    exact K
  · rw [zce_m] at hw
    refine va_aldq (D := D) (C := RX5) E.1.1 E.1.2.1 E.2.1.1 hP.1 (r.toNat - 1) 3 hw rfl (zi_in hi g0 g1) hd ?_
    rw [zi_clamp hi, Int.toNat_of_nonneg g0, zopt_rf]
    exact K
theorem z_naload {n : Nat} {r i v : Int} (hd : decode (zb M) pc = .ok (.aaload, 1)) (hs : zsh sh r = some (102, n)) (g0 : 0 ≤ i) (g1 : i < n) (hv : sh.2 r i = v) (K : zW X l M B1 B2 Q (pc + 1) ls (zr v :: st) sh h) : zW X l M B1 B2 Q pc ls (zi i :: zr r :: st) sh h := z_aald hd (Or.inl ⟨rfl, rfl, rfl⟩) hs g0 g1 hv K
theorem z_maload {n : Nat} {r i v : Int} (hd : decode (zb M) pc = .ok (.aaload, 1)) (hs : zsh sh r = some (103, n)) (g0 : 0 ≤ i) (g1 : i < n) (hv : sh.2 r i = v) (K : zW X l M B1 B2 Q (pc + 1) ls (zr v :: st) sh h) : zW X l M B1 B2 Q pc ls (zi i :: zr r :: st) sh h := z_aald hd (Or.inr ⟨rfl, rfl, rfl⟩) hs g0 g1 hv K
theorem zup_at {h : zH} {r i v : Int} {j : Nat} (g0 : 0 ≤ i) : (zup h r i v r j) = if j = i.toNat then v else h r j := by
  unfold zup
  by_cases hj : j = i.toNat
  · have : (j : Int) = i := by omega
    rw [if_pos ⟨rfl, this⟩, if_pos hj]
  · have : ¬ (j : Int) = i := by omega
    simp [this, hj]
theorem z_iastore {n : Nat} {r i v : Int} (hd : decode (zb M) pc = .ok (.iastore, 1)) (hs : zsh sh r = some (100, n)) (g0 : 0 ≤ i) (g1 : i < n) (K : zW X l M B1 B2 Q (pc + 1) ls st sh (zup h r i v)) : zW X l M B1 B2 Q pc ls (zi v :: zi i :: zr r :: st) sh h := by
  intro p e R s m args below meth c Z base D I k0 n0 E H locs cells slots lsr h1 h2 hP hS hL hst hls
  have hv : r32 v := zok_hd hst
  have hi : r32 i := zok_hd (zok_tl hst)
  have hw := zws_sh (base := base) (I := I) (h := h) hs
  rw [zce_i] at hw
  have hz : zc base (zr r) = .ref (base + (r.toNat - 1)) := zrf_pos (zsh_spec hs).1
  simp only [List.map_cons, hz]
  refine va_iast (D := D) E.1.1 E.1.2.1 E.2.1.1 hP.1 (zD base I sh h) hS (r.toNat - 1) 0 hw rfl (zi_in hi g0 g1) hd fun H9 locs9 hP9 hD9 hS9 => ?_
  rw [zws_set (h' := zup h r i v) (g' := sh.2) hs (by
    rw [zce_i, zi_clamp hi]
    refine congrArg (fun f => Sum.inl (I 0, n, Sum.inl f)) (funext fun j => ?_)
    rw [zup_at g0]
    unfold upd
    by_cases hj : j = i.toNat <;> simp [hj]) zup_off (fun _ _ => rfl)] at hP9
  exact K p e R s m args below meth c Z base D I k0 n0 E H9 locs9 cells slots lsr h1 h2 ⟨hP9, zup_32 hP.2 hv⟩ hS9 hL (zok_tl (zok_tl (zok_tl hst))) hls
theorem z_bastore {n : Nat} {r i v : Int} (hd : decode (zb M) pc = .ok (.bastore, 1)) (hs : zsh sh r = some (101, n)) (g0 : 0 ≤ i) (g1 : i < n) (g2 : v = 0 ∨ v = 1) (K : zW X l M B1 B2 Q (pc + 1) ls st sh (zup h r i v)) : zW X l M B1 B2 Q pc ls (zi v :: zi i :: zr r :: st) sh h := by
  intro p e R s m args below meth c Z base D I k0 n0 E H locs cells slots lsr h1 h2 hP hS hL hst hls
  have hv : r32 v := zok_hd hst
  have hi : r32 i := zok_hd (zok_tl hst)
  have hw := zws_sh (base := base) (I := I) (h := h) hs
  rw [zce_z] at hw
  have hz : zc base (zr r) = .ref (base + (r.toNat - 1)) := zrf_pos (zsh_spec hs).1
  simp only [List.map_cons, hz]
  refine va_zast (D := D) E.1.1 E.1.2.1 E.2.1.1 hP.1 (zD base I sh h) hS (r.toNat - 1) 1 hw rfl (zi_in hi g0 g1) hd fun H9 locs9 hP9 hD9 hS9 => ?_
  have hnr : vp_nar .boolean (Int32.ofInt v) = Int32.ofInt v := by rcases g2 with rfl | rfl <;> decide
  rw [hnr] at hP9
  rw [zws_set (h' := zup h r i v) (g' := sh.2) hs (by
    rw [zce_z, zi_clamp hi]
    refine congrArg (fun f => Sum.inl (I 1, n, Sum.inl f)) (funext fun j => ?_)
    rw [zup_at g0]
    unfold upd
    by_cases hj : j = i.toNat <;> simp [hj]) zup_off (fun _ _ => rfl)] at hP9
  exact K p e R s m args below meth c Z base D I k0 n0 E H9 locs9 cells slots lsr h1 h2 ⟨hP9, zup_32 hP.2 hv⟩ hS9 hL (zok_tl (zok_tl (zok_tl hst))) hls
theorem z_aast {n N ci kd : Nat} {r i v : Int} (hd : decode (zb M) pc = .ok (.aastore, 1)) (hkd : (kd = 102 ∧ ci = 5) ∨ (kd = 103 ∧ ci = 4)) (hs : zsh sh r = some (kd, n)) (g0 : 0 ≤ i) (g1 : i < n) (hv : zsh sh v = some (ci, N)) (K : zW X l M B1 B2 Q (pc + 1) ls st (sh.1, zup sh.2 r i v) h) : zW X l M B1 B2 Q pc ls (zr v :: zi i :: zr r :: st) sh h := by
  intro p e R s m args below meth c Z base D I k0 n0 E H locs cells slots lsr h1 h2 hP hS hL hst hls
  have hi : r32 i := zok_hd (zok_tl hst)
  have hw := zws_sh (base := base) (I := I) (h := h) hs
  have hwv := zws_sh (base := base) (I := I) (h := h) hv
  have hz : zc base (zr r) = .ref (base + (r.toNat - 1)) := zrf_pos (zsh_spec hs).1
  have hzv : zc base (zr v) = .ref (base + (v.toNat - 1)) := zrf_pos (zsh_spec hv).1
  have hvo : zopt base v = some (base + (v.toNat - 1)) := by
    unfold zopt zad
    rw [if_neg (by have := (zsh_spec hv).1; omega), if_pos (zsh_spec hv).1]
  simp only [List.map_cons, hz, hzv]
  rcases hkd with ⟨rfl, rfl⟩ | ⟨rfl, rfl⟩
  · rw [zce_n] at hw
    rw [zce_obj (by decide)] at hwv
    refine va_astq (D := D) (r := (RX6, TX6, 6)) E.1.1 E.1.2.1 E.2.1.1 hP.1 (zD base I sh h) hS (r.toNat - 1) 2 (v.toNat - 1) 5 hw rfl hwv rfl (zi_in hi g0 g1) hd fun H9 locs9 hP9 hD9 hS9 => ?_
    rw [zws_set (h' := h) (g' := zup sh.2 r i v) hs (by
      rw [zce_n, zi_clamp hi]
      refine congrArg (fun f => Sum.inl (I 2, n, Sum.inr (Sum.inr (Sum.inr (Sum.inr f))))) (funext fun j => ?_)
      rw [zup_at g0]
      unfold va_up
      by_cases hj : j = i.toNat <;> simp [hj, hvo]) (fun _ _ => rfl) zup_off] at hP9
    exact K p e R s m args below meth c Z base D I k0 n0 E H9 locs9 cells slots lsr h1 h2 ⟨hP9, hP.2⟩ hS9 hL (zok_tl (zok_tl (zok_tl hst))) hls
  · rw [zce_m] at hw
    rw [zce_obj (by decide)] at hwv
    refine va_astq (D := D) (r := (RX5, TX5, 3)) E.1.1 E.1.2.1 E.2.1.1 hP.1 (zD base I sh h) hS (r.toNat - 1) 3 (v.toNat - 1) 4 hw rfl hwv rfl (zi_in hi g0 g1) hd fun H9 locs9 hP9 hD9 hS9 => ?_
    rw [zws_set (h' := h) (g' := zup sh.2 r i v) hs (by
      rw [zce_m, zi_clamp hi]
      refine congrArg (fun f => Sum.inl (I 3, n, Sum.inr (Sum.inr (Sum.inr (Sum.inr f))))) (funext fun j => ?_)
      rw [zup_at g0]
      unfold va_up
      by_cases hj : j = i.toNat <;> simp [hj, hvo]) (fun _ _ => rfl) zup_off] at hP9
    exact K p e R s m args below meth c Z base D I k0 n0 E H9 locs9 cells slots lsr h1 h2 ⟨hP9, hP.2⟩ hS9 hL (zok_tl (zok_tl (zok_tl hst))) hls
theorem z_alen {n : Nat} {r : Int} (hd : decode (zb M) pc = .ok (.arraylength, 1)) (hs : zsh sh r = some (100, n)) (hn : n < 2147483648) (K : zW X l M B1 B2 Q (pc + 1) ls (zi n :: st) sh h) : zW X l M B1 B2 Q pc ls (zr r :: st) sh h := by
  intro p e R s m args below meth c Z base D I k0 n0 E H locs cells slots lsr h1 h2 hP hS hL hst hls
  have K := K p e R s m args below meth c Z base D I k0 n0 E H locs cells slots lsr h1 h2 hP hS hL (zok_cons (show r32 n by unfold r32; omega) (zok_tl hst)) hls
  have hw := zws_sh (base := base) (I := I) (h := h) hs
  rw [zce_i] at hw
  have hz : zc base (zr r) = .ref (base + (r.toNat - 1)) := zrf_pos (zsh_spec hs).1
  simp only [List.map_cons, hz] at K ⊢
  exact va_alen (D := D) E.1.1 E.1.2.1 E.2.1.1 hP.1 (r.toNat - 1) 0 hw rfl (v := Int32.ofInt n) (by apply Int32.toInt_inj.mp; rw [of_toInt (show r32 n by unfold r32; omega)]; exact nI_toInt (by omega)) hd K
end Z2
end
section
/-! Rows of new cells, of calls, of a method's start and end. -/
/-- a new cell's heap: all of it is 0 -/
def znw (h : zH) (r : Int) : zH := fun a b => if a = r then 0 else h a b
theorem znw_32 {h : zH} {r : Int} (hh : ∀ a b, r32 (h a b)) : ∀ a b, r32 (znw h r a b) := by
  intro a b
  unfold znw
  split
  · exact r32_0
  · exact hh a b
theorem znw_off {h : zH} {n : Nat} : ∀ a : Int, a ≤ n → znw h ((n : Int) + 1) a = h a := by
  intro a ha
  funext b
  unfold znw
  rw [if_neg (by omega)]
theorem zfv_0 (base : Nat) (ty : FieldType) : (ty = .int ∨ ty = .boolean ∨ ty = .long ∨ (∃ n, ty = .object n) ∨ ∃ t, ty = .array t) → defaultValue ty = zfv base ty 0 0 := by
  rintro (rfl | rfl | rfl | ⟨n, rfl⟩ | ⟨t, rfl⟩) <;> rfl
theorem ztot_app (sh : zS) (kd : Nat × Nat) (g : zH) : ztot (sh.1 ++ [kd], g) = ztot sh + kd.2 := by simp [ztot]
theorem zsize {p : Program} {l : Launch} {e : Env} {R : Room} {s : State} {m : MethodId} {args : Array Value} {below : List Frame} {meth : Method} {c : Code} {T : State} {H : Heap} {locs : List Loc} {cells slots base k0 : Nat} {D : va_G} {I : zI} {sh : zS} {h : zH} (X : Stand p l e R s m args below meth c T locs cells slots) (hT : T.heap = H) (hb : s.heap.size = base + k0) (h1 : cells + k0 = sh.1.length) (hP : zP base D I sh h H) (hS : va_S (fun q => base ≤ q) s.heap H locs) : H.size = base + sh.1.length := by
  have a1 : T.heap.size ≤ s.heap.size + cells := X.same.2.2.1
  rw [hT] at a1
  have a2 := hS.1
  by_cases h0 : sh.1.length = 0
  · omega
  · have hlt : sh.1.length - 1 < sh.1.length := by omega
    have := (hP.1 _ _ (zws_at (base := base) (I := I) (h := h) (List.getElem?_eq_getElem hlt))).lt
    simp only at this
    omega
section Z3
variable {X : State → Nat → Prop} {l : Launch} {M : zMd} {B1 B2 : Nat} {Q : zQt} {pc : Nat} {ls : List (Option zV)} {st : List zV} {sh : zS} {h : zH}
theorem z_new {idx ci N : Nat} {C : String} {T : u_T} (hc : zCl ci C T N) (hdf : ∀ k, k < N → (zty ci k = .int ∨ zty ci k = .boolean ∨ zty ci k = .long ∨ (∃ n, zty ci k = .object n) ∨ ∃ t, zty ci k = .array t)) (hl : Cond.classLink (zy M).cls idx C ∈ zT) (hd : decode (zb M) pc = .ok (.new idx, 3)) (hb1 : sh.1.length + 1 ≤ B1) (hb2 : ztot sh + N ≤ B2) (hlt : sh.1.length < 2147483647) (K : zW X l M B1 B2 Q (pc + 3) ls (zr ((sh.1.length : Int) + 1) :: st) (sh.1 ++ [(ci, N)], znw sh.2 ((sh.1.length : Int) + 1)) (znw h ((sh.1.length : Int) + 1))) : zW X l M B1 B2 Q pc ls st sh h := by
  intro p e R s m args below meth c Z base D I k0 n0 E H locs cells slots lsr h1 h2 hP hS hL hst hls T9 hT9 X9
  have hsz := zsize X9 hT9 E.2.2.2.2.1 h1 hP hS
  revert T9
  show W p l e R s m args below meth c H locs cells slots Z (F0 m pc lsr (st.map (zc base)))
  have hKn := E.2.1.1.1 ci _ hc.1
  refine W.newcK E.1.1 E.1.2.1 E.1.2.2.2.1 (E.1.2.2.2.2 _ hl) (E.1.2.2.2.2 _ hc.2.2.2.2.2.1) (E.1.2.2.2.2 _ hc.2.2.2.2.2.2) rfl hd (by have := E.2.2.2.1.1; omega) (by have := E.2.2.2.1.2; omega) hKn.2.1 rfl fun H9 kC hkC e1 z1 o1 => ?_
  have hk : ∀ (k : Nat) (x : Nat × va_E), (zws base I sh h)[k]? = some x → H9[x.1]? = H[x.1]? := fun k x hx => o1 x.1 ((hP.1 k x hx).lt)
  have hP9 : va_P D zcl (zws base I sh h ++ [(base + sh.1.length, .inr (ci, (List.range N).map (fun k => zfv base (zty ci k) 0 0)))]) H9 := by
    refine (hP.1.kept hk).app (fun k x hx => ?_)
    have hz : k < 1 := (List.getElem?_eq_some_iff.mp hx).1
    rw [show k = 0 by omega] at hx
    cases hx
    rw [hsz] at e1
    exact ⟨_, hc.1, (u_born (zty ci) E.1.2.2.2.2 hc.2.2.1 hKn hkC e1 hc.2.2.2.1).to (fun j hj => by rw [zfv_0 base _ (hdf j hj)]; simp [vp_V, hj])⟩
  rw [zws_push (kd := (ci, N)) (h' := znw h ((sh.1.length : Int) + 1)) (g' := znw sh.2 ((sh.1.length : Int) + 1)) (by rw [zce_obj hc.2.1]; simp [znw]) znw_off znw_off] at hP9
  have hr : zc base (zr ((sh.1.length : Int) + 1)) = .ref (base + sh.1.length) := by
    show zrf base _ = _
    rw [zrf_pos (by omega)]
    congr 2
  have K := K p e R s m args below meth c Z base D I k0 n0 E H9 locs (cells + 1) (slots + N) lsr (by simp; omega) (by rw [ztot_app]; omega) ⟨hP9, znw_32 hP.2⟩ ⟨Nat.le_trans hS.1 (by omega), fun x h1 h2 => (o1 x (Nat.lt_of_lt_of_le h1 hS.1)).trans (hS.2.1 x h1 h2), hS.2.2⟩ hL (zok_cons (v := zr _) trivial hst) hls
  simp only [List.map_cons, hr] at K
  rw [hsz]
  exact K
theorem z_newi {n : Int} {N : Nat} (hd : decode (zb M) pc = .ok (.newarray .int, 2)) (harr : Cond.arrayClass .int ∈ zT) (hn : n = N) (hN : N < 100000) (hb1 : sh.1.length + 1 ≤ B1) (hb2 : ztot sh + N ≤ B2) (hlt : sh.1.length < 2147483647) (K : zW X l M B1 B2 Q (pc + 2) ls (zr ((sh.1.length : Int) + 1) :: st) (sh.1 ++ [(100, N)], znw sh.2 ((sh.1.length : Int) + 1)) (znw h ((sh.1.length : Int) + 1))) : zW X l M B1 B2 Q pc ls (zi n :: st) sh h := by
  intro p e R s m args below meth c Z base D I k0 n0 E H locs cells slots lsr h1 h2 hP hS hL hst hls T9 hT9 X9
  have hsz := zsize X9 hT9 E.2.2.2.2.1 h1 hP hS
  revert T9
  show W p l e R s m args below meth c H locs cells slots Z (F0 m pc lsr ((zi n :: st).map (zc base)))
  have hr9 : r32 n := zok_hd hst
  refine va_newaK (atype := .int) (N := N) E.1.1 E.1.2.1 (E.1.2.2.2.2 _ harr) rfl hd rfl (by rw [i0, ii_lt hr9 r32_0]; omega) (by rw [zi_clamp hr9]; omega) (by show N * 4 ≤ _; omega) (by have := E.2.2.2.1.1; omega) (by have := E.2.2.2.1.2; omega) hsz fun H9 cA e1 z1 o1 hAr hfc => ?_
  have hcA : cA = I 0 := by
    have := (E.2.1.1.2 0 (I 0, .int) rfl).2
    exact Option.some.inj (hfc.symm.trans this)
  subst hcA
  have hk : ∀ (k : Nat) (x : Nat × va_E), (zws base I sh h)[k]? = some x → H9[x.1]? = H[x.1]? := fun k x hx => o1 x.1 (by have := (hP.1 k x hx).lt; omega)
  have hP9 : va_P D zcl (zws base I sh h ++ [(base + sh.1.length, .inl (I 0, N, .inl (fun _ => Int32.ofInt 0)))]) H9 := by
    refine (hP.1.kept hk).app (fun k x hx => ?_)
    have hz : k < 1 := (List.getElem?_eq_some_iff.mp hx).1
    rw [show k = 0 by omega] at hx
    cases hx
    exact e1
  rw [zws_push (kd := (100, N)) (h' := znw h ((sh.1.length : Int) + 1)) (g' := znw sh.2 ((sh.1.length : Int) + 1)) (by rw [zce_i]; simp [znw]) znw_off znw_off] at hP9
  have hr : zc base (zr ((sh.1.length : Int) + 1)) = .ref (base + sh.1.length) := by
    show zrf base _ = _
    rw [zrf_pos (by omega)]
    congr 2
  have K := K p e R s m args below meth c Z base D I k0 n0 E H9 locs (cells + 1) (slots + N) lsr (by simp; omega) (by rw [ztot_app]; omega) ⟨hP9, znw_32 hP.2⟩ ⟨Nat.le_trans hS.1 (by omega), fun x h1 h2 => (o1 x (by have := hS.1; omega)).trans (hS.2.1 x h1 h2), hS.2.2⟩ hL (zok_cons (v := zr _) trivial (zok_tl hst)) hls
  simp only [List.map_cons, hr] at K
  exact K
theorem z_newz {n : Int} {N : Nat} (hd : decode (zb M) pc = .ok (.newarray .boolean, 2)) (harr : Cond.arrayClass .boolean ∈ zT) (hn : n = N) (hN : N < 100000) (hb1 : sh.1.length + 1 ≤ B1) (hb2 : ztot sh + N ≤ B2) (hlt : sh.1.length < 2147483647) (K : zW X l M B1 B2 Q (pc + 2) ls (zr ((sh.1.length : Int) + 1) :: st) (sh.1 ++ [(101, N)], znw sh.2 ((sh.1.length : Int) + 1)) (znw h ((sh.1.length : Int) + 1))) : zW X l M B1 B2 Q pc ls (zi n :: st) sh h := by
  intro p e R s m args below meth c Z base D I k0 n0 E H locs cells slots lsr h1 h2 hP hS hL hst hls T9 hT9 X9
  have hsz := zsize X9 hT9 E.2.2.2.2.1 h1 hP hS
  revert T9
  show W p l e R s m args below meth c H locs cells slots Z (F0 m pc lsr ((zi n :: st).map (zc base)))
  have hr9 : r32 n := zok_hd hst
  refine va_newaK (atype := .boolean) (N := N) E.1.1 E.1.2.1 (E.1.2.2.2.2 _ harr) rfl hd rfl (by rw [i0, ii_lt hr9 r32_0]; omega) (by rw [zi_clamp hr9]; omega) (by show N * 1 ≤ _; omega) (by have := E.2.2.2.1.1; omega) (by have := E.2.2.2.1.2; omega) hsz fun H9 cA e1 z1 o1 hAr hfc => ?_
  have hcA : cA = I 1 := by
    have := (E.2.1.1.2 1 (I 1, .boolean) rfl).2
    exact Option.some.inj (hfc.symm.trans this)
  subst hcA
  have hk : ∀ (k : Nat) (x : Nat × va_E), (zws base I sh h)[k]? = some x → H9[x.1]? = H[x.1]? := fun k x hx => o1 x.1 (by have := (hP.1 k x hx).lt; omega)
  have hP9 : va_P D zcl (zws base I sh h ++ [(base + sh.1.length, .inl (I 1, N, .inl (fun _ => Int32.ofInt 0)))]) H9 := by
    refine (hP.1.kept hk).app (fun k x hx => ?_)
    have hz : k < 1 := (List.getElem?_eq_some_iff.mp hx).1
    rw [show k = 0 by omega] at hx
    cases hx
    exact e1
  rw [zws_push (kd := (101, N)) (h' := znw h ((sh.1.length : Int) + 1)) (g' := znw sh.2 ((sh.1.length : Int) + 1)) (by rw [zce_z]; simp [znw]) znw_off znw_off] at hP9
  have hr : zc base (zr ((sh.1.length : Int) + 1)) = .ref (base + sh.1.length) := by
    show zrf base _ = _
    rw [zrf_pos (by omega)]
    congr 2
  have K := K p e R s m args below meth c Z base D I k0 n0 E H9 locs (cells + 1) (slots + N) lsr (by simp; omega) (by rw [ztot_app]; omega) ⟨hP9, znw_32 hP.2⟩ ⟨Nat.le_trans hS.1 (by omega), fun x h1 h2 => (o1 x (by have := hS.1; omega)).trans (hS.2.1 x h1 h2), hS.2.2⟩ hL (zok_cons (v := zr _) trivial (zok_tl hst)) hls
  simp only [List.map_cons, hr] at K
  exact K
end Z3
end
section
/-! Rows of calls, of a method's start and end. -/
def zMk (T : zMd) (n : Nat) : Prop := plainName (zy T).cls = true ∧ (zy T).cls ≠ "java/lang/invoke/MethodHandle" ∧ (zy T).cls ≠ "java/lang/invoke/VarHandle" ∧ (parseMethodDescriptor (zy T).desc).map (fun d => d.parameters.length) = some n ∧ Cond.code (zy T) (zb T) (znl T) (zrt T) ∈ zT ∧ Cond.initialized (zy T).cls ∈ zT
def zMi (T : zMd) (n : Nat) : Prop := zMk T n ∧ Cond.instanceMethod (zy T) ∈ zT ∧ Cond.selects (zy T).cls (zy T) (zy T) ∈ zT
def zMs (T : zMd) (n : Nat) : Prop := zMk T n ∧ Cond.static (zy T) ∈ zT
def zMc (T : zMd) (n : Nat) : Prop := zMk T n ∧ Cond.instanceMethod (zy T) ∈ zT ∧ (zy T).name = "<init>" ∧ zrt T = none
theorem zcat_sum (base : Nat) (st : List zV) : ((st.map (zc base)).map fun v => v.category).sum = (st.map zcat).sum := by
  rw [List.map_map]
  congr 1
  apply List.map_congr_left
  intro v _
  exact zc_cat base v
theorem zws_good (T : zMd) (h : Cond.code (zy T) (zb T) (znl T) (zrt T) ∈ zT) : GoodIn zT (.code (zy T) (zb T) (znl T) (zrt T) :: zT) := zT_good (fun w hw => (List.mem_cons.mp hw).elim (fun q => q ▸ h) id)
section Z4
variable {p : Program} {l : Launch} {e : Env} {R : Room} {s : State} {m : MethodId} {args : Array Value} {below : List Frame} {meth : Method} {c : Code} {Z : State → Prop} {base : Nat} {D : va_G} {I : zI}
theorem z_cont {H : Heap} {locs : List Loc} {cells slots mc ms pc k1 n1 : Nat} {lsr : Array Slot} {st0 rest : List Value} {Q : zQt} {a : Array Value} (hr : va_Run p l e R s m args below meth c H locs cells slots mc ms (F0 m pc lsr st0) rest (zQc base D I k1 n1 Q a) (fun q => base ≤ q)) (hS : va_S (fun q => base ≤ q) s.heap H locs)
    (kk : ∀ (v : Option zV) (sh : zS) (h : zH) (H1 : Heap) (locs1 : List Loc), zokO v → Q v sh h → zP base D I sh h H1 → sh.1.length = k1 → ztot sh = n1 → va_S (fun q => base ≤ q) s.heap H1 locs1 → W p l e R s m args below meth c H1 locs1 (cells + mc) (slots + ms) Z (F0 m (pc + 3) lsr ((v.map (zc base)).toList ++ rest))) : W p l e R s m args below meth c H locs cells slots Z (F0 m pc lsr st0) := by
  intro T hT X
  obtain ⟨v, st₀, t, T', L, g0, X', hL, e1, e2, ⟨⟨vz, sh, h, hv, hok, hq, hp, hk1, hn1⟩, hz, hk⟩, stp⟩ := hr T hT X
  have hv : v = vz.map (zc base) := by cases hv; rfl
  subst hv
  rw [g0] at hz hk
  rw [← e1] at hp hz hk
  obtain ⟨t2, a1, b1⟩ := kk vz sh h T'.heap (locs ++ L) hok hq hp hk1 hn1 ⟨Nat.le_trans hS.1 hz, fun q h1 h2 => by rw [hk q (Nat.lt_of_lt_of_le h1 hS.1) h2]; exact hS.2.1 q h1 h2, fun q hq => by
      rcases List.mem_append.mp hq with h | h
      · exact hS.2.2 q h
      · exact hL q h⟩ T' rfl X'
  exact ⟨t2, stp t2 a1, b1⟩
theorem z_blind {as : List zV} {sh : zS} {h : zH} : FrameBlind (va_Pc (as.map (zc base)) (fun U => (∀ v ∈ as, zok v) ∧ U.heap.size = base + sh.1.length ∧ zP base D I sh h U.heap ∧ zK D I U)) := fun a U g mk q => ⟨q.1, q.2.1, q.2.2.1, q.2.2.2.1, zK.same (u := U) (U := U.calling g mk a) rfl q.2.2.2.2⟩
end Z4
section Z5
variable {X : State → Nat → Prop} {l : Launch} {M : zMd} {B1 B2 : Nat} {Q : zQt} {pc : Nat} {ls : List (Option zV)} {st : List zV} {sh : zS} {h : zH}
theorem z_after {T : zMd} {p : Program} {e : Env} {R : Room} {s : State} {m : MethodId} {args : Array Value} {below : List Frame} {meth : Method} {c : Code} {Z : State → Prop} {base : Nat} {D : va_G} {I : zI} {k0 n0 : Nat} (E : zE X p l e R s m args below meth c Z base D I k0 n0 M B1 B2 Q) {H : Heap} {locs : List Loc} {cells slots : Nat} {lsr : Array Slot} {a : Array Value} {st0 : List Value} (h1 : cells + k0 = sh.1.length) (h2 : slots + n0 = ztot sh) (hS : va_S (fun q => base ≤ q) s.heap H locs) (hL : zL base (znl M) lsr ls) (hst : ∀ v ∈ st, zok v) (hls : ∀ v, some v ∈ ls → zok v)
    (hr : va_Run p l e R s m args below meth c H locs cells slots (zmc T) (zms T) (F0 m pc lsr st0) (st.map (zc base)) (zQc base D I (sh.1.length + zmc T) (ztot sh + zms T) (fun v sh' h' => zW X l M B1 B2 Q (pc + 3) ls (v.toList ++ st) sh' h') a) (fun q => base ≤ q)) : W p l e R s m args below meth c H locs cells slots Z (F0 m pc lsr st0) := by
  refine z_cont hr hS fun v sh' h' H1 locs1 hok hq hp hk1 hn1 hS1 => ?_
  have K := hq p e R s m args below meth c Z base D I k0 n0 E H1 locs1 (cells + zmc T) (slots + zms T) lsr (by omega) (by omega) hp hS1 hL (fun u hu => by
    rcases List.mem_append.mp hu with q | q
    · cases v with
      | none => cases q
      | some v => rw [List.mem_singleton.mp q]; exact hok
    · exact hst u q) hls
  have hm : (v.toList ++ st).map (zc base) = (v.map (zc base)).toList ++ st.map (zc base) := by cases v <;> simp
  rw [hm] at K
  exact K
/-- a call of an object's method: the callee's contract ends where the caller goes on -/
theorem z_callV {T : zMd} {idx n ci N : Nat} {r : Int} {As stk : List zV} (hT : zMi T n) (hl : Cond.methodLink (zy M).cls idx (zy T) ∈ zT) (hfr : zfr T + 1 ≤ zfr M ∧ 8 + (znl T + 11) + zlo T ≤ zlo M) (hd : decode (zb M) pc = .ok (.invokevirtual idx, 3)) (hstk : stk = As.reverse ++ zr r :: st) (hn : As.length = n) (hcat : (st.map zcat).sum ≤ 8) (hs : zsh sh r = some (ci, N)) (hci : ci < 100 ∧ (zcl[ci]?).map (fun q => q.1) = some (zy T).cls) (hb1 : sh.1.length + zmc T ≤ B1) (hb2 : ztot sh + zms T ≤ B2) (hC : zC l T (zr r :: As) sh h (fun v sh' h' => zW X l M B1 B2 Q (pc + 3) ls (v.toList ++ st) sh' h')) : zW X l M B1 B2 Q pc ls stk sh h := by
  subst hstk
  intro p e R s m args below meth c Z base D I k0 n0 E H locs cells slots lsr h1 h2 hP hS hL hst hls T9 hT9 X9
  have hsz := zsize X9 hT9 E.2.2.2.2.1 h1 hP hS
  revert T9
  show W p l e R s m args below meth c H locs cells slots Z (F0 m pc lsr ((As.reverse ++ zr r :: st).map (zc base)))
  obtain ⟨⟨a1, a2, a3, a4, a5, a6⟩, a7, a8⟩ := hT
  have hz : zc base (zr r) = .ref (base + (r.toNat - 1)) := zrf_pos (zsh_spec hs).1
  obtain ⟨⟨C, T0, N0⟩, hq1, hq2⟩ : ∃ q, zcl[ci]? = some q ∧ q.1 = (zy T).cls := by
    cases hq : zcl[ci]? with
    | none => rw [hq] at hci; cases hci.2
    | some q => rw [hq] at hci; exact ⟨q, rfl, Option.some.inj hci.2⟩
  have hw := zws_sh (base := base) (I := I) (h := h) hs
  rw [zce_obj hci.1] at hw
  have hok : ∀ v ∈ As.reverse ++ zr r :: st, zok v := hst
  have hokA : ∀ v ∈ zr r :: As, zok v := fun v hv => hok v (by simp only [List.mem_append, List.mem_reverse, List.mem_cons] at hv ⊢; rcases hv with q | q; exact Or.inr (Or.inl q); exact Or.inl q)
  refine z_after (T := T) (sh := sh) (ls := ls) (st := st) E h1 h2 hS hL (fun v hv => hok v (by simp [hv])) hls ?_ (a := (Value.ref (base + (r.toNat - 1)) :: As.map (zc base)).toArray)
  have hrecv := va_recv E.2.1.1 hP.1 hq1 hw
  rw [hq2] at hrecv
  exact va_runV (C := (zy T).cls) (b := base + (r.toNat - 1)) (As := As.map (zc base)) E.1 (hC base D I) (cwV n E.1.2.2.2.2 (zT_good (fun w hw => by
      rcases List.mem_append.mp (show w ∈ ([.methodLink (zy M).cls idx (zy T), .instanceMethod (zy T), .selects (zy T).cls (zy T) (zy T), .initialized (zy T).cls] : List Cond) ++ _ from hw) with q | q
      · simp only [List.mem_cons, List.not_mem_nil, or_false] at q
        rcases q with rfl | rfl | rfl | rfl
        · exact hl
        · exact a7
        · exact a8
        · exact a6
      · exact (List.mem_cons.mp q).elim (fun z => z ▸ a5) id)) rfl rfl rfl ⟨rfl, a2, a3, a4⟩ ⟨Nat.le_trans hfr.1 E.2.2.1.1, Nat.le_trans hfr.2 E.2.2.1.2⟩)
    ⟨z_blind, hrecv, fun U hU hW => ⟨by simp [hz], hokA, by rw [hU]; exact hsz, by rw [hU]; exact hP, E.2.1.warm hW⟩⟩ rfl (by simpa using hn) hL.2.1 (by simp [hz]) (lv_room (by rw [zcat_sum]; exact hcat)) hd ⟨by have := E.2.2.2.1.1; omega, by have := E.2.2.2.1.2; omega⟩
theorem z_callS {T : zMd} {idx n : Nat} {As stk : List zV} (hT : zMs T n) (hl : Cond.methodLink (zy M).cls idx (zy T) ∈ zT) (hfr : zfr T + 1 ≤ zfr M ∧ 8 + (znl T + 11) + zlo T ≤ zlo M) (hd : decode (zb M) pc = .ok (.invokestatic idx, 3)) (hstk : stk = As.reverse ++ st) (hn : As.length = n) (hcat : (st.map zcat).sum ≤ 8) (hb1 : sh.1.length + zmc T ≤ B1) (hb2 : ztot sh + zms T ≤ B2) (hC : zC l T As sh h (fun v sh' h' => zW X l M B1 B2 Q (pc + 3) ls (v.toList ++ st) sh' h')) : zW X l M B1 B2 Q pc ls stk sh h := by
  subst hstk
  intro p e R s m args below meth c Z base D I k0 n0 E H locs cells slots lsr h1 h2 hP hS hL hst hls T9 hT9 X9
  have hsz := zsize X9 hT9 E.2.2.2.2.1 h1 hP hS
  revert T9
  show W p l e R s m args below meth c H locs cells slots Z (F0 m pc lsr ((As.reverse ++ st).map (zc base)))
  obtain ⟨⟨a1, a2, a3, a4, a5, a6⟩, a7⟩ := hT
  refine z_after (T := T) (sh := sh) (ls := ls) (st := st) E h1 h2 hS hL (fun v hv => hst v (by simp [hv])) hls ?_ (a := (As.map (zc base)).toArray)
  exact va_runS (As := As.map (zc base)) E.1 (hC base D I) ⟨callB_of n E.1.2.2.2.2 (zws_good T a5) rfl rfl rfl (E.1.2.2.2.2 _ a6) (E.1.2.2.2.2 _ hl) ⟨a2, a3, a4⟩ ⟨Nat.le_trans hfr.1 E.2.2.1.1, Nat.le_trans hfr.2 E.2.2.1.2⟩, E.1.2.2.2.2 _ a7⟩
    ⟨z_blind, fun U hU hW => ⟨rfl, fun v hv => hst v (by simp [hv]), by rw [hU]; exact hsz, by rw [hU]; exact hP, E.2.1.warm hW⟩⟩ rfl (by simpa using hn) hL.2.1 (by simp) (lv_room (by rw [zcat_sum]; exact hcat)) hd ⟨by have := E.2.2.2.1.1; omega, by have := E.2.2.2.1.2; omega⟩
theorem z_callSN {T : zMd} {idx n : Nat} {host : String} {As stk : List zV} (hT : zMs T n) (hl : ((zy M).cls, idx, zy T, host) ∈ zNest) (hfr : zfr T + 1 ≤ zfr M ∧ 8 + (znl T + 11) + zlo T ≤ zlo M) (hd : decode (zb M) pc = .ok (.invokestatic idx, 3)) (hstk : stk = As.reverse ++ st) (hn : As.length = n) (hcat : (st.map zcat).sum ≤ 8) (hb1 : sh.1.length + zmc T ≤ B1) (hb2 : ztot sh + zms T ≤ B2) (hC : zC l T As sh h (fun v sh' h' => zW X l M B1 B2 Q (pc + 3) ls (v.toList ++ st) sh' h')) : zW X l M B1 B2 Q pc ls stk sh h := by
  subst hstk
  intro p e R s m args below meth c Z base D I k0 n0 E H locs cells slots lsr h1 h2 hP hS hL hst hls T9 hT9 X9
  have hsz := zsize X9 hT9 E.2.2.2.2.1 h1 hP hS
  revert T9
  show W p l e R s m args below meth c H locs cells slots Z (F0 m pc lsr ((As.reverse ++ st).map (zc base)))
  obtain ⟨⟨a1, a2, a3, a4, a5, a6⟩, a7⟩ := hT
  refine z_after (T := T) (sh := sh) (ls := ls) (st := st) E h1 h2 hS hL (fun v hv => hst v (by simp [hv])) hls ?_ (a := (As.map (zc base)).toArray)
  exact va_runSN (As := As.map (zc base)) E.1 (hC base D I) ⟨va_cnB n E.1.2.2.2.2 (zws_good T a5) rfl rfl rfl (E.2.1.2.1 _ hl) (E.1.2.2.2.2 _ a6) ⟨a2, a3, a4⟩ ⟨Nat.le_trans hfr.1 E.2.2.1.1, Nat.le_trans hfr.2 E.2.2.1.2⟩, E.1.2.2.2.2 _ a7, trivial⟩
    ⟨z_blind, fun U hU hW => ⟨rfl, fun v hv => hst v (by simp [hv]), by rw [hU]; exact hsz, by rw [hU]; exact hP, E.2.1.warm hW⟩⟩ rfl (by simpa using hn) hL.2.1 (by simp) (lv_room (by rw [zcat_sum]; exact hcat)) hd ⟨by have := E.2.2.2.1.1; omega, by have := E.2.2.2.1.2; omega⟩
/-- a constructor, without arguments -/
theorem z_callI {T : zMd} {idx : Nat} {r : Int} (hT : zMc T 0) (h0 : 0 < r) (hl : Cond.methodLink (zy M).cls idx (zy T) ∈ zT) (hfr : zfr T + 1 ≤ zfr M ∧ 8 + (znl T + 11) + zlo T ≤ zlo M) (hd : decode (zb M) pc = .ok (.invokespecial idx, 3)) (hcat : (st.map zcat).sum ≤ 8) (hb1 : sh.1.length + zmc T ≤ B1) (hb2 : ztot sh + zms T ≤ B2) (hC : zC l T [zr r] sh h (fun v sh' h' => zW X l M B1 B2 Q (pc + 3) ls (v.toList ++ st) sh' h')) : zW X l M B1 B2 Q pc ls (zr r :: st) sh h := by
  intro p e R s m args below meth c Z base D I k0 n0 E H locs cells slots lsr h1 h2 hP hS hL hst hls T9 hT9 X9
  have hsz := zsize X9 hT9 E.2.2.2.2.1 h1 hP hS
  revert T9
  show W p l e R s m args below meth c H locs cells slots Z (F0 m pc lsr ((zr r :: st).map (zc base)))
  obtain ⟨⟨a1, a2, a3, a4, a5, a6⟩, a7, a8, a9⟩ := hT
  have hz : zc base (zr r) = .ref (base + (r.toNat - 1)) := zrf_pos h0
  refine z_after (T := T) (sh := sh) (ls := ls) (st := st) E h1 h2 hS hL (zok_tl hst) hls ?_ (a := [Value.ref (base + (r.toNat - 1))].toArray)
  have hM := hC base D I
  rw [a9] at hM a5
  exact va_runI (b := base + (r.toNat - 1)) (As := []) E.1 hM (cwI 0 E.1.2.2.2.2 (zT_good (fun w hw => (List.mem_cons.mp hw).elim (fun q => q ▸ a5) id)) rfl rfl rfl (E.1.2.2.2.2 _ a6) (E.1.2.2.2.2 _ hl) (E.1.2.2.2.2 _ a7) a8 ⟨a2, a3, a4⟩ ⟨Nat.le_trans hfr.1 E.2.2.1.1, Nat.le_trans hfr.2 E.2.2.1.2⟩)
    ⟨z_blind, fun U hU hW => ⟨by simp [hz], fun v hv => hst v (by simp at hv; simp [hv]), by rw [hU]; exact hsz, by rw [hU]; exact hP, E.2.1.warm hW⟩⟩ rfl rfl hL.2.1 (by simp [hz]) (lv_room (by rw [zcat_sum]; exact hcat)) hd ⟨by have := E.2.2.2.1.1; omega, by have := E.2.2.2.1.2; omega⟩
theorem z_callIN {T : zMd} {idx : Nat} {host : String} {r : Int} (hT : zMc T 0) (h0 : 0 < r) (hl : ((zy M).cls, idx, zy T, host) ∈ zNest) (hfr : zfr T + 1 ≤ zfr M ∧ 8 + (znl T + 11) + zlo T ≤ zlo M) (hd : decode (zb M) pc = .ok (.invokespecial idx, 3)) (hcat : (st.map zcat).sum ≤ 8) (hb1 : sh.1.length + zmc T ≤ B1) (hb2 : ztot sh + zms T ≤ B2) (hC : zC l T [zr r] sh h (fun v sh' h' => zW X l M B1 B2 Q (pc + 3) ls (v.toList ++ st) sh' h')) : zW X l M B1 B2 Q pc ls (zr r :: st) sh h := by
  intro p e R s m args below meth c Z base D I k0 n0 E H locs cells slots lsr h1 h2 hP hS hL hst hls T9 hT9 X9
  have hsz := zsize X9 hT9 E.2.2.2.2.1 h1 hP hS
  revert T9
  show W p l e R s m args below meth c H locs cells slots Z (F0 m pc lsr ((zr r :: st).map (zc base)))
  obtain ⟨⟨a1, a2, a3, a4, a5, a6⟩, a7, a8, a9⟩ := hT
  have hz : zc base (zr r) = .ref (base + (r.toNat - 1)) := zrf_pos h0
  refine z_after (T := T) (sh := sh) (ls := ls) (st := st) E h1 h2 hS hL (zok_tl hst) hls ?_ (a := [Value.ref (base + (r.toNat - 1))].toArray)
  have hM := hC base D I
  rw [a9] at hM a5
  exact va_runIN (b := base + (r.toNat - 1)) (As := []) E.1 hM ⟨va_cnB 0 E.1.2.2.2.2 (zT_good (fun w hw => (List.mem_cons.mp hw).elim (fun q => q ▸ a5) id)) rfl rfl rfl (E.2.1.2.1 _ hl) (E.1.2.2.2.2 _ a6) ⟨a2, a3, a4⟩ ⟨Nat.le_trans hfr.1 E.2.2.1.1, Nat.le_trans hfr.2 E.2.2.1.2⟩, a8, E.1.2.2.2.2 _ a7⟩
    ⟨z_blind, fun U hU hW => ⟨by simp [hz], fun v hv => hst v (by simp at hv; simp [hv]), by rw [hU]; exact hsz, by rw [hU]; exact hP, E.2.1.warm hW⟩⟩ rfl rfl hL.2.1 (by simp [hz]) (lv_room (by rw [zcat_sum]; exact hcat)) hd ⟨by have := E.2.2.2.1.1; omega, by have := E.2.2.2.1.2; omega⟩
/-- Object's constructor -/
theorem z_objInit {idx : Nat} {r : Int} (h0 : 0 < r) (hw : Cond.instanceMethod objectInit ∈ zT ∧ Cond.code objectInit ⟨#[0xb1]⟩ 1 none ∈ zT) (hl : Cond.methodLink (zy M).cls idx objectInit ∈ zT) (hfr : 1 ≤ zfr M) (hlo : (st.map zcat).sum + 12 ≤ zlo M) (hd : decode (zb M) pc = .ok (.invokespecial idx, 3)) (K : zW X l M B1 B2 Q (pc + 3) ls st sh h) : zW X l M B1 B2 Q pc ls (zr r :: st) sh h := by
  intro p e R s m args below meth c Z base D I k0 n0 E H locs cells slots lsr h1 h2 hP hS hL hst hls
  have hz : zc base (zr r) = .ref (base + (r.toNat - 1)) := zrf_pos h0
  have K := K p e R s m args below meth c Z base D I k0 n0 E H locs cells slots lsr h1 h2 hP hS hL (zok_tl hst) hls
  simp only [List.map_cons, hz]
  refine W.objInit E.1.1 E.1.2.1 E.1.2.2.2.1 (E.1.2.2.2.2 _ hl) (E.1.2.2.2.2 _ hw.1) (E.1.2.2.2.2 _ hw.2) rfl (hL.2.1.trans E.1.2.2.1.symm) rfl hd (by have := E.2.2.1.1; omega) ?_ K
  show 2 * 0 + _ + 12 ≤ _
  rw [zcat_sum]
  have := E.2.2.1.2
  omega
end Z5
/-- the locals with which a method begins -/
def zsl (as : List zV) : List (Option zV) := as.flatMap (fun v => if zcat v = 2 then [some v, none] else [some v])
def zent (nL : Nat) (as : List zV) : List (Option zV) := zsl as ++ List.replicate (nL - (zsl as).length) none
theorem zsl_len (base : Nat) (as : List zV) : (lg_sl (as.map (zc base))).length = (zsl as).length := by
  induction as with
  | nil => rfl
  | cons v as ih =>
    have e1 : lg_sl ((v :: as).map (zc base)) = (if (zc base v).category = 2 then [.val (zc base v), .second] else [.val (zc base v)]) ++ lg_sl (as.map (zc base)) := rfl
    have e2 : zsl (v :: as) = (if zcat v = 2 then [some v, none] else [some v]) ++ zsl as := rfl
    rw [e1, e2, List.length_append, List.length_append, ih, zc_cat]
    split <;> rfl
theorem zsl_get (base : Nat) (as : List zV) : ∀ (i : Nat) (v : zV), (zsl as)[i]? = some (some v) → (lg_sl (as.map (zc base)))[i]? = some (.val (zc base v)) := by
  induction as with
  | nil => intro i v h; simp [zsl] at h
  | cons u as ih =>
    intro i v h
    have e1 : lg_sl ((u :: as).map (zc base)) = (if (zc base u).category = 2 then [.val (zc base u), .second] else [.val (zc base u)]) ++ lg_sl (as.map (zc base)) := rfl
    have e2 : zsl (u :: as) = (if zcat u = 2 then [some u, none] else [some u]) ++ zsl as := rfl
    rw [e2] at h
    rw [e1, zc_cat]
    by_cases hc : zcat u = 2
    · rw [if_pos hc] at h ⊢
      match i, h with
      | 0, h => simp at h; simp [h]
      | 1, h => simp at h
      | j + 2, h => simp at h ⊢; exact ih j v h
    · rw [if_neg hc] at h ⊢
      match i, h with
      | 0, h => simp at h; simp [h]
      | j + 1, h => simp at h ⊢; exact ih j v h
theorem zsl_mem {as : List zV} {v : zV} (h : some v ∈ zsl as) : v ∈ as := by
  obtain ⟨u, hu, hv⟩ := List.mem_flatMap.mp h
  split at hv
  · simp at hv; rw [hv]; exact hu
  · simp at hv; rw [hv]; exact hu
/-- A METHOD'S CONTRACT, out of its walk from pc 0 -/
theorem z_method {l : Launch} {M : zMd} {n : Nat} {Q : zQt} {as : List zV} {sh : zS} {h : zH} {ls : List (Option zV)} (hM : zMk M n) (hls : zent (znl M) as = ls) (hlen : (zsl as).length ≤ znl M) (K : (∀ v ∈ as, zok v) → (∀ r k, r32 (h r k)) → zW zX0 l M (sh.1.length + zmc M) (ztot sh + zms M) Q 0 ls [] sh h) : zC l M as sh h Q := by
  subst hls
  intro base D I
  refine Met.ofW (cc := zb M) (maxL := znl M) (ret := zrt M) hM.1 rfl ?_
  intro p e s m args below meth c s₁ B hml hv
  obtain ⟨rfl, hok, hsz, hP, hK⟩ := hv
  have hts := atoms_spec (ws := .code (zy M) (zb M) (znl M) (zrt M) :: zT) B.pre
  have hlocks := B.notSynchronized
  rw [lg_entry_eq]
  have hl := lv_entry (as.map (zc base)) (n := znl M) (by rw [zsl_len]; exact hlen)
  refine K hok hP.2 p e _ s m _ below meth c _ base D I sh.1.length (ztot sh) ⟨⟨B.exec, B.bytes, hml, findClass_of_methodNamed B.named, fun w hw => hts w (List.mem_cons_of_mem _ hw)⟩, hK, ⟨Nat.le_refl _, Nat.le_refl _⟩, ⟨Nat.add_comm _ _, Nat.add_comm _ _⟩, hsz, ⟨(name_of_methodNamed B.named B.method).1, trivial⟩, ?_⟩ s.heap [] 0 0 _ (Nat.zero_add _) (Nat.zero_add _) hP va_S.rf ⟨?_, hl.1, hl.2.1, ?_⟩ (fun v hv => by cases hv) (fun v hv => hok v (zsl_mem (by
      rcases List.mem_append.mp hv with q | q
      · exact q
      · exact absurd (List.eq_of_mem_replicate q) (by simp))))
  · intro pc lsr H locs cells slots v sh' h' hd hfit hokv hq hB1 hB2 hc1 hc2 hP' hS'
    have hce : cells = zmc M := by omega
    have hse : slots = zms M := by omega
    subst hce hse
    have hend : ∀ t : State, t.heap = H → s.WarmedH t.vm → zQc base D I (sh.1.length + zmc M) (ztot sh + zms M) Q (as.map (zc base)).toArray s (.returned (v.map (zc base))) t := fun t ht hW => ⟨⟨v, sh', h', rfl, hokv, hq, by rw [ht]; exact hP', hB1, hB2⟩, hS'.F ht⟩
    have hr := B.returns
    cases v with
    | none =>
      cases hrt : zrt M with
      | some ty => rw [hrt] at hfit; cases ty <;> exact hfit.elim
      | none => exact W.vret B.exec B.bytes (hr.trans hrt) hend hS'.2.2 hd hlocks
    | some v =>
      rcases v with x | x | x
      · cases hrt : zrt M with
        | none => rw [hrt] at hfit; exact hfit.elim
        | some ty =>
          rw [hrt] at hfit
          cases ty <;> first | exact hfit.elim | skip
          case int => exact W.iret B.exec B.bytes (hr.trans hrt) hend hS'.2.2 hd hlocks
          case boolean =>
            refine W.zret (ty := .boolean) B.exec B.bytes (hr.trans hrt) ?_ hend hS'.2.2 hd hlocks
            exact hfit.elim (fun q => by subst q; exact zb0.1) (fun q => by subst q; exact zb1.1)
      · cases hrt : zrt M with
        | none => rw [hrt] at hfit; exact hfit.elim
        | some ty => rw [hrt] at hfit; cases ty <;> exact hfit.elim
      · cases hrt : zrt M with
        | none => rw [hrt] at hfit; exact hfit.elim
        | some ty =>
          rw [hrt] at hfit
          cases ty <;> first | exact hfit.elim | skip
          case long => exact W.lret B.exec B.bytes (hr.trans hrt) hend hS'.2.2 hd hlocks
  · simp [zent]; omega
  · intro i v hi
    have hi2 : i < (zsl as).length := by
      by_cases q : i < (zsl as).length
      · exact q
      · rw [zent, List.getElem?_append_right (by omega)] at hi
        exact absurd (List.eq_of_mem_replicate (List.mem_of_getElem? hi)) (by simp)
    rw [zent, List.getElem?_append_left hi2] at hi
    rw [List.getElem?_toArray, List.getElem?_append_left (by rw [zsl_len]; exact hi2)]
    exact zsl_get base as i v hi
end
section
/-! More rows: Math, arrays of references, the law's script. -/
section Z6
variable {X : State → Nat → Prop} {l : Launch} {M : zMd} {B1 B2 : Nat} {Q : zQt} {pc : Nat} {ls : List (Option zV)} {st : List zV} {sh : zS} {h : zH}
theorem z_mmax {idx : Nat} {x y : Int} (hk : Cond.static Lib.Math.max.name ∈ zT ∧ Cond.initialized "java/lang/Math" ∈ zT ∧ Cond.code Lib.Math.max.name Lib.Math.max.code 2 (some .int) ∈ zT) (hl : Cond.methodLink (zy M).cls idx Lib.Math.max.name ∈ zT) (hfr : 1 ≤ zfr M) (hlo : (st.map zcat).sum + 13 ≤ zlo M) (hb1 : sh.1.length ≤ B1) (hb2 : ztot sh ≤ B2) (hd : decode (zb M) pc = .ok (.invokestatic idx, 3)) (K : zW X l M B1 B2 Q (pc + 3) ls (zi (max x y) :: st) sh h) : zW X l M B1 B2 Q pc ls (zi y :: zi x :: st) sh h := by
  intro p e R s m args below meth c Z base D I k0 n0 E H locs cells slots lsr h1 h2 hP hS hL hst hls
  have hy : r32 y := zok_hd hst
  have hx : r32 x := zok_hd (zok_tl hst)
  have K := K p e R s m args below meth c Z base D I k0 n0 E H locs cells slots lsr h1 h2 hP hS hL (zok_cons (show r32 (max x y) by unfold r32 at *; omega) (zok_tl (zok_tl hst))) hls
  have hz : (if Int32.ofInt x < Int32.ofInt y then Int32.ofInt y else Int32.ofInt x) = Int32.ofInt (max x y) := by
    by_cases g : x < y
    · rw [if_pos ((ii_lt hx hy).mpr g)]; congr 1; omega
    · rw [if_neg (fun q => g ((ii_lt hx hy).mp q))]; congr 1; omega
  refine va_mmax E.1.1 E.1.2.1 (E.1.2.2.1.trans hL.2.1.symm) E.1.2.2.2.1 (E.1.2.2.2.2 _ hl) (E.1.2.2.2.2 _ hk.1) (E.1.2.2.2.2 _ hk.2.1) (E.1.2.2.2.2 _ hk.2.2) (Nat.le_trans hfr E.2.2.1.1) (by rw [zcat_sum]; exact Nat.le_trans hlo E.2.2.1.2) (by have := E.2.2.2.1.1; omega) (by have := E.2.2.2.1.2; omega) hd ?_
  rw [hz]
  exact K
theorem z_mmin {idx : Nat} {x y : Int} (hk : Cond.static Lib.Math.min.name ∈ zT ∧ Cond.initialized "java/lang/Math" ∈ zT ∧ Cond.code Lib.Math.min.name Lib.Math.min.code 2 (some .int) ∈ zT) (hl : Cond.methodLink (zy M).cls idx Lib.Math.min.name ∈ zT) (hfr : 1 ≤ zfr M) (hlo : (st.map zcat).sum + 13 ≤ zlo M) (hb1 : sh.1.length ≤ B1) (hb2 : ztot sh ≤ B2) (hd : decode (zb M) pc = .ok (.invokestatic idx, 3)) (K : zW X l M B1 B2 Q (pc + 3) ls (zi (min x y) :: st) sh h) : zW X l M B1 B2 Q pc ls (zi y :: zi x :: st) sh h := by
  intro p e R s m args below meth c Z base D I k0 n0 E H locs cells slots lsr h1 h2 hP hS hL hst hls
  have hy : r32 y := zok_hd hst
  have hx : r32 x := zok_hd (zok_tl hst)
  have K := K p e R s m args below meth c Z base D I k0 n0 E H locs cells slots lsr h1 h2 hP hS hL (zok_cons (show r32 (min x y) by unfold r32 at *; omega) (zok_tl (zok_tl hst))) hls
  have hz : (if Int32.ofInt y < Int32.ofInt x then Int32.ofInt y else Int32.ofInt x) = Int32.ofInt (min x y) := by
    by_cases g : y < x
    · rw [if_pos ((ii_lt hy hx).mpr g)]; congr 1; omega
    · rw [if_neg (fun q => g ((ii_lt hy hx).mp q))]; congr 1; omega
  refine va_mmin E.1.1 E.1.2.1 (E.1.2.2.1.trans hL.2.1.symm) E.1.2.2.2.1 (E.1.2.2.2.2 _ hl) (E.1.2.2.2.2 _ hk.1) (E.1.2.2.2.2 _ hk.2.1) (E.1.2.2.2.2 _ hk.2.2) (Nat.le_trans hfr E.2.2.1.1) (by rw [zcat_sum]; exact Nat.le_trans hlo E.2.2.1.2) (by have := E.2.2.2.1.1; omega) (by have := E.2.2.2.1.2; omega) hd ?_
  rw [hz]
  exact K
theorem z_newq {n : Int} {N idx kd t0 : Nat} {C : String} (hkd : (kd = 102 ∧ t0 = 2 ∧ C = RX6) ∨ (kd = 103 ∧ t0 = 3 ∧ C = RX5)) (hl : Cond.classLink (zy M).cls idx C ∈ zT) (hd : decode (zb M) pc = .ok (.anewarray idx, 3)) (hn : n = N) (hN : N < 100000) (hb1 : sh.1.length + 1 ≤ B1) (hb2 : ztot sh + N ≤ B2) (K : zW X l M B1 B2 Q (pc + 3) ls (zr ((sh.1.length : Int) + 1) :: st) (sh.1 ++ [(kd, N)], znw sh.2 ((sh.1.length : Int) + 1)) (znw h ((sh.1.length : Int) + 1))) : zW X l M B1 B2 Q pc ls (zi n :: st) sh h := by
  intro p e R s m args below meth c Z base D I k0 n0 E H locs cells slots lsr h1 h2 hP hS hL hst hls T9 hT9 X9
  have hsz := zsize X9 hT9 E.2.2.2.2.1 h1 hP hS
  revert T9
  show W p l e R s m args below meth c H locs cells slots Z (F0 m pc lsr ((zi n :: st).map (zc base)))
  have hr9 : r32 n := zok_hd hst
  have hcl : (Int32.ofInt n).toNatClampNeg = N := by rw [zi_clamp hr9]; omega
  have hover : va_AO C s := by rcases hkd with ⟨-, -, rfl⟩ | ⟨-, -, rfl⟩; exact E.2.1.2.2.1; exact E.2.1.2.2.2
  refine W.anew E.1.1 E.1.2.1 E.1.2.2.2.1 (E.1.2.2.2.2 _ hl) (va_AO.use hover) rfl hd rfl (by rw [i0, ii_lt hr9 r32_0]; omega) (by rw [hcl]; omega) (by have := E.2.2.2.1.1; omega) (by rw [hcl]; have := E.2.2.2.1.2; omega) fun cA kA comp f1 f2 f3 f4 => ?_
  rw [hcl]
  generalize hH1 : H.push ({ cls := cA, slots := Array.replicate N .null, vm := .none } : Cell) = H1
  have z1 : H1.size = H.size + 1 := by rw [← hH1, Array.size_push]
  have e1 : H1[H.size]? = some (arrV cA N (fun _ => .null)) := by rw [← hH1, Array.getElem?_push_size, ← arrV_new]
  have o1 : ∀ q : Nat, q < H.size → H1[q]? = H[q]? := fun q hq => by rw [← hH1, Array.getElem?_push, if_neg (Nat.ne_of_lt hq)]
  have hk : ∀ (k : Nat) (x : Nat × va_E), (zws base I sh h)[k]? = some x → H1[x.1]? = H[x.1]? := fun k x hx => o1 x.1 (hP.1 k x hx).lt
  have hP9 : va_P D zcl (zws base I sh h ++ [(base + sh.1.length, zce base I (kd, N) (fun _ => 0) (fun _ => 0))]) H1 := by
    refine (hP.1.kept hk).app (fun k x hx => ?_)
    have hz : k < 1 := (List.getElem?_eq_some_iff.mp hx).1
    rw [show k = 0 by omega] at hx
    cases hx
    rw [hsz] at e1
    rcases hkd with ⟨rfl, rfl, rfl⟩ | ⟨rfl, rfl, rfl⟩
    · have hcA : cA = I 2 := by
        obtain ⟨-, -, -, -, -, g4⟩ := (E.2.1.1.2 2 (I 2, .object RX6) rfl).2
        exact Option.some.inj (f1.symm.trans g4)
      subst hcA
      exact e1
    · have hcA : cA = I 3 := by
        obtain ⟨-, -, -, -, -, g4⟩ := (E.2.1.1.2 3 (I 3, .object RX5) rfl).2
        exact Option.some.inj (f1.symm.trans g4)
      subst hcA
      exact e1
  rw [zws_push (kd := (kd, N)) (h' := znw h ((sh.1.length : Int) + 1)) (g' := znw sh.2 ((sh.1.length : Int) + 1)) (by congr 1 <;> funext b <;> simp [znw]) znw_off znw_off] at hP9
  have hr : zc base (zr ((sh.1.length : Int) + 1)) = .ref (base + sh.1.length) := by
    show zrf base _ = _
    rw [zrf_pos (by omega)]
    congr 2
  have K := K p e R s m args below meth c Z base D I k0 n0 E H1 locs (cells + 1) (slots + N) lsr (by simp; omega) (by rw [ztot_app]; omega) ⟨hP9, znw_32 hP.2⟩ ⟨Nat.le_trans hS.1 (by omega), fun x h1 h2 => (o1 x (by have := hS.1; omega)).trans (hS.2.1 x h1 h2), hS.2.2⟩ hL (zok_cons (v := zr _) trivial (zok_tl hst)) hls
  simp only [List.map_cons, hr] at K
  rw [hsz]
  exact K
end Z6
/-- the law's script, outside the world -/
def zXs (b L : Nat) (xs : Nat → Int32) : State → Nat → Prop := fun s base => va_X b L xs s s.heap ∧ b < base ∧ base = s.heap.size
abbrev zsr (b : Nat) : Int := -((b : Int) + 1)
theorem zsr_ad (base b : Nat) : zrf base (zsr b) = .ref b := by
  unfold zrf zad zsr
  rw [if_neg (by omega), if_neg (by omega)]
  congr 1
section Z7
variable {b L : Nat} {xs : Nat → Int32} {l : Launch} {M : zMd} {B1 B2 : Nat} {Q : zQt} {pc : Nat} {ls : List (Option zV)} {st : List zV} {sh : zS} {h : zH}
theorem z_sld {i : Int} (hd : decode (zb M) pc = .ok (.iaload, 1)) (g0 : 0 ≤ i) (g1 : i < L) (K : zW (zXs b L xs) l M B1 B2 Q (pc + 1) ls (zi ((xs i.toNat).toInt) :: st) sh h) : zW (zXs b L xs) l M B1 B2 Q pc ls (zi i :: zr (zsr b) :: st) sh h := by
  intro p e R s m args below meth c Z base D I k0 n0 E H locs cells slots lsr h1 h2 hP hS hL hst hls
  have hi : r32 i := zok_hd hst
  have K := K p e R s m args below meth c Z base D I k0 n0 E H locs cells slots lsr h1 h2 hP hS hL (zok_cons (toInt_r _) (zok_tl (zok_tl hst))) hls
  have hz : zc base (zr (zsr b)) = .ref b := zsr_ad base b
  have hz2 : zc base (zi ((xs i.toNat).toInt)) = .int (xs i.toNat) := by show Value.int _ = _; rw [Int32.ofInt_toInt]
  simp only [List.map_cons, hz, hz2] at K ⊢
  obtain ⟨x1, x2, x3⟩ := E.2.2.2.2.2.1.2
  refine va_sld E.1.1 E.1.2.1 x1 (by omega) (by show ¬ base ≤ b; omega) hS (zi_in hi g0 g1) hd ?_
  rw [zi_clamp hi]
  exact K
theorem z_slen (hd : decode (zb M) pc = .ok (.arraylength, 1)) (hL9 : L < 2147483648) (K : zW (zXs b L xs) l M B1 B2 Q (pc + 1) ls (zi L :: st) sh h) : zW (zXs b L xs) l M B1 B2 Q pc ls (zr (zsr b) :: st) sh h := by
  intro p e R s m args below meth c Z base D I k0 n0 E H locs cells slots lsr h1 h2 hP hS hL hst hls
  have K := K p e R s m args below meth c Z base D I k0 n0 E H locs cells slots lsr h1 h2 hP hS hL (zok_cons (show r32 L by unfold r32; omega) (zok_tl hst)) hls
  have hz : zc base (zr (zsr b)) = .ref b := zsr_ad base b
  have hz2 : zc base (zi L) = .int (Int32.ofNat L) := by
    show Value.int _ = Value.int _
    congr 1
  simp only [List.map_cons, hz, hz2] at K ⊢
  obtain ⟨x1, x2, x3⟩ := E.2.2.2.2.2.1.2
  exact va_slen E.1.1 E.1.2.1 x1 (by omega) (by show ¬ base ≤ b; omega) hS hd K
end Z7
end
