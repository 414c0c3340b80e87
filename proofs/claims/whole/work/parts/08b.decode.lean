theorem dX4_init_0 : decode cX4_init 0 = .ok (.aload_n 0, 1) := by decide +kernel
theorem dX4_init_1 : decode cX4_init 1 = .ok (.invokespecial 3, 3) := by decide +kernel
theorem dX4_init_4 : decode cX4_init 4 = .ok (.aload_n 0, 1) := by decide +kernel
theorem dX4_init_5 : decode cX4_init 5 = .ok (.iconst 4, 1) := by decide +kernel
theorem dX4_init_6 : decode cX4_init 6 = .ok (.putfield 9, 3) := by decide +kernel
theorem dX4_init_9 : decode cX4_init 9 = .ok (.aload_n 0, 1) := by decide +kernel
theorem dX4_init_10 : decode cX4_init 10 = .ok (.bipush 9, 2) := by decide +kernel
theorem dX4_init_12 : decode cX4_init 12 = .ok (.newarray .int, 2) := by decide +kernel
theorem dX4_init_14 : decode cX4_init 14 = .ok (.putfield 15, 3) := by decide +kernel
theorem dX4_init_17 : decode cX4_init 17 = .ok (.aload_n 0, 1) := by decide +kernel
theorem dX4_init_18 : decode cX4_init 18 = .ok (.bipush 9, 2) := by decide +kernel
theorem dX4_init_20 : decode cX4_init 20 = .ok (.newarray .int, 2) := by decide +kernel
theorem dX4_init_22 : decode cX4_init 22 = .ok (.putfield 19, 3) := by decide +kernel
theorem dX4_init_25 : decode cX4_init 25 = .ok (.aload_n 0, 1) := by decide +kernel
theorem dX4_init_26 : decode cX4_init 26 = .ok (.bipush 9, 2) := by decide +kernel
theorem dX4_init_28 : decode cX4_init 28 = .ok (.newarray .int, 2) := by decide +kernel
theorem dX4_init_30 : decode cX4_init 30 = .ok (.putfield 22, 3) := by decide +kernel
theorem dX4_init_33 : decode cX4_init 33 = .ok (.aload_n 0, 1) := by decide +kernel
theorem dX4_init_34 : decode cX4_init 34 = .ok (.bipush 6, 2) := by decide +kernel
theorem dX4_init_36 : decode cX4_init 36 = .ok (.newarray .int, 2) := by decide +kernel
theorem dX4_init_38 : decode cX4_init 38 = .ok (.putfield 25, 3) := by decide +kernel
theorem dX4_init_41 : decode cX4_init 41 = .ok (.aload_n 0, 1) := by decide +kernel
theorem dX4_init_42 : decode cX4_init 42 = .ok (.bipush 6, 2) := by decide +kernel
theorem dX4_init_44 : decode cX4_init 44 = .ok (.newarray .int, 2) := by decide +kernel
theorem dX4_init_46 : decode cX4_init 46 = .ok (.putfield 28, 3) := by decide +kernel
theorem dX4_init_49 : decode cX4_init 49 = .ok (.aload_n 0, 1) := by decide +kernel
theorem dX4_init_50 : decode cX4_init 50 = .ok (.bipush 6, 2) := by decide +kernel
theorem dX4_init_52 : decode cX4_init 52 = .ok (.newarray .int, 2) := by decide +kernel
theorem dX4_init_54 : decode cX4_init 54 = .ok (.putfield 31, 3) := by decide +kernel
theorem dX4_init_57 : decode cX4_init 57 = .ok (.aload_n 0, 1) := by decide +kernel
theorem dX4_init_58 : decode cX4_init 58 = .ok (.bipush 6, 2) := by decide +kernel
theorem dX4_init_60 : decode cX4_init 60 = .ok (.newarray .int, 2) := by decide +kernel
theorem dX4_init_62 : decode cX4_init 62 = .ok (.putfield 34, 3) := by decide +kernel
theorem dX4_init_65 : decode cX4_init 65 = .ok (.aload_n 0, 1) := by decide +kernel
theorem dX4_init_66 : decode cX4_init 66 = .ok (.bipush 6, 2) := by decide +kernel
theorem dX4_init_68 : decode cX4_init 68 = .ok (.newarray .int, 2) := by decide +kernel
theorem dX4_init_70 : decode cX4_init 70 = .ok (.putfield 37, 3) := by decide +kernel
theorem dX4_init_73 : decode cX4_init 73 = .ok (.aload_n 0, 1) := by decide +kernel
theorem dX4_init_74 : decode cX4_init 74 = .ok (.iconst 4, 1) := by decide +kernel
theorem dX4_init_75 : decode cX4_init 75 = .ok (.newarray .int, 2) := by decide +kernel
theorem dX4_init_77 : decode cX4_init 77 = .ok (.putfield 40, 3) := by decide +kernel
theorem dX4_init_80 : decode cX4_init 80 = .ok (.return_, 1) := by decide +kernel
theorem dX4_tellNothing_0 : decode cX4_tellNothing 0 = .ok (.aload_n 0, 1) := by decide +kernel
theorem dX4_tellNothing_1 : decode cX4_tellNothing 1 = .ok (.iconst 4, 1) := by decide +kernel
theorem dX4_tellNothing_2 : decode cX4_tellNothing 2 = .ok (.putfield 9, 3) := by decide +kernel
theorem dX4_tellNothing_5 : decode cX4_tellNothing 5 = .ok (.aload_n 0, 1) := by decide +kernel
theorem dX4_tellNothing_6 : decode cX4_tellNothing 6 = .ok (.iconst 0, 1) := by decide +kernel
theorem dX4_tellNothing_7 : decode cX4_tellNothing 7 = .ok (.putfield 43, 3) := by decide +kernel
theorem dX4_tellNothing_10 : decode cX4_tellNothing 10 = .ok (.aload_n 0, 1) := by decide +kernel
theorem dX4_tellNothing_11 : decode cX4_tellNothing 11 = .ok (.iconst 0, 1) := by decide +kernel
theorem dX4_tellNothing_12 : decode cX4_tellNothing 12 = .ok (.putfield 46, 3) := by decide +kernel
theorem dX4_tellNothing_15 : decode cX4_tellNothing 15 = .ok (.aload_n 0, 1) := by decide +kernel
theorem dX4_tellNothing_16 : decode cX4_tellNothing 16 = .ok (.iconst 0, 1) := by decide +kernel
theorem dX4_tellNothing_17 : decode cX4_tellNothing 17 = .ok (.putfield 49, 3) := by decide +kernel
theorem dX4_tellNothing_20 : decode cX4_tellNothing 20 = .ok (.return_, 1) := by decide +kernel
theorem dX4_addPath_0 : decode cX4_addPath 0 = .ok (.aload_n 0, 1) := by decide +kernel
theorem dX4_addPath_1 : decode cX4_addPath 1 = .ok (.getfield 43, 3) := by decide +kernel
theorem dX4_addPath_4 : decode cX4_addPath 4 = .ok (.bipush 9, 2) := by decide +kernel
theorem dX4_addPath_6 : decode cX4_addPath 6 = .ok (.if_icmp .ge 43, 3) := by decide +kernel
theorem dX4_addPath_9 : decode cX4_addPath 9 = .ok (.aload_n 0, 1) := by decide +kernel
theorem dX4_addPath_10 : decode cX4_addPath 10 = .ok (.getfield 15, 3) := by decide +kernel
theorem dX4_addPath_13 : decode cX4_addPath 13 = .ok (.aload_n 0, 1) := by decide +kernel
theorem dX4_addPath_14 : decode cX4_addPath 14 = .ok (.getfield 43, 3) := by decide +kernel
theorem dX4_addPath_17 : decode cX4_addPath 17 = .ok (.iload_n 1, 1) := by decide +kernel
theorem dX4_addPath_18 : decode cX4_addPath 18 = .ok (.iastore, 1) := by decide +kernel
theorem dX4_addPath_19 : decode cX4_addPath 19 = .ok (.aload_n 0, 1) := by decide +kernel
theorem dX4_addPath_20 : decode cX4_addPath 20 = .ok (.getfield 19, 3) := by decide +kernel
theorem dX4_addPath_23 : decode cX4_addPath 23 = .ok (.aload_n 0, 1) := by decide +kernel
theorem dX4_addPath_24 : decode cX4_addPath 24 = .ok (.getfield 43, 3) := by decide +kernel
theorem dX4_addPath_27 : decode cX4_addPath 27 = .ok (.iload_n 2, 1) := by decide +kernel
theorem dX4_addPath_28 : decode cX4_addPath 28 = .ok (.iastore, 1) := by decide +kernel
theorem dX4_addPath_29 : decode cX4_addPath 29 = .ok (.aload_n 0, 1) := by decide +kernel
theorem dX4_addPath_30 : decode cX4_addPath 30 = .ok (.getfield 22, 3) := by decide +kernel
theorem dX4_addPath_33 : decode cX4_addPath 33 = .ok (.aload_n 0, 1) := by decide +kernel
theorem dX4_addPath_34 : decode cX4_addPath 34 = .ok (.getfield 43, 3) := by decide +kernel
theorem dX4_addPath_37 : decode cX4_addPath 37 = .ok (.iload_n 3, 1) := by decide +kernel
theorem dX4_addPath_38 : decode cX4_addPath 38 = .ok (.iastore, 1) := by decide +kernel
theorem dX4_addPath_39 : decode cX4_addPath 39 = .ok (.aload_n 0, 1) := by decide +kernel
theorem dX4_addPath_40 : decode cX4_addPath 40 = .ok (.dup, 1) := by decide +kernel
theorem dX4_addPath_41 : decode cX4_addPath 41 = .ok (.getfield 43, 3) := by decide +kernel
theorem dX4_addPath_44 : decode cX4_addPath 44 = .ok (.iconst 1, 1) := by decide +kernel
theorem dX4_addPath_45 : decode cX4_addPath 45 = .ok (.iadd, 1) := by decide +kernel
theorem dX4_addPath_46 : decode cX4_addPath 46 = .ok (.putfield 43, 3) := by decide +kernel
theorem dX4_addPath_49 : decode cX4_addPath 49 = .ok (.return_, 1) := by decide +kernel
theorem dX4_addDirector_0 : decode cX4_addDirector 0 = .ok (.aload_n 0, 1) := by decide +kernel
theorem dX4_addDirector_1 : decode cX4_addDirector 1 = .ok (.getfield 46, 3) := by decide +kernel
theorem dX4_addDirector_4 : decode cX4_addDirector 4 = .ok (.bipush 6, 2) := by decide +kernel
theorem dX4_addDirector_6 : decode cX4_addDirector 6 = .ok (.if_icmp .ge 64, 3) := by decide +kernel
theorem dX4_addDirector_9 : decode cX4_addDirector 9 = .ok (.aload_n 0, 1) := by decide +kernel
theorem dX4_addDirector_10 : decode cX4_addDirector 10 = .ok (.getfield 25, 3) := by decide +kernel
theorem dX4_addDirector_13 : decode cX4_addDirector 13 = .ok (.aload_n 0, 1) := by decide +kernel
theorem dX4_addDirector_14 : decode cX4_addDirector 14 = .ok (.getfield 46, 3) := by decide +kernel
theorem dX4_addDirector_17 : decode cX4_addDirector 17 = .ok (.iload_n 1, 1) := by decide +kernel
theorem dX4_addDirector_18 : decode cX4_addDirector 18 = .ok (.iastore, 1) := by decide +kernel
theorem dX4_addDirector_19 : decode cX4_addDirector 19 = .ok (.aload_n 0, 1) := by decide +kernel
theorem dX4_addDirector_20 : decode cX4_addDirector 20 = .ok (.getfield 28, 3) := by decide +kernel
theorem dX4_addDirector_23 : decode cX4_addDirector 23 = .ok (.aload_n 0, 1) := by decide +kernel
theorem dX4_addDirector_24 : decode cX4_addDirector 24 = .ok (.getfield 46, 3) := by decide +kernel
theorem dX4_addDirector_27 : decode cX4_addDirector 27 = .ok (.iload_n 2, 1) := by decide +kernel
theorem dX4_addDirector_28 : decode cX4_addDirector 28 = .ok (.iastore, 1) := by decide +kernel
theorem dX4_addDirector_29 : decode cX4_addDirector 29 = .ok (.aload_n 0, 1) := by decide +kernel
theorem dX4_addDirector_30 : decode cX4_addDirector 30 = .ok (.getfield 31, 3) := by decide +kernel
theorem dX4_addDirector_33 : decode cX4_addDirector 33 = .ok (.aload_n 0, 1) := by decide +kernel
theorem dX4_addDirector_34 : decode cX4_addDirector 34 = .ok (.getfield 46, 3) := by decide +kernel
theorem dX4_addDirector_37 : decode cX4_addDirector 37 = .ok (.iload_n 3, 1) := by decide +kernel
theorem dX4_addDirector_38 : decode cX4_addDirector 38 = .ok (.iastore, 1) := by decide +kernel
theorem dX4_addDirector_39 : decode cX4_addDirector 39 = .ok (.aload_n 0, 1) := by decide +kernel
theorem dX4_addDirector_40 : decode cX4_addDirector 40 = .ok (.getfield 34, 3) := by decide +kernel
theorem dX4_addDirector_43 : decode cX4_addDirector 43 = .ok (.aload_n 0, 1) := by decide +kernel
theorem dX4_addDirector_44 : decode cX4_addDirector 44 = .ok (.getfield 46, 3) := by decide +kernel
theorem dX4_addDirector_47 : decode cX4_addDirector 47 = .ok (.iload 4, 2) := by decide +kernel
theorem dX4_addDirector_49 : decode cX4_addDirector 49 = .ok (.iastore, 1) := by decide +kernel
theorem dX4_addDirector_50 : decode cX4_addDirector 50 = .ok (.aload_n 0, 1) := by decide +kernel
theorem dX4_addDirector_51 : decode cX4_addDirector 51 = .ok (.getfield 37, 3) := by decide +kernel
theorem dX4_addDirector_54 : decode cX4_addDirector 54 = .ok (.aload_n 0, 1) := by decide +kernel
theorem dX4_addDirector_55 : decode cX4_addDirector 55 = .ok (.getfield 46, 3) := by decide +kernel
theorem dX4_addDirector_58 : decode cX4_addDirector 58 = .ok (.iconst 0, 1) := by decide +kernel
theorem dX4_addDirector_59 : decode cX4_addDirector 59 = .ok (.iastore, 1) := by decide +kernel
theorem dX4_addDirector_60 : decode cX4_addDirector 60 = .ok (.aload_n 0, 1) := by decide +kernel
theorem dX4_addDirector_61 : decode cX4_addDirector 61 = .ok (.dup, 1) := by decide +kernel
theorem dX4_addDirector_62 : decode cX4_addDirector 62 = .ok (.getfield 46, 3) := by decide +kernel
theorem dX4_addDirector_65 : decode cX4_addDirector 65 = .ok (.iconst 1, 1) := by decide +kernel
theorem dX4_addDirector_66 : decode cX4_addDirector 66 = .ok (.iadd, 1) := by decide +kernel
theorem dX4_addDirector_67 : decode cX4_addDirector 67 = .ok (.putfield 46, 3) := by decide +kernel
theorem dX4_addDirector_70 : decode cX4_addDirector 70 = .ok (.return_, 1) := by decide +kernel
theorem dX4_addFriends_0 : decode cX4_addFriends 0 = .ok (.aload_n 0, 1) := by decide +kernel
theorem dX4_addFriends_1 : decode cX4_addFriends 1 = .ok (.iload_n 1, 1) := by decide +kernel
theorem dX4_addFriends_2 : decode cX4_addFriends 2 = .ok (.invokevirtual 52, 3) := by decide +kernel
theorem dX4_addFriends_5 : decode cX4_addFriends 5 = .ok (.ifCond .eq 35, 3) := by decide +kernel
theorem dX4_addFriends_8 : decode cX4_addFriends 8 = .ok (.aload_n 0, 1) := by decide +kernel
theorem dX4_addFriends_9 : decode cX4_addFriends 9 = .ok (.iload_n 2, 1) := by decide +kernel
theorem dX4_addFriends_10 : decode cX4_addFriends 10 = .ok (.invokevirtual 52, 3) := by decide +kernel
theorem dX4_addFriends_13 : decode cX4_addFriends 13 = .ok (.ifCond .eq 27, 3) := by decide +kernel
theorem dX4_addFriends_16 : decode cX4_addFriends 16 = .ok (.aload_n 0, 1) := by decide +kernel
theorem dX4_addFriends_17 : decode cX4_addFriends 17 = .ok (.getfield 37, 3) := by decide +kernel
theorem dX4_addFriends_20 : decode cX4_addFriends 20 = .ok (.iload_n 1, 1) := by decide +kernel
theorem dX4_addFriends_21 : decode cX4_addFriends 21 = .ok (.dup2, 1) := by decide +kernel
theorem dX4_addFriends_22 : decode cX4_addFriends 22 = .ok (.iaload, 1) := by decide +kernel
theorem dX4_addFriends_23 : decode cX4_addFriends 23 = .ok (.iconst 1, 1) := by decide +kernel
theorem dX4_addFriends_24 : decode cX4_addFriends 24 = .ok (.iload_n 2, 1) := by decide +kernel
theorem dX4_addFriends_25 : decode cX4_addFriends 25 = .ok (.ishl, 1) := by decide +kernel
theorem dX4_addFriends_26 : decode cX4_addFriends 26 = .ok (.ior, 1) := by decide +kernel
theorem dX4_addFriends_27 : decode cX4_addFriends 27 = .ok (.iastore, 1) := by decide +kernel
theorem dX4_addFriends_28 : decode cX4_addFriends 28 = .ok (.aload_n 0, 1) := by decide +kernel
theorem dX4_addFriends_29 : decode cX4_addFriends 29 = .ok (.getfield 37, 3) := by decide +kernel
theorem dX4_addFriends_32 : decode cX4_addFriends 32 = .ok (.iload_n 2, 1) := by decide +kernel
theorem dX4_addFriends_33 : decode cX4_addFriends 33 = .ok (.dup2, 1) := by decide +kernel
theorem dX4_addFriends_34 : decode cX4_addFriends 34 = .ok (.iaload, 1) := by decide +kernel
theorem dX4_addFriends_35 : decode cX4_addFriends 35 = .ok (.iconst 1, 1) := by decide +kernel
theorem dX4_addFriends_36 : decode cX4_addFriends 36 = .ok (.iload_n 1, 1) := by decide +kernel
theorem dX4_addFriends_37 : decode cX4_addFriends 37 = .ok (.ishl, 1) := by decide +kernel
theorem dX4_addFriends_38 : decode cX4_addFriends 38 = .ok (.ior, 1) := by decide +kernel
theorem dX4_addFriends_39 : decode cX4_addFriends 39 = .ok (.iastore, 1) := by decide +kernel
theorem dX4_addFriends_40 : decode cX4_addFriends 40 = .ok (.return_, 1) := by decide +kernel
theorem dX4_addChild_0 : decode cX4_addChild 0 = .ok (.aload_n 0, 1) := by decide +kernel
theorem dX4_addChild_1 : decode cX4_addChild 1 = .ok (.getfield 49, 3) := by decide +kernel
theorem dX4_addChild_4 : decode cX4_addChild 4 = .ok (.iconst 4, 1) := by decide +kernel
theorem dX4_addChild_5 : decode cX4_addChild 5 = .ok (.if_icmp .ge 23, 3) := by decide +kernel
theorem dX4_addChild_8 : decode cX4_addChild 8 = .ok (.aload_n 0, 1) := by decide +kernel
theorem dX4_addChild_9 : decode cX4_addChild 9 = .ok (.getfield 40, 3) := by decide +kernel
theorem dX4_addChild_12 : decode cX4_addChild 12 = .ok (.aload_n 0, 1) := by decide +kernel
theorem dX4_addChild_13 : decode cX4_addChild 13 = .ok (.getfield 49, 3) := by decide +kernel
theorem dX4_addChild_16 : decode cX4_addChild 16 = .ok (.iload_n 1, 1) := by decide +kernel
theorem dX4_addChild_17 : decode cX4_addChild 17 = .ok (.iastore, 1) := by decide +kernel
theorem dX4_addChild_18 : decode cX4_addChild 18 = .ok (.aload_n 0, 1) := by decide +kernel
theorem dX4_addChild_19 : decode cX4_addChild 19 = .ok (.dup, 1) := by decide +kernel
theorem dX4_addChild_20 : decode cX4_addChild 20 = .ok (.getfield 49, 3) := by decide +kernel
theorem dX4_addChild_23 : decode cX4_addChild 23 = .ok (.iconst 1, 1) := by decide +kernel
theorem dX4_addChild_24 : decode cX4_addChild 24 = .ok (.iadd, 1) := by decide +kernel
theorem dX4_addChild_25 : decode cX4_addChild 25 = .ok (.putfield 49, 3) := by decide +kernel
theorem dX4_addChild_28 : decode cX4_addChild 28 = .ok (.return_, 1) := by decide +kernel
theorem dX4_hasRoom_0 : decode cX4_hasRoom 0 = .ok (.iload_n 1, 1) := by decide +kernel
theorem dX4_hasRoom_1 : decode cX4_hasRoom 1 = .ok (.ifCond .lt 15, 3) := by decide +kernel
theorem dX4_hasRoom_4 : decode cX4_hasRoom 4 = .ok (.iload_n 1, 1) := by decide +kernel
theorem dX4_hasRoom_5 : decode cX4_hasRoom 5 = .ok (.aload_n 0, 1) := by decide +kernel
theorem dX4_hasRoom_6 : decode cX4_hasRoom 6 = .ok (.getfield 9, 3) := by decide +kernel
theorem dX4_hasRoom_9 : decode cX4_hasRoom 9 = .ok (.if_icmp .ge 7, 3) := by decide +kernel
theorem dX4_hasRoom_12 : decode cX4_hasRoom 12 = .ok (.iconst 1, 1) := by decide +kernel
theorem dX4_hasRoom_13 : decode cX4_hasRoom 13 = .ok (.goto 4, 3) := by decide +kernel
theorem dX4_hasRoom_16 : decode cX4_hasRoom 16 = .ok (.iconst 0, 1) := by decide +kernel
theorem dX4_hasRoom_17 : decode cX4_hasRoom 17 = .ok (.ireturn, 1) := by decide +kernel
theorem dX4_hasPath_0 : decode cX4_hasPath 0 = .ok (.iload_n 1, 1) := by decide +kernel
theorem dX4_hasPath_1 : decode cX4_hasPath 1 = .ok (.ifCond .lt 15, 3) := by decide +kernel
theorem dX4_hasPath_4 : decode cX4_hasPath 4 = .ok (.iload_n 1, 1) := by decide +kernel
theorem dX4_hasPath_5 : decode cX4_hasPath 5 = .ok (.aload_n 0, 1) := by decide +kernel
theorem dX4_hasPath_6 : decode cX4_hasPath 6 = .ok (.getfield 43, 3) := by decide +kernel
theorem dX4_hasPath_9 : decode cX4_hasPath 9 = .ok (.if_icmp .ge 7, 3) := by decide +kernel
theorem dX4_hasPath_12 : decode cX4_hasPath 12 = .ok (.iconst 1, 1) := by decide +kernel
theorem dX4_hasPath_13 : decode cX4_hasPath 13 = .ok (.goto 4, 3) := by decide +kernel
theorem dX4_hasPath_16 : decode cX4_hasPath 16 = .ok (.iconst 0, 1) := by decide +kernel
theorem dX4_hasPath_17 : decode cX4_hasPath 17 = .ok (.ireturn, 1) := by decide +kernel
theorem dX4_hasDirector_0 : decode cX4_hasDirector 0 = .ok (.iload_n 1, 1) := by decide +kernel
theorem dX4_hasDirector_1 : decode cX4_hasDirector 1 = .ok (.ifCond .lt 15, 3) := by decide +kernel
theorem dX4_hasDirector_4 : decode cX4_hasDirector 4 = .ok (.iload_n 1, 1) := by decide +kernel
theorem dX4_hasDirector_5 : decode cX4_hasDirector 5 = .ok (.aload_n 0, 1) := by decide +kernel
theorem dX4_hasDirector_6 : decode cX4_hasDirector 6 = .ok (.getfield 46, 3) := by decide +kernel
theorem dX4_hasDirector_9 : decode cX4_hasDirector 9 = .ok (.if_icmp .ge 7, 3) := by decide +kernel
theorem dX4_hasDirector_12 : decode cX4_hasDirector 12 = .ok (.iconst 1, 1) := by decide +kernel
theorem dX4_hasDirector_13 : decode cX4_hasDirector 13 = .ok (.goto 4, 3) := by decide +kernel
theorem dX4_hasDirector_16 : decode cX4_hasDirector 16 = .ok (.iconst 0, 1) := by decide +kernel
theorem dX4_hasDirector_17 : decode cX4_hasDirector 17 = .ok (.ireturn, 1) := by decide +kernel
theorem dX4_hasChild_0 : decode cX4_hasChild 0 = .ok (.iload_n 1, 1) := by decide +kernel
theorem dX4_hasChild_1 : decode cX4_hasChild 1 = .ok (.ifCond .lt 15, 3) := by decide +kernel
theorem dX4_hasChild_4 : decode cX4_hasChild 4 = .ok (.iload_n 1, 1) := by decide +kernel
theorem dX4_hasChild_5 : decode cX4_hasChild 5 = .ok (.aload_n 0, 1) := by decide +kernel
theorem dX4_hasChild_6 : decode cX4_hasChild 6 = .ok (.getfield 49, 3) := by decide +kernel
theorem dX4_hasChild_9 : decode cX4_hasChild 9 = .ok (.if_icmp .ge 7, 3) := by decide +kernel
theorem dX4_hasChild_12 : decode cX4_hasChild 12 = .ok (.iconst 1, 1) := by decide +kernel
theorem dX4_hasChild_13 : decode cX4_hasChild 13 = .ok (.goto 4, 3) := by decide +kernel
theorem dX4_hasChild_16 : decode cX4_hasChild 16 = .ok (.iconst 0, 1) := by decide +kernel
theorem dX4_hasChild_17 : decode cX4_hasChild 17 = .ok (.ireturn, 1) := by decide +kernel
theorem dX4_allDirectors_0 : decode cX4_allDirectors 0 = .ok (.iconst 1, 1) := by decide +kernel
theorem dX4_allDirectors_1 : decode cX4_allDirectors 1 = .ok (.aload_n 0, 1) := by decide +kernel
theorem dX4_allDirectors_2 : decode cX4_allDirectors 2 = .ok (.getfield 46, 3) := by decide +kernel
theorem dX4_allDirectors_5 : decode cX4_allDirectors 5 = .ok (.ishl, 1) := by decide +kernel
theorem dX4_allDirectors_6 : decode cX4_allDirectors 6 = .ok (.iconst 1, 1) := by decide +kernel
theorem dX4_allDirectors_7 : decode cX4_allDirectors 7 = .ok (.isub, 1) := by decide +kernel
theorem dX4_allDirectors_8 : decode cX4_allDirectors 8 = .ok (.ireturn, 1) := by decide +kernel
theorem dX4_acrossFrom_0 : decode cX4_acrossFrom 0 = .ok (.aload_n 0, 1) := by decide +kernel
theorem dX4_acrossFrom_1 : decode cX4_acrossFrom 1 = .ok (.getfield 15, 3) := by decide +kernel
theorem dX4_acrossFrom_4 : decode cX4_acrossFrom 4 = .ok (.iload_n 1, 1) := by decide +kernel
theorem dX4_acrossFrom_5 : decode cX4_acrossFrom 5 = .ok (.iaload, 1) := by decide +kernel
theorem dX4_acrossFrom_6 : decode cX4_acrossFrom 6 = .ok (.iload_n 2, 1) := by decide +kernel
theorem dX4_acrossFrom_7 : decode cX4_acrossFrom 7 = .ok (.if_icmp .ne 10, 3) := by decide +kernel
theorem dX4_acrossFrom_10 : decode cX4_acrossFrom 10 = .ok (.aload_n 0, 1) := by decide +kernel
theorem dX4_acrossFrom_11 : decode cX4_acrossFrom 11 = .ok (.getfield 19, 3) := by decide +kernel
theorem dX4_acrossFrom_14 : decode cX4_acrossFrom 14 = .ok (.iload_n 1, 1) := by decide +kernel
theorem dX4_acrossFrom_15 : decode cX4_acrossFrom 15 = .ok (.iaload, 1) := by decide +kernel
theorem dX4_acrossFrom_16 : decode cX4_acrossFrom 16 = .ok (.ireturn, 1) := by decide +kernel
theorem dX4_acrossFrom_17 : decode cX4_acrossFrom 17 = .ok (.aload_n 0, 1) := by decide +kernel
theorem dX4_acrossFrom_18 : decode cX4_acrossFrom 18 = .ok (.getfield 19, 3) := by decide +kernel
theorem dX4_acrossFrom_21 : decode cX4_acrossFrom 21 = .ok (.iload_n 1, 1) := by decide +kernel
theorem dX4_acrossFrom_22 : decode cX4_acrossFrom 22 = .ok (.iaload, 1) := by decide +kernel
theorem dX4_acrossFrom_23 : decode cX4_acrossFrom 23 = .ok (.iload_n 2, 1) := by decide +kernel
theorem dX4_acrossFrom_24 : decode cX4_acrossFrom 24 = .ok (.if_icmp .ne 12, 3) := by decide +kernel
theorem dX4_acrossFrom_27 : decode cX4_acrossFrom 27 = .ok (.aload_n 0, 1) := by decide +kernel
theorem dX4_acrossFrom_28 : decode cX4_acrossFrom 28 = .ok (.getfield 15, 3) := by decide +kernel
theorem dX4_acrossFrom_31 : decode cX4_acrossFrom 31 = .ok (.iload_n 1, 1) := by decide +kernel
theorem dX4_acrossFrom_32 : decode cX4_acrossFrom 32 = .ok (.iaload, 1) := by decide +kernel
theorem dX4_acrossFrom_33 : decode cX4_acrossFrom 33 = .ok (.goto 5, 3) := by decide +kernel
theorem dX4_acrossFrom_36 : decode cX4_acrossFrom 36 = .ok (.bipush (-9), 2) := by decide +kernel
theorem dX4_acrossFrom_38 : decode cX4_acrossFrom 38 = .ok (.ireturn, 1) := by decide +kernel
theorem dX4_reachable_0 : decode cX4_reachable 0 = .ok (.iconst 1, 1) := by decide +kernel
theorem dX4_reachable_1 : decode cX4_reachable 1 = .ok (.iload_n 1, 1) := by decide +kernel
theorem dX4_reachable_2 : decode cX4_reachable 2 = .ok (.ishl, 1) := by decide +kernel
theorem dX4_reachable_3 : decode cX4_reachable 3 = .ok (.istore_n 3, 1) := by decide +kernel
theorem dX4_reachable_4 : decode cX4_reachable 4 = .ok (.iconst 1, 1) := by decide +kernel
theorem dX4_reachable_5 : decode cX4_reachable 5 = .ok (.istore 4, 2) := by decide +kernel
theorem dX4_reachable_7 : decode cX4_reachable 7 = .ok (.iload 4, 2) := by decide +kernel
theorem dX4_reachable_9 : decode cX4_reachable 9 = .ok (.aload_n 0, 1) := by decide +kernel
theorem dX4_reachable_10 : decode cX4_reachable 10 = .ok (.getfield 9, 3) := by decide +kernel
theorem dX4_reachable_13 : decode cX4_reachable 13 = .ok (.if_icmp .ge 71, 3) := by decide +kernel
theorem dX4_reachable_16 : decode cX4_reachable 16 = .ok (.iconst 0, 1) := by decide +kernel
theorem dX4_reachable_17 : decode cX4_reachable 17 = .ok (.istore 5, 2) := by decide +kernel
theorem dX4_reachable_19 : decode cX4_reachable 19 = .ok (.iload 5, 2) := by decide +kernel
theorem dX4_reachable_21 : decode cX4_reachable 21 = .ok (.aload_n 0, 1) := by decide +kernel
theorem dX4_reachable_22 : decode cX4_reachable 22 = .ok (.getfield 43, 3) := by decide +kernel
theorem dX4_reachable_25 : decode cX4_reachable 25 = .ok (.if_icmp .ge 53, 3) := by decide +kernel
theorem dX4_reachable_28 : decode cX4_reachable 28 = .ok (.iconst 1, 1) := by decide +kernel
theorem dX4_reachable_29 : decode cX4_reachable 29 = .ok (.aload_n 0, 1) := by decide +kernel
theorem dX4_reachable_30 : decode cX4_reachable 30 = .ok (.getfield 15, 3) := by decide +kernel
theorem dX4_reachable_33 : decode cX4_reachable 33 = .ok (.iload 5, 2) := by decide +kernel
theorem dX4_reachable_35 : decode cX4_reachable 35 = .ok (.iaload, 1) := by decide +kernel
theorem dX4_reachable_36 : decode cX4_reachable 36 = .ok (.ishl, 1) := by decide +kernel
theorem dX4_reachable_37 : decode cX4_reachable 37 = .ok (.iconst 1, 1) := by decide +kernel
theorem dX4_reachable_38 : decode cX4_reachable 38 = .ok (.aload_n 0, 1) := by decide +kernel
theorem dX4_reachable_39 : decode cX4_reachable 39 = .ok (.getfield 19, 3) := by decide +kernel
theorem dX4_reachable_42 : decode cX4_reachable 42 = .ok (.iload 5, 2) := by decide +kernel
theorem dX4_reachable_44 : decode cX4_reachable 44 = .ok (.iaload, 1) := by decide +kernel
theorem dX4_reachable_45 : decode cX4_reachable 45 = .ok (.ishl, 1) := by decide +kernel
theorem dX4_reachable_46 : decode cX4_reachable 46 = .ok (.ior, 1) := by decide +kernel
theorem dX4_reachable_47 : decode cX4_reachable 47 = .ok (.istore 6, 2) := by decide +kernel
theorem dX4_reachable_49 : decode cX4_reachable 49 = .ok (.aload_n 0, 1) := by decide +kernel
theorem dX4_reachable_50 : decode cX4_reachable 50 = .ok (.getfield 22, 3) := by decide +kernel
theorem dX4_reachable_53 : decode cX4_reachable 53 = .ok (.iload 5, 2) := by decide +kernel
theorem dX4_reachable_55 : decode cX4_reachable 55 = .ok (.iaload, 1) := by decide +kernel
theorem dX4_reachable_56 : decode cX4_reachable 56 = .ok (.iload_n 2, 1) := by decide +kernel
theorem dX4_reachable_57 : decode cX4_reachable 57 = .ok (.if_icmp .gt 15, 3) := by decide +kernel
theorem dX4_reachable_60 : decode cX4_reachable 60 = .ok (.iload_n 3, 1) := by decide +kernel
theorem dX4_reachable_61 : decode cX4_reachable 61 = .ok (.iload 6, 2) := by decide +kernel
theorem dX4_reachable_63 : decode cX4_reachable 63 = .ok (.iand, 1) := by decide +kernel
theorem dX4_reachable_64 : decode cX4_reachable 64 = .ok (.ifCond .eq 8, 3) := by decide +kernel
theorem dX4_reachable_67 : decode cX4_reachable 67 = .ok (.iload_n 3, 1) := by decide +kernel
theorem dX4_reachable_68 : decode cX4_reachable 68 = .ok (.iload 6, 2) := by decide +kernel
theorem dX4_reachable_70 : decode cX4_reachable 70 = .ok (.ior, 1) := by decide +kernel
theorem dX4_reachable_71 : decode cX4_reachable 71 = .ok (.istore_n 3, 1) := by decide +kernel
theorem dX4_reachable_72 : decode cX4_reachable 72 = .ok (.iinc 5 1, 3) := by decide +kernel
theorem dX4_reachable_75 : decode cX4_reachable 75 = .ok (.goto (-56), 3) := by decide +kernel
theorem dX4_reachable_78 : decode cX4_reachable 78 = .ok (.iinc 4 1, 3) := by decide +kernel
theorem dX4_reachable_81 : decode cX4_reachable 81 = .ok (.goto (-74), 3) := by decide +kernel
theorem dX4_reachable_84 : decode cX4_reachable 84 = .ok (.iload_n 3, 1) := by decide +kernel
theorem dX4_reachable_85 : decode cX4_reachable 85 = .ok (.ireturn, 1) := by decide +kernel
theorem dX4_laughFrom_0 : decode cX4_laughFrom 0 = .ok (.iload_n 1, 1) := by decide +kernel
theorem dX4_laughFrom_1 : decode cX4_laughFrom 1 = .ok (.istore_n 2, 1) := by decide +kernel
theorem dX4_laughFrom_2 : decode cX4_laughFrom 2 = .ok (.iconst 0, 1) := by decide +kernel
theorem dX4_laughFrom_3 : decode cX4_laughFrom 3 = .ok (.istore_n 3, 1) := by decide +kernel
theorem dX4_laughFrom_4 : decode cX4_laughFrom 4 = .ok (.iload_n 3, 1) := by decide +kernel
theorem dX4_laughFrom_5 : decode cX4_laughFrom 5 = .ok (.aload_n 0, 1) := by decide +kernel
theorem dX4_laughFrom_6 : decode cX4_laughFrom 6 = .ok (.getfield 46, 3) := by decide +kernel
theorem dX4_laughFrom_9 : decode cX4_laughFrom 9 = .ok (.if_icmp .ge 64, 3) := by decide +kernel
theorem dX4_laughFrom_12 : decode cX4_laughFrom 12 = .ok (.iconst 0, 1) := by decide +kernel
theorem dX4_laughFrom_13 : decode cX4_laughFrom 13 = .ok (.istore 4, 2) := by decide +kernel
theorem dX4_laughFrom_15 : decode cX4_laughFrom 15 = .ok (.iload 4, 2) := by decide +kernel
theorem dX4_laughFrom_17 : decode cX4_laughFrom 17 = .ok (.aload_n 0, 1) := by decide +kernel
theorem dX4_laughFrom_18 : decode cX4_laughFrom 18 = .ok (.getfield 46, 3) := by decide +kernel
theorem dX4_laughFrom_21 : decode cX4_laughFrom 21 = .ok (.if_icmp .ge 46, 3) := by decide +kernel
theorem dX4_laughFrom_24 : decode cX4_laughFrom 24 = .ok (.aload_n 0, 1) := by decide +kernel
theorem dX4_laughFrom_25 : decode cX4_laughFrom 25 = .ok (.getfield 37, 3) := by decide +kernel
theorem dX4_laughFrom_28 : decode cX4_laughFrom 28 = .ok (.iload 4, 2) := by decide +kernel
theorem dX4_laughFrom_30 : decode cX4_laughFrom 30 = .ok (.iaload, 1) := by decide +kernel
theorem dX4_laughFrom_31 : decode cX4_laughFrom 31 = .ok (.iload_n 2, 1) := by decide +kernel
theorem dX4_laughFrom_32 : decode cX4_laughFrom 32 = .ok (.iand, 1) := by decide +kernel
theorem dX4_laughFrom_33 : decode cX4_laughFrom 33 = .ok (.invokestatic 56, 3) := by decide +kernel
theorem dX4_laughFrom_36 : decode cX4_laughFrom 36 = .ok (.istore 5, 2) := by decide +kernel
theorem dX4_laughFrom_38 : decode cX4_laughFrom 38 = .ok (.iload 5, 2) := by decide +kernel
theorem dX4_laughFrom_40 : decode cX4_laughFrom 40 = .ok (.iconst 1, 1) := by decide +kernel
theorem dX4_laughFrom_41 : decode cX4_laughFrom 41 = .ok (.aload_n 0, 1) := by decide +kernel
theorem dX4_laughFrom_42 : decode cX4_laughFrom 42 = .ok (.getfield 31, 3) := by decide +kernel
theorem dX4_laughFrom_45 : decode cX4_laughFrom 45 = .ok (.iload 4, 2) := by decide +kernel
theorem dX4_laughFrom_47 : decode cX4_laughFrom 47 = .ok (.iaload, 1) := by decide +kernel
theorem dX4_laughFrom_48 : decode cX4_laughFrom 48 = .ok (.invokestatic 62, 3) := by decide +kernel
theorem dX4_laughFrom_51 : decode cX4_laughFrom 51 = .ok (.if_icmp .lt 10, 3) := by decide +kernel
theorem dX4_laughFrom_54 : decode cX4_laughFrom 54 = .ok (.iload_n 2, 1) := by decide +kernel
theorem dX4_laughFrom_55 : decode cX4_laughFrom 55 = .ok (.iconst 1, 1) := by decide +kernel
theorem dX4_laughFrom_56 : decode cX4_laughFrom 56 = .ok (.iload 4, 2) := by decide +kernel
theorem dX4_laughFrom_58 : decode cX4_laughFrom 58 = .ok (.ishl, 1) := by decide +kernel
theorem dX4_laughFrom_59 : decode cX4_laughFrom 59 = .ok (.ior, 1) := by decide +kernel
theorem dX4_laughFrom_60 : decode cX4_laughFrom 60 = .ok (.istore_n 2, 1) := by decide +kernel
theorem dX4_laughFrom_61 : decode cX4_laughFrom 61 = .ok (.iinc 4 1, 3) := by decide +kernel
theorem dX4_laughFrom_64 : decode cX4_laughFrom 64 = .ok (.goto (-49), 3) := by decide +kernel
theorem dX4_laughFrom_67 : decode cX4_laughFrom 67 = .ok (.iinc 3 1, 3) := by decide +kernel
theorem dX4_laughFrom_70 : decode cX4_laughFrom 70 = .ok (.goto (-66), 3) := by decide +kernel
theorem dX4_laughFrom_73 : decode cX4_laughFrom 73 = .ok (.iload_n 2, 1) := by decide +kernel
theorem dX4_laughFrom_74 : decode cX4_laughFrom 74 = .ok (.ireturn, 1) := by decide +kernel
theorem dX4_fewestToLaugh_0 : decode cX4_fewestToLaugh 0 = .ok (.aload_n 0, 1) := by decide +kernel
theorem dX4_fewestToLaugh_1 : decode cX4_fewestToLaugh 1 = .ok (.invokevirtual 68, 3) := by decide +kernel
theorem dX4_fewestToLaugh_4 : decode cX4_fewestToLaugh 4 = .ok (.istore_n 1, 1) := by decide +kernel
theorem dX4_fewestToLaugh_5 : decode cX4_fewestToLaugh 5 = .ok (.iload_n 1, 1) := by decide +kernel
theorem dX4_fewestToLaugh_6 : decode cX4_fewestToLaugh 6 = .ok (.istore_n 2, 1) := by decide +kernel
theorem dX4_fewestToLaugh_7 : decode cX4_fewestToLaugh 7 = .ok (.iconst 0, 1) := by decide +kernel
theorem dX4_fewestToLaugh_8 : decode cX4_fewestToLaugh 8 = .ok (.istore_n 3, 1) := by decide +kernel
theorem dX4_fewestToLaugh_9 : decode cX4_fewestToLaugh 9 = .ok (.iload_n 3, 1) := by decide +kernel
theorem dX4_fewestToLaugh_10 : decode cX4_fewestToLaugh 10 = .ok (.iload_n 1, 1) := by decide +kernel
theorem dX4_fewestToLaugh_11 : decode cX4_fewestToLaugh 11 = .ok (.if_icmp .ge 31, 3) := by decide +kernel
theorem dX4_fewestToLaugh_14 : decode cX4_fewestToLaugh 14 = .ok (.iload_n 3, 1) := by decide +kernel
theorem dX4_fewestToLaugh_15 : decode cX4_fewestToLaugh 15 = .ok (.invokestatic 56, 3) := by decide +kernel
theorem dX4_fewestToLaugh_18 : decode cX4_fewestToLaugh 18 = .ok (.iload_n 2, 1) := by decide +kernel
theorem dX4_fewestToLaugh_19 : decode cX4_fewestToLaugh 19 = .ok (.invokestatic 56, 3) := by decide +kernel
theorem dX4_fewestToLaugh_22 : decode cX4_fewestToLaugh 22 = .ok (.if_icmp .ge 14, 3) := by decide +kernel
theorem dX4_fewestToLaugh_25 : decode cX4_fewestToLaugh 25 = .ok (.aload_n 0, 1) := by decide +kernel
theorem dX4_fewestToLaugh_26 : decode cX4_fewestToLaugh 26 = .ok (.iload_n 3, 1) := by decide +kernel
theorem dX4_fewestToLaugh_27 : decode cX4_fewestToLaugh 27 = .ok (.invokevirtual 72, 3) := by decide +kernel
theorem dX4_fewestToLaugh_30 : decode cX4_fewestToLaugh 30 = .ok (.iload_n 1, 1) := by decide +kernel
theorem dX4_fewestToLaugh_31 : decode cX4_fewestToLaugh 31 = .ok (.if_icmp .ne 5, 3) := by decide +kernel
theorem dX4_fewestToLaugh_34 : decode cX4_fewestToLaugh 34 = .ok (.iload_n 3, 1) := by decide +kernel
theorem dX4_fewestToLaugh_35 : decode cX4_fewestToLaugh 35 = .ok (.istore_n 2, 1) := by decide +kernel
theorem dX4_fewestToLaugh_36 : decode cX4_fewestToLaugh 36 = .ok (.iinc 3 1, 3) := by decide +kernel
theorem dX4_fewestToLaugh_39 : decode cX4_fewestToLaugh 39 = .ok (.goto (-30), 3) := by decide +kernel
theorem dX4_fewestToLaugh_42 : decode cX4_fewestToLaugh 42 = .ok (.iload_n 2, 1) := by decide +kernel
theorem dX4_fewestToLaugh_43 : decode cX4_fewestToLaugh 43 = .ok (.ireturn, 1) := by decide +kernel
theorem dX7_init_0 : decode cX7_init 0 = .ok (.aload_n 0, 1) := by decide +kernel
theorem dX7_init_1 : decode cX7_init 1 = .ok (.invokespecial 3, 3) := by decide +kernel
theorem dX7_init_4 : decode cX7_init 4 = .ok (.aload_n 0, 1) := by decide +kernel
theorem dX7_init_5 : decode cX7_init 5 = .ok (.sipush 150, 3) := by decide +kernel
theorem dX7_init_8 : decode cX7_init 8 = .ok (.newarray .int, 2) := by decide +kernel
theorem dX7_init_10 : decode cX7_init 10 = .ok (.putfield 9, 3) := by decide +kernel
theorem dX7_init_13 : decode cX7_init 13 = .ok (.return_, 1) := by decide +kernel
theorem dX7_append_0 : decode cX7_append 0 = .ok (.aload_n 0, 1) := by decide +kernel
theorem dX7_append_1 : decode cX7_append 1 = .ok (.getfield 15, 3) := by decide +kernel
theorem dX7_append_4 : decode cX7_append 4 = .ok (.sipush 150, 3) := by decide +kernel
theorem dX7_append_7 : decode cX7_append 7 = .ok (.if_icmp .lt 5, 3) := by decide +kernel
theorem dX7_append_10 : decode cX7_append 10 = .ok (.iconst 0, 1) := by decide +kernel
theorem dX7_append_11 : decode cX7_append 11 = .ok (.ireturn, 1) := by decide +kernel
theorem dX7_append_12 : decode cX7_append 12 = .ok (.aload_n 0, 1) := by decide +kernel
theorem dX7_append_13 : decode cX7_append 13 = .ok (.getfield 9, 3) := by decide +kernel
theorem dX7_append_16 : decode cX7_append 16 = .ok (.aload_n 0, 1) := by decide +kernel
theorem dX7_append_17 : decode cX7_append 17 = .ok (.getfield 15, 3) := by decide +kernel
theorem dX7_append_20 : decode cX7_append 20 = .ok (.iload_n 1, 1) := by decide +kernel
theorem dX7_append_21 : decode cX7_append 21 = .ok (.iastore, 1) := by decide +kernel
theorem dX7_append_22 : decode cX7_append 22 = .ok (.aload_n 0, 1) := by decide +kernel
theorem dX7_append_23 : decode cX7_append 23 = .ok (.dup, 1) := by decide +kernel
theorem dX7_append_24 : decode cX7_append 24 = .ok (.getfield 15, 3) := by decide +kernel
theorem dX7_append_27 : decode cX7_append 27 = .ok (.iconst 1, 1) := by decide +kernel
theorem dX7_append_28 : decode cX7_append 28 = .ok (.iadd, 1) := by decide +kernel
theorem dX7_append_29 : decode cX7_append 29 = .ok (.putfield 15, 3) := by decide +kernel
theorem dX7_append_32 : decode cX7_append 32 = .ok (.iconst 1, 1) := by decide +kernel
theorem dX7_append_33 : decode cX7_append 33 = .ok (.ireturn, 1) := by decide +kernel
theorem dX7_drop_0 : decode cX7_drop 0 = .ok (.aload_n 0, 1) := by decide +kernel
theorem dX7_drop_1 : decode cX7_drop 1 = .ok (.getfield 15, 3) := by decide +kernel
theorem dX7_drop_4 : decode cX7_drop 4 = .ok (.istore_n 1, 1) := by decide +kernel
theorem dX7_drop_5 : decode cX7_drop 5 = .ok (.aload_n 0, 1) := by decide +kernel
theorem dX7_drop_6 : decode cX7_drop 6 = .ok (.iconst 0, 1) := by decide +kernel
theorem dX7_drop_7 : decode cX7_drop 7 = .ok (.putfield 15, 3) := by decide +kernel
theorem dX7_drop_10 : decode cX7_drop 10 = .ok (.iload_n 1, 1) := by decide +kernel
theorem dX7_drop_11 : decode cX7_drop 11 = .ok (.ireturn, 1) := by decide +kernel
theorem dX7_readInto_0 : decode cX7_readInto 0 = .ok (.aload_n 1, 1) := by decide +kernel
theorem dX7_readInto_1 : decode cX7_readInto 1 = .ok (.invokevirtual 19, 3) := by decide +kernel
theorem dX7_readInto_4 : decode cX7_readInto 4 = .ok (.aload_n 0, 1) := by decide +kernel
theorem dX7_readInto_5 : decode cX7_readInto 5 = .ok (.iconst 0, 1) := by decide +kernel
theorem dX7_readInto_6 : decode cX7_readInto 6 = .ok (.putfield 24, 3) := by decide +kernel
theorem dX7_readInto_9 : decode cX7_readInto 9 = .ok (.aload_n 0, 1) := by decide +kernel
theorem dX7_readInto_10 : decode cX7_readInto 10 = .ok (.iconst 0, 1) := by decide +kernel
theorem dX7_readInto_11 : decode cX7_readInto 11 = .ok (.putfield 27, 3) := by decide +kernel
theorem dX7_readInto_14 : decode cX7_readInto 14 = .ok (.iconst 0, 1) := by decide +kernel
theorem dX7_readInto_15 : decode cX7_readInto 15 = .ok (.istore_n 2, 1) := by decide +kernel
theorem dX7_readInto_16 : decode cX7_readInto 16 = .ok (.aload_n 0, 1) := by decide +kernel
theorem dX7_readInto_17 : decode cX7_readInto 17 = .ok (.invokevirtual 31, 3) := by decide +kernel
theorem dX7_readInto_20 : decode cX7_readInto 20 = .ok (.iload_n 2, 1) := by decide +kernel
theorem dX7_readInto_21 : decode cX7_readInto 21 = .ok (.sipush 150, 3) := by decide +kernel
theorem dX7_readInto_24 : decode cX7_readInto 24 = .ok (.if_icmp .gt 41, 3) := by decide +kernel
theorem dX7_readInto_27 : decode cX7_readInto 27 = .ok (.aload_n 0, 1) := by decide +kernel
theorem dX7_readInto_28 : decode cX7_readInto 28 = .ok (.getfield 34, 3) := by decide +kernel
theorem dX7_readInto_31 : decode cX7_readInto 31 = .ok (.ifCond .eq 34, 3) := by decide +kernel
theorem dX7_readInto_34 : decode cX7_readInto 34 = .ok (.aload_n 0, 1) := by decide +kernel
theorem dX7_readInto_35 : decode cX7_readInto 35 = .ok (.aload_n 1, 1) := by decide +kernel
theorem dX7_readInto_36 : decode cX7_readInto 36 = .ok (.iload_n 2, 1) := by decide +kernel
theorem dX7_readInto_37 : decode cX7_readInto 37 = .ok (.invokevirtual 37, 3) := by decide +kernel
theorem dX7_readInto_40 : decode cX7_readInto 40 = .ok (.aload_n 0, 1) := by decide +kernel
theorem dX7_readInto_41 : decode cX7_readInto 41 = .ok (.getfield 27, 3) := by decide +kernel
theorem dX7_readInto_44 : decode cX7_readInto 44 = .ok (.ifCond .eq 11, 3) := by decide +kernel
theorem dX7_readInto_47 : decode cX7_readInto 47 = .ok (.bipush (-10), 2) := by decide +kernel
theorem dX7_readInto_49 : decode cX7_readInto 49 = .ok (.aload_n 0, 1) := by decide +kernel
theorem dX7_readInto_50 : decode cX7_readInto 50 = .ok (.getfield 41, 3) := by decide +kernel
theorem dX7_readInto_53 : decode cX7_readInto 53 = .ok (.isub, 1) := by decide +kernel
theorem dX7_readInto_54 : decode cX7_readInto 54 = .ok (.ireturn, 1) := by decide +kernel
theorem dX7_readInto_55 : decode cX7_readInto 55 = .ok (.iinc 2 1, 3) := by decide +kernel
theorem dX7_readInto_58 : decode cX7_readInto 58 = .ok (.aload_n 0, 1) := by decide +kernel
theorem dX7_readInto_59 : decode cX7_readInto 59 = .ok (.invokevirtual 31, 3) := by decide +kernel
theorem dX7_readInto_62 : decode cX7_readInto 62 = .ok (.goto (-42), 3) := by decide +kernel
theorem dX7_readInto_65 : decode cX7_readInto 65 = .ok (.iload_n 2, 1) := by decide +kernel
theorem dX7_readInto_66 : decode cX7_readInto 66 = .ok (.ireturn, 1) := by decide +kernel
theorem dX7_readItem_0 : decode cX7_readItem 0 = .ok (.aload_n 0, 1) := by decide +kernel
theorem dX7_readItem_1 : decode cX7_readItem 1 = .ok (.getfield 34, 3) := by decide +kernel
theorem dX7_readItem_4 : decode cX7_readItem 4 = .ok (.iconst 1, 1) := by decide +kernel
theorem dX7_readItem_5 : decode cX7_readItem 5 = .ok (.if_icmp .ne 10, 3) := by decide +kernel
theorem dX7_readItem_8 : decode cX7_readItem 8 = .ok (.aload_n 0, 1) := by decide +kernel
theorem dX7_readItem_9 : decode cX7_readItem 9 = .ok (.getfield 44, 3) := by decide +kernel
theorem dX7_readItem_12 : decode cX7_readItem 12 = .ok (.goto 4, 3) := by decide +kernel
theorem dX7_readItem_15 : decode cX7_readItem 15 = .ok (.iconst 0, 1) := by decide +kernel
theorem dX7_readItem_16 : decode cX7_readItem 16 = .ok (.istore_n 3, 1) := by decide +kernel
theorem dX7_readItem_17 : decode cX7_readItem 17 = .ok (.iload_n 3, 1) := by decide +kernel
theorem dX7_readItem_18 : decode cX7_readItem 18 = .ok (.lookupswitch 91 #[(99, 83), (100, 67), (102, 75), (112, 59), (114, 50)], 50) := by decide +kernel
theorem dX7_readItem_68 : decode cX7_readItem 68 = .ok (.aload_n 0, 1) := by decide +kernel
theorem dX7_readItem_69 : decode cX7_readItem 69 = .ok (.aload_n 1, 1) := by decide +kernel
theorem dX7_readItem_70 : decode cX7_readItem 70 = .ok (.iload_n 2, 1) := by decide +kernel
theorem dX7_readItem_71 : decode cX7_readItem 71 = .ok (.invokevirtual 47, 3) := by decide +kernel
theorem dX7_readItem_74 : decode cX7_readItem 74 = .ok (.goto 40, 3) := by decide +kernel
theorem dX7_readItem_77 : decode cX7_readItem 77 = .ok (.aload_n 0, 1) := by decide +kernel
theorem dX7_readItem_78 : decode cX7_readItem 78 = .ok (.aload_n 1, 1) := by decide +kernel
theorem dX7_readItem_79 : decode cX7_readItem 79 = .ok (.invokevirtual 50, 3) := by decide +kernel
theorem dX7_readItem_82 : decode cX7_readItem 82 = .ok (.goto 32, 3) := by decide +kernel
theorem dX7_readItem_85 : decode cX7_readItem 85 = .ok (.aload_n 0, 1) := by decide +kernel
theorem dX7_readItem_86 : decode cX7_readItem 86 = .ok (.aload_n 1, 1) := by decide +kernel
theorem dX7_readItem_87 : decode cX7_readItem 87 = .ok (.invokevirtual 54, 3) := by decide +kernel
theorem dX7_readItem_90 : decode cX7_readItem 90 = .ok (.goto 24, 3) := by decide +kernel
theorem dX7_readItem_93 : decode cX7_readItem 93 = .ok (.aload_n 0, 1) := by decide +kernel
theorem dX7_readItem_94 : decode cX7_readItem 94 = .ok (.aload_n 1, 1) := by decide +kernel
theorem dX7_readItem_95 : decode cX7_readItem 95 = .ok (.invokevirtual 57, 3) := by decide +kernel
theorem dX7_readItem_98 : decode cX7_readItem 98 = .ok (.goto 16, 3) := by decide +kernel
theorem dX7_readItem_101 : decode cX7_readItem 101 = .ok (.aload_n 0, 1) := by decide +kernel
theorem dX7_readItem_102 : decode cX7_readItem 102 = .ok (.aload_n 1, 1) := by decide +kernel
theorem dX7_readItem_103 : decode cX7_readItem 103 = .ok (.invokevirtual 60, 3) := by decide +kernel
theorem dX7_readItem_106 : decode cX7_readItem 106 = .ok (.goto 8, 3) := by decide +kernel
theorem dX7_readItem_109 : decode cX7_readItem 109 = .ok (.aload_n 0, 1) := by decide +kernel
theorem dX7_readItem_110 : decode cX7_readItem 110 = .ok (.iconst 1, 1) := by decide +kernel
theorem dX7_readItem_111 : decode cX7_readItem 111 = .ok (.putfield 27, 3) := by decide +kernel
theorem dX7_readItem_114 : decode cX7_readItem 114 = .ok (.return_, 1) := by decide +kernel
theorem dX7_readRooms_0 : decode cX7_readRooms 0 = .ok (.aload_n 0, 1) := by decide +kernel
theorem dX7_readRooms_1 : decode cX7_readRooms 1 = .ok (.iload_n 2, 1) := by decide +kernel
theorem dX7_readRooms_2 : decode cX7_readRooms 2 = .ok (.ifCond .le 7, 3) := by decide +kernel
theorem dX7_readRooms_5 : decode cX7_readRooms 5 = .ok (.iconst 1, 1) := by decide +kernel
theorem dX7_readRooms_6 : decode cX7_readRooms 6 = .ok (.goto 4, 3) := by decide +kernel
theorem dX7_readRooms_9 : decode cX7_readRooms 9 = .ok (.iconst 0, 1) := by decide +kernel
theorem dX7_readRooms_10 : decode cX7_readRooms 10 = .ok (.putfield 27, 3) := by decide +kernel
theorem dX7_readRooms_13 : decode cX7_readRooms 13 = .ok (.aload_n 0, 1) := by decide +kernel
theorem dX7_readRooms_14 : decode cX7_readRooms 14 = .ok (.iconst 2, 1) := by decide +kernel
theorem dX7_readRooms_15 : decode cX7_readRooms 15 = .ok (.bipush 8, 2) := by decide +kernel
theorem dX7_readRooms_17 : decode cX7_readRooms 17 = .ok (.invokevirtual 63, 3) := by decide +kernel
theorem dX7_readRooms_20 : decode cX7_readRooms 20 = .ok (.istore_n 3, 1) := by decide +kernel
theorem dX7_readRooms_21 : decode cX7_readRooms 21 = .ok (.aload_n 0, 1) := by decide +kernel
theorem dX7_readRooms_22 : decode cX7_readRooms 22 = .ok (.invokevirtual 67, 3) := by decide +kernel
theorem dX7_readRooms_25 : decode cX7_readRooms 25 = .ok (.aload_n 0, 1) := by decide +kernel
theorem dX7_readRooms_26 : decode cX7_readRooms 26 = .ok (.getfield 27, 3) := by decide +kernel
theorem dX7_readRooms_29 : decode cX7_readRooms 29 = .ok (.ifCond .ne 8, 3) := by decide +kernel
theorem dX7_readRooms_32 : decode cX7_readRooms 32 = .ok (.aload_n 1, 1) := by decide +kernel
theorem dX7_readRooms_33 : decode cX7_readRooms 33 = .ok (.iload_n 3, 1) := by decide +kernel
theorem dX7_readRooms_34 : decode cX7_readRooms 34 = .ok (.putfield 70, 3) := by decide +kernel
theorem dX7_readRooms_37 : decode cX7_readRooms 37 = .ok (.return_, 1) := by decide +kernel
theorem dX7_readPath_0 : decode cX7_readPath 0 = .ok (.aload_n 0, 1) := by decide +kernel
theorem dX7_readPath_1 : decode cX7_readPath 1 = .ok (.aload_n 1, 1) := by decide +kernel
theorem dX7_readPath_2 : decode cX7_readPath 2 = .ok (.getfield 73, 3) := by decide +kernel
theorem dX7_readPath_5 : decode cX7_readPath 5 = .ok (.bipush 9, 2) := by decide +kernel
theorem dX7_readPath_7 : decode cX7_readPath 7 = .ok (.if_icmp .lt 7, 3) := by decide +kernel
theorem dX7_readPath_10 : decode cX7_readPath 10 = .ok (.iconst 1, 1) := by decide +kernel
theorem dX7_readPath_11 : decode cX7_readPath 11 = .ok (.goto 4, 3) := by decide +kernel
theorem dX7_readPath_14 : decode cX7_readPath 14 = .ok (.iconst 0, 1) := by decide +kernel
theorem dX7_readPath_15 : decode cX7_readPath 15 = .ok (.putfield 27, 3) := by decide +kernel
theorem dX7_readPath_18 : decode cX7_readPath 18 = .ok (.aload_n 0, 1) := by decide +kernel
theorem dX7_readPath_19 : decode cX7_readPath 19 = .ok (.iconst 0, 1) := by decide +kernel
theorem dX7_readPath_20 : decode cX7_readPath 20 = .ok (.aload_n 1, 1) := by decide +kernel
theorem dX7_readPath_21 : decode cX7_readPath 21 = .ok (.getfield 70, 3) := by decide +kernel
theorem dX7_readPath_24 : decode cX7_readPath 24 = .ok (.iconst 1, 1) := by decide +kernel
theorem dX7_readPath_25 : decode cX7_readPath 25 = .ok (.isub, 1) := by decide +kernel
theorem dX7_readPath_26 : decode cX7_readPath 26 = .ok (.invokevirtual 63, 3) := by decide +kernel
theorem dX7_readPath_29 : decode cX7_readPath 29 = .ok (.istore_n 2, 1) := by decide +kernel
theorem dX7_readPath_30 : decode cX7_readPath 30 = .ok (.aload_n 0, 1) := by decide +kernel
theorem dX7_readPath_31 : decode cX7_readPath 31 = .ok (.iconst 0, 1) := by decide +kernel
theorem dX7_readPath_32 : decode cX7_readPath 32 = .ok (.aload_n 1, 1) := by decide +kernel
theorem dX7_readPath_33 : decode cX7_readPath 33 = .ok (.getfield 70, 3) := by decide +kernel
theorem dX7_readPath_36 : decode cX7_readPath 36 = .ok (.iconst 1, 1) := by decide +kernel
theorem dX7_readPath_37 : decode cX7_readPath 37 = .ok (.isub, 1) := by decide +kernel
theorem dX7_readPath_38 : decode cX7_readPath 38 = .ok (.invokevirtual 63, 3) := by decide +kernel
theorem dX7_readPath_41 : decode cX7_readPath 41 = .ok (.istore_n 3, 1) := by decide +kernel
theorem dX7_readPath_42 : decode cX7_readPath 42 = .ok (.aload_n 0, 1) := by decide +kernel
theorem dX7_readPath_43 : decode cX7_readPath 43 = .ok (.iload_n 2, 1) := by decide +kernel
theorem dX7_readPath_44 : decode cX7_readPath 44 = .ok (.iload_n 3, 1) := by decide +kernel
theorem dX7_readPath_45 : decode cX7_readPath 45 = .ok (.invokevirtual 76, 3) := by decide +kernel
theorem dX7_readPath_48 : decode cX7_readPath 48 = .ok (.aload_n 0, 1) := by decide +kernel
theorem dX7_readPath_49 : decode cX7_readPath 49 = .ok (.iconst 0, 1) := by decide +kernel
theorem dX7_readPath_50 : decode cX7_readPath 50 = .ok (.bipush 9, 2) := by decide +kernel
theorem dX7_readPath_52 : decode cX7_readPath 52 = .ok (.invokevirtual 63, 3) := by decide +kernel
theorem dX7_readPath_55 : decode cX7_readPath 55 = .ok (.istore 4, 2) := by decide +kernel
theorem dX7_readPath_57 : decode cX7_readPath 57 = .ok (.aload_n 0, 1) := by decide +kernel
theorem dX7_readPath_58 : decode cX7_readPath 58 = .ok (.invokevirtual 67, 3) := by decide +kernel
theorem dX7_readPath_61 : decode cX7_readPath 61 = .ok (.aload_n 0, 1) := by decide +kernel
theorem dX7_readPath_62 : decode cX7_readPath 62 = .ok (.getfield 27, 3) := by decide +kernel
theorem dX7_readPath_65 : decode cX7_readPath 65 = .ok (.ifCond .ne 11, 3) := by decide +kernel
theorem dX7_readPath_68 : decode cX7_readPath 68 = .ok (.aload_n 1, 1) := by decide +kernel
theorem dX7_readPath_69 : decode cX7_readPath 69 = .ok (.iload_n 2, 1) := by decide +kernel
theorem dX7_readPath_70 : decode cX7_readPath 70 = .ok (.iload_n 3, 1) := by decide +kernel
theorem dX7_readPath_71 : decode cX7_readPath 71 = .ok (.iload 4, 2) := by decide +kernel
theorem dX7_readPath_73 : decode cX7_readPath 73 = .ok (.invokevirtual 80, 3) := by decide +kernel
theorem dX7_readPath_76 : decode cX7_readPath 76 = .ok (.return_, 1) := by decide +kernel
theorem dX7_readDirector_0 : decode cX7_readDirector 0 = .ok (.aload_n 0, 1) := by decide +kernel
theorem dX7_readDirector_1 : decode cX7_readDirector 1 = .ok (.aload_n 1, 1) := by decide +kernel
theorem dX7_readDirector_2 : decode cX7_readDirector 2 = .ok (.getfield 84, 3) := by decide +kernel
theorem dX7_readDirector_5 : decode cX7_readDirector 5 = .ok (.bipush 6, 2) := by decide +kernel
theorem dX7_readDirector_7 : decode cX7_readDirector 7 = .ok (.if_icmp .lt 7, 3) := by decide +kernel
theorem dX7_readDirector_10 : decode cX7_readDirector 10 = .ok (.iconst 1, 1) := by decide +kernel
theorem dX7_readDirector_11 : decode cX7_readDirector 11 = .ok (.goto 4, 3) := by decide +kernel
theorem dX7_readDirector_14 : decode cX7_readDirector 14 = .ok (.iconst 0, 1) := by decide +kernel
theorem dX7_readDirector_15 : decode cX7_readDirector 15 = .ok (.putfield 27, 3) := by decide +kernel
theorem dX7_readDirector_18 : decode cX7_readDirector 18 = .ok (.aload_n 0, 1) := by decide +kernel
theorem dX7_readDirector_19 : decode cX7_readDirector 19 = .ok (.iconst 1, 1) := by decide +kernel
theorem dX7_readDirector_20 : decode cX7_readDirector 20 = .ok (.bipush 40, 2) := by decide +kernel
theorem dX7_readDirector_22 : decode cX7_readDirector 22 = .ok (.invokevirtual 63, 3) := by decide +kernel
theorem dX7_readDirector_25 : decode cX7_readDirector 25 = .ok (.istore_n 2, 1) := by decide +kernel
theorem dX7_readDirector_26 : decode cX7_readDirector 26 = .ok (.aload_n 0, 1) := by decide +kernel
theorem dX7_readDirector_27 : decode cX7_readDirector 27 = .ok (.iconst 0, 1) := by decide +kernel
theorem dX7_readDirector_28 : decode cX7_readDirector 28 = .ok (.bipush 30, 2) := by decide +kernel
theorem dX7_readDirector_30 : decode cX7_readDirector 30 = .ok (.invokevirtual 63, 3) := by decide +kernel
theorem dX7_readDirector_33 : decode cX7_readDirector 33 = .ok (.istore_n 3, 1) := by decide +kernel
theorem dX7_readDirector_34 : decode cX7_readDirector 34 = .ok (.aload_n 0, 1) := by decide +kernel
theorem dX7_readDirector_35 : decode cX7_readDirector 35 = .ok (.iconst 0, 1) := by decide +kernel
theorem dX7_readDirector_36 : decode cX7_readDirector 36 = .ok (.iconst 5, 1) := by decide +kernel
theorem dX7_readDirector_37 : decode cX7_readDirector 37 = .ok (.invokevirtual 63, 3) := by decide +kernel
theorem dX7_readDirector_40 : decode cX7_readDirector 40 = .ok (.istore 4, 2) := by decide +kernel
theorem dX7_readDirector_42 : decode cX7_readDirector 42 = .ok (.aload_n 0, 1) := by decide +kernel
theorem dX7_readDirector_43 : decode cX7_readDirector 43 = .ok (.iconst 0, 1) := by decide +kernel
theorem dX7_readDirector_44 : decode cX7_readDirector 44 = .ok (.aload_n 1, 1) := by decide +kernel
theorem dX7_readDirector_45 : decode cX7_readDirector 45 = .ok (.getfield 70, 3) := by decide +kernel
theorem dX7_readDirector_48 : decode cX7_readDirector 48 = .ok (.iconst 1, 1) := by decide +kernel
theorem dX7_readDirector_49 : decode cX7_readDirector 49 = .ok (.isub, 1) := by decide +kernel
theorem dX7_readDirector_50 : decode cX7_readDirector 50 = .ok (.invokevirtual 63, 3) := by decide +kernel
theorem dX7_readDirector_53 : decode cX7_readDirector 53 = .ok (.istore 5, 2) := by decide +kernel
theorem dX7_readDirector_55 : decode cX7_readDirector 55 = .ok (.aload_n 0, 1) := by decide +kernel
theorem dX7_readDirector_56 : decode cX7_readDirector 56 = .ok (.invokevirtual 67, 3) := by decide +kernel
theorem dX7_readDirector_59 : decode cX7_readDirector 59 = .ok (.aload_n 0, 1) := by decide +kernel
theorem dX7_readDirector_60 : decode cX7_readDirector 60 = .ok (.getfield 27, 3) := by decide +kernel
theorem dX7_readDirector_63 : decode cX7_readDirector 63 = .ok (.ifCond .ne 13, 3) := by decide +kernel
theorem dX7_readDirector_66 : decode cX7_readDirector 66 = .ok (.aload_n 1, 1) := by decide +kernel
theorem dX7_readDirector_67 : decode cX7_readDirector 67 = .ok (.iload_n 2, 1) := by decide +kernel
theorem dX7_readDirector_68 : decode cX7_readDirector 68 = .ok (.iload_n 3, 1) := by decide +kernel
theorem dX7_readDirector_69 : decode cX7_readDirector 69 = .ok (.iload 4, 2) := by decide +kernel
theorem dX7_readDirector_71 : decode cX7_readDirector 71 = .ok (.iload 5, 2) := by decide +kernel
theorem dX7_readDirector_73 : decode cX7_readDirector 73 = .ok (.invokevirtual 87, 3) := by decide +kernel
theorem dX7_readDirector_76 : decode cX7_readDirector 76 = .ok (.return_, 1) := by decide +kernel
theorem dX7_readFriends_0 : decode cX7_readFriends 0 = .ok (.aload_n 0, 1) := by decide +kernel
theorem dX7_readFriends_1 : decode cX7_readFriends 1 = .ok (.iconst 0, 1) := by decide +kernel
theorem dX7_readFriends_2 : decode cX7_readFriends 2 = .ok (.aload_n 1, 1) := by decide +kernel
theorem dX7_readFriends_3 : decode cX7_readFriends 3 = .ok (.getfield 84, 3) := by decide +kernel
theorem dX7_readFriends_6 : decode cX7_readFriends 6 = .ok (.iconst 1, 1) := by decide +kernel
theorem dX7_readFriends_7 : decode cX7_readFriends 7 = .ok (.isub, 1) := by decide +kernel
theorem dX7_readFriends_8 : decode cX7_readFriends 8 = .ok (.invokevirtual 63, 3) := by decide +kernel
theorem dX7_readFriends_11 : decode cX7_readFriends 11 = .ok (.istore_n 2, 1) := by decide +kernel
theorem dX7_readFriends_12 : decode cX7_readFriends 12 = .ok (.aload_n 0, 1) := by decide +kernel
theorem dX7_readFriends_13 : decode cX7_readFriends 13 = .ok (.iconst 0, 1) := by decide +kernel
theorem dX7_readFriends_14 : decode cX7_readFriends 14 = .ok (.aload_n 1, 1) := by decide +kernel
theorem dX7_readFriends_15 : decode cX7_readFriends 15 = .ok (.getfield 84, 3) := by decide +kernel
theorem dX7_readFriends_18 : decode cX7_readFriends 18 = .ok (.iconst 1, 1) := by decide +kernel
theorem dX7_readFriends_19 : decode cX7_readFriends 19 = .ok (.isub, 1) := by decide +kernel
theorem dX7_readFriends_20 : decode cX7_readFriends 20 = .ok (.invokevirtual 63, 3) := by decide +kernel
theorem dX7_readFriends_23 : decode cX7_readFriends 23 = .ok (.istore_n 3, 1) := by decide +kernel
theorem dX7_readFriends_24 : decode cX7_readFriends 24 = .ok (.aload_n 0, 1) := by decide +kernel
theorem dX7_readFriends_25 : decode cX7_readFriends 25 = .ok (.iload_n 2, 1) := by decide +kernel
theorem dX7_readFriends_26 : decode cX7_readFriends 26 = .ok (.iload_n 3, 1) := by decide +kernel
theorem dX7_readFriends_27 : decode cX7_readFriends 27 = .ok (.invokevirtual 76, 3) := by decide +kernel
theorem dX7_readFriends_30 : decode cX7_readFriends 30 = .ok (.aload_n 0, 1) := by decide +kernel
theorem dX7_readFriends_31 : decode cX7_readFriends 31 = .ok (.invokevirtual 67, 3) := by decide +kernel
theorem dX7_readFriends_34 : decode cX7_readFriends 34 = .ok (.aload_n 0, 1) := by decide +kernel
theorem dX7_readFriends_35 : decode cX7_readFriends 35 = .ok (.getfield 27, 3) := by decide +kernel
theorem dX7_readFriends_38 : decode cX7_readFriends 38 = .ok (.ifCond .ne 9, 3) := by decide +kernel
theorem dX7_readFriends_41 : decode cX7_readFriends 41 = .ok (.aload_n 1, 1) := by decide +kernel
theorem dX7_readFriends_42 : decode cX7_readFriends 42 = .ok (.iload_n 2, 1) := by decide +kernel
theorem dX7_readFriends_43 : decode cX7_readFriends 43 = .ok (.iload_n 3, 1) := by decide +kernel
theorem dX7_readFriends_44 : decode cX7_readFriends 44 = .ok (.invokevirtual 91, 3) := by decide +kernel
theorem dX7_readFriends_47 : decode cX7_readFriends 47 = .ok (.return_, 1) := by decide +kernel
theorem dX7_readChild_0 : decode cX7_readChild 0 = .ok (.aload_n 0, 1) := by decide +kernel
theorem dX7_readChild_1 : decode cX7_readChild 1 = .ok (.aload_n 1, 1) := by decide +kernel
theorem dX7_readChild_2 : decode cX7_readChild 2 = .ok (.getfield 94, 3) := by decide +kernel
theorem dX7_readChild_5 : decode cX7_readChild 5 = .ok (.iconst 4, 1) := by decide +kernel
theorem dX7_readChild_6 : decode cX7_readChild 6 = .ok (.if_icmp .lt 7, 3) := by decide +kernel
theorem dX7_readChild_9 : decode cX7_readChild 9 = .ok (.iconst 1, 1) := by decide +kernel
theorem dX7_readChild_10 : decode cX7_readChild 10 = .ok (.goto 4, 3) := by decide +kernel
theorem dX7_readChild_13 : decode cX7_readChild 13 = .ok (.iconst 0, 1) := by decide +kernel
theorem dX7_readChild_14 : decode cX7_readChild 14 = .ok (.putfield 27, 3) := by decide +kernel
theorem dX7_readChild_17 : decode cX7_readChild 17 = .ok (.aload_n 0, 1) := by decide +kernel
theorem dX7_readChild_18 : decode cX7_readChild 18 = .ok (.iconst 1, 1) := by decide +kernel
theorem dX7_readChild_19 : decode cX7_readChild 19 = .ok (.bipush 9, 2) := by decide +kernel
theorem dX7_readChild_21 : decode cX7_readChild 21 = .ok (.invokevirtual 63, 3) := by decide +kernel
theorem dX7_readChild_24 : decode cX7_readChild 24 = .ok (.istore_n 2, 1) := by decide +kernel
theorem dX7_readChild_25 : decode cX7_readChild 25 = .ok (.aload_n 0, 1) := by decide +kernel
theorem dX7_readChild_26 : decode cX7_readChild 26 = .ok (.invokevirtual 67, 3) := by decide +kernel
theorem dX7_readChild_29 : decode cX7_readChild 29 = .ok (.aload_n 0, 1) := by decide +kernel
theorem dX7_readChild_30 : decode cX7_readChild 30 = .ok (.getfield 27, 3) := by decide +kernel
theorem dX7_readChild_33 : decode cX7_readChild 33 = .ok (.ifCond .ne 8, 3) := by decide +kernel
theorem dX7_readChild_36 : decode cX7_readChild 36 = .ok (.aload_n 1, 1) := by decide +kernel
theorem dX7_readChild_37 : decode cX7_readChild 37 = .ok (.iload_n 2, 1) := by decide +kernel
theorem dX7_readChild_38 : decode cX7_readChild 38 = .ok (.invokevirtual 97, 3) := by decide +kernel
theorem dX7_readChild_41 : decode cX7_readChild 41 = .ok (.return_, 1) := by decide +kernel
theorem dX7_readNumber_0 : decode cX7_readNumber 0 = .ok (.aload_n 0, 1) := by decide +kernel
theorem dX7_readNumber_1 : decode cX7_readNumber 1 = .ok (.getfield 27, 3) := by decide +kernel
theorem dX7_readNumber_4 : decode cX7_readNumber 4 = .ok (.ifCond .eq 5, 3) := by decide +kernel
theorem dX7_readNumber_7 : decode cX7_readNumber 7 = .ok (.iload_n 1, 1) := by decide +kernel
theorem dX7_readNumber_8 : decode cX7_readNumber 8 = .ok (.ireturn, 1) := by decide +kernel
theorem dX7_readNumber_9 : decode cX7_readNumber 9 = .ok (.aload_n 0, 1) := by decide +kernel
theorem dX7_readNumber_10 : decode cX7_readNumber 10 = .ok (.invokevirtual 31, 3) := by decide +kernel
theorem dX7_readNumber_13 : decode cX7_readNumber 13 = .ok (.aload_n 0, 1) := by decide +kernel
theorem dX7_readNumber_14 : decode cX7_readNumber 14 = .ok (.aload_n 0, 1) := by decide +kernel
theorem dX7_readNumber_15 : decode cX7_readNumber 15 = .ok (.getfield 34, 3) := by decide +kernel
theorem dX7_readNumber_18 : decode cX7_readNumber 18 = .ok (.iconst 2, 1) := by decide +kernel
theorem dX7_readNumber_19 : decode cX7_readNumber 19 = .ok (.if_icmp .ne 19, 3) := by decide +kernel
theorem dX7_readNumber_22 : decode cX7_readNumber 22 = .ok (.aload_n 0, 1) := by decide +kernel
theorem dX7_readNumber_23 : decode cX7_readNumber 23 = .ok (.getfield 44, 3) := by decide +kernel
theorem dX7_readNumber_26 : decode cX7_readNumber 26 = .ok (.iload_n 1, 1) := by decide +kernel
theorem dX7_readNumber_27 : decode cX7_readNumber 27 = .ok (.if_icmp .lt 11, 3) := by decide +kernel
theorem dX7_readNumber_30 : decode cX7_readNumber 30 = .ok (.aload_n 0, 1) := by decide +kernel
theorem dX7_readNumber_31 : decode cX7_readNumber 31 = .ok (.getfield 44, 3) := by decide +kernel
theorem dX7_readNumber_34 : decode cX7_readNumber 34 = .ok (.iload_n 2, 1) := by decide +kernel
theorem dX7_readNumber_35 : decode cX7_readNumber 35 = .ok (.if_icmp .le 7, 3) := by decide +kernel
theorem dX7_readNumber_38 : decode cX7_readNumber 38 = .ok (.iconst 1, 1) := by decide +kernel
theorem dX7_readNumber_39 : decode cX7_readNumber 39 = .ok (.goto 4, 3) := by decide +kernel
theorem dX7_readNumber_42 : decode cX7_readNumber 42 = .ok (.iconst 0, 1) := by decide +kernel
theorem dX7_readNumber_43 : decode cX7_readNumber 43 = .ok (.putfield 27, 3) := by decide +kernel
theorem dX7_readNumber_46 : decode cX7_readNumber 46 = .ok (.aload_n 0, 1) := by decide +kernel
theorem dX7_readNumber_47 : decode cX7_readNumber 47 = .ok (.getfield 44, 3) := by decide +kernel
theorem dX7_readNumber_50 : decode cX7_readNumber 50 = .ok (.ireturn, 1) := by decide +kernel
theorem dX7_refuseAlike_0 : decode cX7_refuseAlike 0 = .ok (.aload_n 0, 1) := by decide +kernel
theorem dX7_refuseAlike_1 : decode cX7_refuseAlike 1 = .ok (.aload_n 0, 1) := by decide +kernel
theorem dX7_refuseAlike_2 : decode cX7_refuseAlike 2 = .ok (.getfield 27, 3) := by decide +kernel
theorem dX7_refuseAlike_5 : decode cX7_refuseAlike 5 = .ok (.ifCond .ne 8, 3) := by decide +kernel
theorem dX7_refuseAlike_8 : decode cX7_refuseAlike 8 = .ok (.iload_n 1, 1) := by decide +kernel
theorem dX7_refuseAlike_9 : decode cX7_refuseAlike 9 = .ok (.iload_n 2, 1) := by decide +kernel
theorem dX7_refuseAlike_10 : decode cX7_refuseAlike 10 = .ok (.if_icmp .ne 7, 3) := by decide +kernel
theorem dX7_refuseAlike_13 : decode cX7_refuseAlike 13 = .ok (.iconst 1, 1) := by decide +kernel
theorem dX7_refuseAlike_14 : decode cX7_refuseAlike 14 = .ok (.goto 4, 3) := by decide +kernel
theorem dX7_refuseAlike_17 : decode cX7_refuseAlike 17 = .ok (.iconst 0, 1) := by decide +kernel
theorem dX7_refuseAlike_18 : decode cX7_refuseAlike 18 = .ok (.putfield 27, 3) := by decide +kernel
theorem dX7_refuseAlike_21 : decode cX7_refuseAlike 21 = .ok (.return_, 1) := by decide +kernel
theorem dX7_readStop_0 : decode cX7_readStop 0 = .ok (.aload_n 0, 1) := by decide +kernel
theorem dX7_readStop_1 : decode cX7_readStop 1 = .ok (.getfield 27, 3) := by decide +kernel
theorem dX7_readStop_4 : decode cX7_readStop 4 = .ok (.ifCond .ne 24, 3) := by decide +kernel
theorem dX7_readStop_7 : decode cX7_readStop 7 = .ok (.aload_n 0, 1) := by decide +kernel
theorem dX7_readStop_8 : decode cX7_readStop 8 = .ok (.invokevirtual 31, 3) := by decide +kernel
theorem dX7_readStop_11 : decode cX7_readStop 11 = .ok (.aload_n 0, 1) := by decide +kernel
theorem dX7_readStop_12 : decode cX7_readStop 12 = .ok (.aload_n 0, 1) := by decide +kernel
theorem dX7_readStop_13 : decode cX7_readStop 13 = .ok (.getfield 34, 3) := by decide +kernel
theorem dX7_readStop_16 : decode cX7_readStop 16 = .ok (.iconst 3, 1) := by decide +kernel
theorem dX7_readStop_17 : decode cX7_readStop 17 = .ok (.if_icmp .eq 7, 3) := by decide +kernel
theorem dX7_readStop_20 : decode cX7_readStop 20 = .ok (.iconst 1, 1) := by decide +kernel
theorem dX7_readStop_21 : decode cX7_readStop 21 = .ok (.goto 4, 3) := by decide +kernel
theorem dX7_readStop_24 : decode cX7_readStop 24 = .ok (.iconst 0, 1) := by decide +kernel
theorem dX7_readStop_25 : decode cX7_readStop 25 = .ok (.putfield 27, 3) := by decide +kernel
theorem dX7_readStop_28 : decode cX7_readStop 28 = .ok (.return_, 1) := by decide +kernel
theorem dX7_nextToken_0 : decode cX7_nextToken 0 = .ok (.aload_n 0, 1) := by decide +kernel
theorem dX7_nextToken_1 : decode cX7_nextToken 1 = .ok (.getfield 24, 3) := by decide +kernel
theorem dX7_nextToken_4 : decode cX7_nextToken 4 = .ok (.aload_n 0, 1) := by decide +kernel
theorem dX7_nextToken_5 : decode cX7_nextToken 5 = .ok (.getfield 15, 3) := by decide +kernel
theorem dX7_nextToken_8 : decode cX7_nextToken 8 = .ok (.if_icmp .ge 30, 3) := by decide +kernel
theorem dX7_nextToken_11 : decode cX7_nextToken 11 = .ok (.aload_n 0, 1) := by decide +kernel
theorem dX7_nextToken_12 : decode cX7_nextToken 12 = .ok (.getfield 9, 3) := by decide +kernel
theorem dX7_nextToken_15 : decode cX7_nextToken 15 = .ok (.aload_n 0, 1) := by decide +kernel
theorem dX7_nextToken_16 : decode cX7_nextToken 16 = .ok (.getfield 24, 3) := by decide +kernel
theorem dX7_nextToken_19 : decode cX7_nextToken 19 = .ok (.iaload, 1) := by decide +kernel
theorem dX7_nextToken_20 : decode cX7_nextToken 20 = .ok (.bipush 32, 2) := by decide +kernel
theorem dX7_nextToken_22 : decode cX7_nextToken 22 = .ok (.if_icmp .ne 16, 3) := by decide +kernel
theorem dX7_nextToken_25 : decode cX7_nextToken 25 = .ok (.aload_n 0, 1) := by decide +kernel
theorem dX7_nextToken_26 : decode cX7_nextToken 26 = .ok (.dup, 1) := by decide +kernel
theorem dX7_nextToken_27 : decode cX7_nextToken 27 = .ok (.getfield 24, 3) := by decide +kernel
theorem dX7_nextToken_30 : decode cX7_nextToken 30 = .ok (.iconst 1, 1) := by decide +kernel
theorem dX7_nextToken_31 : decode cX7_nextToken 31 = .ok (.iadd, 1) := by decide +kernel
theorem dX7_nextToken_32 : decode cX7_nextToken 32 = .ok (.putfield 24, 3) := by decide +kernel
theorem dX7_nextToken_35 : decode cX7_nextToken 35 = .ok (.goto (-35), 3) := by decide +kernel
theorem dX7_nextToken_38 : decode cX7_nextToken 38 = .ok (.aload_n 0, 1) := by decide +kernel
theorem dX7_nextToken_39 : decode cX7_nextToken 39 = .ok (.aload_n 0, 1) := by decide +kernel
theorem dX7_nextToken_40 : decode cX7_nextToken 40 = .ok (.getfield 24, 3) := by decide +kernel
theorem dX7_nextToken_43 : decode cX7_nextToken 43 = .ok (.putfield 41, 3) := by decide +kernel
theorem dX7_nextToken_46 : decode cX7_nextToken 46 = .ok (.aload_n 0, 1) := by decide +kernel
theorem dX7_nextToken_47 : decode cX7_nextToken 47 = .ok (.getfield 24, 3) := by decide +kernel
theorem dX7_nextToken_50 : decode cX7_nextToken 50 = .ok (.aload_n 0, 1) := by decide +kernel
theorem dX7_nextToken_51 : decode cX7_nextToken 51 = .ok (.getfield 15, 3) := by decide +kernel
theorem dX7_nextToken_54 : decode cX7_nextToken 54 = .ok (.if_icmp .lt 11, 3) := by decide +kernel
theorem dX7_nextToken_57 : decode cX7_nextToken 57 = .ok (.aload_n 0, 1) := by decide +kernel
theorem dX7_nextToken_58 : decode cX7_nextToken 58 = .ok (.iconst 0, 1) := by decide +kernel
theorem dX7_nextToken_59 : decode cX7_nextToken 59 = .ok (.putfield 34, 3) := by decide +kernel
theorem dX7_nextToken_62 : decode cX7_nextToken 62 = .ok (.goto 80, 3) := by decide +kernel
theorem dX7_nextToken_65 : decode cX7_nextToken 65 = .ok (.aload_n 0, 1) := by decide +kernel
theorem dX7_nextToken_66 : decode cX7_nextToken 66 = .ok (.getfield 9, 3) := by decide +kernel
theorem dX7_nextToken_69 : decode cX7_nextToken 69 = .ok (.aload_n 0, 1) := by decide +kernel
theorem dX7_nextToken_70 : decode cX7_nextToken 70 = .ok (.getfield 24, 3) := by decide +kernel
theorem dX7_nextToken_73 : decode cX7_nextToken 73 = .ok (.iaload, 1) := by decide +kernel
theorem dX7_nextToken_74 : decode cX7_nextToken 74 = .ok (.invokestatic 101, 3) := by decide +kernel
theorem dX7_nextToken_77 : decode cX7_nextToken 77 = .ok (.ifCond .eq 10, 3) := by decide +kernel
theorem dX7_nextToken_80 : decode cX7_nextToken 80 = .ok (.aload_n 0, 1) := by decide +kernel
theorem dX7_nextToken_81 : decode cX7_nextToken 81 = .ok (.invokevirtual 105, 3) := by decide +kernel
theorem dX7_nextToken_84 : decode cX7_nextToken 84 = .ok (.goto 58, 3) := by decide +kernel
theorem dX7_nextToken_87 : decode cX7_nextToken 87 = .ok (.aload_n 0, 1) := by decide +kernel
theorem dX7_nextToken_88 : decode cX7_nextToken 88 = .ok (.getfield 9, 3) := by decide +kernel
theorem dX7_nextToken_91 : decode cX7_nextToken 91 = .ok (.aload_n 0, 1) := by decide +kernel
theorem dX7_nextToken_92 : decode cX7_nextToken 92 = .ok (.getfield 24, 3) := by decide +kernel
theorem dX7_nextToken_95 : decode cX7_nextToken 95 = .ok (.iaload, 1) := by decide +kernel
theorem dX7_nextToken_96 : decode cX7_nextToken 96 = .ok (.invokestatic 108, 3) := by decide +kernel
theorem dX7_nextToken_99 : decode cX7_nextToken 99 = .ok (.ifCond .eq 10, 3) := by decide +kernel
theorem dX7_nextToken_102 : decode cX7_nextToken 102 = .ok (.aload_n 0, 1) := by decide +kernel
theorem dX7_nextToken_103 : decode cX7_nextToken 103 = .ok (.invokevirtual 111, 3) := by decide +kernel
theorem dX7_nextToken_106 : decode cX7_nextToken 106 = .ok (.goto 36, 3) := by decide +kernel
theorem dX7_nextToken_109 : decode cX7_nextToken 109 = .ok (.aload_n 0, 1) := by decide +kernel
theorem dX7_nextToken_110 : decode cX7_nextToken 110 = .ok (.aload_n 0, 1) := by decide +kernel
theorem dX7_nextToken_111 : decode cX7_nextToken 111 = .ok (.getfield 9, 3) := by decide +kernel
theorem dX7_nextToken_114 : decode cX7_nextToken 114 = .ok (.aload_n 0, 1) := by decide +kernel
theorem dX7_nextToken_115 : decode cX7_nextToken 115 = .ok (.getfield 24, 3) := by decide +kernel
theorem dX7_nextToken_118 : decode cX7_nextToken 118 = .ok (.iaload, 1) := by decide +kernel
theorem dX7_nextToken_119 : decode cX7_nextToken 119 = .ok (.bipush 59, 2) := by decide +kernel
theorem dX7_nextToken_121 : decode cX7_nextToken 121 = .ok (.if_icmp .ne 7, 3) := by decide +kernel
theorem dX7_nextToken_124 : decode cX7_nextToken 124 = .ok (.iconst 3, 1) := by decide +kernel
theorem dX7_nextToken_125 : decode cX7_nextToken 125 = .ok (.goto 4, 3) := by decide +kernel
theorem dX7_nextToken_128 : decode cX7_nextToken 128 = .ok (.iconst 4, 1) := by decide +kernel
theorem dX7_nextToken_129 : decode cX7_nextToken 129 = .ok (.putfield 34, 3) := by decide +kernel
theorem dX7_nextToken_132 : decode cX7_nextToken 132 = .ok (.aload_n 0, 1) := by decide +kernel
theorem dX7_nextToken_133 : decode cX7_nextToken 133 = .ok (.dup, 1) := by decide +kernel
theorem dX7_nextToken_134 : decode cX7_nextToken 134 = .ok (.getfield 24, 3) := by decide +kernel
theorem dX7_nextToken_137 : decode cX7_nextToken 137 = .ok (.iconst 1, 1) := by decide +kernel
theorem dX7_nextToken_138 : decode cX7_nextToken 138 = .ok (.iadd, 1) := by decide +kernel
theorem dX7_nextToken_139 : decode cX7_nextToken 139 = .ok (.putfield 24, 3) := by decide +kernel
theorem dX7_nextToken_142 : decode cX7_nextToken 142 = .ok (.return_, 1) := by decide +kernel
theorem dX7_takeLetters_0 : decode cX7_takeLetters 0 = .ok (.aload_n 0, 1) := by decide +kernel
theorem dX7_takeLetters_1 : decode cX7_takeLetters 1 = .ok (.iconst 1, 1) := by decide +kernel
theorem dX7_takeLetters_2 : decode cX7_takeLetters 2 = .ok (.putfield 34, 3) := by decide +kernel
theorem dX7_takeLetters_5 : decode cX7_takeLetters 5 = .ok (.aload_n 0, 1) := by decide +kernel
theorem dX7_takeLetters_6 : decode cX7_takeLetters 6 = .ok (.aload_n 0, 1) := by decide +kernel
theorem dX7_takeLetters_7 : decode cX7_takeLetters 7 = .ok (.getfield 9, 3) := by decide +kernel
theorem dX7_takeLetters_10 : decode cX7_takeLetters 10 = .ok (.aload_n 0, 1) := by decide +kernel
theorem dX7_takeLetters_11 : decode cX7_takeLetters 11 = .ok (.getfield 24, 3) := by decide +kernel
theorem dX7_takeLetters_14 : decode cX7_takeLetters 14 = .ok (.iaload, 1) := by decide +kernel
theorem dX7_takeLetters_15 : decode cX7_takeLetters 15 = .ok (.putfield 44, 3) := by decide +kernel
theorem dX7_takeLetters_18 : decode cX7_takeLetters 18 = .ok (.aload_n 0, 1) := by decide +kernel
theorem dX7_takeLetters_19 : decode cX7_takeLetters 19 = .ok (.dup, 1) := by decide +kernel
theorem dX7_takeLetters_20 : decode cX7_takeLetters 20 = .ok (.getfield 24, 3) := by decide +kernel
theorem dX7_takeLetters_23 : decode cX7_takeLetters 23 = .ok (.iconst 1, 1) := by decide +kernel
theorem dX7_takeLetters_24 : decode cX7_takeLetters 24 = .ok (.iadd, 1) := by decide +kernel
theorem dX7_takeLetters_25 : decode cX7_takeLetters 25 = .ok (.putfield 24, 3) := by decide +kernel
theorem dX7_takeLetters_28 : decode cX7_takeLetters 28 = .ok (.aload_n 0, 1) := by decide +kernel
theorem dX7_takeLetters_29 : decode cX7_takeLetters 29 = .ok (.getfield 24, 3) := by decide +kernel
theorem dX7_takeLetters_32 : decode cX7_takeLetters 32 = .ok (.aload_n 0, 1) := by decide +kernel
theorem dX7_takeLetters_33 : decode cX7_takeLetters 33 = .ok (.getfield 15, 3) := by decide +kernel
theorem dX7_takeLetters_36 : decode cX7_takeLetters 36 = .ok (.if_icmp .ge 36, 3) := by decide +kernel
theorem dX7_takeLetters_39 : decode cX7_takeLetters 39 = .ok (.aload_n 0, 1) := by decide +kernel
theorem dX7_takeLetters_40 : decode cX7_takeLetters 40 = .ok (.getfield 9, 3) := by decide +kernel
theorem dX7_takeLetters_43 : decode cX7_takeLetters 43 = .ok (.aload_n 0, 1) := by decide +kernel
theorem dX7_takeLetters_44 : decode cX7_takeLetters 44 = .ok (.getfield 24, 3) := by decide +kernel
theorem dX7_takeLetters_47 : decode cX7_takeLetters 47 = .ok (.iaload, 1) := by decide +kernel
theorem dX7_takeLetters_48 : decode cX7_takeLetters 48 = .ok (.invokestatic 101, 3) := by decide +kernel
theorem dX7_takeLetters_51 : decode cX7_takeLetters 51 = .ok (.ifCond .eq 21, 3) := by decide +kernel
theorem dX7_takeLetters_54 : decode cX7_takeLetters 54 = .ok (.aload_n 0, 1) := by decide +kernel
theorem dX7_takeLetters_55 : decode cX7_takeLetters 55 = .ok (.iconst 0, 1) := by decide +kernel
theorem dX7_takeLetters_56 : decode cX7_takeLetters 56 = .ok (.putfield 44, 3) := by decide +kernel
theorem dX7_takeLetters_59 : decode cX7_takeLetters 59 = .ok (.aload_n 0, 1) := by decide +kernel
theorem dX7_takeLetters_60 : decode cX7_takeLetters 60 = .ok (.dup, 1) := by decide +kernel
theorem dX7_takeLetters_61 : decode cX7_takeLetters 61 = .ok (.getfield 24, 3) := by decide +kernel
theorem dX7_takeLetters_64 : decode cX7_takeLetters 64 = .ok (.iconst 1, 1) := by decide +kernel
theorem dX7_takeLetters_65 : decode cX7_takeLetters 65 = .ok (.iadd, 1) := by decide +kernel
theorem dX7_takeLetters_66 : decode cX7_takeLetters 66 = .ok (.putfield 24, 3) := by decide +kernel
theorem dX7_takeLetters_69 : decode cX7_takeLetters 69 = .ok (.goto (-41), 3) := by decide +kernel
theorem dX7_takeLetters_72 : decode cX7_takeLetters 72 = .ok (.return_, 1) := by decide +kernel
theorem dX7_takeNumber_0 : decode cX7_takeNumber 0 = .ok (.aload_n 0, 1) := by decide +kernel
theorem dX7_takeNumber_1 : decode cX7_takeNumber 1 = .ok (.getfield 9, 3) := by decide +kernel
theorem dX7_takeNumber_4 : decode cX7_takeNumber 4 = .ok (.aload_n 0, 1) := by decide +kernel
theorem dX7_takeNumber_5 : decode cX7_takeNumber 5 = .ok (.getfield 24, 3) := by decide +kernel
theorem dX7_takeNumber_8 : decode cX7_takeNumber 8 = .ok (.iaload, 1) := by decide +kernel
theorem dX7_takeNumber_9 : decode cX7_takeNumber 9 = .ok (.bipush 48, 2) := by decide +kernel
theorem dX7_takeNumber_11 : decode cX7_takeNumber 11 = .ok (.if_icmp .ne 7, 3) := by decide +kernel
theorem dX7_takeNumber_14 : decode cX7_takeNumber 14 = .ok (.iconst 1, 1) := by decide +kernel
theorem dX7_takeNumber_15 : decode cX7_takeNumber 15 = .ok (.goto 4, 3) := by decide +kernel
theorem dX7_takeNumber_18 : decode cX7_takeNumber 18 = .ok (.iconst 0, 1) := by decide +kernel
theorem dX7_takeNumber_19 : decode cX7_takeNumber 19 = .ok (.istore_n 1, 1) := by decide +kernel
theorem dX7_takeNumber_20 : decode cX7_takeNumber 20 = .ok (.aload_n 0, 1) := by decide +kernel
theorem dX7_takeNumber_21 : decode cX7_takeNumber 21 = .ok (.iconst 0, 1) := by decide +kernel
theorem dX7_takeNumber_22 : decode cX7_takeNumber 22 = .ok (.putfield 44, 3) := by decide +kernel
theorem dX7_takeNumber_25 : decode cX7_takeNumber 25 = .ok (.aload_n 0, 1) := by decide +kernel
theorem dX7_takeNumber_26 : decode cX7_takeNumber 26 = .ok (.getfield 24, 3) := by decide +kernel
theorem dX7_takeNumber_29 : decode cX7_takeNumber 29 = .ok (.aload_n 0, 1) := by decide +kernel
theorem dX7_takeNumber_30 : decode cX7_takeNumber 30 = .ok (.getfield 15, 3) := by decide +kernel
theorem dX7_takeNumber_33 : decode cX7_takeNumber 33 = .ok (.if_icmp .ge 60, 3) := by decide +kernel
theorem dX7_takeNumber_36 : decode cX7_takeNumber 36 = .ok (.aload_n 0, 1) := by decide +kernel
theorem dX7_takeNumber_37 : decode cX7_takeNumber 37 = .ok (.getfield 9, 3) := by decide +kernel
theorem dX7_takeNumber_40 : decode cX7_takeNumber 40 = .ok (.aload_n 0, 1) := by decide +kernel
theorem dX7_takeNumber_41 : decode cX7_takeNumber 41 = .ok (.getfield 24, 3) := by decide +kernel
theorem dX7_takeNumber_44 : decode cX7_takeNumber 44 = .ok (.iaload, 1) := by decide +kernel
theorem dX7_takeNumber_45 : decode cX7_takeNumber 45 = .ok (.invokestatic 108, 3) := by decide +kernel
theorem dX7_takeNumber_48 : decode cX7_takeNumber 48 = .ok (.ifCond .eq 45, 3) := by decide +kernel
theorem dX7_takeNumber_51 : decode cX7_takeNumber 51 = .ok (.aload_n 0, 1) := by decide +kernel
theorem dX7_takeNumber_52 : decode cX7_takeNumber 52 = .ok (.bipush 100, 2) := by decide +kernel
theorem dX7_takeNumber_54 : decode cX7_takeNumber 54 = .ok (.aload_n 0, 1) := by decide +kernel
theorem dX7_takeNumber_55 : decode cX7_takeNumber 55 = .ok (.getfield 44, 3) := by decide +kernel
theorem dX7_takeNumber_58 : decode cX7_takeNumber 58 = .ok (.bipush 10, 2) := by decide +kernel
theorem dX7_takeNumber_60 : decode cX7_takeNumber 60 = .ok (.imul, 1) := by decide +kernel
theorem dX7_takeNumber_61 : decode cX7_takeNumber 61 = .ok (.aload_n 0, 1) := by decide +kernel
theorem dX7_takeNumber_62 : decode cX7_takeNumber 62 = .ok (.getfield 9, 3) := by decide +kernel
theorem dX7_takeNumber_65 : decode cX7_takeNumber 65 = .ok (.aload_n 0, 1) := by decide +kernel
theorem dX7_takeNumber_66 : decode cX7_takeNumber 66 = .ok (.getfield 24, 3) := by decide +kernel
theorem dX7_takeNumber_69 : decode cX7_takeNumber 69 = .ok (.iaload, 1) := by decide +kernel
theorem dX7_takeNumber_70 : decode cX7_takeNumber 70 = .ok (.iadd, 1) := by decide +kernel
theorem dX7_takeNumber_71 : decode cX7_takeNumber 71 = .ok (.bipush 48, 2) := by decide +kernel
theorem dX7_takeNumber_73 : decode cX7_takeNumber 73 = .ok (.isub, 1) := by decide +kernel
theorem dX7_takeNumber_74 : decode cX7_takeNumber 74 = .ok (.invokestatic 114, 3) := by decide +kernel
theorem dX7_takeNumber_77 : decode cX7_takeNumber 77 = .ok (.putfield 44, 3) := by decide +kernel
theorem dX7_takeNumber_80 : decode cX7_takeNumber 80 = .ok (.aload_n 0, 1) := by decide +kernel
theorem dX7_takeNumber_81 : decode cX7_takeNumber 81 = .ok (.dup, 1) := by decide +kernel
theorem dX7_takeNumber_82 : decode cX7_takeNumber 82 = .ok (.getfield 24, 3) := by decide +kernel
theorem dX7_takeNumber_85 : decode cX7_takeNumber 85 = .ok (.iconst 1, 1) := by decide +kernel
theorem dX7_takeNumber_86 : decode cX7_takeNumber 86 = .ok (.iadd, 1) := by decide +kernel
theorem dX7_takeNumber_87 : decode cX7_takeNumber 87 = .ok (.putfield 24, 3) := by decide +kernel
theorem dX7_takeNumber_90 : decode cX7_takeNumber 90 = .ok (.goto (-65), 3) := by decide +kernel
theorem dX7_takeNumber_93 : decode cX7_takeNumber 93 = .ok (.iload_n 1, 1) := by decide +kernel
theorem dX7_takeNumber_94 : decode cX7_takeNumber 94 = .ok (.ifCond .eq 20, 3) := by decide +kernel
theorem dX7_takeNumber_97 : decode cX7_takeNumber 97 = .ok (.aload_n 0, 1) := by decide +kernel
theorem dX7_takeNumber_98 : decode cX7_takeNumber 98 = .ok (.getfield 24, 3) := by decide +kernel
theorem dX7_takeNumber_101 : decode cX7_takeNumber 101 = .ok (.aload_n 0, 1) := by decide +kernel
theorem dX7_takeNumber_102 : decode cX7_takeNumber 102 = .ok (.getfield 41, 3) := by decide +kernel
theorem dX7_takeNumber_105 : decode cX7_takeNumber 105 = .ok (.iconst 1, 1) := by decide +kernel
theorem dX7_takeNumber_106 : decode cX7_takeNumber 106 = .ok (.iadd, 1) := by decide +kernel
theorem dX7_takeNumber_107 : decode cX7_takeNumber 107 = .ok (.if_icmp .le 7, 3) := by decide +kernel
theorem dX7_takeNumber_110 : decode cX7_takeNumber 110 = .ok (.iconst 1, 1) := by decide +kernel
theorem dX7_takeNumber_111 : decode cX7_takeNumber 111 = .ok (.goto 4, 3) := by decide +kernel
theorem dX7_takeNumber_114 : decode cX7_takeNumber 114 = .ok (.iconst 0, 1) := by decide +kernel
theorem dX7_takeNumber_115 : decode cX7_takeNumber 115 = .ok (.istore_n 2, 1) := by decide +kernel
theorem dX7_takeNumber_116 : decode cX7_takeNumber 116 = .ok (.aload_n 0, 1) := by decide +kernel
theorem dX7_takeNumber_117 : decode cX7_takeNumber 117 = .ok (.iload_n 2, 1) := by decide +kernel
theorem dX7_takeNumber_118 : decode cX7_takeNumber 118 = .ok (.ifCond .ne 12, 3) := by decide +kernel
theorem dX7_takeNumber_121 : decode cX7_takeNumber 121 = .ok (.aload_n 0, 1) := by decide +kernel
theorem dX7_takeNumber_122 : decode cX7_takeNumber 122 = .ok (.getfield 44, 3) := by decide +kernel
theorem dX7_takeNumber_125 : decode cX7_takeNumber 125 = .ok (.bipush 99, 2) := by decide +kernel
theorem dX7_takeNumber_127 : decode cX7_takeNumber 127 = .ok (.if_icmp .le 7, 3) := by decide +kernel
theorem dX7_takeNumber_130 : decode cX7_takeNumber 130 = .ok (.iconst 4, 1) := by decide +kernel
theorem dX7_takeNumber_131 : decode cX7_takeNumber 131 = .ok (.goto 4, 3) := by decide +kernel
theorem dX7_takeNumber_134 : decode cX7_takeNumber 134 = .ok (.iconst 2, 1) := by decide +kernel
theorem dX7_takeNumber_135 : decode cX7_takeNumber 135 = .ok (.putfield 34, 3) := by decide +kernel
theorem dX7_takeNumber_138 : decode cX7_takeNumber 138 = .ok (.return_, 1) := by decide +kernel
theorem dX7_isLetter_0 : decode cX7_isLetter 0 = .ok (.iload_n 0, 1) := by decide +kernel
theorem dX7_isLetter_1 : decode cX7_isLetter 1 = .ok (.bipush 97, 2) := by decide +kernel
theorem dX7_isLetter_3 : decode cX7_isLetter 3 = .ok (.if_icmp .lt 13, 3) := by decide +kernel
theorem dX7_isLetter_6 : decode cX7_isLetter 6 = .ok (.iload_n 0, 1) := by decide +kernel
theorem dX7_isLetter_7 : decode cX7_isLetter 7 = .ok (.bipush 122, 2) := by decide +kernel
theorem dX7_isLetter_9 : decode cX7_isLetter 9 = .ok (.if_icmp .gt 7, 3) := by decide +kernel
theorem dX7_isLetter_12 : decode cX7_isLetter 12 = .ok (.iconst 1, 1) := by decide +kernel
theorem dX7_isLetter_13 : decode cX7_isLetter 13 = .ok (.goto 4, 3) := by decide +kernel
theorem dX7_isLetter_16 : decode cX7_isLetter 16 = .ok (.iconst 0, 1) := by decide +kernel
theorem dX7_isLetter_17 : decode cX7_isLetter 17 = .ok (.ireturn, 1) := by decide +kernel
theorem dX7_isDigit_0 : decode cX7_isDigit 0 = .ok (.iload_n 0, 1) := by decide +kernel
theorem dX7_isDigit_1 : decode cX7_isDigit 1 = .ok (.bipush 48, 2) := by decide +kernel
theorem dX7_isDigit_3 : decode cX7_isDigit 3 = .ok (.if_icmp .lt 13, 3) := by decide +kernel
theorem dX7_isDigit_6 : decode cX7_isDigit 6 = .ok (.iload_n 0, 1) := by decide +kernel
theorem dX7_isDigit_7 : decode cX7_isDigit 7 = .ok (.bipush 57, 2) := by decide +kernel
theorem dX7_isDigit_9 : decode cX7_isDigit 9 = .ok (.if_icmp .gt 7, 3) := by decide +kernel
theorem dX7_isDigit_12 : decode cX7_isDigit 12 = .ok (.iconst 1, 1) := by decide +kernel
theorem dX7_isDigit_13 : decode cX7_isDigit 13 = .ok (.goto 4, 3) := by decide +kernel
theorem dX7_isDigit_16 : decode cX7_isDigit 16 = .ok (.iconst 0, 1) := by decide +kernel
theorem dX7_isDigit_17 : decode cX7_isDigit 17 = .ok (.ireturn, 1) := by decide +kernel
theorem dX8_init_0 : decode cX8_init 0 = .ok (.aload_n 0, 1) := by decide +kernel
theorem dX8_init_1 : decode cX8_init 1 = .ok (.invokespecial 3, 3) := by decide +kernel
theorem dX8_init_4 : decode cX8_init 4 = .ok (.aload_n 0, 1) := by decide +kernel
theorem dX8_init_5 : decode cX8_init 5 = .ok (.bipush 8, 2) := by decide +kernel
theorem dX8_init_7 : decode cX8_init 7 = .ok (.newarray .int, 2) := by decide +kernel
theorem dX8_init_9 : decode cX8_init 9 = .ok (.putfield 9, 3) := by decide +kernel
theorem dX8_init_12 : decode cX8_init 12 = .ok (.aload_n 0, 1) := by decide +kernel
theorem dX8_init_13 : decode cX8_init 13 = .ok (.bipush 8, 2) := by decide +kernel
theorem dX8_init_15 : decode cX8_init 15 = .ok (.newarray .int, 2) := by decide +kernel
theorem dX8_init_17 : decode cX8_init 17 = .ok (.putfield 15, 3) := by decide +kernel
theorem dX8_init_20 : decode cX8_init 20 = .ok (.return_, 1) := by decide +kernel
theorem dX8_findFrom_0 : decode cX8_findFrom 0 = .ok (.iconst 0, 1) := by decide +kernel
theorem dX8_findFrom_1 : decode cX8_findFrom 1 = .ok (.istore 5, 2) := by decide +kernel
theorem dX8_findFrom_3 : decode cX8_findFrom 3 = .ok (.iload 5, 2) := by decide +kernel
theorem dX8_findFrom_5 : decode cX8_findFrom 5 = .ok (.bipush 8, 2) := by decide +kernel
theorem dX8_findFrom_7 : decode cX8_findFrom 7 = .ok (.if_icmp .ge 28, 3) := by decide +kernel
theorem dX8_findFrom_10 : decode cX8_findFrom 10 = .ok (.aload_n 0, 1) := by decide +kernel
theorem dX8_findFrom_11 : decode cX8_findFrom 11 = .ok (.getfield 9, 3) := by decide +kernel
theorem dX8_findFrom_14 : decode cX8_findFrom 14 = .ok (.iload 5, 2) := by decide +kernel
theorem dX8_findFrom_16 : decode cX8_findFrom 16 = .ok (.iload 5, 2) := by decide +kernel
theorem dX8_findFrom_18 : decode cX8_findFrom 18 = .ok (.iload_n 2, 1) := by decide +kernel
theorem dX8_findFrom_19 : decode cX8_findFrom 19 = .ok (.if_icmp .ne 7, 3) := by decide +kernel
theorem dX8_findFrom_22 : decode cX8_findFrom 22 = .ok (.iconst 0, 1) := by decide +kernel
theorem dX8_findFrom_23 : decode cX8_findFrom 23 = .ok (.goto 5, 3) := by decide +kernel
theorem dX8_findFrom_26 : decode cX8_findFrom 26 = .ok (.ldc 18, 2) := by decide +kernel
theorem dX8_findFrom_28 : decode cX8_findFrom 28 = .ok (.iastore, 1) := by decide +kernel
theorem dX8_findFrom_29 : decode cX8_findFrom 29 = .ok (.iinc 5 1, 3) := by decide +kernel
theorem dX8_findFrom_32 : decode cX8_findFrom 32 = .ok (.goto (-29), 3) := by decide +kernel
theorem dX8_findFrom_35 : decode cX8_findFrom 35 = .ok (.iconst 1, 1) := by decide +kernel
theorem dX8_findFrom_36 : decode cX8_findFrom 36 = .ok (.istore 5, 2) := by decide +kernel
theorem dX8_findFrom_38 : decode cX8_findFrom 38 = .ok (.iload 5, 2) := by decide +kernel
theorem dX8_findFrom_40 : decode cX8_findFrom 40 = .ok (.aload_n 1, 1) := by decide +kernel
theorem dX8_findFrom_41 : decode cX8_findFrom 41 = .ok (.getfield 19, 3) := by decide +kernel
theorem dX8_findFrom_44 : decode cX8_findFrom 44 = .ok (.if_icmp .ge 97, 3) := by decide +kernel
theorem dX8_findFrom_47 : decode cX8_findFrom 47 = .ok (.iconst 0, 1) := by decide +kernel
theorem dX8_findFrom_48 : decode cX8_findFrom 48 = .ok (.istore 6, 2) := by decide +kernel
theorem dX8_findFrom_50 : decode cX8_findFrom 50 = .ok (.iload 6, 2) := by decide +kernel
theorem dX8_findFrom_52 : decode cX8_findFrom 52 = .ok (.aload_n 1, 1) := by decide +kernel
theorem dX8_findFrom_53 : decode cX8_findFrom 53 = .ok (.getfield 25, 3) := by decide +kernel
theorem dX8_findFrom_56 : decode cX8_findFrom 56 = .ok (.if_icmp .ge 79, 3) := by decide +kernel
theorem dX8_findFrom_59 : decode cX8_findFrom 59 = .ok (.iload_n 3, 1) := by decide +kernel
theorem dX8_findFrom_60 : decode cX8_findFrom 60 = .ok (.aload_n 1, 1) := by decide +kernel
theorem dX8_findFrom_61 : decode cX8_findFrom 61 = .ok (.getfield 28, 3) := by decide +kernel
theorem dX8_findFrom_64 : decode cX8_findFrom 64 = .ok (.iload 6, 2) := by decide +kernel
theorem dX8_findFrom_66 : decode cX8_findFrom 66 = .ok (.iaload, 1) := by decide +kernel
theorem dX8_findFrom_67 : decode cX8_findFrom 67 = .ok (.iadd, 1) := by decide +kernel
theorem dX8_findFrom_68 : decode cX8_findFrom 68 = .ok (.iload 4, 2) := by decide +kernel
theorem dX8_findFrom_70 : decode cX8_findFrom 70 = .ok (.if_icmp .gt 59, 3) := by decide +kernel
theorem dX8_findFrom_73 : decode cX8_findFrom 73 = .ok (.iload_n 3, 1) := by decide +kernel
theorem dX8_findFrom_74 : decode cX8_findFrom 74 = .ok (.aload_n 1, 1) := by decide +kernel
theorem dX8_findFrom_75 : decode cX8_findFrom 75 = .ok (.getfield 28, 3) := by decide +kernel
theorem dX8_findFrom_78 : decode cX8_findFrom 78 = .ok (.iload 6, 2) := by decide +kernel
theorem dX8_findFrom_80 : decode cX8_findFrom 80 = .ok (.iaload, 1) := by decide +kernel
theorem dX8_findFrom_81 : decode cX8_findFrom 81 = .ok (.imul, 1) := by decide +kernel
theorem dX8_findFrom_82 : decode cX8_findFrom 82 = .ok (.bipush 16, 2) := by decide +kernel
theorem dX8_findFrom_84 : decode cX8_findFrom 84 = .ok (.imul, 1) := by decide +kernel
theorem dX8_findFrom_85 : decode cX8_findFrom 85 = .ok (.iconst 1, 1) := by decide +kernel
theorem dX8_findFrom_86 : decode cX8_findFrom 86 = .ok (.iadd, 1) := by decide +kernel
theorem dX8_findFrom_87 : decode cX8_findFrom 87 = .ok (.istore 7, 2) := by decide +kernel
theorem dX8_findFrom_89 : decode cX8_findFrom 89 = .ok (.aload_n 0, 1) := by decide +kernel
theorem dX8_findFrom_90 : decode cX8_findFrom 90 = .ok (.aload_n 1, 1) := by decide +kernel
theorem dX8_findFrom_91 : decode cX8_findFrom 91 = .ok (.getfield 31, 3) := by decide +kernel
theorem dX8_findFrom_94 : decode cX8_findFrom 94 = .ok (.iload 6, 2) := by decide +kernel
theorem dX8_findFrom_96 : decode cX8_findFrom 96 = .ok (.iaload, 1) := by decide +kernel
theorem dX8_findFrom_97 : decode cX8_findFrom 97 = .ok (.aload_n 1, 1) := by decide +kernel
theorem dX8_findFrom_98 : decode cX8_findFrom 98 = .ok (.getfield 34, 3) := by decide +kernel
theorem dX8_findFrom_101 : decode cX8_findFrom 101 = .ok (.iload 6, 2) := by decide +kernel
theorem dX8_findFrom_103 : decode cX8_findFrom 103 = .ok (.iaload, 1) := by decide +kernel
theorem dX8_findFrom_104 : decode cX8_findFrom 104 = .ok (.iload 7, 2) := by decide +kernel
theorem dX8_findFrom_106 : decode cX8_findFrom 106 = .ok (.invokevirtual 37, 3) := by decide +kernel
theorem dX8_findFrom_109 : decode cX8_findFrom 109 = .ok (.aload_n 0, 1) := by decide +kernel
theorem dX8_findFrom_110 : decode cX8_findFrom 110 = .ok (.aload_n 1, 1) := by decide +kernel
theorem dX8_findFrom_111 : decode cX8_findFrom 111 = .ok (.getfield 34, 3) := by decide +kernel
theorem dX8_findFrom_114 : decode cX8_findFrom 114 = .ok (.iload 6, 2) := by decide +kernel
theorem dX8_findFrom_116 : decode cX8_findFrom 116 = .ok (.iaload, 1) := by decide +kernel
theorem dX8_findFrom_117 : decode cX8_findFrom 117 = .ok (.aload_n 1, 1) := by decide +kernel
theorem dX8_findFrom_118 : decode cX8_findFrom 118 = .ok (.getfield 31, 3) := by decide +kernel
theorem dX8_findFrom_121 : decode cX8_findFrom 121 = .ok (.iload 6, 2) := by decide +kernel
theorem dX8_findFrom_123 : decode cX8_findFrom 123 = .ok (.iaload, 1) := by decide +kernel
theorem dX8_findFrom_124 : decode cX8_findFrom 124 = .ok (.iload 7, 2) := by decide +kernel
theorem dX8_findFrom_126 : decode cX8_findFrom 126 = .ok (.invokevirtual 37, 3) := by decide +kernel
theorem dX8_findFrom_129 : decode cX8_findFrom 129 = .ok (.iinc 6 1, 3) := by decide +kernel
theorem dX8_findFrom_132 : decode cX8_findFrom 132 = .ok (.goto (-82), 3) := by decide +kernel
theorem dX8_findFrom_135 : decode cX8_findFrom 135 = .ok (.iinc 5 1, 3) := by decide +kernel
theorem dX8_findFrom_138 : decode cX8_findFrom 138 = .ok (.goto (-100), 3) := by decide +kernel
theorem dX8_findFrom_141 : decode cX8_findFrom 141 = .ok (.return_, 1) := by decide +kernel
theorem dX8_lessen_0 : decode cX8_lessen 0 = .ok (.aload_n 0, 1) := by decide +kernel
theorem dX8_lessen_1 : decode cX8_lessen 1 = .ok (.getfield 9, 3) := by decide +kernel
theorem dX8_lessen_4 : decode cX8_lessen 4 = .ok (.iload_n 1, 1) := by decide +kernel
theorem dX8_lessen_5 : decode cX8_lessen 5 = .ok (.iaload, 1) := by decide +kernel
theorem dX8_lessen_6 : decode cX8_lessen 6 = .ok (.ldc 18, 2) := by decide +kernel
theorem dX8_lessen_8 : decode cX8_lessen 8 = .ok (.if_icmp .ge 26, 3) := by decide +kernel
theorem dX8_lessen_11 : decode cX8_lessen 11 = .ok (.aload_n 0, 1) := by decide +kernel
theorem dX8_lessen_12 : decode cX8_lessen 12 = .ok (.getfield 9, 3) := by decide +kernel
theorem dX8_lessen_15 : decode cX8_lessen 15 = .ok (.iload_n 2, 1) := by decide +kernel
theorem dX8_lessen_16 : decode cX8_lessen 16 = .ok (.aload_n 0, 1) := by decide +kernel
theorem dX8_lessen_17 : decode cX8_lessen 17 = .ok (.getfield 9, 3) := by decide +kernel
theorem dX8_lessen_20 : decode cX8_lessen 20 = .ok (.iload_n 2, 1) := by decide +kernel
theorem dX8_lessen_21 : decode cX8_lessen 21 = .ok (.iaload, 1) := by decide +kernel
theorem dX8_lessen_22 : decode cX8_lessen 22 = .ok (.aload_n 0, 1) := by decide +kernel
theorem dX8_lessen_23 : decode cX8_lessen 23 = .ok (.getfield 9, 3) := by decide +kernel
theorem dX8_lessen_26 : decode cX8_lessen 26 = .ok (.iload_n 1, 1) := by decide +kernel
theorem dX8_lessen_27 : decode cX8_lessen 27 = .ok (.iaload, 1) := by decide +kernel
theorem dX8_lessen_28 : decode cX8_lessen 28 = .ok (.iload_n 3, 1) := by decide +kernel
theorem dX8_lessen_29 : decode cX8_lessen 29 = .ok (.iadd, 1) := by decide +kernel
theorem dX8_lessen_30 : decode cX8_lessen 30 = .ok (.invokestatic 41, 3) := by decide +kernel
theorem dX8_lessen_33 : decode cX8_lessen 33 = .ok (.iastore, 1) := by decide +kernel
theorem dX8_lessen_34 : decode cX8_lessen 34 = .ok (.return_, 1) := by decide +kernel
theorem dX8_leadTo_0 : decode cX8_leadTo 0 = .ok (.aload_n 0, 1) := by decide +kernel
theorem dX8_leadTo_1 : decode cX8_leadTo 1 = .ok (.getfield 9, 3) := by decide +kernel
theorem dX8_leadTo_4 : decode cX8_leadTo 4 = .ok (.iload_n 1, 1) := by decide +kernel
theorem dX8_leadTo_5 : decode cX8_leadTo 5 = .ok (.iaload, 1) := by decide +kernel
theorem dX8_leadTo_6 : decode cX8_leadTo 6 = .ok (.ldc 18, 2) := by decide +kernel
theorem dX8_leadTo_8 : decode cX8_leadTo 8 = .ok (.if_icmp .ge 7, 3) := by decide +kernel
theorem dX8_leadTo_11 : decode cX8_leadTo 11 = .ok (.iconst 1, 1) := by decide +kernel
theorem dX8_leadTo_12 : decode cX8_leadTo 12 = .ok (.goto 4, 3) := by decide +kernel
theorem dX8_leadTo_15 : decode cX8_leadTo 15 = .ok (.iconst 0, 1) := by decide +kernel
theorem dX8_leadTo_16 : decode cX8_leadTo 16 = .ok (.ireturn, 1) := by decide +kernel
theorem dX8_wearinessTo_0 : decode cX8_wearinessTo 0 = .ok (.aload_n 0, 1) := by decide +kernel
theorem dX8_wearinessTo_1 : decode cX8_wearinessTo 1 = .ok (.getfield 9, 3) := by decide +kernel
theorem dX8_wearinessTo_4 : decode cX8_wearinessTo 4 = .ok (.iload_n 1, 1) := by decide +kernel
theorem dX8_wearinessTo_5 : decode cX8_wearinessTo 5 = .ok (.iaload, 1) := by decide +kernel
theorem dX8_wearinessTo_6 : decode cX8_wearinessTo 6 = .ok (.bipush 16, 2) := by decide +kernel
theorem dX8_wearinessTo_8 : decode cX8_wearinessTo 8 = .ok (.idiv, 1) := by decide +kernel
theorem dX8_wearinessTo_9 : decode cX8_wearinessTo 9 = .ok (.ireturn, 1) := by decide +kernel
theorem dX8_pathsTo_0 : decode cX8_pathsTo 0 = .ok (.aload_n 0, 1) := by decide +kernel
theorem dX8_pathsTo_1 : decode cX8_pathsTo 1 = .ok (.getfield 9, 3) := by decide +kernel
theorem dX8_pathsTo_4 : decode cX8_pathsTo 4 = .ok (.iload_n 1, 1) := by decide +kernel
theorem dX8_pathsTo_5 : decode cX8_pathsTo 5 = .ok (.iaload, 1) := by decide +kernel
theorem dX8_pathsTo_6 : decode cX8_pathsTo 6 = .ok (.bipush 16, 2) := by decide +kernel
theorem dX8_pathsTo_8 : decode cX8_pathsTo 8 = .ok (.irem, 1) := by decide +kernel
theorem dX8_pathsTo_9 : decode cX8_pathsTo 9 = .ok (.ireturn, 1) := by decide +kernel
theorem dX8_findMeeting_0 : decode cX8_findMeeting 0 = .ok (.iconst 0, 1) := by decide +kernel
theorem dX8_findMeeting_1 : decode cX8_findMeeting 1 = .ok (.istore_n 3, 1) := by decide +kernel
theorem dX8_findMeeting_2 : decode cX8_findMeeting 2 = .ok (.iload_n 3, 1) := by decide +kernel
theorem dX8_findMeeting_3 : decode cX8_findMeeting 3 = .ok (.bipush 8, 2) := by decide +kernel
theorem dX8_findMeeting_5 : decode cX8_findMeeting 5 = .ok (.if_icmp .ge 16, 3) := by decide +kernel
theorem dX8_findMeeting_8 : decode cX8_findMeeting 8 = .ok (.aload_n 0, 1) := by decide +kernel
theorem dX8_findMeeting_9 : decode cX8_findMeeting 9 = .ok (.getfield 15, 3) := by decide +kernel
theorem dX8_findMeeting_12 : decode cX8_findMeeting 12 = .ok (.iload_n 3, 1) := by decide +kernel
theorem dX8_findMeeting_13 : decode cX8_findMeeting 13 = .ok (.iconst 0, 1) := by decide +kernel
theorem dX8_findMeeting_14 : decode cX8_findMeeting 14 = .ok (.iastore, 1) := by decide +kernel
theorem dX8_findMeeting_15 : decode cX8_findMeeting 15 = .ok (.iinc 3 1, 3) := by decide +kernel
theorem dX8_findMeeting_18 : decode cX8_findMeeting 18 = .ok (.goto (-16), 3) := by decide +kernel
theorem dX8_findMeeting_21 : decode cX8_findMeeting 21 = .ok (.iconst 0, 1) := by decide +kernel
theorem dX8_findMeeting_22 : decode cX8_findMeeting 22 = .ok (.istore_n 3, 1) := by decide +kernel
theorem dX8_findMeeting_23 : decode cX8_findMeeting 23 = .ok (.iload_n 3, 1) := by decide +kernel
theorem dX8_findMeeting_24 : decode cX8_findMeeting 24 = .ok (.aload_n 1, 1) := by decide +kernel
theorem dX8_findMeeting_25 : decode cX8_findMeeting 25 = .ok (.getfield 47, 3) := by decide +kernel
theorem dX8_findMeeting_28 : decode cX8_findMeeting 28 = .ok (.if_icmp .ge 85, 3) := by decide +kernel
theorem dX8_findMeeting_31 : decode cX8_findMeeting 31 = .ok (.aload_n 0, 1) := by decide +kernel
theorem dX8_findMeeting_32 : decode cX8_findMeeting 32 = .ok (.aload_n 1, 1) := by decide +kernel
theorem dX8_findMeeting_33 : decode cX8_findMeeting 33 = .ok (.aload_n 2, 1) := by decide +kernel
theorem dX8_findMeeting_34 : decode cX8_findMeeting 34 = .ok (.getfield 50, 3) := by decide +kernel
theorem dX8_findMeeting_37 : decode cX8_findMeeting 37 = .ok (.iload_n 3, 1) := by decide +kernel
theorem dX8_findMeeting_38 : decode cX8_findMeeting 38 = .ok (.iaload, 1) := by decide +kernel
theorem dX8_findMeeting_39 : decode cX8_findMeeting 39 = .ok (.aload_n 2, 1) := by decide +kernel
theorem dX8_findMeeting_40 : decode cX8_findMeeting 40 = .ok (.getfield 55, 3) := by decide +kernel
theorem dX8_findMeeting_43 : decode cX8_findMeeting 43 = .ok (.iload_n 3, 1) := by decide +kernel
theorem dX8_findMeeting_44 : decode cX8_findMeeting 44 = .ok (.iaload, 1) := by decide +kernel
theorem dX8_findMeeting_45 : decode cX8_findMeeting 45 = .ok (.aload_n 1, 1) := by decide +kernel
theorem dX8_findMeeting_46 : decode cX8_findMeeting 46 = .ok (.getfield 58, 3) := by decide +kernel
theorem dX8_findMeeting_49 : decode cX8_findMeeting 49 = .ok (.iload_n 3, 1) := by decide +kernel
theorem dX8_findMeeting_50 : decode cX8_findMeeting 50 = .ok (.iaload, 1) := by decide +kernel
theorem dX8_findMeeting_51 : decode cX8_findMeeting 51 = .ok (.invokevirtual 61, 3) := by decide +kernel
theorem dX8_findMeeting_54 : decode cX8_findMeeting 54 = .ok (.iconst 0, 1) := by decide +kernel
theorem dX8_findMeeting_55 : decode cX8_findMeeting 55 = .ok (.istore 4, 2) := by decide +kernel
theorem dX8_findMeeting_57 : decode cX8_findMeeting 57 = .ok (.iload 4, 2) := by decide +kernel
theorem dX8_findMeeting_59 : decode cX8_findMeeting 59 = .ok (.aload_n 1, 1) := by decide +kernel
theorem dX8_findMeeting_60 : decode cX8_findMeeting 60 = .ok (.getfield 19, 3) := by decide +kernel
theorem dX8_findMeeting_63 : decode cX8_findMeeting 63 = .ok (.if_icmp .ge 44, 3) := by decide +kernel
theorem dX8_findMeeting_66 : decode cX8_findMeeting 66 = .ok (.aload_n 0, 1) := by decide +kernel
theorem dX8_findMeeting_67 : decode cX8_findMeeting 67 = .ok (.getfield 15, 3) := by decide +kernel
theorem dX8_findMeeting_70 : decode cX8_findMeeting 70 = .ok (.iload 4, 2) := by decide +kernel
theorem dX8_findMeeting_72 : decode cX8_findMeeting 72 = .ok (.aload_n 0, 1) := by decide +kernel
theorem dX8_findMeeting_73 : decode cX8_findMeeting 73 = .ok (.iload 4, 2) := by decide +kernel
theorem dX8_findMeeting_75 : decode cX8_findMeeting 75 = .ok (.invokevirtual 65, 3) := by decide +kernel
theorem dX8_findMeeting_78 : decode cX8_findMeeting 78 = .ok (.ifCond .eq 20, 3) := by decide +kernel
theorem dX8_findMeeting_81 : decode cX8_findMeeting 81 = .ok (.aload_n 0, 1) := by decide +kernel
theorem dX8_findMeeting_82 : decode cX8_findMeeting 82 = .ok (.getfield 15, 3) := by decide +kernel
theorem dX8_findMeeting_85 : decode cX8_findMeeting 85 = .ok (.iload 4, 2) := by decide +kernel
theorem dX8_findMeeting_87 : decode cX8_findMeeting 87 = .ok (.iaload, 1) := by decide +kernel
theorem dX8_findMeeting_88 : decode cX8_findMeeting 88 = .ok (.aload_n 0, 1) := by decide +kernel
theorem dX8_findMeeting_89 : decode cX8_findMeeting 89 = .ok (.iload 4, 2) := by decide +kernel
theorem dX8_findMeeting_91 : decode cX8_findMeeting 91 = .ok (.invokevirtual 69, 3) := by decide +kernel
theorem dX8_findMeeting_94 : decode cX8_findMeeting 94 = .ok (.iadd, 1) := by decide +kernel
theorem dX8_findMeeting_95 : decode cX8_findMeeting 95 = .ok (.goto 5, 3) := by decide +kernel
theorem dX8_findMeeting_98 : decode cX8_findMeeting 98 = .ok (.ldc 18, 2) := by decide +kernel
theorem dX8_findMeeting_100 : decode cX8_findMeeting 100 = .ok (.iastore, 1) := by decide +kernel
theorem dX8_findMeeting_101 : decode cX8_findMeeting 101 = .ok (.iinc 4 1, 3) := by decide +kernel
theorem dX8_findMeeting_104 : decode cX8_findMeeting 104 = .ok (.goto (-47), 3) := by decide +kernel
theorem dX8_findMeeting_107 : decode cX8_findMeeting 107 = .ok (.iinc 3 1, 3) := by decide +kernel
theorem dX8_findMeeting_110 : decode cX8_findMeeting 110 = .ok (.goto (-87), 3) := by decide +kernel
theorem dX8_findMeeting_113 : decode cX8_findMeeting 113 = .ok (.aload_n 0, 1) := by decide +kernel
theorem dX8_findMeeting_114 : decode cX8_findMeeting 114 = .ok (.bipush (-9), 2) := by decide +kernel
theorem dX8_findMeeting_116 : decode cX8_findMeeting 116 = .ok (.putfield 73, 3) := by decide +kernel
theorem dX8_findMeeting_119 : decode cX8_findMeeting 119 = .ok (.aload_n 0, 1) := by decide +kernel
theorem dX8_findMeeting_120 : decode cX8_findMeeting 120 = .ok (.ldc 18, 2) := by decide +kernel
theorem dX8_findMeeting_122 : decode cX8_findMeeting 122 = .ok (.putfield 76, 3) := by decide +kernel
theorem dX8_findMeeting_125 : decode cX8_findMeeting 125 = .ok (.iconst 0, 1) := by decide +kernel
theorem dX8_findMeeting_126 : decode cX8_findMeeting 126 = .ok (.istore_n 3, 1) := by decide +kernel
theorem dX8_findMeeting_127 : decode cX8_findMeeting 127 = .ok (.iload_n 3, 1) := by decide +kernel
theorem dX8_findMeeting_128 : decode cX8_findMeeting 128 = .ok (.aload_n 1, 1) := by decide +kernel
theorem dX8_findMeeting_129 : decode cX8_findMeeting 129 = .ok (.getfield 19, 3) := by decide +kernel
theorem dX8_findMeeting_132 : decode cX8_findMeeting 132 = .ok (.if_icmp .ge 37, 3) := by decide +kernel
theorem dX8_findMeeting_135 : decode cX8_findMeeting 135 = .ok (.aload_n 0, 1) := by decide +kernel
theorem dX8_findMeeting_136 : decode cX8_findMeeting 136 = .ok (.getfield 15, 3) := by decide +kernel
theorem dX8_findMeeting_139 : decode cX8_findMeeting 139 = .ok (.iload_n 3, 1) := by decide +kernel
theorem dX8_findMeeting_140 : decode cX8_findMeeting 140 = .ok (.iaload, 1) := by decide +kernel
theorem dX8_findMeeting_141 : decode cX8_findMeeting 141 = .ok (.aload_n 0, 1) := by decide +kernel
theorem dX8_findMeeting_142 : decode cX8_findMeeting 142 = .ok (.getfield 76, 3) := by decide +kernel
theorem dX8_findMeeting_145 : decode cX8_findMeeting 145 = .ok (.if_icmp .ge 18, 3) := by decide +kernel
theorem dX8_findMeeting_148 : decode cX8_findMeeting 148 = .ok (.aload_n 0, 1) := by decide +kernel
theorem dX8_findMeeting_149 : decode cX8_findMeeting 149 = .ok (.iload_n 3, 1) := by decide +kernel
theorem dX8_findMeeting_150 : decode cX8_findMeeting 150 = .ok (.putfield 73, 3) := by decide +kernel
theorem dX8_findMeeting_153 : decode cX8_findMeeting 153 = .ok (.aload_n 0, 1) := by decide +kernel
theorem dX8_findMeeting_154 : decode cX8_findMeeting 154 = .ok (.aload_n 0, 1) := by decide +kernel
theorem dX8_findMeeting_155 : decode cX8_findMeeting 155 = .ok (.getfield 15, 3) := by decide +kernel
theorem dX8_findMeeting_158 : decode cX8_findMeeting 158 = .ok (.iload_n 3, 1) := by decide +kernel
theorem dX8_findMeeting_159 : decode cX8_findMeeting 159 = .ok (.iaload, 1) := by decide +kernel
theorem dX8_findMeeting_160 : decode cX8_findMeeting 160 = .ok (.putfield 76, 3) := by decide +kernel
theorem dX8_findMeeting_163 : decode cX8_findMeeting 163 = .ok (.iinc 3 1, 3) := by decide +kernel
theorem dX8_findMeeting_166 : decode cX8_findMeeting 166 = .ok (.goto (-39), 3) := by decide +kernel
theorem dX8_findMeeting_169 : decode cX8_findMeeting 169 = .ok (.aload_n 1, 1) := by decide +kernel
theorem dX8_findMeeting_170 : decode cX8_findMeeting 170 = .ok (.getfield 47, 3) := by decide +kernel
theorem dX8_findMeeting_173 : decode cX8_findMeeting 173 = .ok (.ifCond .le 16, 3) := by decide +kernel
theorem dX8_findMeeting_176 : decode cX8_findMeeting 176 = .ok (.aload_n 0, 1) := by decide +kernel
theorem dX8_findMeeting_177 : decode cX8_findMeeting 177 = .ok (.getfield 73, 3) := by decide +kernel
theorem dX8_findMeeting_180 : decode cX8_findMeeting 180 = .ok (.bipush (-9), 2) := by decide +kernel
theorem dX8_findMeeting_182 : decode cX8_findMeeting 182 = .ok (.if_icmp .eq 7, 3) := by decide +kernel
theorem dX8_findMeeting_185 : decode cX8_findMeeting 185 = .ok (.iconst 1, 1) := by decide +kernel
theorem dX8_findMeeting_186 : decode cX8_findMeeting 186 = .ok (.goto 4, 3) := by decide +kernel
theorem dX8_findMeeting_189 : decode cX8_findMeeting 189 = .ok (.iconst 0, 1) := by decide +kernel
theorem dX8_findMeeting_190 : decode cX8_findMeeting 190 = .ok (.ireturn, 1) := by decide +kernel
theorem dJ6_bitCount_0f7a4_0 : decode cJ6_bitCount_0f7a4 0 = .ok (.iload_n 0, 1) := by decide +kernel
theorem dJ6_bitCount_0f7a4_1 : decode cJ6_bitCount_0f7a4 1 = .ok (.iload_n 0, 1) := by decide +kernel
theorem dJ6_bitCount_0f7a4_2 : decode cJ6_bitCount_0f7a4 2 = .ok (.iconst 1, 1) := by decide +kernel
theorem dJ6_bitCount_0f7a4_3 : decode cJ6_bitCount_0f7a4 3 = .ok (.iushr, 1) := by decide +kernel
theorem dJ6_bitCount_0f7a4_4 : decode cJ6_bitCount_0f7a4 4 = .ok (.ldc_w 265, 3) := by decide +kernel
theorem dJ6_bitCount_0f7a4_7 : decode cJ6_bitCount_0f7a4 7 = .ok (.iand, 1) := by decide +kernel
theorem dJ6_bitCount_0f7a4_8 : decode cJ6_bitCount_0f7a4 8 = .ok (.isub, 1) := by decide +kernel
theorem dJ6_bitCount_0f7a4_9 : decode cJ6_bitCount_0f7a4 9 = .ok (.istore_n 0, 1) := by decide +kernel
theorem dJ6_bitCount_0f7a4_10 : decode cJ6_bitCount_0f7a4 10 = .ok (.iload_n 0, 1) := by decide +kernel
theorem dJ6_bitCount_0f7a4_11 : decode cJ6_bitCount_0f7a4 11 = .ok (.ldc_w 266, 3) := by decide +kernel
theorem dJ6_bitCount_0f7a4_14 : decode cJ6_bitCount_0f7a4 14 = .ok (.iand, 1) := by decide +kernel
theorem dJ6_bitCount_0f7a4_15 : decode cJ6_bitCount_0f7a4 15 = .ok (.iload_n 0, 1) := by decide +kernel
theorem dJ6_bitCount_0f7a4_16 : decode cJ6_bitCount_0f7a4 16 = .ok (.iconst 2, 1) := by decide +kernel
theorem dJ6_bitCount_0f7a4_17 : decode cJ6_bitCount_0f7a4 17 = .ok (.iushr, 1) := by decide +kernel
theorem dJ6_bitCount_0f7a4_18 : decode cJ6_bitCount_0f7a4 18 = .ok (.ldc_w 266, 3) := by decide +kernel
theorem dJ6_bitCount_0f7a4_21 : decode cJ6_bitCount_0f7a4 21 = .ok (.iand, 1) := by decide +kernel
theorem dJ6_bitCount_0f7a4_22 : decode cJ6_bitCount_0f7a4 22 = .ok (.iadd, 1) := by decide +kernel
theorem dJ6_bitCount_0f7a4_23 : decode cJ6_bitCount_0f7a4 23 = .ok (.istore_n 0, 1) := by decide +kernel
theorem dJ6_bitCount_0f7a4_24 : decode cJ6_bitCount_0f7a4 24 = .ok (.iload_n 0, 1) := by decide +kernel
theorem dJ6_bitCount_0f7a4_25 : decode cJ6_bitCount_0f7a4 25 = .ok (.iload_n 0, 1) := by decide +kernel
theorem dJ6_bitCount_0f7a4_26 : decode cJ6_bitCount_0f7a4 26 = .ok (.iconst 4, 1) := by decide +kernel
theorem dJ6_bitCount_0f7a4_27 : decode cJ6_bitCount_0f7a4 27 = .ok (.iushr, 1) := by decide +kernel
theorem dJ6_bitCount_0f7a4_28 : decode cJ6_bitCount_0f7a4 28 = .ok (.iadd, 1) := by decide +kernel
theorem dJ6_bitCount_0f7a4_29 : decode cJ6_bitCount_0f7a4 29 = .ok (.ldc_w 267, 3) := by decide +kernel
theorem dJ6_bitCount_0f7a4_32 : decode cJ6_bitCount_0f7a4 32 = .ok (.iand, 1) := by decide +kernel
theorem dJ6_bitCount_0f7a4_33 : decode cJ6_bitCount_0f7a4 33 = .ok (.istore_n 0, 1) := by decide +kernel
theorem dJ6_bitCount_0f7a4_34 : decode cJ6_bitCount_0f7a4 34 = .ok (.iload_n 0, 1) := by decide +kernel
theorem dJ6_bitCount_0f7a4_35 : decode cJ6_bitCount_0f7a4 35 = .ok (.iload_n 0, 1) := by decide +kernel
theorem dJ6_bitCount_0f7a4_36 : decode cJ6_bitCount_0f7a4 36 = .ok (.bipush 8, 2) := by decide +kernel
theorem dJ6_bitCount_0f7a4_38 : decode cJ6_bitCount_0f7a4 38 = .ok (.iushr, 1) := by decide +kernel
theorem dJ6_bitCount_0f7a4_39 : decode cJ6_bitCount_0f7a4 39 = .ok (.iadd, 1) := by decide +kernel
theorem dJ6_bitCount_0f7a4_40 : decode cJ6_bitCount_0f7a4 40 = .ok (.istore_n 0, 1) := by decide +kernel
theorem dJ6_bitCount_0f7a4_41 : decode cJ6_bitCount_0f7a4 41 = .ok (.iload_n 0, 1) := by decide +kernel
theorem dJ6_bitCount_0f7a4_42 : decode cJ6_bitCount_0f7a4 42 = .ok (.iload_n 0, 1) := by decide +kernel
theorem dJ6_bitCount_0f7a4_43 : decode cJ6_bitCount_0f7a4 43 = .ok (.bipush 16, 2) := by decide +kernel
theorem dJ6_bitCount_0f7a4_45 : decode cJ6_bitCount_0f7a4 45 = .ok (.iushr, 1) := by decide +kernel
theorem dJ6_bitCount_0f7a4_46 : decode cJ6_bitCount_0f7a4 46 = .ok (.iadd, 1) := by decide +kernel
theorem dJ6_bitCount_0f7a4_47 : decode cJ6_bitCount_0f7a4 47 = .ok (.istore_n 0, 1) := by decide +kernel
theorem dJ6_bitCount_0f7a4_48 : decode cJ6_bitCount_0f7a4 48 = .ok (.iload_n 0, 1) := by decide +kernel
theorem dJ6_bitCount_0f7a4_49 : decode cJ6_bitCount_0f7a4 49 = .ok (.bipush 63, 2) := by decide +kernel
theorem dJ6_bitCount_0f7a4_51 : decode cJ6_bitCount_0f7a4 51 = .ok (.iand, 1) := by decide +kernel
theorem dJ6_bitCount_0f7a4_52 : decode cJ6_bitCount_0f7a4 52 = .ok (.ireturn, 1) := by decide +kernel
