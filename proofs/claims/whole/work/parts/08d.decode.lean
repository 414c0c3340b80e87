theorem dX10_init_0 : decode cX10_init 0 = .ok (.aload_n 0, 1) := by decide +kernel
theorem dX10_init_1 : decode cX10_init 1 = .ok (.invokespecial 1, 3) := by decide +kernel
theorem dX10_init_4 : decode cX10_init 4 = .ok (.aload_n 0, 1) := by decide +kernel
theorem dX10_init_5 : decode cX10_init 5 = .ok (.iconst 4, 1) := by decide +kernel
theorem dX10_init_6 : decode cX10_init 6 = .ok (.putfield 7, 3) := by decide +kernel
theorem dX10_init_9 : decode cX10_init 9 = .ok (.aload_n 0, 1) := by decide +kernel
theorem dX10_init_10 : decode cX10_init 10 = .ok (.bipush 27, 2) := by decide +kernel
theorem dX10_init_12 : decode cX10_init 12 = .ok (.newarray .int, 2) := by decide +kernel
theorem dX10_init_14 : decode cX10_init 14 = .ok (.putfield 13, 3) := by decide +kernel
theorem dX10_init_17 : decode cX10_init 17 = .ok (.aload_n 0, 1) := by decide +kernel
theorem dX10_init_18 : decode cX10_init 18 = .ok (.bipush 18, 2) := by decide +kernel
theorem dX10_init_20 : decode cX10_init 20 = .ok (.newarray .int, 2) := by decide +kernel
theorem dX10_init_22 : decode cX10_init 22 = .ok (.putfield 17, 3) := by decide +kernel
theorem dX10_init_25 : decode cX10_init 25 = .ok (.aload_n 0, 1) := by decide +kernel
theorem dX10_init_26 : decode cX10_init 26 = .ok (.iconst 4, 1) := by decide +kernel
theorem dX10_init_27 : decode cX10_init 27 = .ok (.newarray .int, 2) := by decide +kernel
theorem dX10_init_29 : decode cX10_init 29 = .ok (.putfield 20, 3) := by decide +kernel
theorem dX10_init_32 : decode cX10_init 32 = .ok (.aload_n 0, 1) := by decide +kernel
theorem dX10_init_33 : decode cX10_init 33 = .ok (.bipush 29, 2) := by decide +kernel
theorem dX10_init_35 : decode cX10_init 35 = .ok (.newarray .int, 2) := by decide +kernel
theorem dX10_init_37 : decode cX10_init 37 = .ok (.putfield 23, 3) := by decide +kernel
theorem dX10_init_40 : decode cX10_init 40 = .ok (.aload_n 0, 1) := by decide +kernel
theorem dX10_init_41 : decode cX10_init 41 = .ok (.sipush 290, 3) := by decide +kernel
theorem dX10_init_44 : decode cX10_init 44 = .ok (.newarray .int, 2) := by decide +kernel
theorem dX10_init_46 : decode cX10_init 46 = .ok (.putfield 26, 3) := by decide +kernel
theorem dX10_init_49 : decode cX10_init 49 = .ok (.aload_n 0, 1) := by decide +kernel
theorem dX10_init_50 : decode cX10_init 50 = .ok (.sipush 640, 3) := by decide +kernel
theorem dX10_init_53 : decode cX10_init 53 = .ok (.newarray .int, 2) := by decide +kernel
theorem dX10_init_55 : decode cX10_init 55 = .ok (.putfield 29, 3) := by decide +kernel
theorem dX10_init_58 : decode cX10_init 58 = .ok (.aload_n 0, 1) := by decide +kernel
theorem dX10_init_59 : decode cX10_init 59 = .ok (.iconst 2, 1) := by decide +kernel
theorem dX10_init_60 : decode cX10_init 60 = .ok (.newarray .boolean, 2) := by decide +kernel
theorem dX10_init_62 : decode cX10_init 62 = .ok (.putfield 32, 3) := by decide +kernel
theorem dX10_init_65 : decode cX10_init 65 = .ok (.aload_n 0, 1) := by decide +kernel
theorem dX10_init_66 : decode cX10_init 66 = .ok (.bipush 8, 2) := by decide +kernel
theorem dX10_init_68 : decode cX10_init 68 = .ok (.newarray .int, 2) := by decide +kernel
theorem dX10_init_70 : decode cX10_init 70 = .ok (.putfield 36, 3) := by decide +kernel
theorem dX10_init_73 : decode cX10_init 73 = .ok (.aload_n 0, 1) := by decide +kernel
theorem dX10_init_74 : decode cX10_init 74 = .ok (.sipush 150, 3) := by decide +kernel
theorem dX10_init_77 : decode cX10_init 77 = .ok (.newarray .int, 2) := by decide +kernel
theorem dX10_init_79 : decode cX10_init 79 = .ok (.putfield 39, 3) := by decide +kernel
theorem dX10_init_82 : decode cX10_init 82 = .ok (.aload_n 0, 1) := by decide +kernel
theorem dX10_init_83 : decode cX10_init 83 = .ok (.bipush (-9), 2) := by decide +kernel
theorem dX10_init_85 : decode cX10_init 85 = .ok (.putfield 42, 3) := by decide +kernel
theorem dX10_init_88 : decode cX10_init 88 = .ok (.aload_n 0, 1) := by decide +kernel
theorem dX10_init_89 : decode cX10_init 89 = .ok (.bipush 27, 2) := by decide +kernel
theorem dX10_init_91 : decode cX10_init 91 = .ok (.newarray .int, 2) := by decide +kernel
theorem dX10_init_93 : decode cX10_init 93 = .ok (.putfield 45, 3) := by decide +kernel
theorem dX10_init_96 : decode cX10_init 96 = .ok (.aload_n 0, 1) := by decide +kernel
theorem dX10_init_97 : decode cX10_init 97 = .ok (.bipush 18, 2) := by decide +kernel
theorem dX10_init_99 : decode cX10_init 99 = .ok (.newarray .int, 2) := by decide +kernel
theorem dX10_init_101 : decode cX10_init 101 = .ok (.putfield 48, 3) := by decide +kernel
theorem dX10_init_104 : decode cX10_init 104 = .ok (.aload_n 0, 1) := by decide +kernel
theorem dX10_init_105 : decode cX10_init 105 = .ok (.bipush 6, 2) := by decide +kernel
theorem dX10_init_107 : decode cX10_init 107 = .ok (.newarray .int, 2) := by decide +kernel
theorem dX10_init_109 : decode cX10_init 109 = .ok (.putfield 51, 3) := by decide +kernel
theorem dX10_init_112 : decode cX10_init 112 = .ok (.aload_n 0, 1) := by decide +kernel
theorem dX10_init_113 : decode cX10_init 113 = .ok (.bipush 6, 2) := by decide +kernel
theorem dX10_init_115 : decode cX10_init 115 = .ok (.newarray .int, 2) := by decide +kernel
theorem dX10_init_117 : decode cX10_init 117 = .ok (.putfield 54, 3) := by decide +kernel
theorem dX10_init_120 : decode cX10_init 120 = .ok (.aload_n 0, 1) := by decide +kernel
theorem dX10_init_121 : decode cX10_init 121 = .ok (.iconst 4, 1) := by decide +kernel
theorem dX10_init_122 : decode cX10_init 122 = .ok (.newarray .int, 2) := by decide +kernel
theorem dX10_init_124 : decode cX10_init 124 = .ok (.putfield 57, 3) := by decide +kernel
theorem dX10_init_127 : decode cX10_init 127 = .ok (.aload_n 0, 1) := by decide +kernel
theorem dX10_init_128 : decode cX10_init 128 = .ok (.bipush 8, 2) := by decide +kernel
theorem dX10_init_130 : decode cX10_init 130 = .ok (.newarray .int, 2) := by decide +kernel
theorem dX10_init_132 : decode cX10_init 132 = .ok (.putfield 60, 3) := by decide +kernel
theorem dX10_init_135 : decode cX10_init 135 = .ok (.aload_n 0, 1) := by decide +kernel
theorem dX10_init_136 : decode cX10_init 136 = .ok (.bipush 64, 2) := by decide +kernel
theorem dX10_init_138 : decode cX10_init 138 = .ok (.newarray .int, 2) := by decide +kernel
theorem dX10_init_140 : decode cX10_init 140 = .ok (.putfield 63, 3) := by decide +kernel
theorem dX10_init_143 : decode cX10_init 143 = .ok (.return_, 1) := by decide +kernel
theorem dX10_in_0 : decode cX10_in 0 = .ok (.lload_n 0, 1) := by decide +kernel
theorem dX10_in_1 : decode cX10_in 1 = .ok (.lload_n 2, 1) := by decide +kernel
theorem dX10_in_2 : decode cX10_in 2 = .ok (.lcmp, 1) := by decide +kernel
theorem dX10_in_3 : decode cX10_in 3 = .ok (.ifCond .lt 14, 3) := by decide +kernel
theorem dX10_in_6 : decode cX10_in 6 = .ok (.lload_n 0, 1) := by decide +kernel
theorem dX10_in_7 : decode cX10_in 7 = .ok (.lload 4, 2) := by decide +kernel
theorem dX10_in_9 : decode cX10_in 9 = .ok (.lcmp, 1) := by decide +kernel
theorem dX10_in_10 : decode cX10_in 10 = .ok (.ifCond .gt 7, 3) := by decide +kernel
theorem dX10_in_13 : decode cX10_in 13 = .ok (.iconst 1, 1) := by decide +kernel
theorem dX10_in_14 : decode cX10_in 14 = .ok (.goto 4, 3) := by decide +kernel
theorem dX10_in_17 : decode cX10_in 17 = .ok (.iconst 0, 1) := by decide +kernel
theorem dX10_in_18 : decode cX10_in 18 = .ok (.ireturn, 1) := by decide +kernel
theorem dX10_has_0 : decode cX10_has 0 = .ok (.iload_n 0, 1) := by decide +kernel
theorem dX10_has_1 : decode cX10_has 1 = .ok (.iload_n 1, 1) := by decide +kernel
theorem dX10_has_2 : decode cX10_has 2 = .ok (.ishr, 1) := by decide +kernel
theorem dX10_has_3 : decode cX10_has 3 = .ok (.iconst 1, 1) := by decide +kernel
theorem dX10_has_4 : decode cX10_has 4 = .ok (.iand, 1) := by decide +kernel
theorem dX10_has_5 : decode cX10_has 5 = .ok (.iconst 1, 1) := by decide +kernel
theorem dX10_has_6 : decode cX10_has 6 = .ok (.if_icmp .ne 7, 3) := by decide +kernel
theorem dX10_has_9 : decode cX10_has 9 = .ok (.iconst 1, 1) := by decide +kernel
theorem dX10_has_10 : decode cX10_has 10 = .ok (.goto 4, 3) := by decide +kernel
theorem dX10_has_13 : decode cX10_has 13 = .ok (.iconst 0, 1) := by decide +kernel
theorem dX10_has_14 : decode cX10_has 14 = .ok (.ireturn, 1) := by decide +kernel
theorem dX10_bits_0 : decode cX10_bits 0 = .ok (.iconst 0, 1) := by decide +kernel
theorem dX10_bits_1 : decode cX10_bits 1 = .ok (.istore_n 1, 1) := by decide +kernel
theorem dX10_bits_2 : decode cX10_bits 2 = .ok (.iconst 0, 1) := by decide +kernel
theorem dX10_bits_3 : decode cX10_bits 3 = .ok (.istore_n 2, 1) := by decide +kernel
theorem dX10_bits_4 : decode cX10_bits 4 = .ok (.iload_n 2, 1) := by decide +kernel
theorem dX10_bits_5 : decode cX10_bits 5 = .ok (.bipush 6, 2) := by decide +kernel
theorem dX10_bits_7 : decode cX10_bits 7 = .ok (.if_icmp .ge 17, 3) := by decide +kernel
theorem dX10_bits_10 : decode cX10_bits 10 = .ok (.iload_n 1, 1) := by decide +kernel
theorem dX10_bits_11 : decode cX10_bits 11 = .ok (.iload_n 0, 1) := by decide +kernel
theorem dX10_bits_12 : decode cX10_bits 12 = .ok (.iload_n 2, 1) := by decide +kernel
theorem dX10_bits_13 : decode cX10_bits 13 = .ok (.ishr, 1) := by decide +kernel
theorem dX10_bits_14 : decode cX10_bits 14 = .ok (.iconst 1, 1) := by decide +kernel
theorem dX10_bits_15 : decode cX10_bits 15 = .ok (.iand, 1) := by decide +kernel
theorem dX10_bits_16 : decode cX10_bits 16 = .ok (.iadd, 1) := by decide +kernel
theorem dX10_bits_17 : decode cX10_bits 17 = .ok (.istore_n 1, 1) := by decide +kernel
theorem dX10_bits_18 : decode cX10_bits 18 = .ok (.iinc 2 1, 3) := by decide +kernel
theorem dX10_bits_21 : decode cX10_bits 21 = .ok (.goto (-17), 3) := by decide +kernel
theorem dX10_bits_24 : decode cX10_bits 24 = .ok (.iload_n 1, 1) := by decide +kernel
theorem dX10_bits_25 : decode cX10_bits 25 = .ok (.ireturn, 1) := by decide +kernel
theorem dX10_isDirector_0 : decode cX10_isDirector 0 = .ok (.iload_n 1, 1) := by decide +kernel
theorem dX10_isDirector_1 : decode cX10_isDirector 1 = .ok (.i2l, 1) := by decide +kernel
theorem dX10_isDirector_2 : decode cX10_isDirector 2 = .ok (.lconst 0, 1) := by decide +kernel
theorem dX10_isDirector_3 : decode cX10_isDirector 3 = .ok (.aload_n 0, 1) := by decide +kernel
theorem dX10_isDirector_4 : decode cX10_isDirector 4 = .ok (.getfield 66, 3) := by decide +kernel
theorem dX10_isDirector_7 : decode cX10_isDirector 7 = .ok (.iconst 1, 1) := by decide +kernel
theorem dX10_isDirector_8 : decode cX10_isDirector 8 = .ok (.isub, 1) := by decide +kernel
theorem dX10_isDirector_9 : decode cX10_isDirector 9 = .ok (.i2l, 1) := by decide +kernel
theorem dX10_isDirector_10 : decode cX10_isDirector 10 = .ok (.invokestatic 69, 3) := by decide +kernel
theorem dX10_isDirector_13 : decode cX10_isDirector 13 = .ok (.ireturn, 1) := by decide +kernel
theorem dX10_isPath_0 : decode cX10_isPath 0 = .ok (.iload_n 1, 1) := by decide +kernel
theorem dX10_isPath_1 : decode cX10_isPath 1 = .ok (.i2l, 1) := by decide +kernel
theorem dX10_isPath_2 : decode cX10_isPath 2 = .ok (.lconst 0, 1) := by decide +kernel
theorem dX10_isPath_3 : decode cX10_isPath 3 = .ok (.aload_n 0, 1) := by decide +kernel
theorem dX10_isPath_4 : decode cX10_isPath 4 = .ok (.getfield 73, 3) := by decide +kernel
theorem dX10_isPath_7 : decode cX10_isPath 7 = .ok (.iconst 1, 1) := by decide +kernel
theorem dX10_isPath_8 : decode cX10_isPath 8 = .ok (.isub, 1) := by decide +kernel
theorem dX10_isPath_9 : decode cX10_isPath 9 = .ok (.i2l, 1) := by decide +kernel
theorem dX10_isPath_10 : decode cX10_isPath 10 = .ok (.invokestatic 69, 3) := by decide +kernel
theorem dX10_isPath_13 : decode cX10_isPath 13 = .ok (.ireturn, 1) := by decide +kernel
theorem dX10_isRoom_0 : decode cX10_isRoom 0 = .ok (.iload_n 1, 1) := by decide +kernel
theorem dX10_isRoom_1 : decode cX10_isRoom 1 = .ok (.i2l, 1) := by decide +kernel
theorem dX10_isRoom_2 : decode cX10_isRoom 2 = .ok (.lconst 0, 1) := by decide +kernel
theorem dX10_isRoom_3 : decode cX10_isRoom 3 = .ok (.aload_n 0, 1) := by decide +kernel
theorem dX10_isRoom_4 : decode cX10_isRoom 4 = .ok (.getfield 7, 3) := by decide +kernel
theorem dX10_isRoom_7 : decode cX10_isRoom 7 = .ok (.iconst 1, 1) := by decide +kernel
theorem dX10_isRoom_8 : decode cX10_isRoom 8 = .ok (.isub, 1) := by decide +kernel
theorem dX10_isRoom_9 : decode cX10_isRoom 9 = .ok (.i2l, 1) := by decide +kernel
theorem dX10_isRoom_10 : decode cX10_isRoom 10 = .ok (.invokestatic 69, 3) := by decide +kernel
theorem dX10_isRoom_13 : decode cX10_isRoom 13 = .ok (.ireturn, 1) := by decide +kernel
theorem dX10_of_0 : decode cX10_of 0 = .ok (.aload_n 0, 1) := by decide +kernel
theorem dX10_of_1 : decode cX10_of 1 = .ok (.getfield 23, 3) := by decide +kernel
theorem dX10_of_4 : decode cX10_of 4 = .ok (.iconst 4, 1) := by decide +kernel
theorem dX10_of_5 : decode cX10_of 5 = .ok (.iload_n 1, 1) := by decide +kernel
theorem dX10_of_6 : decode cX10_of 6 = .ok (.imul, 1) := by decide +kernel
theorem dX10_of_7 : decode cX10_of 7 = .ok (.iload_n 2, 1) := by decide +kernel
theorem dX10_of_8 : decode cX10_of 8 = .ok (.iadd, 1) := by decide +kernel
theorem dX10_of_9 : decode cX10_of 9 = .ok (.iaload, 1) := by decide +kernel
theorem dX10_of_10 : decode cX10_of 10 = .ok (.ireturn, 1) := by decide +kernel
theorem dX10_strength_0 : decode cX10_strength 0 = .ok (.aload_n 0, 1) := by decide +kernel
theorem dX10_strength_1 : decode cX10_strength 1 = .ok (.getfield 17, 3) := by decide +kernel
theorem dX10_strength_4 : decode cX10_strength 4 = .ok (.iconst 3, 1) := by decide +kernel
theorem dX10_strength_5 : decode cX10_strength 5 = .ok (.iload_n 1, 1) := by decide +kernel
theorem dX10_strength_6 : decode cX10_strength 6 = .ok (.imul, 1) := by decide +kernel
theorem dX10_strength_7 : decode cX10_strength 7 = .ok (.iaload, 1) := by decide +kernel
theorem dX10_strength_8 : decode cX10_strength 8 = .ok (.ireturn, 1) := by decide +kernel
theorem dX10_gravity_0 : decode cX10_gravity 0 = .ok (.aload_n 0, 1) := by decide +kernel
theorem dX10_gravity_1 : decode cX10_gravity 1 = .ok (.getfield 17, 3) := by decide +kernel
theorem dX10_gravity_4 : decode cX10_gravity 4 = .ok (.iconst 3, 1) := by decide +kernel
theorem dX10_gravity_5 : decode cX10_gravity 5 = .ok (.iload_n 1, 1) := by decide +kernel
theorem dX10_gravity_6 : decode cX10_gravity 6 = .ok (.imul, 1) := by decide +kernel
theorem dX10_gravity_7 : decode cX10_gravity 7 = .ok (.iconst 1, 1) := by decide +kernel
theorem dX10_gravity_8 : decode cX10_gravity 8 = .ok (.iadd, 1) := by decide +kernel
theorem dX10_gravity_9 : decode cX10_gravity 9 = .ok (.iaload, 1) := by decide +kernel
theorem dX10_gravity_10 : decode cX10_gravity 10 = .ok (.ireturn, 1) := by decide +kernel
theorem dX10_friends_0 : decode cX10_friends 0 = .ok (.aload_n 0, 1) := by decide +kernel
theorem dX10_friends_1 : decode cX10_friends 1 = .ok (.getfield 17, 3) := by decide +kernel
theorem dX10_friends_4 : decode cX10_friends 4 = .ok (.iconst 3, 1) := by decide +kernel
theorem dX10_friends_5 : decode cX10_friends 5 = .ok (.iload_n 1, 1) := by decide +kernel
theorem dX10_friends_6 : decode cX10_friends 6 = .ok (.imul, 1) := by decide +kernel
theorem dX10_friends_7 : decode cX10_friends 7 = .ok (.iconst 2, 1) := by decide +kernel
theorem dX10_friends_8 : decode cX10_friends 8 = .ok (.iadd, 1) := by decide +kernel
theorem dX10_friends_9 : decode cX10_friends 9 = .ok (.iaload, 1) := by decide +kernel
theorem dX10_friends_10 : decode cX10_friends 10 = .ok (.ireturn, 1) := by decide +kernel
theorem dX10_stones_0 : decode cX10_stones 0 = .ok (.iconst 0, 1) := by decide +kernel
theorem dX10_stones_1 : decode cX10_stones 1 = .ok (.istore_n 1, 1) := by decide +kernel
theorem dX10_stones_2 : decode cX10_stones 2 = .ok (.iconst 0, 1) := by decide +kernel
theorem dX10_stones_3 : decode cX10_stones 3 = .ok (.istore_n 2, 1) := by decide +kernel
theorem dX10_stones_4 : decode cX10_stones 4 = .ok (.iload_n 2, 1) := by decide +kernel
theorem dX10_stones_5 : decode cX10_stones 5 = .ok (.aload_n 0, 1) := by decide +kernel
theorem dX10_stones_6 : decode cX10_stones 6 = .ok (.getfield 66, 3) := by decide +kernel
theorem dX10_stones_9 : decode cX10_stones 9 = .ok (.if_icmp .ge 18, 3) := by decide +kernel
theorem dX10_stones_12 : decode cX10_stones 12 = .ok (.iload_n 1, 1) := by decide +kernel
theorem dX10_stones_13 : decode cX10_stones 13 = .ok (.aload_n 0, 1) := by decide +kernel
theorem dX10_stones_14 : decode cX10_stones 14 = .ok (.iload_n 2, 1) := by decide +kernel
theorem dX10_stones_15 : decode cX10_stones 15 = .ok (.iconst 1, 1) := by decide +kernel
theorem dX10_stones_16 : decode cX10_stones 16 = .ok (.invokevirtual 76, 3) := by decide +kernel
theorem dX10_stones_19 : decode cX10_stones 19 = .ok (.iadd, 1) := by decide +kernel
theorem dX10_stones_20 : decode cX10_stones 20 = .ok (.istore_n 1, 1) := by decide +kernel
theorem dX10_stones_21 : decode cX10_stones 21 = .ok (.iinc 2 1, 3) := by decide +kernel
theorem dX10_stones_24 : decode cX10_stones 24 = .ok (.goto (-20), 3) := by decide +kernel
theorem dX10_stones_27 : decode cX10_stones 27 = .ok (.iload_n 1, 1) := by decide +kernel
theorem dX10_stones_28 : decode cX10_stones 28 = .ok (.ireturn, 1) := by decide +kernel
theorem dX10_type_0 : decode cX10_type 0 = .ok (.iload_n 1, 1) := by decide +kernel
theorem dX10_type_1 : decode cX10_type 1 = .ok (.i2l, 1) := by decide +kernel
theorem dX10_type_2 : decode cX10_type 2 = .ok (.lconst 0, 1) := by decide +kernel
theorem dX10_type_3 : decode cX10_type 3 = .ok (.ldc2_w 80, 3) := by decide +kernel
theorem dX10_type_6 : decode cX10_type 6 = .ok (.invokestatic 69, 3) := by decide +kernel
theorem dX10_type_9 : decode cX10_type 9 = .ok (.ifCond .ne 5, 3) := by decide +kernel
theorem dX10_type_12 : decode cX10_type 12 = .ok (.iconst (-1), 1) := by decide +kernel
theorem dX10_type_13 : decode cX10_type 13 = .ok (.ireturn, 1) := by decide +kernel
theorem dX10_type_14 : decode cX10_type 14 = .ok (.aload_n 0, 1) := by decide +kernel
theorem dX10_type_15 : decode cX10_type 15 = .ok (.getfield 82, 3) := by decide +kernel
theorem dX10_type_18 : decode cX10_type 18 = .ok (.sipush 150, 3) := by decide +kernel
theorem dX10_type_21 : decode cX10_type 21 = .ok (.if_icmp .ne 6, 3) := by decide +kernel
theorem dX10_type_24 : decode cX10_type 24 = .ok (.bipush (-3), 2) := by decide +kernel
theorem dX10_type_26 : decode cX10_type 26 = .ok (.ireturn, 1) := by decide +kernel
theorem dX10_type_27 : decode cX10_type 27 = .ok (.aload_n 0, 1) := by decide +kernel
theorem dX10_type_28 : decode cX10_type 28 = .ok (.getfield 39, 3) := by decide +kernel
theorem dX10_type_31 : decode cX10_type 31 = .ok (.aload_n 0, 1) := by decide +kernel
theorem dX10_type_32 : decode cX10_type 32 = .ok (.getfield 82, 3) := by decide +kernel
theorem dX10_type_35 : decode cX10_type 35 = .ok (.iload_n 1, 1) := by decide +kernel
theorem dX10_type_36 : decode cX10_type 36 = .ok (.iastore, 1) := by decide +kernel
theorem dX10_type_37 : decode cX10_type 37 = .ok (.aload_n 0, 1) := by decide +kernel
theorem dX10_type_38 : decode cX10_type 38 = .ok (.dup, 1) := by decide +kernel
theorem dX10_type_39 : decode cX10_type 39 = .ok (.getfield 82, 3) := by decide +kernel
theorem dX10_type_42 : decode cX10_type 42 = .ok (.iconst 1, 1) := by decide +kernel
theorem dX10_type_43 : decode cX10_type 43 = .ok (.iadd, 1) := by decide +kernel
theorem dX10_type_44 : decode cX10_type 44 = .ok (.putfield 82, 3) := by decide +kernel
theorem dX10_type_47 : decode cX10_type 47 = .ok (.aload_n 0, 1) := by decide +kernel
theorem dX10_type_48 : decode cX10_type 48 = .ok (.getfield 82, 3) := by decide +kernel
theorem dX10_type_51 : decode cX10_type 51 = .ok (.ireturn, 1) := by decide +kernel
theorem dX10_clear_0 : decode cX10_clear 0 = .ok (.aload_n 0, 1) := by decide +kernel
theorem dX10_clear_1 : decode cX10_clear 1 = .ok (.getfield 82, 3) := by decide +kernel
theorem dX10_clear_4 : decode cX10_clear 4 = .ok (.istore_n 1, 1) := by decide +kernel
theorem dX10_clear_5 : decode cX10_clear 5 = .ok (.aload_n 0, 1) := by decide +kernel
theorem dX10_clear_6 : decode cX10_clear 6 = .ok (.iconst 0, 1) := by decide +kernel
theorem dX10_clear_7 : decode cX10_clear 7 = .ok (.putfield 82, 3) := by decide +kernel
theorem dX10_clear_10 : decode cX10_clear 10 = .ok (.iload_n 1, 1) := by decide +kernel
theorem dX10_clear_11 : decode cX10_clear 11 = .ok (.ireturn, 1) := by decide +kernel
theorem dX10_isFigure_0 : decode cX10_isFigure 0 = .ok (.iload_n 0, 1) := by decide +kernel
theorem dX10_isFigure_1 : decode cX10_isFigure 1 = .ok (.bipush 48, 2) := by decide +kernel
theorem dX10_isFigure_3 : decode cX10_isFigure 3 = .ok (.if_icmp .lt 13, 3) := by decide +kernel
theorem dX10_isFigure_6 : decode cX10_isFigure 6 = .ok (.iload_n 0, 1) := by decide +kernel
theorem dX10_isFigure_7 : decode cX10_isFigure 7 = .ok (.bipush 57, 2) := by decide +kernel
theorem dX10_isFigure_9 : decode cX10_isFigure 9 = .ok (.if_icmp .gt 7, 3) := by decide +kernel
theorem dX10_isFigure_12 : decode cX10_isFigure 12 = .ok (.iconst 1, 1) := by decide +kernel
theorem dX10_isFigure_13 : decode cX10_isFigure 13 = .ok (.goto 4, 3) := by decide +kernel
theorem dX10_isFigure_16 : decode cX10_isFigure 16 = .ok (.iconst 0, 1) := by decide +kernel
theorem dX10_isFigure_17 : decode cX10_isFigure 17 = .ok (.ireturn, 1) := by decide +kernel
theorem dX10_isLetter_0 : decode cX10_isLetter 0 = .ok (.iload_n 0, 1) := by decide +kernel
theorem dX10_isLetter_1 : decode cX10_isLetter 1 = .ok (.bipush 97, 2) := by decide +kernel
theorem dX10_isLetter_3 : decode cX10_isLetter 3 = .ok (.if_icmp .lt 13, 3) := by decide +kernel
theorem dX10_isLetter_6 : decode cX10_isLetter 6 = .ok (.iload_n 0, 1) := by decide +kernel
theorem dX10_isLetter_7 : decode cX10_isLetter 7 = .ok (.bipush 122, 2) := by decide +kernel
theorem dX10_isLetter_9 : decode cX10_isLetter 9 = .ok (.if_icmp .gt 7, 3) := by decide +kernel
theorem dX10_isLetter_12 : decode cX10_isLetter 12 = .ok (.iconst 1, 1) := by decide +kernel
theorem dX10_isLetter_13 : decode cX10_isLetter 13 = .ok (.goto 4, 3) := by decide +kernel
theorem dX10_isLetter_16 : decode cX10_isLetter 16 = .ok (.iconst 0, 1) := by decide +kernel
theorem dX10_isLetter_17 : decode cX10_isLetter 17 = .ok (.ireturn, 1) := by decide +kernel
theorem dX10_next_0 : decode cX10_next 0 = .ok (.aload_n 0, 1) := by decide +kernel
theorem dX10_next_1 : decode cX10_next 1 = .ok (.getfield 85, 3) := by decide +kernel
theorem dX10_next_4 : decode cX10_next 4 = .ok (.aload_n 0, 1) := by decide +kernel
theorem dX10_next_5 : decode cX10_next 5 = .ok (.getfield 82, 3) := by decide +kernel
theorem dX10_next_8 : decode cX10_next 8 = .ok (.if_icmp .ge 30, 3) := by decide +kernel
theorem dX10_next_11 : decode cX10_next 11 = .ok (.aload_n 0, 1) := by decide +kernel
theorem dX10_next_12 : decode cX10_next 12 = .ok (.getfield 39, 3) := by decide +kernel
theorem dX10_next_15 : decode cX10_next 15 = .ok (.aload_n 0, 1) := by decide +kernel
theorem dX10_next_16 : decode cX10_next 16 = .ok (.getfield 85, 3) := by decide +kernel
theorem dX10_next_19 : decode cX10_next 19 = .ok (.iaload, 1) := by decide +kernel
theorem dX10_next_20 : decode cX10_next 20 = .ok (.bipush 32, 2) := by decide +kernel
theorem dX10_next_22 : decode cX10_next 22 = .ok (.if_icmp .ne 16, 3) := by decide +kernel
theorem dX10_next_25 : decode cX10_next 25 = .ok (.aload_n 0, 1) := by decide +kernel
theorem dX10_next_26 : decode cX10_next 26 = .ok (.dup, 1) := by decide +kernel
theorem dX10_next_27 : decode cX10_next 27 = .ok (.getfield 85, 3) := by decide +kernel
theorem dX10_next_30 : decode cX10_next 30 = .ok (.iconst 1, 1) := by decide +kernel
theorem dX10_next_31 : decode cX10_next 31 = .ok (.iadd, 1) := by decide +kernel
theorem dX10_next_32 : decode cX10_next 32 = .ok (.putfield 85, 3) := by decide +kernel
theorem dX10_next_35 : decode cX10_next 35 = .ok (.goto (-35), 3) := by decide +kernel
theorem dX10_next_38 : decode cX10_next 38 = .ok (.aload_n 0, 1) := by decide +kernel
theorem dX10_next_39 : decode cX10_next 39 = .ok (.aload_n 0, 1) := by decide +kernel
theorem dX10_next_40 : decode cX10_next 40 = .ok (.getfield 85, 3) := by decide +kernel
theorem dX10_next_43 : decode cX10_next 43 = .ok (.putfield 88, 3) := by decide +kernel
theorem dX10_next_46 : decode cX10_next 46 = .ok (.aload_n 0, 1) := by decide +kernel
theorem dX10_next_47 : decode cX10_next 47 = .ok (.getfield 85, 3) := by decide +kernel
theorem dX10_next_50 : decode cX10_next 50 = .ok (.aload_n 0, 1) := by decide +kernel
theorem dX10_next_51 : decode cX10_next 51 = .ok (.getfield 82, 3) := by decide +kernel
theorem dX10_next_54 : decode cX10_next 54 = .ok (.if_icmp .ne 9, 3) := by decide +kernel
theorem dX10_next_57 : decode cX10_next 57 = .ok (.aload_n 0, 1) := by decide +kernel
theorem dX10_next_58 : decode cX10_next 58 = .ok (.iconst (-1), 1) := by decide +kernel
theorem dX10_next_59 : decode cX10_next 59 = .ok (.putfield 91, 3) := by decide +kernel
theorem dX10_next_62 : decode cX10_next 62 = .ok (.return_, 1) := by decide +kernel
theorem dX10_next_63 : decode cX10_next 63 = .ok (.aload_n 0, 1) := by decide +kernel
theorem dX10_next_64 : decode cX10_next 64 = .ok (.getfield 39, 3) := by decide +kernel
theorem dX10_next_67 : decode cX10_next 67 = .ok (.aload_n 0, 1) := by decide +kernel
theorem dX10_next_68 : decode cX10_next 68 = .ok (.getfield 85, 3) := by decide +kernel
theorem dX10_next_71 : decode cX10_next 71 = .ok (.iaload, 1) := by decide +kernel
theorem dX10_next_72 : decode cX10_next 72 = .ok (.istore_n 1, 1) := by decide +kernel
theorem dX10_next_73 : decode cX10_next 73 = .ok (.aload_n 0, 1) := by decide +kernel
theorem dX10_next_74 : decode cX10_next 74 = .ok (.dup, 1) := by decide +kernel
theorem dX10_next_75 : decode cX10_next 75 = .ok (.getfield 85, 3) := by decide +kernel
theorem dX10_next_78 : decode cX10_next 78 = .ok (.iconst 1, 1) := by decide +kernel
theorem dX10_next_79 : decode cX10_next 79 = .ok (.iadd, 1) := by decide +kernel
theorem dX10_next_80 : decode cX10_next 80 = .ok (.putfield 85, 3) := by decide +kernel
theorem dX10_next_83 : decode cX10_next 83 = .ok (.iload_n 1, 1) := by decide +kernel
theorem dX10_next_84 : decode cX10_next 84 = .ok (.invokestatic 94, 3) := by decide +kernel
theorem dX10_next_87 : decode cX10_next 87 = .ok (.ifCond .eq 99, 3) := by decide +kernel
theorem dX10_next_90 : decode cX10_next 90 = .ok (.aload_n 0, 1) := by decide +kernel
theorem dX10_next_91 : decode cX10_next 91 = .ok (.iload_n 1, 1) := by decide +kernel
theorem dX10_next_92 : decode cX10_next 92 = .ok (.bipush 48, 2) := by decide +kernel
theorem dX10_next_94 : decode cX10_next 94 = .ok (.isub, 1) := by decide +kernel
theorem dX10_next_95 : decode cX10_next 95 = .ok (.putfield 91, 3) := by decide +kernel
theorem dX10_next_98 : decode cX10_next 98 = .ok (.aload_n 0, 1) := by decide +kernel
theorem dX10_next_99 : decode cX10_next 99 = .ok (.getfield 85, 3) := by decide +kernel
theorem dX10_next_102 : decode cX10_next 102 = .ok (.aload_n 0, 1) := by decide +kernel
theorem dX10_next_103 : decode cX10_next 103 = .ok (.getfield 82, 3) := by decide +kernel
theorem dX10_next_106 : decode cX10_next 106 = .ok (.if_icmp .ge 158, 3) := by decide +kernel
theorem dX10_next_109 : decode cX10_next 109 = .ok (.aload_n 0, 1) := by decide +kernel
theorem dX10_next_110 : decode cX10_next 110 = .ok (.getfield 39, 3) := by decide +kernel
theorem dX10_next_113 : decode cX10_next 113 = .ok (.aload_n 0, 1) := by decide +kernel
theorem dX10_next_114 : decode cX10_next 114 = .ok (.getfield 85, 3) := by decide +kernel
theorem dX10_next_117 : decode cX10_next 117 = .ok (.iaload, 1) := by decide +kernel
theorem dX10_next_118 : decode cX10_next 118 = .ok (.invokestatic 94, 3) := by decide +kernel
theorem dX10_next_121 : decode cX10_next 121 = .ok (.ifCond .eq 143, 3) := by decide +kernel
theorem dX10_next_124 : decode cX10_next 124 = .ok (.aload_n 0, 1) := by decide +kernel
theorem dX10_next_125 : decode cX10_next 125 = .ok (.aload_n 0, 1) := by decide +kernel
theorem dX10_next_126 : decode cX10_next 126 = .ok (.getfield 85, 3) := by decide +kernel
theorem dX10_next_129 : decode cX10_next 129 = .ok (.aload_n 0, 1) := by decide +kernel
theorem dX10_next_130 : decode cX10_next 130 = .ok (.getfield 88, 3) := by decide +kernel
theorem dX10_next_133 : decode cX10_next 133 = .ok (.iconst 1, 1) := by decide +kernel
theorem dX10_next_134 : decode cX10_next 134 = .ok (.iadd, 1) := by decide +kernel
theorem dX10_next_135 : decode cX10_next 135 = .ok (.if_icmp .ne 33, 3) := by decide +kernel
theorem dX10_next_138 : decode cX10_next 138 = .ok (.aload_n 0, 1) := by decide +kernel
theorem dX10_next_139 : decode cX10_next 139 = .ok (.getfield 91, 3) := by decide +kernel
theorem dX10_next_142 : decode cX10_next 142 = .ok (.ifCond .le 26, 3) := by decide +kernel
theorem dX10_next_145 : decode cX10_next 145 = .ok (.bipush 10, 2) := by decide +kernel
theorem dX10_next_147 : decode cX10_next 147 = .ok (.aload_n 0, 1) := by decide +kernel
theorem dX10_next_148 : decode cX10_next 148 = .ok (.getfield 91, 3) := by decide +kernel
theorem dX10_next_151 : decode cX10_next 151 = .ok (.imul, 1) := by decide +kernel
theorem dX10_next_152 : decode cX10_next 152 = .ok (.aload_n 0, 1) := by decide +kernel
theorem dX10_next_153 : decode cX10_next 153 = .ok (.getfield 39, 3) := by decide +kernel
theorem dX10_next_156 : decode cX10_next 156 = .ok (.aload_n 0, 1) := by decide +kernel
theorem dX10_next_157 : decode cX10_next 157 = .ok (.getfield 85, 3) := by decide +kernel
theorem dX10_next_160 : decode cX10_next 160 = .ok (.iaload, 1) := by decide +kernel
theorem dX10_next_161 : decode cX10_next 161 = .ok (.iadd, 1) := by decide +kernel
theorem dX10_next_162 : decode cX10_next 162 = .ok (.bipush 48, 2) := by decide +kernel
theorem dX10_next_164 : decode cX10_next 164 = .ok (.isub, 1) := by decide +kernel
theorem dX10_next_165 : decode cX10_next 165 = .ok (.goto 5, 3) := by decide +kernel
theorem dX10_next_168 : decode cX10_next 168 = .ok (.bipush (-3), 2) := by decide +kernel
theorem dX10_next_170 : decode cX10_next 170 = .ok (.putfield 91, 3) := by decide +kernel
theorem dX10_next_173 : decode cX10_next 173 = .ok (.aload_n 0, 1) := by decide +kernel
theorem dX10_next_174 : decode cX10_next 174 = .ok (.dup, 1) := by decide +kernel
theorem dX10_next_175 : decode cX10_next 175 = .ok (.getfield 85, 3) := by decide +kernel
theorem dX10_next_178 : decode cX10_next 178 = .ok (.iconst 1, 1) := by decide +kernel
theorem dX10_next_179 : decode cX10_next 179 = .ok (.iadd, 1) := by decide +kernel
theorem dX10_next_180 : decode cX10_next 180 = .ok (.putfield 85, 3) := by decide +kernel
theorem dX10_next_183 : decode cX10_next 183 = .ok (.goto (-85), 3) := by decide +kernel
theorem dX10_next_186 : decode cX10_next 186 = .ok (.iload_n 1, 1) := by decide +kernel
theorem dX10_next_187 : decode cX10_next 187 = .ok (.invokestatic 98, 3) := by decide +kernel
theorem dX10_next_190 : decode cX10_next 190 = .ok (.ifCond .eq 57, 3) := by decide +kernel
theorem dX10_next_193 : decode cX10_next 193 = .ok (.aload_n 0, 1) := by decide +kernel
theorem dX10_next_194 : decode cX10_next 194 = .ok (.sipush 1000, 3) := by decide +kernel
theorem dX10_next_197 : decode cX10_next 197 = .ok (.iload_n 1, 1) := by decide +kernel
theorem dX10_next_198 : decode cX10_next 198 = .ok (.iadd, 1) := by decide +kernel
theorem dX10_next_199 : decode cX10_next 199 = .ok (.putfield 91, 3) := by decide +kernel
theorem dX10_next_202 : decode cX10_next 202 = .ok (.aload_n 0, 1) := by decide +kernel
theorem dX10_next_203 : decode cX10_next 203 = .ok (.getfield 85, 3) := by decide +kernel
theorem dX10_next_206 : decode cX10_next 206 = .ok (.aload_n 0, 1) := by decide +kernel
theorem dX10_next_207 : decode cX10_next 207 = .ok (.getfield 82, 3) := by decide +kernel
theorem dX10_next_210 : decode cX10_next 210 = .ok (.if_icmp .ge 54, 3) := by decide +kernel
theorem dX10_next_213 : decode cX10_next 213 = .ok (.aload_n 0, 1) := by decide +kernel
theorem dX10_next_214 : decode cX10_next 214 = .ok (.getfield 39, 3) := by decide +kernel
theorem dX10_next_217 : decode cX10_next 217 = .ok (.aload_n 0, 1) := by decide +kernel
theorem dX10_next_218 : decode cX10_next 218 = .ok (.getfield 85, 3) := by decide +kernel
theorem dX10_next_221 : decode cX10_next 221 = .ok (.iaload, 1) := by decide +kernel
theorem dX10_next_222 : decode cX10_next 222 = .ok (.invokestatic 98, 3) := by decide +kernel
theorem dX10_next_225 : decode cX10_next 225 = .ok (.ifCond .eq 39, 3) := by decide +kernel
theorem dX10_next_228 : decode cX10_next 228 = .ok (.aload_n 0, 1) := by decide +kernel
theorem dX10_next_229 : decode cX10_next 229 = .ok (.bipush (-3), 2) := by decide +kernel
theorem dX10_next_231 : decode cX10_next 231 = .ok (.putfield 91, 3) := by decide +kernel
theorem dX10_next_234 : decode cX10_next 234 = .ok (.aload_n 0, 1) := by decide +kernel
theorem dX10_next_235 : decode cX10_next 235 = .ok (.dup, 1) := by decide +kernel
theorem dX10_next_236 : decode cX10_next 236 = .ok (.getfield 85, 3) := by decide +kernel
theorem dX10_next_239 : decode cX10_next 239 = .ok (.iconst 1, 1) := by decide +kernel
theorem dX10_next_240 : decode cX10_next 240 = .ok (.iadd, 1) := by decide +kernel
theorem dX10_next_241 : decode cX10_next 241 = .ok (.putfield 85, 3) := by decide +kernel
theorem dX10_next_244 : decode cX10_next 244 = .ok (.goto (-42), 3) := by decide +kernel
theorem dX10_next_247 : decode cX10_next 247 = .ok (.aload_n 0, 1) := by decide +kernel
theorem dX10_next_248 : decode cX10_next 248 = .ok (.iload_n 1, 1) := by decide +kernel
theorem dX10_next_249 : decode cX10_next 249 = .ok (.bipush 59, 2) := by decide +kernel
theorem dX10_next_251 : decode cX10_next 251 = .ok (.if_icmp .ne 8, 3) := by decide +kernel
theorem dX10_next_254 : decode cX10_next 254 = .ok (.bipush (-2), 2) := by decide +kernel
theorem dX10_next_256 : decode cX10_next 256 = .ok (.goto 5, 3) := by decide +kernel
theorem dX10_next_259 : decode cX10_next 259 = .ok (.bipush (-3), 2) := by decide +kernel
theorem dX10_next_261 : decode cX10_next 261 = .ok (.putfield 91, 3) := by decide +kernel
theorem dX10_next_264 : decode cX10_next 264 = .ok (.return_, 1) := by decide +kernel
theorem dX10_must_0 : decode cX10_must 0 = .ok (.iload_n 1, 1) := by decide +kernel
theorem dX10_must_1 : decode cX10_must 1 = .ok (.ifCond .ne 20, 3) := by decide +kernel
theorem dX10_must_4 : decode cX10_must 4 = .ok (.aload_n 0, 1) := by decide +kernel
theorem dX10_must_5 : decode cX10_must 5 = .ok (.getfield 42, 3) := by decide +kernel
theorem dX10_must_8 : decode cX10_must 8 = .ok (.bipush (-9), 2) := by decide +kernel
theorem dX10_must_10 : decode cX10_must 10 = .ok (.if_icmp .ne 11, 3) := by decide +kernel
theorem dX10_must_13 : decode cX10_must 13 = .ok (.aload_n 0, 1) := by decide +kernel
theorem dX10_must_14 : decode cX10_must 14 = .ok (.aload_n 0, 1) := by decide +kernel
theorem dX10_must_15 : decode cX10_must 15 = .ok (.getfield 88, 3) := by decide +kernel
theorem dX10_must_18 : decode cX10_must 18 = .ok (.putfield 42, 3) := by decide +kernel
theorem dX10_must_21 : decode cX10_must 21 = .ok (.return_, 1) := by decide +kernel
theorem dX10_goOn_0 : decode cX10_goOn 0 = .ok (.aload_n 0, 1) := by decide +kernel
theorem dX10_goOn_1 : decode cX10_goOn 1 = .ok (.getfield 42, 3) := by decide +kernel
theorem dX10_goOn_4 : decode cX10_goOn 4 = .ok (.bipush (-9), 2) := by decide +kernel
theorem dX10_goOn_6 : decode cX10_goOn 6 = .ok (.if_icmp .ne 7, 3) := by decide +kernel
theorem dX10_goOn_9 : decode cX10_goOn 9 = .ok (.aload_n 0, 1) := by decide +kernel
theorem dX10_goOn_10 : decode cX10_goOn 10 = .ok (.invokevirtual 101, 3) := by decide +kernel
theorem dX10_goOn_13 : decode cX10_goOn 13 = .ok (.return_, 1) := by decide +kernel
theorem dX10_number_0 : decode cX10_number 0 = .ok (.aload_n 0, 1) := by decide +kernel
theorem dX10_number_1 : decode cX10_number 1 = .ok (.aload_n 0, 1) := by decide +kernel
theorem dX10_number_2 : decode cX10_number 2 = .ok (.getfield 42, 3) := by decide +kernel
theorem dX10_number_5 : decode cX10_number 5 = .ok (.bipush (-9), 2) := by decide +kernel
theorem dX10_number_7 : decode cX10_number 7 = .ok (.if_icmp .ne 18, 3) := by decide +kernel
theorem dX10_number_10 : decode cX10_number 10 = .ok (.aload_n 0, 1) := by decide +kernel
theorem dX10_number_11 : decode cX10_number 11 = .ok (.getfield 91, 3) := by decide +kernel
theorem dX10_number_14 : decode cX10_number 14 = .ok (.i2l, 1) := by decide +kernel
theorem dX10_number_15 : decode cX10_number 15 = .ok (.iload_n 1, 1) := by decide +kernel
theorem dX10_number_16 : decode cX10_number 16 = .ok (.i2l, 1) := by decide +kernel
theorem dX10_number_17 : decode cX10_number 17 = .ok (.iload_n 2, 1) := by decide +kernel
theorem dX10_number_18 : decode cX10_number 18 = .ok (.i2l, 1) := by decide +kernel
theorem dX10_number_19 : decode cX10_number 19 = .ok (.invokestatic 69, 3) := by decide +kernel
theorem dX10_number_22 : decode cX10_number 22 = .ok (.ifCond .eq 7, 3) := by decide +kernel
theorem dX10_number_25 : decode cX10_number 25 = .ok (.iconst 1, 1) := by decide +kernel
theorem dX10_number_26 : decode cX10_number 26 = .ok (.goto 4, 3) := by decide +kernel
theorem dX10_number_29 : decode cX10_number 29 = .ok (.iconst 0, 1) := by decide +kernel
theorem dX10_number_30 : decode cX10_number 30 = .ok (.invokevirtual 104, 3) := by decide +kernel
theorem dX10_number_33 : decode cX10_number 33 = .ok (.aload_n 0, 1) := by decide +kernel
theorem dX10_number_34 : decode cX10_number 34 = .ok (.getfield 91, 3) := by decide +kernel
theorem dX10_number_37 : decode cX10_number 37 = .ok (.istore_n 3, 1) := by decide +kernel
theorem dX10_number_38 : decode cX10_number 38 = .ok (.aload_n 0, 1) := by decide +kernel
theorem dX10_number_39 : decode cX10_number 39 = .ok (.invokevirtual 108, 3) := by decide +kernel
theorem dX10_number_42 : decode cX10_number 42 = .ok (.iload_n 3, 1) := by decide +kernel
theorem dX10_number_43 : decode cX10_number 43 = .ok (.ireturn, 1) := by decide +kernel
theorem dX10_unlike_0 : decode cX10_unlike 0 = .ok (.aload_n 0, 1) := by decide +kernel
theorem dX10_unlike_1 : decode cX10_unlike 1 = .ok (.aload_n 0, 1) := by decide +kernel
theorem dX10_unlike_2 : decode cX10_unlike 2 = .ok (.getfield 42, 3) := by decide +kernel
theorem dX10_unlike_5 : decode cX10_unlike 5 = .ok (.bipush (-9), 2) := by decide +kernel
theorem dX10_unlike_7 : decode cX10_unlike 7 = .ok (.if_icmp .ne 25, 3) := by decide +kernel
theorem dX10_unlike_10 : decode cX10_unlike 10 = .ok (.aload_n 0, 1) := by decide +kernel
theorem dX10_unlike_11 : decode cX10_unlike 11 = .ok (.getfield 91, 3) := by decide +kernel
theorem dX10_unlike_14 : decode cX10_unlike 14 = .ok (.i2l, 1) := by decide +kernel
theorem dX10_unlike_15 : decode cX10_unlike 15 = .ok (.lconst 0, 1) := by decide +kernel
theorem dX10_unlike_16 : decode cX10_unlike 16 = .ok (.iload_n 1, 1) := by decide +kernel
theorem dX10_unlike_17 : decode cX10_unlike 17 = .ok (.i2l, 1) := by decide +kernel
theorem dX10_unlike_18 : decode cX10_unlike 18 = .ok (.invokestatic 69, 3) := by decide +kernel
theorem dX10_unlike_21 : decode cX10_unlike 21 = .ok (.ifCond .eq 15, 3) := by decide +kernel
theorem dX10_unlike_24 : decode cX10_unlike 24 = .ok (.aload_n 0, 1) := by decide +kernel
theorem dX10_unlike_25 : decode cX10_unlike 25 = .ok (.getfield 91, 3) := by decide +kernel
theorem dX10_unlike_28 : decode cX10_unlike 28 = .ok (.iload_n 2, 1) := by decide +kernel
theorem dX10_unlike_29 : decode cX10_unlike 29 = .ok (.if_icmp .eq 7, 3) := by decide +kernel
theorem dX10_unlike_32 : decode cX10_unlike 32 = .ok (.iconst 1, 1) := by decide +kernel
theorem dX10_unlike_33 : decode cX10_unlike 33 = .ok (.goto 4, 3) := by decide +kernel
theorem dX10_unlike_36 : decode cX10_unlike 36 = .ok (.iconst 0, 1) := by decide +kernel
theorem dX10_unlike_37 : decode cX10_unlike 37 = .ok (.invokevirtual 104, 3) := by decide +kernel
theorem dX10_unlike_40 : decode cX10_unlike 40 = .ok (.aload_n 0, 1) := by decide +kernel
theorem dX10_unlike_41 : decode cX10_unlike 41 = .ok (.getfield 91, 3) := by decide +kernel
theorem dX10_unlike_44 : decode cX10_unlike 44 = .ok (.istore_n 3, 1) := by decide +kernel
theorem dX10_unlike_45 : decode cX10_unlike 45 = .ok (.aload_n 0, 1) := by decide +kernel
theorem dX10_unlike_46 : decode cX10_unlike 46 = .ok (.invokevirtual 108, 3) := by decide +kernel
theorem dX10_unlike_49 : decode cX10_unlike 49 = .ok (.iload_n 3, 1) := by decide +kernel
theorem dX10_unlike_50 : decode cX10_unlike 50 = .ok (.ireturn, 1) := by decide +kernel
theorem dX10_end_0 : decode cX10_end 0 = .ok (.aload_n 0, 1) := by decide +kernel
theorem dX10_end_1 : decode cX10_end 1 = .ok (.aload_n 0, 1) := by decide +kernel
theorem dX10_end_2 : decode cX10_end 2 = .ok (.getfield 42, 3) := by decide +kernel
theorem dX10_end_5 : decode cX10_end 5 = .ok (.bipush (-9), 2) := by decide +kernel
theorem dX10_end_7 : decode cX10_end 7 = .ok (.if_icmp .ne 12, 3) := by decide +kernel
theorem dX10_end_10 : decode cX10_end 10 = .ok (.aload_n 0, 1) := by decide +kernel
theorem dX10_end_11 : decode cX10_end 11 = .ok (.getfield 91, 3) := by decide +kernel
theorem dX10_end_14 : decode cX10_end 14 = .ok (.bipush (-2), 2) := by decide +kernel
theorem dX10_end_16 : decode cX10_end 16 = .ok (.if_icmp .ne 7, 3) := by decide +kernel
theorem dX10_end_19 : decode cX10_end 19 = .ok (.iconst 1, 1) := by decide +kernel
theorem dX10_end_20 : decode cX10_end 20 = .ok (.goto 4, 3) := by decide +kernel
theorem dX10_end_23 : decode cX10_end 23 = .ok (.iconst 0, 1) := by decide +kernel
theorem dX10_end_24 : decode cX10_end 24 = .ok (.invokevirtual 104, 3) := by decide +kernel
theorem dX10_end_27 : decode cX10_end 27 = .ok (.aload_n 0, 1) := by decide +kernel
theorem dX10_end_28 : decode cX10_end 28 = .ok (.invokevirtual 108, 3) := by decide +kernel
theorem dX10_end_31 : decode cX10_end 31 = .ok (.return_, 1) := by decide +kernel
theorem dX10_readPath_0 : decode cX10_readPath 0 = .ok (.aload_n 0, 1) := by decide +kernel
theorem dX10_readPath_1 : decode cX10_readPath 1 = .ok (.aload_n 0, 1) := by decide +kernel
theorem dX10_readPath_2 : decode cX10_readPath 2 = .ok (.getfield 111, 3) := by decide +kernel
theorem dX10_readPath_5 : decode cX10_readPath 5 = .ok (.bipush 9, 2) := by decide +kernel
theorem dX10_readPath_7 : decode cX10_readPath 7 = .ok (.if_icmp .ge 7, 3) := by decide +kernel
theorem dX10_readPath_10 : decode cX10_readPath 10 = .ok (.iconst 1, 1) := by decide +kernel
theorem dX10_readPath_11 : decode cX10_readPath 11 = .ok (.goto 4, 3) := by decide +kernel
theorem dX10_readPath_14 : decode cX10_readPath 14 = .ok (.iconst 0, 1) := by decide +kernel
theorem dX10_readPath_15 : decode cX10_readPath 15 = .ok (.invokevirtual 104, 3) := by decide +kernel
theorem dX10_readPath_18 : decode cX10_readPath 18 = .ok (.aload_n 0, 1) := by decide +kernel
theorem dX10_readPath_19 : decode cX10_readPath 19 = .ok (.invokevirtual 108, 3) := by decide +kernel
theorem dX10_readPath_22 : decode cX10_readPath 22 = .ok (.aload_n 0, 1) := by decide +kernel
theorem dX10_readPath_23 : decode cX10_readPath 23 = .ok (.iconst 0, 1) := by decide +kernel
theorem dX10_readPath_24 : decode cX10_readPath 24 = .ok (.aload_n 0, 1) := by decide +kernel
theorem dX10_readPath_25 : decode cX10_readPath 25 = .ok (.getfield 114, 3) := by decide +kernel
theorem dX10_readPath_28 : decode cX10_readPath 28 = .ok (.iconst 1, 1) := by decide +kernel
theorem dX10_readPath_29 : decode cX10_readPath 29 = .ok (.isub, 1) := by decide +kernel
theorem dX10_readPath_30 : decode cX10_readPath 30 = .ok (.invokevirtual 117, 3) := by decide +kernel
theorem dX10_readPath_33 : decode cX10_readPath 33 = .ok (.istore_n 1, 1) := by decide +kernel
theorem dX10_readPath_34 : decode cX10_readPath 34 = .ok (.aload_n 0, 1) := by decide +kernel
theorem dX10_readPath_35 : decode cX10_readPath 35 = .ok (.aload_n 0, 1) := by decide +kernel
theorem dX10_readPath_36 : decode cX10_readPath 36 = .ok (.getfield 114, 3) := by decide +kernel
theorem dX10_readPath_39 : decode cX10_readPath 39 = .ok (.iconst 1, 1) := by decide +kernel
theorem dX10_readPath_40 : decode cX10_readPath 40 = .ok (.isub, 1) := by decide +kernel
theorem dX10_readPath_41 : decode cX10_readPath 41 = .ok (.iload_n 1, 1) := by decide +kernel
theorem dX10_readPath_42 : decode cX10_readPath 42 = .ok (.invokevirtual 120, 3) := by decide +kernel
theorem dX10_readPath_45 : decode cX10_readPath 45 = .ok (.istore_n 2, 1) := by decide +kernel
theorem dX10_readPath_46 : decode cX10_readPath 46 = .ok (.aload_n 0, 1) := by decide +kernel
theorem dX10_readPath_47 : decode cX10_readPath 47 = .ok (.iconst 0, 1) := by decide +kernel
theorem dX10_readPath_48 : decode cX10_readPath 48 = .ok (.bipush 9, 2) := by decide +kernel
theorem dX10_readPath_50 : decode cX10_readPath 50 = .ok (.invokevirtual 117, 3) := by decide +kernel
theorem dX10_readPath_53 : decode cX10_readPath 53 = .ok (.istore_n 3, 1) := by decide +kernel
theorem dX10_readPath_54 : decode cX10_readPath 54 = .ok (.aload_n 0, 1) := by decide +kernel
theorem dX10_readPath_55 : decode cX10_readPath 55 = .ok (.invokevirtual 123, 3) := by decide +kernel
theorem dX10_readPath_58 : decode cX10_readPath 58 = .ok (.aload_n 0, 1) := by decide +kernel
theorem dX10_readPath_59 : decode cX10_readPath 59 = .ok (.getfield 42, 3) := by decide +kernel
theorem dX10_readPath_62 : decode cX10_readPath 62 = .ok (.bipush (-9), 2) := by decide +kernel
theorem dX10_readPath_64 : decode cX10_readPath 64 = .ok (.if_icmp .ne 53, 3) := by decide +kernel
theorem dX10_readPath_67 : decode cX10_readPath 67 = .ok (.aload_n 0, 1) := by decide +kernel
theorem dX10_readPath_68 : decode cX10_readPath 68 = .ok (.getfield 45, 3) := by decide +kernel
theorem dX10_readPath_71 : decode cX10_readPath 71 = .ok (.iconst 3, 1) := by decide +kernel
theorem dX10_readPath_72 : decode cX10_readPath 72 = .ok (.aload_n 0, 1) := by decide +kernel
theorem dX10_readPath_73 : decode cX10_readPath 73 = .ok (.getfield 111, 3) := by decide +kernel
theorem dX10_readPath_76 : decode cX10_readPath 76 = .ok (.imul, 1) := by decide +kernel
theorem dX10_readPath_77 : decode cX10_readPath 77 = .ok (.iload_n 1, 1) := by decide +kernel
theorem dX10_readPath_78 : decode cX10_readPath 78 = .ok (.iastore, 1) := by decide +kernel
theorem dX10_readPath_79 : decode cX10_readPath 79 = .ok (.aload_n 0, 1) := by decide +kernel
theorem dX10_readPath_80 : decode cX10_readPath 80 = .ok (.getfield 45, 3) := by decide +kernel
theorem dX10_readPath_83 : decode cX10_readPath 83 = .ok (.iconst 3, 1) := by decide +kernel
theorem dX10_readPath_84 : decode cX10_readPath 84 = .ok (.aload_n 0, 1) := by decide +kernel
theorem dX10_readPath_85 : decode cX10_readPath 85 = .ok (.getfield 111, 3) := by decide +kernel
theorem dX10_readPath_88 : decode cX10_readPath 88 = .ok (.imul, 1) := by decide +kernel
theorem dX10_readPath_89 : decode cX10_readPath 89 = .ok (.iconst 1, 1) := by decide +kernel
theorem dX10_readPath_90 : decode cX10_readPath 90 = .ok (.iadd, 1) := by decide +kernel
theorem dX10_readPath_91 : decode cX10_readPath 91 = .ok (.iload_n 2, 1) := by decide +kernel
theorem dX10_readPath_92 : decode cX10_readPath 92 = .ok (.iastore, 1) := by decide +kernel
theorem dX10_readPath_93 : decode cX10_readPath 93 = .ok (.aload_n 0, 1) := by decide +kernel
theorem dX10_readPath_94 : decode cX10_readPath 94 = .ok (.getfield 45, 3) := by decide +kernel
theorem dX10_readPath_97 : decode cX10_readPath 97 = .ok (.iconst 3, 1) := by decide +kernel
theorem dX10_readPath_98 : decode cX10_readPath 98 = .ok (.aload_n 0, 1) := by decide +kernel
theorem dX10_readPath_99 : decode cX10_readPath 99 = .ok (.getfield 111, 3) := by decide +kernel
theorem dX10_readPath_102 : decode cX10_readPath 102 = .ok (.imul, 1) := by decide +kernel
theorem dX10_readPath_103 : decode cX10_readPath 103 = .ok (.iconst 2, 1) := by decide +kernel
theorem dX10_readPath_104 : decode cX10_readPath 104 = .ok (.iadd, 1) := by decide +kernel
theorem dX10_readPath_105 : decode cX10_readPath 105 = .ok (.iload_n 3, 1) := by decide +kernel
theorem dX10_readPath_106 : decode cX10_readPath 106 = .ok (.iastore, 1) := by decide +kernel
theorem dX10_readPath_107 : decode cX10_readPath 107 = .ok (.aload_n 0, 1) := by decide +kernel
theorem dX10_readPath_108 : decode cX10_readPath 108 = .ok (.dup, 1) := by decide +kernel
theorem dX10_readPath_109 : decode cX10_readPath 109 = .ok (.getfield 111, 3) := by decide +kernel
theorem dX10_readPath_112 : decode cX10_readPath 112 = .ok (.iconst 1, 1) := by decide +kernel
theorem dX10_readPath_113 : decode cX10_readPath 113 = .ok (.iadd, 1) := by decide +kernel
theorem dX10_readPath_114 : decode cX10_readPath 114 = .ok (.putfield 111, 3) := by decide +kernel
theorem dX10_readPath_117 : decode cX10_readPath 117 = .ok (.return_, 1) := by decide +kernel
theorem dX10_readDirector_0 : decode cX10_readDirector 0 = .ok (.aload_n 0, 1) := by decide +kernel
theorem dX10_readDirector_1 : decode cX10_readDirector 1 = .ok (.aload_n 0, 1) := by decide +kernel
theorem dX10_readDirector_2 : decode cX10_readDirector 2 = .ok (.getfield 126, 3) := by decide +kernel
theorem dX10_readDirector_5 : decode cX10_readDirector 5 = .ok (.bipush 6, 2) := by decide +kernel
theorem dX10_readDirector_7 : decode cX10_readDirector 7 = .ok (.if_icmp .ge 7, 3) := by decide +kernel
theorem dX10_readDirector_10 : decode cX10_readDirector 10 = .ok (.iconst 1, 1) := by decide +kernel
theorem dX10_readDirector_11 : decode cX10_readDirector 11 = .ok (.goto 4, 3) := by decide +kernel
theorem dX10_readDirector_14 : decode cX10_readDirector 14 = .ok (.iconst 0, 1) := by decide +kernel
theorem dX10_readDirector_15 : decode cX10_readDirector 15 = .ok (.invokevirtual 104, 3) := by decide +kernel
theorem dX10_readDirector_18 : decode cX10_readDirector 18 = .ok (.aload_n 0, 1) := by decide +kernel
theorem dX10_readDirector_19 : decode cX10_readDirector 19 = .ok (.invokevirtual 108, 3) := by decide +kernel
theorem dX10_readDirector_22 : decode cX10_readDirector 22 = .ok (.aload_n 0, 1) := by decide +kernel
theorem dX10_readDirector_23 : decode cX10_readDirector 23 = .ok (.iconst 1, 1) := by decide +kernel
theorem dX10_readDirector_24 : decode cX10_readDirector 24 = .ok (.bipush 40, 2) := by decide +kernel
theorem dX10_readDirector_26 : decode cX10_readDirector 26 = .ok (.invokevirtual 117, 3) := by decide +kernel
theorem dX10_readDirector_29 : decode cX10_readDirector 29 = .ok (.istore_n 1, 1) := by decide +kernel
theorem dX10_readDirector_30 : decode cX10_readDirector 30 = .ok (.aload_n 0, 1) := by decide +kernel
theorem dX10_readDirector_31 : decode cX10_readDirector 31 = .ok (.iconst 0, 1) := by decide +kernel
theorem dX10_readDirector_32 : decode cX10_readDirector 32 = .ok (.bipush 30, 2) := by decide +kernel
theorem dX10_readDirector_34 : decode cX10_readDirector 34 = .ok (.invokevirtual 117, 3) := by decide +kernel
theorem dX10_readDirector_37 : decode cX10_readDirector 37 = .ok (.istore_n 2, 1) := by decide +kernel
theorem dX10_readDirector_38 : decode cX10_readDirector 38 = .ok (.aload_n 0, 1) := by decide +kernel
theorem dX10_readDirector_39 : decode cX10_readDirector 39 = .ok (.iconst 0, 1) := by decide +kernel
theorem dX10_readDirector_40 : decode cX10_readDirector 40 = .ok (.iconst 5, 1) := by decide +kernel
theorem dX10_readDirector_41 : decode cX10_readDirector 41 = .ok (.invokevirtual 117, 3) := by decide +kernel
theorem dX10_readDirector_44 : decode cX10_readDirector 44 = .ok (.istore_n 3, 1) := by decide +kernel
theorem dX10_readDirector_45 : decode cX10_readDirector 45 = .ok (.aload_n 0, 1) := by decide +kernel
theorem dX10_readDirector_46 : decode cX10_readDirector 46 = .ok (.iconst 0, 1) := by decide +kernel
theorem dX10_readDirector_47 : decode cX10_readDirector 47 = .ok (.aload_n 0, 1) := by decide +kernel
theorem dX10_readDirector_48 : decode cX10_readDirector 48 = .ok (.getfield 114, 3) := by decide +kernel
theorem dX10_readDirector_51 : decode cX10_readDirector 51 = .ok (.iconst 1, 1) := by decide +kernel
theorem dX10_readDirector_52 : decode cX10_readDirector 52 = .ok (.isub, 1) := by decide +kernel
theorem dX10_readDirector_53 : decode cX10_readDirector 53 = .ok (.invokevirtual 117, 3) := by decide +kernel
theorem dX10_readDirector_56 : decode cX10_readDirector 56 = .ok (.istore 4, 2) := by decide +kernel
theorem dX10_readDirector_58 : decode cX10_readDirector 58 = .ok (.aload_n 0, 1) := by decide +kernel
theorem dX10_readDirector_59 : decode cX10_readDirector 59 = .ok (.invokevirtual 123, 3) := by decide +kernel
theorem dX10_readDirector_62 : decode cX10_readDirector 62 = .ok (.aload_n 0, 1) := by decide +kernel
theorem dX10_readDirector_63 : decode cX10_readDirector 63 = .ok (.getfield 42, 3) := by decide +kernel
theorem dX10_readDirector_66 : decode cX10_readDirector 66 = .ok (.bipush (-9), 2) := by decide +kernel
theorem dX10_readDirector_68 : decode cX10_readDirector 68 = .ok (.if_icmp .ne 74, 3) := by decide +kernel
theorem dX10_readDirector_71 : decode cX10_readDirector 71 = .ok (.aload_n 0, 1) := by decide +kernel
theorem dX10_readDirector_72 : decode cX10_readDirector 72 = .ok (.getfield 48, 3) := by decide +kernel
theorem dX10_readDirector_75 : decode cX10_readDirector 75 = .ok (.iconst 3, 1) := by decide +kernel
theorem dX10_readDirector_76 : decode cX10_readDirector 76 = .ok (.aload_n 0, 1) := by decide +kernel
theorem dX10_readDirector_77 : decode cX10_readDirector 77 = .ok (.getfield 126, 3) := by decide +kernel
theorem dX10_readDirector_80 : decode cX10_readDirector 80 = .ok (.imul, 1) := by decide +kernel
theorem dX10_readDirector_81 : decode cX10_readDirector 81 = .ok (.iload_n 1, 1) := by decide +kernel
theorem dX10_readDirector_82 : decode cX10_readDirector 82 = .ok (.iastore, 1) := by decide +kernel
theorem dX10_readDirector_83 : decode cX10_readDirector 83 = .ok (.aload_n 0, 1) := by decide +kernel
theorem dX10_readDirector_84 : decode cX10_readDirector 84 = .ok (.getfield 48, 3) := by decide +kernel
theorem dX10_readDirector_87 : decode cX10_readDirector 87 = .ok (.iconst 3, 1) := by decide +kernel
theorem dX10_readDirector_88 : decode cX10_readDirector 88 = .ok (.aload_n 0, 1) := by decide +kernel
theorem dX10_readDirector_89 : decode cX10_readDirector 89 = .ok (.getfield 126, 3) := by decide +kernel
theorem dX10_readDirector_92 : decode cX10_readDirector 92 = .ok (.imul, 1) := by decide +kernel
theorem dX10_readDirector_93 : decode cX10_readDirector 93 = .ok (.iconst 1, 1) := by decide +kernel
theorem dX10_readDirector_94 : decode cX10_readDirector 94 = .ok (.iadd, 1) := by decide +kernel
theorem dX10_readDirector_95 : decode cX10_readDirector 95 = .ok (.iload_n 3, 1) := by decide +kernel
theorem dX10_readDirector_96 : decode cX10_readDirector 96 = .ok (.iastore, 1) := by decide +kernel
theorem dX10_readDirector_97 : decode cX10_readDirector 97 = .ok (.aload_n 0, 1) := by decide +kernel
theorem dX10_readDirector_98 : decode cX10_readDirector 98 = .ok (.getfield 48, 3) := by decide +kernel
theorem dX10_readDirector_101 : decode cX10_readDirector 101 = .ok (.iconst 3, 1) := by decide +kernel
theorem dX10_readDirector_102 : decode cX10_readDirector 102 = .ok (.aload_n 0, 1) := by decide +kernel
theorem dX10_readDirector_103 : decode cX10_readDirector 103 = .ok (.getfield 126, 3) := by decide +kernel
theorem dX10_readDirector_106 : decode cX10_readDirector 106 = .ok (.imul, 1) := by decide +kernel
theorem dX10_readDirector_107 : decode cX10_readDirector 107 = .ok (.iconst 2, 1) := by decide +kernel
theorem dX10_readDirector_108 : decode cX10_readDirector 108 = .ok (.iadd, 1) := by decide +kernel
theorem dX10_readDirector_109 : decode cX10_readDirector 109 = .ok (.iconst 0, 1) := by decide +kernel
theorem dX10_readDirector_110 : decode cX10_readDirector 110 = .ok (.iastore, 1) := by decide +kernel
theorem dX10_readDirector_111 : decode cX10_readDirector 111 = .ok (.aload_n 0, 1) := by decide +kernel
theorem dX10_readDirector_112 : decode cX10_readDirector 112 = .ok (.getfield 51, 3) := by decide +kernel
theorem dX10_readDirector_115 : decode cX10_readDirector 115 = .ok (.aload_n 0, 1) := by decide +kernel
theorem dX10_readDirector_116 : decode cX10_readDirector 116 = .ok (.getfield 126, 3) := by decide +kernel
theorem dX10_readDirector_119 : decode cX10_readDirector 119 = .ok (.iload 4, 2) := by decide +kernel
theorem dX10_readDirector_121 : decode cX10_readDirector 121 = .ok (.iastore, 1) := by decide +kernel
theorem dX10_readDirector_122 : decode cX10_readDirector 122 = .ok (.aload_n 0, 1) := by decide +kernel
theorem dX10_readDirector_123 : decode cX10_readDirector 123 = .ok (.getfield 54, 3) := by decide +kernel
theorem dX10_readDirector_126 : decode cX10_readDirector 126 = .ok (.aload_n 0, 1) := by decide +kernel
theorem dX10_readDirector_127 : decode cX10_readDirector 127 = .ok (.getfield 126, 3) := by decide +kernel
theorem dX10_readDirector_130 : decode cX10_readDirector 130 = .ok (.iload_n 2, 1) := by decide +kernel
theorem dX10_readDirector_131 : decode cX10_readDirector 131 = .ok (.iastore, 1) := by decide +kernel
theorem dX10_readDirector_132 : decode cX10_readDirector 132 = .ok (.aload_n 0, 1) := by decide +kernel
theorem dX10_readDirector_133 : decode cX10_readDirector 133 = .ok (.dup, 1) := by decide +kernel
theorem dX10_readDirector_134 : decode cX10_readDirector 134 = .ok (.getfield 126, 3) := by decide +kernel
theorem dX10_readDirector_137 : decode cX10_readDirector 137 = .ok (.iconst 1, 1) := by decide +kernel
theorem dX10_readDirector_138 : decode cX10_readDirector 138 = .ok (.iadd, 1) := by decide +kernel
theorem dX10_readDirector_139 : decode cX10_readDirector 139 = .ok (.putfield 126, 3) := by decide +kernel
theorem dX10_readDirector_142 : decode cX10_readDirector 142 = .ok (.return_, 1) := by decide +kernel
theorem dX10_readFriends_0 : decode cX10_readFriends 0 = .ok (.aload_n 0, 1) := by decide +kernel
theorem dX10_readFriends_1 : decode cX10_readFriends 1 = .ok (.invokevirtual 108, 3) := by decide +kernel
theorem dX10_readFriends_4 : decode cX10_readFriends 4 = .ok (.aload_n 0, 1) := by decide +kernel
theorem dX10_readFriends_5 : decode cX10_readFriends 5 = .ok (.iconst 0, 1) := by decide +kernel
theorem dX10_readFriends_6 : decode cX10_readFriends 6 = .ok (.aload_n 0, 1) := by decide +kernel
theorem dX10_readFriends_7 : decode cX10_readFriends 7 = .ok (.getfield 126, 3) := by decide +kernel
theorem dX10_readFriends_10 : decode cX10_readFriends 10 = .ok (.iconst 1, 1) := by decide +kernel
theorem dX10_readFriends_11 : decode cX10_readFriends 11 = .ok (.isub, 1) := by decide +kernel
theorem dX10_readFriends_12 : decode cX10_readFriends 12 = .ok (.invokevirtual 117, 3) := by decide +kernel
theorem dX10_readFriends_15 : decode cX10_readFriends 15 = .ok (.istore_n 1, 1) := by decide +kernel
theorem dX10_readFriends_16 : decode cX10_readFriends 16 = .ok (.aload_n 0, 1) := by decide +kernel
theorem dX10_readFriends_17 : decode cX10_readFriends 17 = .ok (.aload_n 0, 1) := by decide +kernel
theorem dX10_readFriends_18 : decode cX10_readFriends 18 = .ok (.getfield 126, 3) := by decide +kernel
theorem dX10_readFriends_21 : decode cX10_readFriends 21 = .ok (.iconst 1, 1) := by decide +kernel
theorem dX10_readFriends_22 : decode cX10_readFriends 22 = .ok (.isub, 1) := by decide +kernel
theorem dX10_readFriends_23 : decode cX10_readFriends 23 = .ok (.iload_n 1, 1) := by decide +kernel
theorem dX10_readFriends_24 : decode cX10_readFriends 24 = .ok (.invokevirtual 120, 3) := by decide +kernel
theorem dX10_readFriends_27 : decode cX10_readFriends 27 = .ok (.istore_n 2, 1) := by decide +kernel
theorem dX10_readFriends_28 : decode cX10_readFriends 28 = .ok (.aload_n 0, 1) := by decide +kernel
theorem dX10_readFriends_29 : decode cX10_readFriends 29 = .ok (.invokevirtual 123, 3) := by decide +kernel
theorem dX10_readFriends_32 : decode cX10_readFriends 32 = .ok (.aload_n 0, 1) := by decide +kernel
theorem dX10_readFriends_33 : decode cX10_readFriends 33 = .ok (.getfield 42, 3) := by decide +kernel
theorem dX10_readFriends_36 : decode cX10_readFriends 36 = .ok (.bipush (-9), 2) := by decide +kernel
theorem dX10_readFriends_38 : decode cX10_readFriends 38 = .ok (.if_icmp .ne 35, 3) := by decide +kernel
theorem dX10_readFriends_41 : decode cX10_readFriends 41 = .ok (.aload_n 0, 1) := by decide +kernel
theorem dX10_readFriends_42 : decode cX10_readFriends 42 = .ok (.getfield 48, 3) := by decide +kernel
theorem dX10_readFriends_45 : decode cX10_readFriends 45 = .ok (.iconst 3, 1) := by decide +kernel
theorem dX10_readFriends_46 : decode cX10_readFriends 46 = .ok (.iload_n 1, 1) := by decide +kernel
theorem dX10_readFriends_47 : decode cX10_readFriends 47 = .ok (.imul, 1) := by decide +kernel
theorem dX10_readFriends_48 : decode cX10_readFriends 48 = .ok (.iconst 2, 1) := by decide +kernel
theorem dX10_readFriends_49 : decode cX10_readFriends 49 = .ok (.iadd, 1) := by decide +kernel
theorem dX10_readFriends_50 : decode cX10_readFriends 50 = .ok (.dup2, 1) := by decide +kernel
theorem dX10_readFriends_51 : decode cX10_readFriends 51 = .ok (.iaload, 1) := by decide +kernel
theorem dX10_readFriends_52 : decode cX10_readFriends 52 = .ok (.iconst 1, 1) := by decide +kernel
theorem dX10_readFriends_53 : decode cX10_readFriends 53 = .ok (.iload_n 2, 1) := by decide +kernel
theorem dX10_readFriends_54 : decode cX10_readFriends 54 = .ok (.ishl, 1) := by decide +kernel
theorem dX10_readFriends_55 : decode cX10_readFriends 55 = .ok (.ior, 1) := by decide +kernel
theorem dX10_readFriends_56 : decode cX10_readFriends 56 = .ok (.iastore, 1) := by decide +kernel
theorem dX10_readFriends_57 : decode cX10_readFriends 57 = .ok (.aload_n 0, 1) := by decide +kernel
theorem dX10_readFriends_58 : decode cX10_readFriends 58 = .ok (.getfield 48, 3) := by decide +kernel
theorem dX10_readFriends_61 : decode cX10_readFriends 61 = .ok (.iconst 3, 1) := by decide +kernel
theorem dX10_readFriends_62 : decode cX10_readFriends 62 = .ok (.iload_n 2, 1) := by decide +kernel
theorem dX10_readFriends_63 : decode cX10_readFriends 63 = .ok (.imul, 1) := by decide +kernel
theorem dX10_readFriends_64 : decode cX10_readFriends 64 = .ok (.iconst 2, 1) := by decide +kernel
theorem dX10_readFriends_65 : decode cX10_readFriends 65 = .ok (.iadd, 1) := by decide +kernel
theorem dX10_readFriends_66 : decode cX10_readFriends 66 = .ok (.dup2, 1) := by decide +kernel
theorem dX10_readFriends_67 : decode cX10_readFriends 67 = .ok (.iaload, 1) := by decide +kernel
theorem dX10_readFriends_68 : decode cX10_readFriends 68 = .ok (.iconst 1, 1) := by decide +kernel
theorem dX10_readFriends_69 : decode cX10_readFriends 69 = .ok (.iload_n 1, 1) := by decide +kernel
theorem dX10_readFriends_70 : decode cX10_readFriends 70 = .ok (.ishl, 1) := by decide +kernel
theorem dX10_readFriends_71 : decode cX10_readFriends 71 = .ok (.ior, 1) := by decide +kernel
theorem dX10_readFriends_72 : decode cX10_readFriends 72 = .ok (.iastore, 1) := by decide +kernel
theorem dX10_readFriends_73 : decode cX10_readFriends 73 = .ok (.return_, 1) := by decide +kernel
theorem dX10_readChild_0 : decode cX10_readChild 0 = .ok (.aload_n 0, 1) := by decide +kernel
theorem dX10_readChild_1 : decode cX10_readChild 1 = .ok (.aload_n 0, 1) := by decide +kernel
theorem dX10_readChild_2 : decode cX10_readChild 2 = .ok (.getfield 129, 3) := by decide +kernel
theorem dX10_readChild_5 : decode cX10_readChild 5 = .ok (.iconst 4, 1) := by decide +kernel
theorem dX10_readChild_6 : decode cX10_readChild 6 = .ok (.if_icmp .ge 7, 3) := by decide +kernel
theorem dX10_readChild_9 : decode cX10_readChild 9 = .ok (.iconst 1, 1) := by decide +kernel
theorem dX10_readChild_10 : decode cX10_readChild 10 = .ok (.goto 4, 3) := by decide +kernel
theorem dX10_readChild_13 : decode cX10_readChild 13 = .ok (.iconst 0, 1) := by decide +kernel
theorem dX10_readChild_14 : decode cX10_readChild 14 = .ok (.invokevirtual 104, 3) := by decide +kernel
theorem dX10_readChild_17 : decode cX10_readChild 17 = .ok (.aload_n 0, 1) := by decide +kernel
theorem dX10_readChild_18 : decode cX10_readChild 18 = .ok (.invokevirtual 108, 3) := by decide +kernel
theorem dX10_readChild_21 : decode cX10_readChild 21 = .ok (.aload_n 0, 1) := by decide +kernel
theorem dX10_readChild_22 : decode cX10_readChild 22 = .ok (.iconst 1, 1) := by decide +kernel
theorem dX10_readChild_23 : decode cX10_readChild 23 = .ok (.bipush 9, 2) := by decide +kernel
theorem dX10_readChild_25 : decode cX10_readChild 25 = .ok (.invokevirtual 117, 3) := by decide +kernel
theorem dX10_readChild_28 : decode cX10_readChild 28 = .ok (.istore_n 1, 1) := by decide +kernel
theorem dX10_readChild_29 : decode cX10_readChild 29 = .ok (.aload_n 0, 1) := by decide +kernel
theorem dX10_readChild_30 : decode cX10_readChild 30 = .ok (.invokevirtual 123, 3) := by decide +kernel
theorem dX10_readChild_33 : decode cX10_readChild 33 = .ok (.aload_n 0, 1) := by decide +kernel
theorem dX10_readChild_34 : decode cX10_readChild 34 = .ok (.getfield 42, 3) := by decide +kernel
theorem dX10_readChild_37 : decode cX10_readChild 37 = .ok (.bipush (-9), 2) := by decide +kernel
theorem dX10_readChild_39 : decode cX10_readChild 39 = .ok (.if_icmp .ne 23, 3) := by decide +kernel
theorem dX10_readChild_42 : decode cX10_readChild 42 = .ok (.aload_n 0, 1) := by decide +kernel
theorem dX10_readChild_43 : decode cX10_readChild 43 = .ok (.getfield 57, 3) := by decide +kernel
theorem dX10_readChild_46 : decode cX10_readChild 46 = .ok (.aload_n 0, 1) := by decide +kernel
theorem dX10_readChild_47 : decode cX10_readChild 47 = .ok (.getfield 129, 3) := by decide +kernel
theorem dX10_readChild_50 : decode cX10_readChild 50 = .ok (.iload_n 1, 1) := by decide +kernel
theorem dX10_readChild_51 : decode cX10_readChild 51 = .ok (.iastore, 1) := by decide +kernel
theorem dX10_readChild_52 : decode cX10_readChild 52 = .ok (.aload_n 0, 1) := by decide +kernel
theorem dX10_readChild_53 : decode cX10_readChild 53 = .ok (.dup, 1) := by decide +kernel
theorem dX10_readChild_54 : decode cX10_readChild 54 = .ok (.getfield 129, 3) := by decide +kernel
theorem dX10_readChild_57 : decode cX10_readChild 57 = .ok (.iconst 1, 1) := by decide +kernel
theorem dX10_readChild_58 : decode cX10_readChild 58 = .ok (.iadd, 1) := by decide +kernel
theorem dX10_readChild_59 : decode cX10_readChild 59 = .ok (.putfield 129, 3) := by decide +kernel
theorem dX10_readChild_62 : decode cX10_readChild 62 = .ok (.return_, 1) := by decide +kernel
theorem dX10_readRooms_0 : decode cX10_readRooms 0 = .ok (.aload_n 0, 1) := by decide +kernel
theorem dX10_readRooms_1 : decode cX10_readRooms 1 = .ok (.iload_n 1, 1) := by decide +kernel
theorem dX10_readRooms_2 : decode cX10_readRooms 2 = .ok (.ifCond .ne 7, 3) := by decide +kernel
theorem dX10_readRooms_5 : decode cX10_readRooms 5 = .ok (.iconst 1, 1) := by decide +kernel
theorem dX10_readRooms_6 : decode cX10_readRooms 6 = .ok (.goto 4, 3) := by decide +kernel
theorem dX10_readRooms_9 : decode cX10_readRooms 9 = .ok (.iconst 0, 1) := by decide +kernel
theorem dX10_readRooms_10 : decode cX10_readRooms 10 = .ok (.invokevirtual 104, 3) := by decide +kernel
theorem dX10_readRooms_13 : decode cX10_readRooms 13 = .ok (.aload_n 0, 1) := by decide +kernel
theorem dX10_readRooms_14 : decode cX10_readRooms 14 = .ok (.invokevirtual 108, 3) := by decide +kernel
theorem dX10_readRooms_17 : decode cX10_readRooms 17 = .ok (.aload_n 0, 1) := by decide +kernel
theorem dX10_readRooms_18 : decode cX10_readRooms 18 = .ok (.iconst 2, 1) := by decide +kernel
theorem dX10_readRooms_19 : decode cX10_readRooms 19 = .ok (.bipush 8, 2) := by decide +kernel
theorem dX10_readRooms_21 : decode cX10_readRooms 21 = .ok (.invokevirtual 117, 3) := by decide +kernel
theorem dX10_readRooms_24 : decode cX10_readRooms 24 = .ok (.istore_n 2, 1) := by decide +kernel
theorem dX10_readRooms_25 : decode cX10_readRooms 25 = .ok (.aload_n 0, 1) := by decide +kernel
theorem dX10_readRooms_26 : decode cX10_readRooms 26 = .ok (.invokevirtual 123, 3) := by decide +kernel
theorem dX10_readRooms_29 : decode cX10_readRooms 29 = .ok (.aload_n 0, 1) := by decide +kernel
theorem dX10_readRooms_30 : decode cX10_readRooms 30 = .ok (.aload_n 0, 1) := by decide +kernel
theorem dX10_readRooms_31 : decode cX10_readRooms 31 = .ok (.getfield 42, 3) := by decide +kernel
theorem dX10_readRooms_34 : decode cX10_readRooms 34 = .ok (.bipush (-9), 2) := by decide +kernel
theorem dX10_readRooms_36 : decode cX10_readRooms 36 = .ok (.if_icmp .ne 7, 3) := by decide +kernel
theorem dX10_readRooms_39 : decode cX10_readRooms 39 = .ok (.iload_n 2, 1) := by decide +kernel
theorem dX10_readRooms_40 : decode cX10_readRooms 40 = .ok (.goto 4, 3) := by decide +kernel
theorem dX10_readRooms_43 : decode cX10_readRooms 43 = .ok (.iconst 4, 1) := by decide +kernel
theorem dX10_readRooms_44 : decode cX10_readRooms 44 = .ok (.putfield 114, 3) := by decide +kernel
theorem dX10_readRooms_47 : decode cX10_readRooms 47 = .ok (.return_, 1) := by decide +kernel
theorem dX10_take_0 : decode cX10_take 0 = .ok (.aload_n 0, 1) := by decide +kernel
theorem dX10_take_1 : decode cX10_take 1 = .ok (.aload_n 0, 1) := by decide +kernel
theorem dX10_take_2 : decode cX10_take 2 = .ok (.getfield 114, 3) := by decide +kernel
theorem dX10_take_5 : decode cX10_take 5 = .ok (.putfield 7, 3) := by decide +kernel
theorem dX10_take_8 : decode cX10_take 8 = .ok (.aload_n 0, 1) := by decide +kernel
theorem dX10_take_9 : decode cX10_take 9 = .ok (.aload_n 0, 1) := by decide +kernel
theorem dX10_take_10 : decode cX10_take 10 = .ok (.getfield 111, 3) := by decide +kernel
theorem dX10_take_13 : decode cX10_take 13 = .ok (.putfield 73, 3) := by decide +kernel
theorem dX10_take_16 : decode cX10_take 16 = .ok (.aload_n 0, 1) := by decide +kernel
theorem dX10_take_17 : decode cX10_take 17 = .ok (.aload_n 0, 1) := by decide +kernel
theorem dX10_take_18 : decode cX10_take 18 = .ok (.getfield 126, 3) := by decide +kernel
theorem dX10_take_21 : decode cX10_take 21 = .ok (.putfield 66, 3) := by decide +kernel
theorem dX10_take_24 : decode cX10_take 24 = .ok (.aload_n 0, 1) := by decide +kernel
theorem dX10_take_25 : decode cX10_take 25 = .ok (.aload_n 0, 1) := by decide +kernel
theorem dX10_take_26 : decode cX10_take 26 = .ok (.getfield 129, 3) := by decide +kernel
theorem dX10_take_29 : decode cX10_take 29 = .ok (.putfield 132, 3) := by decide +kernel
theorem dX10_take_32 : decode cX10_take 32 = .ok (.iconst 0, 1) := by decide +kernel
theorem dX10_take_33 : decode cX10_take 33 = .ok (.istore_n 1, 1) := by decide +kernel
theorem dX10_take_34 : decode cX10_take 34 = .ok (.iload_n 1, 1) := by decide +kernel
theorem dX10_take_35 : decode cX10_take 35 = .ok (.bipush 27, 2) := by decide +kernel
theorem dX10_take_37 : decode cX10_take 37 = .ok (.if_icmp .ge 21, 3) := by decide +kernel
theorem dX10_take_40 : decode cX10_take 40 = .ok (.aload_n 0, 1) := by decide +kernel
theorem dX10_take_41 : decode cX10_take 41 = .ok (.getfield 13, 3) := by decide +kernel
theorem dX10_take_44 : decode cX10_take 44 = .ok (.iload_n 1, 1) := by decide +kernel
theorem dX10_take_45 : decode cX10_take 45 = .ok (.aload_n 0, 1) := by decide +kernel
theorem dX10_take_46 : decode cX10_take 46 = .ok (.getfield 45, 3) := by decide +kernel
theorem dX10_take_49 : decode cX10_take 49 = .ok (.iload_n 1, 1) := by decide +kernel
theorem dX10_take_50 : decode cX10_take 50 = .ok (.iaload, 1) := by decide +kernel
theorem dX10_take_51 : decode cX10_take 51 = .ok (.iastore, 1) := by decide +kernel
theorem dX10_take_52 : decode cX10_take 52 = .ok (.iinc 1 1, 3) := by decide +kernel
theorem dX10_take_55 : decode cX10_take 55 = .ok (.goto (-21), 3) := by decide +kernel
theorem dX10_take_58 : decode cX10_take 58 = .ok (.iconst 0, 1) := by decide +kernel
theorem dX10_take_59 : decode cX10_take 59 = .ok (.istore_n 1, 1) := by decide +kernel
theorem dX10_take_60 : decode cX10_take 60 = .ok (.iload_n 1, 1) := by decide +kernel
theorem dX10_take_61 : decode cX10_take 61 = .ok (.bipush 18, 2) := by decide +kernel
theorem dX10_take_63 : decode cX10_take 63 = .ok (.if_icmp .ge 21, 3) := by decide +kernel
theorem dX10_take_66 : decode cX10_take 66 = .ok (.aload_n 0, 1) := by decide +kernel
theorem dX10_take_67 : decode cX10_take 67 = .ok (.getfield 17, 3) := by decide +kernel
theorem dX10_take_70 : decode cX10_take 70 = .ok (.iload_n 1, 1) := by decide +kernel
theorem dX10_take_71 : decode cX10_take 71 = .ok (.aload_n 0, 1) := by decide +kernel
theorem dX10_take_72 : decode cX10_take 72 = .ok (.getfield 48, 3) := by decide +kernel
theorem dX10_take_75 : decode cX10_take 75 = .ok (.iload_n 1, 1) := by decide +kernel
theorem dX10_take_76 : decode cX10_take 76 = .ok (.iaload, 1) := by decide +kernel
theorem dX10_take_77 : decode cX10_take 77 = .ok (.iastore, 1) := by decide +kernel
theorem dX10_take_78 : decode cX10_take 78 = .ok (.iinc 1 1, 3) := by decide +kernel
theorem dX10_take_81 : decode cX10_take 81 = .ok (.goto (-21), 3) := by decide +kernel
theorem dX10_take_84 : decode cX10_take 84 = .ok (.iconst 0, 1) := by decide +kernel
theorem dX10_take_85 : decode cX10_take 85 = .ok (.istore_n 1, 1) := by decide +kernel
theorem dX10_take_86 : decode cX10_take 86 = .ok (.iload_n 1, 1) := by decide +kernel
theorem dX10_take_87 : decode cX10_take 87 = .ok (.bipush 29, 2) := by decide +kernel
theorem dX10_take_89 : decode cX10_take 89 = .ok (.if_icmp .ge 16, 3) := by decide +kernel
theorem dX10_take_92 : decode cX10_take 92 = .ok (.aload_n 0, 1) := by decide +kernel
theorem dX10_take_93 : decode cX10_take 93 = .ok (.getfield 23, 3) := by decide +kernel
theorem dX10_take_96 : decode cX10_take 96 = .ok (.iload_n 1, 1) := by decide +kernel
theorem dX10_take_97 : decode cX10_take 97 = .ok (.iconst 0, 1) := by decide +kernel
theorem dX10_take_98 : decode cX10_take 98 = .ok (.iastore, 1) := by decide +kernel
theorem dX10_take_99 : decode cX10_take 99 = .ok (.iinc 1 1, 3) := by decide +kernel
theorem dX10_take_102 : decode cX10_take 102 = .ok (.goto (-16), 3) := by decide +kernel
theorem dX10_take_105 : decode cX10_take 105 = .ok (.iconst 0, 1) := by decide +kernel
theorem dX10_take_106 : decode cX10_take 106 = .ok (.istore_n 1, 1) := by decide +kernel
theorem dX10_take_107 : decode cX10_take 107 = .ok (.iload_n 1, 1) := by decide +kernel
theorem dX10_take_108 : decode cX10_take 108 = .ok (.aload_n 0, 1) := by decide +kernel
theorem dX10_take_109 : decode cX10_take 109 = .ok (.getfield 66, 3) := by decide +kernel
theorem dX10_take_112 : decode cX10_take 112 = .ok (.if_icmp .ge 41, 3) := by decide +kernel
theorem dX10_take_115 : decode cX10_take 115 = .ok (.aload_n 0, 1) := by decide +kernel
theorem dX10_take_116 : decode cX10_take 116 = .ok (.getfield 23, 3) := by decide +kernel
theorem dX10_take_119 : decode cX10_take 119 = .ok (.iconst 4, 1) := by decide +kernel
theorem dX10_take_120 : decode cX10_take 120 = .ok (.iload_n 1, 1) := by decide +kernel
theorem dX10_take_121 : decode cX10_take 121 = .ok (.imul, 1) := by decide +kernel
theorem dX10_take_122 : decode cX10_take 122 = .ok (.iconst 0, 1) := by decide +kernel
theorem dX10_take_123 : decode cX10_take 123 = .ok (.iadd, 1) := by decide +kernel
theorem dX10_take_124 : decode cX10_take 124 = .ok (.aload_n 0, 1) := by decide +kernel
theorem dX10_take_125 : decode cX10_take 125 = .ok (.getfield 51, 3) := by decide +kernel
theorem dX10_take_128 : decode cX10_take 128 = .ok (.iload_n 1, 1) := by decide +kernel
theorem dX10_take_129 : decode cX10_take 129 = .ok (.iaload, 1) := by decide +kernel
theorem dX10_take_130 : decode cX10_take 130 = .ok (.iastore, 1) := by decide +kernel
theorem dX10_take_131 : decode cX10_take 131 = .ok (.aload_n 0, 1) := by decide +kernel
theorem dX10_take_132 : decode cX10_take 132 = .ok (.getfield 23, 3) := by decide +kernel
theorem dX10_take_135 : decode cX10_take 135 = .ok (.iconst 4, 1) := by decide +kernel
theorem dX10_take_136 : decode cX10_take 136 = .ok (.iload_n 1, 1) := by decide +kernel
theorem dX10_take_137 : decode cX10_take 137 = .ok (.imul, 1) := by decide +kernel
theorem dX10_take_138 : decode cX10_take 138 = .ok (.iconst 1, 1) := by decide +kernel
theorem dX10_take_139 : decode cX10_take 139 = .ok (.iadd, 1) := by decide +kernel
theorem dX10_take_140 : decode cX10_take 140 = .ok (.aload_n 0, 1) := by decide +kernel
theorem dX10_take_141 : decode cX10_take 141 = .ok (.getfield 54, 3) := by decide +kernel
theorem dX10_take_144 : decode cX10_take 144 = .ok (.iload_n 1, 1) := by decide +kernel
theorem dX10_take_145 : decode cX10_take 145 = .ok (.iaload, 1) := by decide +kernel
theorem dX10_take_146 : decode cX10_take 146 = .ok (.iastore, 1) := by decide +kernel
theorem dX10_take_147 : decode cX10_take 147 = .ok (.iinc 1 1, 3) := by decide +kernel
theorem dX10_take_150 : decode cX10_take 150 = .ok (.goto (-43), 3) := by decide +kernel
theorem dX10_take_153 : decode cX10_take 153 = .ok (.iconst 0, 1) := by decide +kernel
theorem dX10_take_154 : decode cX10_take 154 = .ok (.istore_n 1, 1) := by decide +kernel
theorem dX10_take_155 : decode cX10_take 155 = .ok (.iload_n 1, 1) := by decide +kernel
theorem dX10_take_156 : decode cX10_take 156 = .ok (.iconst 4, 1) := by decide +kernel
theorem dX10_take_157 : decode cX10_take 157 = .ok (.if_icmp .ge 21, 3) := by decide +kernel
theorem dX10_take_160 : decode cX10_take 160 = .ok (.aload_n 0, 1) := by decide +kernel
theorem dX10_take_161 : decode cX10_take 161 = .ok (.getfield 20, 3) := by decide +kernel
theorem dX10_take_164 : decode cX10_take 164 = .ok (.iload_n 1, 1) := by decide +kernel
theorem dX10_take_165 : decode cX10_take 165 = .ok (.aload_n 0, 1) := by decide +kernel
theorem dX10_take_166 : decode cX10_take 166 = .ok (.getfield 57, 3) := by decide +kernel
theorem dX10_take_169 : decode cX10_take 169 = .ok (.iload_n 1, 1) := by decide +kernel
theorem dX10_take_170 : decode cX10_take 170 = .ok (.iaload, 1) := by decide +kernel
theorem dX10_take_171 : decode cX10_take 171 = .ok (.iastore, 1) := by decide +kernel
theorem dX10_take_172 : decode cX10_take 172 = .ok (.iinc 1 1, 3) := by decide +kernel
theorem dX10_take_175 : decode cX10_take 175 = .ok (.goto (-20), 3) := by decide +kernel
theorem dX10_take_178 : decode cX10_take 178 = .ok (.aload_n 0, 1) := by decide +kernel
theorem dX10_take_179 : decode cX10_take 179 = .ok (.iconst 0, 1) := by decide +kernel
theorem dX10_take_180 : decode cX10_take 180 = .ok (.putfield 135, 3) := by decide +kernel
theorem dX10_take_183 : decode cX10_take 183 = .ok (.aload_n 0, 1) := by decide +kernel
theorem dX10_take_184 : decode cX10_take 184 = .ok (.iconst 0, 1) := by decide +kernel
theorem dX10_take_185 : decode cX10_take 185 = .ok (.putfield 138, 3) := by decide +kernel
theorem dX10_take_188 : decode cX10_take 188 = .ok (.aload_n 0, 1) := by decide +kernel
theorem dX10_take_189 : decode cX10_take 189 = .ok (.getfield 32, 3) := by decide +kernel
theorem dX10_take_192 : decode cX10_take 192 = .ok (.iconst 0, 1) := by decide +kernel
theorem dX10_take_193 : decode cX10_take 193 = .ok (.iconst 0, 1) := by decide +kernel
theorem dX10_take_194 : decode cX10_take 194 = .ok (.bastore, 1) := by decide +kernel
theorem dX10_take_195 : decode cX10_take 195 = .ok (.aload_n 0, 1) := by decide +kernel
theorem dX10_take_196 : decode cX10_take 196 = .ok (.getfield 32, 3) := by decide +kernel
theorem dX10_take_199 : decode cX10_take 199 = .ok (.iconst 1, 1) := by decide +kernel
theorem dX10_take_200 : decode cX10_take 200 = .ok (.iconst 0, 1) := by decide +kernel
theorem dX10_take_201 : decode cX10_take 201 = .ok (.bastore, 1) := by decide +kernel
theorem dX10_take_202 : decode cX10_take 202 = .ok (.aload_n 0, 1) := by decide +kernel
theorem dX10_take_203 : decode cX10_take 203 = .ok (.iconst 0, 1) := by decide +kernel
theorem dX10_take_204 : decode cX10_take 204 = .ok (.putfield 82, 3) := by decide +kernel
theorem dX10_take_207 : decode cX10_take 207 = .ok (.return_, 1) := by decide +kernel
theorem dX10_house_0 : decode cX10_house 0 = .ok (.aload_n 0, 1) := by decide +kernel
theorem dX10_house_1 : decode cX10_house 1 = .ok (.iconst 4, 1) := by decide +kernel
theorem dX10_house_2 : decode cX10_house 2 = .ok (.putfield 114, 3) := by decide +kernel
theorem dX10_house_5 : decode cX10_house 5 = .ok (.aload_n 0, 1) := by decide +kernel
theorem dX10_house_6 : decode cX10_house 6 = .ok (.iconst 0, 1) := by decide +kernel
theorem dX10_house_7 : decode cX10_house 7 = .ok (.putfield 111, 3) := by decide +kernel
theorem dX10_house_10 : decode cX10_house 10 = .ok (.aload_n 0, 1) := by decide +kernel
theorem dX10_house_11 : decode cX10_house 11 = .ok (.iconst 0, 1) := by decide +kernel
theorem dX10_house_12 : decode cX10_house 12 = .ok (.putfield 126, 3) := by decide +kernel
theorem dX10_house_15 : decode cX10_house 15 = .ok (.aload_n 0, 1) := by decide +kernel
theorem dX10_house_16 : decode cX10_house 16 = .ok (.iconst 0, 1) := by decide +kernel
theorem dX10_house_17 : decode cX10_house 17 = .ok (.putfield 129, 3) := by decide +kernel
theorem dX10_house_20 : decode cX10_house 20 = .ok (.aload_n 0, 1) := by decide +kernel
theorem dX10_house_21 : decode cX10_house 21 = .ok (.iconst 0, 1) := by decide +kernel
theorem dX10_house_22 : decode cX10_house 22 = .ok (.putfield 85, 3) := by decide +kernel
theorem dX10_house_25 : decode cX10_house 25 = .ok (.aload_n 0, 1) := by decide +kernel
theorem dX10_house_26 : decode cX10_house 26 = .ok (.bipush (-9), 2) := by decide +kernel
theorem dX10_house_28 : decode cX10_house 28 = .ok (.putfield 42, 3) := by decide +kernel
theorem dX10_house_31 : decode cX10_house 31 = .ok (.iconst 0, 1) := by decide +kernel
theorem dX10_house_32 : decode cX10_house 32 = .ok (.istore_n 1, 1) := by decide +kernel
theorem dX10_house_33 : decode cX10_house 33 = .ok (.aload_n 0, 1) := by decide +kernel
theorem dX10_house_34 : decode cX10_house 34 = .ok (.invokevirtual 101, 3) := by decide +kernel
theorem dX10_house_37 : decode cX10_house 37 = .ok (.aload_n 0, 1) := by decide +kernel
theorem dX10_house_38 : decode cX10_house 38 = .ok (.getfield 42, 3) := by decide +kernel
theorem dX10_house_41 : decode cX10_house 41 = .ok (.bipush (-9), 2) := by decide +kernel
theorem dX10_house_43 : decode cX10_house 43 = .ok (.if_icmp .ne 112, 3) := by decide +kernel
theorem dX10_house_46 : decode cX10_house 46 = .ok (.aload_n 0, 1) := by decide +kernel
theorem dX10_house_47 : decode cX10_house 47 = .ok (.getfield 91, 3) := by decide +kernel
theorem dX10_house_50 : decode cX10_house 50 = .ok (.iconst (-1), 1) := by decide +kernel
theorem dX10_house_51 : decode cX10_house 51 = .ok (.if_icmp .eq 104, 3) := by decide +kernel
theorem dX10_house_54 : decode cX10_house 54 = .ok (.aload_n 0, 1) := by decide +kernel
theorem dX10_house_55 : decode cX10_house 55 = .ok (.getfield 91, 3) := by decide +kernel
theorem dX10_house_58 : decode cX10_house 58 = .ok (.lookupswitch 86 #[(1099, 79), (1100, 65), (1102, 72), (1112, 58), (1114, 50)], 50) := by decide +kernel
theorem dX10_house_108 : decode cX10_house 108 = .ok (.aload_n 0, 1) := by decide +kernel
theorem dX10_house_109 : decode cX10_house 109 = .ok (.iload_n 1, 1) := by decide +kernel
theorem dX10_house_110 : decode cX10_house 110 = .ok (.invokevirtual 141, 3) := by decide +kernel
theorem dX10_house_113 : decode cX10_house 113 = .ok (.goto 36, 3) := by decide +kernel
theorem dX10_house_116 : decode cX10_house 116 = .ok (.aload_n 0, 1) := by decide +kernel
theorem dX10_house_117 : decode cX10_house 117 = .ok (.invokevirtual 145, 3) := by decide +kernel
theorem dX10_house_120 : decode cX10_house 120 = .ok (.goto 29, 3) := by decide +kernel
theorem dX10_house_123 : decode cX10_house 123 = .ok (.aload_n 0, 1) := by decide +kernel
theorem dX10_house_124 : decode cX10_house 124 = .ok (.invokevirtual 148, 3) := by decide +kernel
theorem dX10_house_127 : decode cX10_house 127 = .ok (.goto 22, 3) := by decide +kernel
theorem dX10_house_130 : decode cX10_house 130 = .ok (.aload_n 0, 1) := by decide +kernel
theorem dX10_house_131 : decode cX10_house 131 = .ok (.invokevirtual 151, 3) := by decide +kernel
theorem dX10_house_134 : decode cX10_house 134 = .ok (.goto 15, 3) := by decide +kernel
theorem dX10_house_137 : decode cX10_house 137 = .ok (.aload_n 0, 1) := by decide +kernel
theorem dX10_house_138 : decode cX10_house 138 = .ok (.invokevirtual 154, 3) := by decide +kernel
theorem dX10_house_141 : decode cX10_house 141 = .ok (.goto 8, 3) := by decide +kernel
theorem dX10_house_144 : decode cX10_house 144 = .ok (.aload_n 0, 1) := by decide +kernel
theorem dX10_house_145 : decode cX10_house 145 = .ok (.iconst 0, 1) := by decide +kernel
theorem dX10_house_146 : decode cX10_house 146 = .ok (.invokevirtual 104, 3) := by decide +kernel
theorem dX10_house_149 : decode cX10_house 149 = .ok (.iinc 1 1, 3) := by decide +kernel
theorem dX10_house_152 : decode cX10_house 152 = .ok (.goto (-115), 3) := by decide +kernel
theorem dX10_house_155 : decode cX10_house 155 = .ok (.aload_n 0, 1) := by decide +kernel
theorem dX10_house_156 : decode cX10_house 156 = .ok (.getfield 42, 3) := by decide +kernel
theorem dX10_house_159 : decode cX10_house 159 = .ok (.bipush (-9), 2) := by decide +kernel
theorem dX10_house_161 : decode cX10_house 161 = .ok (.if_icmp .eq 11, 3) := by decide +kernel
theorem dX10_house_164 : decode cX10_house 164 = .ok (.bipush (-10), 2) := by decide +kernel
theorem dX10_house_166 : decode cX10_house 166 = .ok (.aload_n 0, 1) := by decide +kernel
theorem dX10_house_167 : decode cX10_house 167 = .ok (.getfield 42, 3) := by decide +kernel
theorem dX10_house_170 : decode cX10_house 170 = .ok (.isub, 1) := by decide +kernel
theorem dX10_house_171 : decode cX10_house 171 = .ok (.ireturn, 1) := by decide +kernel
theorem dX10_house_172 : decode cX10_house 172 = .ok (.aload_n 0, 1) := by decide +kernel
theorem dX10_house_173 : decode cX10_house 173 = .ok (.invokevirtual 157, 3) := by decide +kernel
theorem dX10_house_176 : decode cX10_house 176 = .ok (.iload_n 1, 1) := by decide +kernel
theorem dX10_house_177 : decode cX10_house 177 = .ok (.ireturn, 1) := by decide +kernel
theorem dX10_may_0 : decode cX10_may 0 = .ok (.aload_n 0, 1) := by decide +kernel
theorem dX10_may_1 : decode cX10_may 1 = .ok (.iload_n 1, 1) := by decide +kernel
theorem dX10_may_2 : decode cX10_may 2 = .ok (.iconst 1, 1) := by decide +kernel
theorem dX10_may_3 : decode cX10_may 3 = .ok (.invokevirtual 76, 3) := by decide +kernel
theorem dX10_may_6 : decode cX10_may 6 = .ok (.aload_n 0, 1) := by decide +kernel
theorem dX10_may_7 : decode cX10_may 7 = .ok (.getfield 13, 3) := by decide +kernel
theorem dX10_may_10 : decode cX10_may 10 = .ok (.iconst 3, 1) := by decide +kernel
theorem dX10_may_11 : decode cX10_may 11 = .ok (.iload_n 2, 1) := by decide +kernel
theorem dX10_may_12 : decode cX10_may 12 = .ok (.imul, 1) := by decide +kernel
theorem dX10_may_13 : decode cX10_may 13 = .ok (.iconst 2, 1) := by decide +kernel
theorem dX10_may_14 : decode cX10_may 14 = .ok (.iadd, 1) := by decide +kernel
theorem dX10_may_15 : decode cX10_may 15 = .ok (.iaload, 1) := by decide +kernel
theorem dX10_may_16 : decode cX10_may 16 = .ok (.iadd, 1) := by decide +kernel
theorem dX10_may_17 : decode cX10_may 17 = .ok (.aload_n 0, 1) := by decide +kernel
theorem dX10_may_18 : decode cX10_may 18 = .ok (.iload_n 1, 1) := by decide +kernel
theorem dX10_may_19 : decode cX10_may 19 = .ok (.invokevirtual 160, 3) := by decide +kernel
theorem dX10_may_22 : decode cX10_may 22 = .ok (.if_icmp .gt 7, 3) := by decide +kernel
theorem dX10_may_25 : decode cX10_may 25 = .ok (.iconst 1, 1) := by decide +kernel
theorem dX10_may_26 : decode cX10_may 26 = .ok (.goto 4, 3) := by decide +kernel
theorem dX10_may_29 : decode cX10_may 29 = .ok (.iconst 0, 1) := by decide +kernel
theorem dX10_may_30 : decode cX10_may 30 = .ok (.ireturn, 1) := by decide +kernel
theorem dX10_other_0 : decode cX10_other 0 = .ok (.aload_n 0, 1) := by decide +kernel
theorem dX10_other_1 : decode cX10_other 1 = .ok (.getfield 13, 3) := by decide +kernel
theorem dX10_other_4 : decode cX10_other 4 = .ok (.iconst 3, 1) := by decide +kernel
theorem dX10_other_5 : decode cX10_other 5 = .ok (.iload_n 1, 1) := by decide +kernel
theorem dX10_other_6 : decode cX10_other 6 = .ok (.imul, 1) := by decide +kernel
theorem dX10_other_7 : decode cX10_other 7 = .ok (.iaload, 1) := by decide +kernel
theorem dX10_other_8 : decode cX10_other 8 = .ok (.iload_n 2, 1) := by decide +kernel
theorem dX10_other_9 : decode cX10_other 9 = .ok (.if_icmp .ne 16, 3) := by decide +kernel
theorem dX10_other_12 : decode cX10_other 12 = .ok (.aload_n 0, 1) := by decide +kernel
theorem dX10_other_13 : decode cX10_other 13 = .ok (.getfield 13, 3) := by decide +kernel
theorem dX10_other_16 : decode cX10_other 16 = .ok (.iconst 3, 1) := by decide +kernel
theorem dX10_other_17 : decode cX10_other 17 = .ok (.iload_n 1, 1) := by decide +kernel
theorem dX10_other_18 : decode cX10_other 18 = .ok (.imul, 1) := by decide +kernel
theorem dX10_other_19 : decode cX10_other 19 = .ok (.iconst 1, 1) := by decide +kernel
theorem dX10_other_20 : decode cX10_other 20 = .ok (.iadd, 1) := by decide +kernel
theorem dX10_other_21 : decode cX10_other 21 = .ok (.iaload, 1) := by decide +kernel
theorem dX10_other_22 : decode cX10_other 22 = .ok (.goto 30, 3) := by decide +kernel
theorem dX10_other_25 : decode cX10_other 25 = .ok (.aload_n 0, 1) := by decide +kernel
theorem dX10_other_26 : decode cX10_other 26 = .ok (.getfield 13, 3) := by decide +kernel
theorem dX10_other_29 : decode cX10_other 29 = .ok (.iconst 3, 1) := by decide +kernel
theorem dX10_other_30 : decode cX10_other 30 = .ok (.iload_n 1, 1) := by decide +kernel
theorem dX10_other_31 : decode cX10_other 31 = .ok (.imul, 1) := by decide +kernel
theorem dX10_other_32 : decode cX10_other 32 = .ok (.iconst 1, 1) := by decide +kernel
theorem dX10_other_33 : decode cX10_other 33 = .ok (.iadd, 1) := by decide +kernel
theorem dX10_other_34 : decode cX10_other 34 = .ok (.iaload, 1) := by decide +kernel
theorem dX10_other_35 : decode cX10_other 35 = .ok (.iload_n 2, 1) := by decide +kernel
theorem dX10_other_36 : decode cX10_other 36 = .ok (.if_icmp .ne 14, 3) := by decide +kernel
theorem dX10_other_39 : decode cX10_other 39 = .ok (.aload_n 0, 1) := by decide +kernel
theorem dX10_other_40 : decode cX10_other 40 = .ok (.getfield 13, 3) := by decide +kernel
theorem dX10_other_43 : decode cX10_other 43 = .ok (.iconst 3, 1) := by decide +kernel
theorem dX10_other_44 : decode cX10_other 44 = .ok (.iload_n 1, 1) := by decide +kernel
theorem dX10_other_45 : decode cX10_other 45 = .ok (.imul, 1) := by decide +kernel
theorem dX10_other_46 : decode cX10_other 46 = .ok (.iaload, 1) := by decide +kernel
theorem dX10_other_47 : decode cX10_other 47 = .ok (.goto 5, 3) := by decide +kernel
theorem dX10_other_50 : decode cX10_other 50 = .ok (.bipush (-9), 2) := by decide +kernel
theorem dX10_other_52 : decode cX10_other 52 = .ok (.ireturn, 1) := by decide +kernel
theorem dX10_lay_0 : decode cX10_lay 0 = .ok (.iconst 0, 1) := by decide +kernel
theorem dX10_lay_1 : decode cX10_lay 1 = .ok (.istore_n 2, 1) := by decide +kernel
theorem dX10_lay_2 : decode cX10_lay 2 = .ok (.iload_n 2, 1) := by decide +kernel
theorem dX10_lay_3 : decode cX10_lay 3 = .ok (.bipush 8, 2) := by decide +kernel
theorem dX10_lay_5 : decode cX10_lay 5 = .ok (.if_icmp .ge 17, 3) := by decide +kernel
theorem dX10_lay_8 : decode cX10_lay 8 = .ok (.aload_n 0, 1) := by decide +kernel
theorem dX10_lay_9 : decode cX10_lay 9 = .ok (.getfield 60, 3) := by decide +kernel
theorem dX10_lay_12 : decode cX10_lay 12 = .ok (.iload_n 2, 1) := by decide +kernel
theorem dX10_lay_13 : decode cX10_lay 13 = .ok (.bipush (-9), 2) := by decide +kernel
theorem dX10_lay_15 : decode cX10_lay 15 = .ok (.iastore, 1) := by decide +kernel
theorem dX10_lay_16 : decode cX10_lay 16 = .ok (.iinc 2 1, 3) := by decide +kernel
theorem dX10_lay_19 : decode cX10_lay 19 = .ok (.goto (-17), 3) := by decide +kernel
theorem dX10_lay_22 : decode cX10_lay 22 = .ok (.aload_n 0, 1) := by decide +kernel
theorem dX10_lay_23 : decode cX10_lay 23 = .ok (.getfield 60, 3) := by decide +kernel
theorem dX10_lay_26 : decode cX10_lay 26 = .ok (.aload_n 0, 1) := by decide +kernel
theorem dX10_lay_27 : decode cX10_lay 27 = .ok (.iload_n 1, 1) := by decide +kernel
theorem dX10_lay_28 : decode cX10_lay 28 = .ok (.iconst 0, 1) := by decide +kernel
theorem dX10_lay_29 : decode cX10_lay 29 = .ok (.invokevirtual 76, 3) := by decide +kernel
theorem dX10_lay_32 : decode cX10_lay 32 = .ok (.iconst 0, 1) := by decide +kernel
theorem dX10_lay_33 : decode cX10_lay 33 = .ok (.iastore, 1) := by decide +kernel
theorem dX10_lay_34 : decode cX10_lay 34 = .ok (.iconst 1, 1) := by decide +kernel
theorem dX10_lay_35 : decode cX10_lay 35 = .ok (.istore_n 2, 1) := by decide +kernel
theorem dX10_lay_36 : decode cX10_lay 36 = .ok (.iload_n 2, 1) := by decide +kernel
theorem dX10_lay_37 : decode cX10_lay 37 = .ok (.ifCond .eq 155, 3) := by decide +kernel
theorem dX10_lay_40 : decode cX10_lay 40 = .ok (.iconst 0, 1) := by decide +kernel
theorem dX10_lay_41 : decode cX10_lay 41 = .ok (.istore_n 2, 1) := by decide +kernel
theorem dX10_lay_42 : decode cX10_lay 42 = .ok (.iconst 0, 1) := by decide +kernel
theorem dX10_lay_43 : decode cX10_lay 43 = .ok (.istore_n 3, 1) := by decide +kernel
theorem dX10_lay_44 : decode cX10_lay 44 = .ok (.iload_n 3, 1) := by decide +kernel
theorem dX10_lay_45 : decode cX10_lay 45 = .ok (.aload_n 0, 1) := by decide +kernel
theorem dX10_lay_46 : decode cX10_lay 46 = .ok (.getfield 73, 3) := by decide +kernel
theorem dX10_lay_49 : decode cX10_lay 49 = .ok (.if_icmp .ge 140, 3) := by decide +kernel
theorem dX10_lay_52 : decode cX10_lay 52 = .ok (.iconst 0, 1) := by decide +kernel
theorem dX10_lay_53 : decode cX10_lay 53 = .ok (.istore 4, 2) := by decide +kernel
theorem dX10_lay_55 : decode cX10_lay 55 = .ok (.iload 4, 2) := by decide +kernel
theorem dX10_lay_57 : decode cX10_lay 57 = .ok (.iconst 2, 1) := by decide +kernel
theorem dX10_lay_58 : decode cX10_lay 58 = .ok (.if_icmp .ge 125, 3) := by decide +kernel
theorem dX10_lay_61 : decode cX10_lay 61 = .ok (.aload_n 0, 1) := by decide +kernel
theorem dX10_lay_62 : decode cX10_lay 62 = .ok (.getfield 13, 3) := by decide +kernel
theorem dX10_lay_65 : decode cX10_lay 65 = .ok (.iconst 3, 1) := by decide +kernel
theorem dX10_lay_66 : decode cX10_lay 66 = .ok (.iload_n 3, 1) := by decide +kernel
theorem dX10_lay_67 : decode cX10_lay 67 = .ok (.imul, 1) := by decide +kernel
theorem dX10_lay_68 : decode cX10_lay 68 = .ok (.iload 4, 2) := by decide +kernel
theorem dX10_lay_70 : decode cX10_lay 70 = .ok (.iadd, 1) := by decide +kernel
theorem dX10_lay_71 : decode cX10_lay 71 = .ok (.iaload, 1) := by decide +kernel
theorem dX10_lay_72 : decode cX10_lay 72 = .ok (.istore 5, 2) := by decide +kernel
theorem dX10_lay_74 : decode cX10_lay 74 = .ok (.aload_n 0, 1) := by decide +kernel
theorem dX10_lay_75 : decode cX10_lay 75 = .ok (.getfield 13, 3) := by decide +kernel
theorem dX10_lay_78 : decode cX10_lay 78 = .ok (.iconst 3, 1) := by decide +kernel
theorem dX10_lay_79 : decode cX10_lay 79 = .ok (.iload_n 3, 1) := by decide +kernel
theorem dX10_lay_80 : decode cX10_lay 80 = .ok (.imul, 1) := by decide +kernel
theorem dX10_lay_81 : decode cX10_lay 81 = .ok (.iconst 1, 1) := by decide +kernel
theorem dX10_lay_82 : decode cX10_lay 82 = .ok (.iadd, 1) := by decide +kernel
theorem dX10_lay_83 : decode cX10_lay 83 = .ok (.iload 4, 2) := by decide +kernel
theorem dX10_lay_85 : decode cX10_lay 85 = .ok (.isub, 1) := by decide +kernel
theorem dX10_lay_86 : decode cX10_lay 86 = .ok (.iaload, 1) := by decide +kernel
theorem dX10_lay_87 : decode cX10_lay 87 = .ok (.istore 6, 2) := by decide +kernel
theorem dX10_lay_89 : decode cX10_lay 89 = .ok (.aload_n 0, 1) := by decide +kernel
theorem dX10_lay_90 : decode cX10_lay 90 = .ok (.getfield 60, 3) := by decide +kernel
theorem dX10_lay_93 : decode cX10_lay 93 = .ok (.iload 5, 2) := by decide +kernel
theorem dX10_lay_95 : decode cX10_lay 95 = .ok (.iaload, 1) := by decide +kernel
theorem dX10_lay_96 : decode cX10_lay 96 = .ok (.bipush 100, 2) := by decide +kernel
theorem dX10_lay_98 : decode cX10_lay 98 = .ok (.aload_n 0, 1) := by decide +kernel
theorem dX10_lay_99 : decode cX10_lay 99 = .ok (.iload_n 1, 1) := by decide +kernel
theorem dX10_lay_100 : decode cX10_lay 100 = .ok (.iconst 1, 1) := by decide +kernel
theorem dX10_lay_101 : decode cX10_lay 101 = .ok (.invokevirtual 76, 3) := by decide +kernel
theorem dX10_lay_104 : decode cX10_lay 104 = .ok (.imul, 1) := by decide +kernel
theorem dX10_lay_105 : decode cX10_lay 105 = .ok (.aload_n 0, 1) := by decide +kernel
theorem dX10_lay_106 : decode cX10_lay 106 = .ok (.getfield 13, 3) := by decide +kernel
theorem dX10_lay_109 : decode cX10_lay 109 = .ok (.iconst 3, 1) := by decide +kernel
theorem dX10_lay_110 : decode cX10_lay 110 = .ok (.iload_n 3, 1) := by decide +kernel
theorem dX10_lay_111 : decode cX10_lay 111 = .ok (.imul, 1) := by decide +kernel
theorem dX10_lay_112 : decode cX10_lay 112 = .ok (.iconst 2, 1) := by decide +kernel
theorem dX10_lay_113 : decode cX10_lay 113 = .ok (.iadd, 1) := by decide +kernel
theorem dX10_lay_114 : decode cX10_lay 114 = .ok (.iaload, 1) := by decide +kernel
theorem dX10_lay_115 : decode cX10_lay 115 = .ok (.imul, 1) := by decide +kernel
theorem dX10_lay_116 : decode cX10_lay 116 = .ok (.iadd, 1) := by decide +kernel
theorem dX10_lay_117 : decode cX10_lay 117 = .ok (.iconst 1, 1) := by decide +kernel
theorem dX10_lay_118 : decode cX10_lay 118 = .ok (.iadd, 1) := by decide +kernel
theorem dX10_lay_119 : decode cX10_lay 119 = .ok (.istore 7, 2) := by decide +kernel
theorem dX10_lay_121 : decode cX10_lay 121 = .ok (.aload_n 0, 1) := by decide +kernel
theorem dX10_lay_122 : decode cX10_lay 122 = .ok (.getfield 60, 3) := by decide +kernel
theorem dX10_lay_125 : decode cX10_lay 125 = .ok (.iload 5, 2) := by decide +kernel
theorem dX10_lay_127 : decode cX10_lay 127 = .ok (.iaload, 1) := by decide +kernel
theorem dX10_lay_128 : decode cX10_lay 128 = .ok (.bipush (-9), 2) := by decide +kernel
theorem dX10_lay_130 : decode cX10_lay 130 = .ok (.if_icmp .eq 47, 3) := by decide +kernel
theorem dX10_lay_133 : decode cX10_lay 133 = .ok (.aload_n 0, 1) := by decide +kernel
theorem dX10_lay_134 : decode cX10_lay 134 = .ok (.iload_n 1, 1) := by decide +kernel
theorem dX10_lay_135 : decode cX10_lay 135 = .ok (.iload_n 3, 1) := by decide +kernel
theorem dX10_lay_136 : decode cX10_lay 136 = .ok (.invokevirtual 164, 3) := by decide +kernel
theorem dX10_lay_139 : decode cX10_lay 139 = .ok (.ifCond .eq 38, 3) := by decide +kernel
theorem dX10_lay_142 : decode cX10_lay 142 = .ok (.aload_n 0, 1) := by decide +kernel
theorem dX10_lay_143 : decode cX10_lay 143 = .ok (.getfield 60, 3) := by decide +kernel
theorem dX10_lay_146 : decode cX10_lay 146 = .ok (.iload 6, 2) := by decide +kernel
theorem dX10_lay_148 : decode cX10_lay 148 = .ok (.iaload, 1) := by decide +kernel
theorem dX10_lay_149 : decode cX10_lay 149 = .ok (.bipush (-9), 2) := by decide +kernel
theorem dX10_lay_151 : decode cX10_lay 151 = .ok (.if_icmp .eq 15, 3) := by decide +kernel
theorem dX10_lay_154 : decode cX10_lay 154 = .ok (.iload 7, 2) := by decide +kernel
theorem dX10_lay_156 : decode cX10_lay 156 = .ok (.aload_n 0, 1) := by decide +kernel
theorem dX10_lay_157 : decode cX10_lay 157 = .ok (.getfield 60, 3) := by decide +kernel
theorem dX10_lay_160 : decode cX10_lay 160 = .ok (.iload 6, 2) := by decide +kernel
theorem dX10_lay_162 : decode cX10_lay 162 = .ok (.iaload, 1) := by decide +kernel
theorem dX10_lay_163 : decode cX10_lay 163 = .ok (.if_icmp .ge 14, 3) := by decide +kernel
theorem dX10_lay_166 : decode cX10_lay 166 = .ok (.aload_n 0, 1) := by decide +kernel
theorem dX10_lay_167 : decode cX10_lay 167 = .ok (.getfield 60, 3) := by decide +kernel
theorem dX10_lay_170 : decode cX10_lay 170 = .ok (.iload 6, 2) := by decide +kernel
theorem dX10_lay_172 : decode cX10_lay 172 = .ok (.iload 7, 2) := by decide +kernel
theorem dX10_lay_174 : decode cX10_lay 174 = .ok (.iastore, 1) := by decide +kernel
theorem dX10_lay_175 : decode cX10_lay 175 = .ok (.iconst 1, 1) := by decide +kernel
theorem dX10_lay_176 : decode cX10_lay 176 = .ok (.istore_n 2, 1) := by decide +kernel
theorem dX10_lay_177 : decode cX10_lay 177 = .ok (.iinc 4 1, 3) := by decide +kernel
theorem dX10_lay_180 : decode cX10_lay 180 = .ok (.goto (-125), 3) := by decide +kernel
theorem dX10_lay_183 : decode cX10_lay 183 = .ok (.iinc 3 1, 3) := by decide +kernel
theorem dX10_lay_186 : decode cX10_lay 186 = .ok (.goto (-142), 3) := by decide +kernel
theorem dX10_lay_189 : decode cX10_lay 189 = .ok (.goto (-153), 3) := by decide +kernel
theorem dX10_lay_192 : decode cX10_lay 192 = .ok (.return_, 1) := by decide +kernel
theorem dX10_reach_0 : decode cX10_reach 0 = .ok (.aload_n 0, 1) := by decide +kernel
theorem dX10_reach_1 : decode cX10_reach 1 = .ok (.iload_n 1, 1) := by decide +kernel
theorem dX10_reach_2 : decode cX10_reach 2 = .ok (.invokevirtual 168, 3) := by decide +kernel
theorem dX10_reach_5 : decode cX10_reach 5 = .ok (.iconst 0, 1) := by decide +kernel
theorem dX10_reach_6 : decode cX10_reach 6 = .ok (.istore_n 2, 1) := by decide +kernel
theorem dX10_reach_7 : decode cX10_reach 7 = .ok (.iconst 0, 1) := by decide +kernel
theorem dX10_reach_8 : decode cX10_reach 8 = .ok (.istore_n 3, 1) := by decide +kernel
theorem dX10_reach_9 : decode cX10_reach 9 = .ok (.iload_n 3, 1) := by decide +kernel
theorem dX10_reach_10 : decode cX10_reach 10 = .ok (.aload_n 0, 1) := by decide +kernel
theorem dX10_reach_11 : decode cX10_reach 11 = .ok (.getfield 7, 3) := by decide +kernel
theorem dX10_reach_14 : decode cX10_reach 14 = .ok (.if_icmp .ge 30, 3) := by decide +kernel
theorem dX10_reach_17 : decode cX10_reach 17 = .ok (.iload_n 2, 1) := by decide +kernel
theorem dX10_reach_18 : decode cX10_reach 18 = .ok (.aload_n 0, 1) := by decide +kernel
theorem dX10_reach_19 : decode cX10_reach 19 = .ok (.getfield 60, 3) := by decide +kernel
theorem dX10_reach_22 : decode cX10_reach 22 = .ok (.iload_n 3, 1) := by decide +kernel
theorem dX10_reach_23 : decode cX10_reach 23 = .ok (.iaload, 1) := by decide +kernel
theorem dX10_reach_24 : decode cX10_reach 24 = .ok (.bipush (-9), 2) := by decide +kernel
theorem dX10_reach_26 : decode cX10_reach 26 = .ok (.if_icmp .eq 9, 3) := by decide +kernel
theorem dX10_reach_29 : decode cX10_reach 29 = .ok (.iconst 1, 1) := by decide +kernel
theorem dX10_reach_30 : decode cX10_reach 30 = .ok (.iload_n 3, 1) := by decide +kernel
theorem dX10_reach_31 : decode cX10_reach 31 = .ok (.ishl, 1) := by decide +kernel
theorem dX10_reach_32 : decode cX10_reach 32 = .ok (.goto 4, 3) := by decide +kernel
theorem dX10_reach_35 : decode cX10_reach 35 = .ok (.iconst 0, 1) := by decide +kernel
theorem dX10_reach_36 : decode cX10_reach 36 = .ok (.ior, 1) := by decide +kernel
theorem dX10_reach_37 : decode cX10_reach 37 = .ok (.istore_n 2, 1) := by decide +kernel
theorem dX10_reach_38 : decode cX10_reach 38 = .ok (.iinc 3 1, 3) := by decide +kernel
theorem dX10_reach_41 : decode cX10_reach 41 = .ok (.goto (-32), 3) := by decide +kernel
theorem dX10_reach_44 : decode cX10_reach 44 = .ok (.iload_n 2, 1) := by decide +kernel
theorem dX10_reach_45 : decode cX10_reach 45 = .ok (.ireturn, 1) := by decide +kernel
theorem dX10_widest_0 : decode cX10_widest 0 = .ok (.iconst 0, 1) := by decide +kernel
theorem dX10_widest_1 : decode cX10_widest 1 = .ok (.istore_n 3, 1) := by decide +kernel
theorem dX10_widest_2 : decode cX10_widest 2 = .ok (.iload_n 3, 1) := by decide +kernel
theorem dX10_widest_3 : decode cX10_widest 3 = .ok (.bipush 10, 2) := by decide +kernel
theorem dX10_widest_5 : decode cX10_widest 5 = .ok (.if_icmp .ge 161, 3) := by decide +kernel
theorem dX10_widest_8 : decode cX10_widest 8 = .ok (.iconst 1, 1) := by decide +kernel
theorem dX10_widest_9 : decode cX10_widest 9 = .ok (.aload_n 0, 1) := by decide +kernel
theorem dX10_widest_10 : decode cX10_widest 10 = .ok (.iload_n 1, 1) := by decide +kernel
theorem dX10_widest_11 : decode cX10_widest 11 = .ok (.iconst 0, 1) := by decide +kernel
theorem dX10_widest_12 : decode cX10_widest 12 = .ok (.invokevirtual 76, 3) := by decide +kernel
theorem dX10_widest_15 : decode cX10_widest 15 = .ok (.ishl, 1) := by decide +kernel
theorem dX10_widest_16 : decode cX10_widest 16 = .ok (.istore 4, 2) := by decide +kernel
theorem dX10_widest_18 : decode cX10_widest 18 = .ok (.iconst 0, 1) := by decide +kernel
theorem dX10_widest_19 : decode cX10_widest 19 = .ok (.istore 5, 2) := by decide +kernel
theorem dX10_widest_21 : decode cX10_widest 21 = .ok (.iload 5, 2) := by decide +kernel
theorem dX10_widest_23 : decode cX10_widest 23 = .ok (.bipush 8, 2) := by decide +kernel
theorem dX10_widest_25 : decode cX10_widest 25 = .ok (.if_icmp .ge 124, 3) := by decide +kernel
theorem dX10_widest_28 : decode cX10_widest 28 = .ok (.iconst 0, 1) := by decide +kernel
theorem dX10_widest_29 : decode cX10_widest 29 = .ok (.istore 6, 2) := by decide +kernel
theorem dX10_widest_31 : decode cX10_widest 31 = .ok (.iload 6, 2) := by decide +kernel
theorem dX10_widest_33 : decode cX10_widest 33 = .ok (.aload_n 0, 1) := by decide +kernel
theorem dX10_widest_34 : decode cX10_widest 34 = .ok (.getfield 73, 3) := by decide +kernel
theorem dX10_widest_37 : decode cX10_widest 37 = .ok (.if_icmp .ge 106, 3) := by decide +kernel
theorem dX10_widest_40 : decode cX10_widest 40 = .ok (.aload_n 0, 1) := by decide +kernel
theorem dX10_widest_41 : decode cX10_widest 41 = .ok (.getfield 13, 3) := by decide +kernel
theorem dX10_widest_44 : decode cX10_widest 44 = .ok (.iconst 3, 1) := by decide +kernel
theorem dX10_widest_45 : decode cX10_widest 45 = .ok (.iload 6, 2) := by decide +kernel
theorem dX10_widest_47 : decode cX10_widest 47 = .ok (.imul, 1) := by decide +kernel
theorem dX10_widest_48 : decode cX10_widest 48 = .ok (.iconst 2, 1) := by decide +kernel
theorem dX10_widest_49 : decode cX10_widest 49 = .ok (.iadd, 1) := by decide +kernel
theorem dX10_widest_50 : decode cX10_widest 50 = .ok (.iaload, 1) := by decide +kernel
theorem dX10_widest_51 : decode cX10_widest 51 = .ok (.iload_n 3, 1) := by decide +kernel
theorem dX10_widest_52 : decode cX10_widest 52 = .ok (.if_icmp .gt 43, 3) := by decide +kernel
theorem dX10_widest_55 : decode cX10_widest 55 = .ok (.iload 4, 2) := by decide +kernel
theorem dX10_widest_57 : decode cX10_widest 57 = .ok (.aload_n 0, 1) := by decide +kernel
theorem dX10_widest_58 : decode cX10_widest 58 = .ok (.getfield 13, 3) := by decide +kernel
theorem dX10_widest_61 : decode cX10_widest 61 = .ok (.iconst 3, 1) := by decide +kernel
theorem dX10_widest_62 : decode cX10_widest 62 = .ok (.iload 6, 2) := by decide +kernel
theorem dX10_widest_64 : decode cX10_widest 64 = .ok (.imul, 1) := by decide +kernel
theorem dX10_widest_65 : decode cX10_widest 65 = .ok (.iaload, 1) := by decide +kernel
theorem dX10_widest_66 : decode cX10_widest 66 = .ok (.invokestatic 171, 3) := by decide +kernel
theorem dX10_widest_69 : decode cX10_widest 69 = .ok (.ifCond .ne 22, 3) := by decide +kernel
theorem dX10_widest_72 : decode cX10_widest 72 = .ok (.iload 4, 2) := by decide +kernel
theorem dX10_widest_74 : decode cX10_widest 74 = .ok (.aload_n 0, 1) := by decide +kernel
theorem dX10_widest_75 : decode cX10_widest 75 = .ok (.getfield 13, 3) := by decide +kernel
theorem dX10_widest_78 : decode cX10_widest 78 = .ok (.iconst 3, 1) := by decide +kernel
theorem dX10_widest_79 : decode cX10_widest 79 = .ok (.iload 6, 2) := by decide +kernel
theorem dX10_widest_81 : decode cX10_widest 81 = .ok (.imul, 1) := by decide +kernel
theorem dX10_widest_82 : decode cX10_widest 82 = .ok (.iconst 1, 1) := by decide +kernel
theorem dX10_widest_83 : decode cX10_widest 83 = .ok (.iadd, 1) := by decide +kernel
theorem dX10_widest_84 : decode cX10_widest 84 = .ok (.iaload, 1) := by decide +kernel
theorem dX10_widest_85 : decode cX10_widest 85 = .ok (.invokestatic 171, 3) := by decide +kernel
theorem dX10_widest_88 : decode cX10_widest 88 = .ok (.ifCond .eq 7, 3) := by decide +kernel
theorem dX10_widest_91 : decode cX10_widest 91 = .ok (.iconst 1, 1) := by decide +kernel
theorem dX10_widest_92 : decode cX10_widest 92 = .ok (.goto 4, 3) := by decide +kernel
theorem dX10_widest_95 : decode cX10_widest 95 = .ok (.iconst 0, 1) := by decide +kernel
theorem dX10_widest_96 : decode cX10_widest 96 = .ok (.istore 7, 2) := by decide +kernel
theorem dX10_widest_98 : decode cX10_widest 98 = .ok (.iload 4, 2) := by decide +kernel
theorem dX10_widest_100 : decode cX10_widest 100 = .ok (.iload 7, 2) := by decide +kernel
theorem dX10_widest_102 : decode cX10_widest 102 = .ok (.ifCond .eq 31, 3) := by decide +kernel
theorem dX10_widest_105 : decode cX10_widest 105 = .ok (.iconst 1, 1) := by decide +kernel
theorem dX10_widest_106 : decode cX10_widest 106 = .ok (.aload_n 0, 1) := by decide +kernel
theorem dX10_widest_107 : decode cX10_widest 107 = .ok (.getfield 13, 3) := by decide +kernel
theorem dX10_widest_110 : decode cX10_widest 110 = .ok (.iconst 3, 1) := by decide +kernel
theorem dX10_widest_111 : decode cX10_widest 111 = .ok (.iload 6, 2) := by decide +kernel
theorem dX10_widest_113 : decode cX10_widest 113 = .ok (.imul, 1) := by decide +kernel
theorem dX10_widest_114 : decode cX10_widest 114 = .ok (.iaload, 1) := by decide +kernel
theorem dX10_widest_115 : decode cX10_widest 115 = .ok (.ishl, 1) := by decide +kernel
theorem dX10_widest_116 : decode cX10_widest 116 = .ok (.iconst 1, 1) := by decide +kernel
theorem dX10_widest_117 : decode cX10_widest 117 = .ok (.aload_n 0, 1) := by decide +kernel
theorem dX10_widest_118 : decode cX10_widest 118 = .ok (.getfield 13, 3) := by decide +kernel
theorem dX10_widest_121 : decode cX10_widest 121 = .ok (.iconst 3, 1) := by decide +kernel
theorem dX10_widest_122 : decode cX10_widest 122 = .ok (.iload 6, 2) := by decide +kernel
theorem dX10_widest_124 : decode cX10_widest 124 = .ok (.imul, 1) := by decide +kernel
theorem dX10_widest_125 : decode cX10_widest 125 = .ok (.iconst 1, 1) := by decide +kernel
theorem dX10_widest_126 : decode cX10_widest 126 = .ok (.iadd, 1) := by decide +kernel
theorem dX10_widest_127 : decode cX10_widest 127 = .ok (.iaload, 1) := by decide +kernel
theorem dX10_widest_128 : decode cX10_widest 128 = .ok (.ishl, 1) := by decide +kernel
theorem dX10_widest_129 : decode cX10_widest 129 = .ok (.ior, 1) := by decide +kernel
theorem dX10_widest_130 : decode cX10_widest 130 = .ok (.goto 4, 3) := by decide +kernel
theorem dX10_widest_133 : decode cX10_widest 133 = .ok (.iconst 0, 1) := by decide +kernel
theorem dX10_widest_134 : decode cX10_widest 134 = .ok (.ior, 1) := by decide +kernel
theorem dX10_widest_135 : decode cX10_widest 135 = .ok (.istore 4, 2) := by decide +kernel
theorem dX10_widest_137 : decode cX10_widest 137 = .ok (.iinc 6 1, 3) := by decide +kernel
theorem dX10_widest_140 : decode cX10_widest 140 = .ok (.goto (-109), 3) := by decide +kernel
theorem dX10_widest_143 : decode cX10_widest 143 = .ok (.iinc 5 1, 3) := by decide +kernel
theorem dX10_widest_146 : decode cX10_widest 146 = .ok (.goto (-125), 3) := by decide +kernel
theorem dX10_widest_149 : decode cX10_widest 149 = .ok (.iload 4, 2) := by decide +kernel
theorem dX10_widest_151 : decode cX10_widest 151 = .ok (.iload_n 2, 1) := by decide +kernel
theorem dX10_widest_152 : decode cX10_widest 152 = .ok (.invokestatic 171, 3) := by decide +kernel
theorem dX10_widest_155 : decode cX10_widest 155 = .ok (.ifCond .eq 5, 3) := by decide +kernel
theorem dX10_widest_158 : decode cX10_widest 158 = .ok (.iload_n 3, 1) := by decide +kernel
theorem dX10_widest_159 : decode cX10_widest 159 = .ok (.ireturn, 1) := by decide +kernel
theorem dX10_widest_160 : decode cX10_widest 160 = .ok (.iinc 3 1, 3) := by decide +kernel
theorem dX10_widest_163 : decode cX10_widest 163 = .ok (.goto (-161), 3) := by decide +kernel
theorem dX10_widest_166 : decode cX10_widest 166 = .ok (.bipush (-9), 2) := by decide +kernel
theorem dX10_widest_168 : decode cX10_widest 168 = .ok (.ireturn, 1) := by decide +kernel
theorem dX10_path_0 : decode cX10_path 0 = .ok (.aload_n 0, 1) := by decide +kernel
theorem dX10_path_1 : decode cX10_path 1 = .ok (.iload_n 1, 1) := by decide +kernel
theorem dX10_path_2 : decode cX10_path 2 = .ok (.invokevirtual 174, 3) := by decide +kernel
theorem dX10_path_5 : decode cX10_path 5 = .ok (.ifCond .eq 15, 3) := by decide +kernel
theorem dX10_path_8 : decode cX10_path 8 = .ok (.iload_n 2, 1) := by decide +kernel
theorem dX10_path_9 : decode cX10_path 9 = .ok (.i2l, 1) := by decide +kernel
theorem dX10_path_10 : decode cX10_path 10 = .ok (.lconst 0, 1) := by decide +kernel
theorem dX10_path_11 : decode cX10_path 11 = .ok (.ldc2_w 177, 3) := by decide +kernel
theorem dX10_path_14 : decode cX10_path 14 = .ok (.invokestatic 69, 3) := by decide +kernel
theorem dX10_path_17 : decode cX10_path 17 = .ok (.ifCond .ne 5, 3) := by decide +kernel
theorem dX10_path_20 : decode cX10_path 20 = .ok (.iconst (-1), 1) := by decide +kernel
theorem dX10_path_21 : decode cX10_path 21 = .ok (.ireturn, 1) := by decide +kernel
theorem dX10_path_22 : decode cX10_path 22 = .ok (.iload_n 2, 1) := by decide +kernel
theorem dX10_path_23 : decode cX10_path 23 = .ok (.iconst 3, 1) := by decide +kernel
theorem dX10_path_24 : decode cX10_path 24 = .ok (.if_icmp .ge 14, 3) := by decide +kernel
theorem dX10_path_27 : decode cX10_path 27 = .ok (.aload_n 0, 1) := by decide +kernel
theorem dX10_path_28 : decode cX10_path 28 = .ok (.getfield 13, 3) := by decide +kernel
theorem dX10_path_31 : decode cX10_path 31 = .ok (.iconst 3, 1) := by decide +kernel
theorem dX10_path_32 : decode cX10_path 32 = .ok (.iload_n 1, 1) := by decide +kernel
theorem dX10_path_33 : decode cX10_path 33 = .ok (.imul, 1) := by decide +kernel
theorem dX10_path_34 : decode cX10_path 34 = .ok (.iload_n 2, 1) := by decide +kernel
theorem dX10_path_35 : decode cX10_path 35 = .ok (.iadd, 1) := by decide +kernel
theorem dX10_path_36 : decode cX10_path 36 = .ok (.iaload, 1) := by decide +kernel
theorem dX10_path_37 : decode cX10_path 37 = .ok (.ireturn, 1) := by decide +kernel
theorem dX10_path_38 : decode cX10_path 38 = .ok (.iconst 0, 1) := by decide +kernel
theorem dX10_path_39 : decode cX10_path 39 = .ok (.istore_n 3, 1) := by decide +kernel
theorem dX10_path_40 : decode cX10_path 40 = .ok (.iconst 0, 1) := by decide +kernel
theorem dX10_path_41 : decode cX10_path 41 = .ok (.istore 4, 2) := by decide +kernel
theorem dX10_path_43 : decode cX10_path 43 = .ok (.iload 4, 2) := by decide +kernel
theorem dX10_path_45 : decode cX10_path 45 = .ok (.aload_n 0, 1) := by decide +kernel
theorem dX10_path_46 : decode cX10_path 46 = .ok (.getfield 66, 3) := by decide +kernel
theorem dX10_path_49 : decode cX10_path 49 = .ok (.if_icmp .ge 30, 3) := by decide +kernel
theorem dX10_path_52 : decode cX10_path 52 = .ok (.iload_n 3, 1) := by decide +kernel
theorem dX10_path_53 : decode cX10_path 53 = .ok (.aload_n 0, 1) := by decide +kernel
theorem dX10_path_54 : decode cX10_path 54 = .ok (.iload 4, 2) := by decide +kernel
theorem dX10_path_56 : decode cX10_path 56 = .ok (.iload_n 1, 1) := by decide +kernel
theorem dX10_path_57 : decode cX10_path 57 = .ok (.invokevirtual 164, 3) := by decide +kernel
theorem dX10_path_60 : decode cX10_path 60 = .ok (.ifCond .eq 10, 3) := by decide +kernel
theorem dX10_path_63 : decode cX10_path 63 = .ok (.iconst 1, 1) := by decide +kernel
theorem dX10_path_64 : decode cX10_path 64 = .ok (.iload 4, 2) := by decide +kernel
theorem dX10_path_66 : decode cX10_path 66 = .ok (.ishl, 1) := by decide +kernel
theorem dX10_path_67 : decode cX10_path 67 = .ok (.goto 4, 3) := by decide +kernel
theorem dX10_path_70 : decode cX10_path 70 = .ok (.iconst 0, 1) := by decide +kernel
theorem dX10_path_71 : decode cX10_path 71 = .ok (.ior, 1) := by decide +kernel
theorem dX10_path_72 : decode cX10_path 72 = .ok (.istore_n 3, 1) := by decide +kernel
theorem dX10_path_73 : decode cX10_path 73 = .ok (.iinc 4 1, 3) := by decide +kernel
theorem dX10_path_76 : decode cX10_path 76 = .ok (.goto (-33), 3) := by decide +kernel
theorem dX10_path_79 : decode cX10_path 79 = .ok (.iload_n 3, 1) := by decide +kernel
theorem dX10_path_80 : decode cX10_path 80 = .ok (.ireturn, 1) := by decide +kernel
theorem dX10_director_0 : decode cX10_director 0 = .ok (.aload_n 0, 1) := by decide +kernel
theorem dX10_director_1 : decode cX10_director 1 = .ok (.iload_n 1, 1) := by decide +kernel
theorem dX10_director_2 : decode cX10_director 2 = .ok (.invokevirtual 179, 3) := by decide +kernel
theorem dX10_director_5 : decode cX10_director 5 = .ok (.ifCond .ne 5, 3) := by decide +kernel
theorem dX10_director_8 : decode cX10_director 8 = .ok (.iconst (-1), 1) := by decide +kernel
theorem dX10_director_9 : decode cX10_director 9 = .ok (.ireturn, 1) := by decide +kernel
theorem dX10_director_10 : decode cX10_director 10 = .ok (.iload_n 2, 1) := by decide +kernel
theorem dX10_director_11 : decode cX10_director 11 = .ok (.tableswitch 123 0 8 #[49, 55, 62, 68, 75, 82, 89, 95, 101], 49) := by decide +kernel
theorem dX10_director_60 : decode cX10_director 60 = .ok (.aload_n 0, 1) := by decide +kernel
theorem dX10_director_61 : decode cX10_director 61 = .ok (.iload_n 1, 1) := by decide +kernel
theorem dX10_director_62 : decode cX10_director 62 = .ok (.invokevirtual 160, 3) := by decide +kernel
theorem dX10_director_65 : decode cX10_director 65 = .ok (.ireturn, 1) := by decide +kernel
theorem dX10_director_66 : decode cX10_director 66 = .ok (.aload_n 0, 1) := by decide +kernel
theorem dX10_director_67 : decode cX10_director 67 = .ok (.iload_n 1, 1) := by decide +kernel
theorem dX10_director_68 : decode cX10_director 68 = .ok (.iconst 1, 1) := by decide +kernel
theorem dX10_director_69 : decode cX10_director 69 = .ok (.invokevirtual 76, 3) := by decide +kernel
theorem dX10_director_72 : decode cX10_director 72 = .ok (.ireturn, 1) := by decide +kernel
theorem dX10_director_73 : decode cX10_director 73 = .ok (.aload_n 0, 1) := by decide +kernel
theorem dX10_director_74 : decode cX10_director 74 = .ok (.iload_n 1, 1) := by decide +kernel
theorem dX10_director_75 : decode cX10_director 75 = .ok (.invokevirtual 182, 3) := by decide +kernel
theorem dX10_director_78 : decode cX10_director 78 = .ok (.ireturn, 1) := by decide +kernel
theorem dX10_director_79 : decode cX10_director 79 = .ok (.aload_n 0, 1) := by decide +kernel
theorem dX10_director_80 : decode cX10_director 80 = .ok (.iload_n 1, 1) := by decide +kernel
theorem dX10_director_81 : decode cX10_director 81 = .ok (.iconst 0, 1) := by decide +kernel
theorem dX10_director_82 : decode cX10_director 82 = .ok (.invokevirtual 76, 3) := by decide +kernel
theorem dX10_director_85 : decode cX10_director 85 = .ok (.ireturn, 1) := by decide +kernel
theorem dX10_director_86 : decode cX10_director 86 = .ok (.aload_n 0, 1) := by decide +kernel
theorem dX10_director_87 : decode cX10_director 87 = .ok (.iload_n 1, 1) := by decide +kernel
theorem dX10_director_88 : decode cX10_director 88 = .ok (.iconst 2, 1) := by decide +kernel
theorem dX10_director_89 : decode cX10_director 89 = .ok (.invokevirtual 76, 3) := by decide +kernel
theorem dX10_director_92 : decode cX10_director 92 = .ok (.ireturn, 1) := by decide +kernel
theorem dX10_director_93 : decode cX10_director 93 = .ok (.aload_n 0, 1) := by decide +kernel
theorem dX10_director_94 : decode cX10_director 94 = .ok (.iload_n 1, 1) := by decide +kernel
theorem dX10_director_95 : decode cX10_director 95 = .ok (.iconst 3, 1) := by decide +kernel
theorem dX10_director_96 : decode cX10_director 96 = .ok (.invokevirtual 76, 3) := by decide +kernel
theorem dX10_director_99 : decode cX10_director 99 = .ok (.ireturn, 1) := by decide +kernel
theorem dX10_director_100 : decode cX10_director 100 = .ok (.aload_n 0, 1) := by decide +kernel
theorem dX10_director_101 : decode cX10_director 101 = .ok (.iload_n 1, 1) := by decide +kernel
theorem dX10_director_102 : decode cX10_director 102 = .ok (.invokevirtual 185, 3) := by decide +kernel
theorem dX10_director_105 : decode cX10_director 105 = .ok (.ireturn, 1) := by decide +kernel
theorem dX10_director_106 : decode cX10_director 106 = .ok (.aload_n 0, 1) := by decide +kernel
theorem dX10_director_107 : decode cX10_director 107 = .ok (.iload_n 1, 1) := by decide +kernel
theorem dX10_director_108 : decode cX10_director 108 = .ok (.invokevirtual 188, 3) := by decide +kernel
theorem dX10_director_111 : decode cX10_director 111 = .ok (.ireturn, 1) := by decide +kernel
theorem dX10_director_112 : decode cX10_director 112 = .ok (.aload_n 0, 1) := by decide +kernel
theorem dX10_director_113 : decode cX10_director 113 = .ok (.iload_n 1, 1) := by decide +kernel
theorem dX10_director_114 : decode cX10_director 114 = .ok (.invokevirtual 160, 3) := by decide +kernel
theorem dX10_director_117 : decode cX10_director 117 = .ok (.iconst 2, 1) := by decide +kernel
theorem dX10_director_118 : decode cX10_director 118 = .ok (.aload_n 0, 1) := by decide +kernel
theorem dX10_director_119 : decode cX10_director 119 = .ok (.iload_n 1, 1) := by decide +kernel
theorem dX10_director_120 : decode cX10_director 120 = .ok (.iconst 1, 1) := by decide +kernel
theorem dX10_director_121 : decode cX10_director 121 = .ok (.invokevirtual 76, 3) := by decide +kernel
theorem dX10_director_124 : decode cX10_director 124 = .ok (.imul, 1) := by decide +kernel
theorem dX10_director_125 : decode cX10_director 125 = .ok (.if_icmp .lt 7, 3) := by decide +kernel
theorem dX10_director_128 : decode cX10_director 128 = .ok (.iconst 1, 1) := by decide +kernel
theorem dX10_director_129 : decode cX10_director 129 = .ok (.goto 4, 3) := by decide +kernel
theorem dX10_director_132 : decode cX10_director 132 = .ok (.iconst 0, 1) := by decide +kernel
theorem dX10_director_133 : decode cX10_director 133 = .ok (.ireturn, 1) := by decide +kernel
theorem dX10_director_134 : decode cX10_director 134 = .ok (.iconst (-1), 1) := by decide +kernel
theorem dX10_director_135 : decode cX10_director 135 = .ok (.ireturn, 1) := by decide +kernel
theorem dX10_child_0 : decode cX10_child 0 = .ok (.iload_n 1, 1) := by decide +kernel
theorem dX10_child_1 : decode cX10_child 1 = .ok (.i2l, 1) := by decide +kernel
theorem dX10_child_2 : decode cX10_child 2 = .ok (.lconst 0, 1) := by decide +kernel
theorem dX10_child_3 : decode cX10_child 3 = .ok (.aload_n 0, 1) := by decide +kernel
theorem dX10_child_4 : decode cX10_child 4 = .ok (.getfield 132, 3) := by decide +kernel
theorem dX10_child_7 : decode cX10_child 7 = .ok (.iconst 1, 1) := by decide +kernel
theorem dX10_child_8 : decode cX10_child 8 = .ok (.isub, 1) := by decide +kernel
theorem dX10_child_9 : decode cX10_child 9 = .ok (.i2l, 1) := by decide +kernel
theorem dX10_child_10 : decode cX10_child 10 = .ok (.invokestatic 69, 3) := by decide +kernel
theorem dX10_child_13 : decode cX10_child 13 = .ok (.ifCond .eq 13, 3) := by decide +kernel
theorem dX10_child_16 : decode cX10_child 16 = .ok (.iload_n 2, 1) := by decide +kernel
theorem dX10_child_17 : decode cX10_child 17 = .ok (.i2l, 1) := by decide +kernel
theorem dX10_child_18 : decode cX10_child 18 = .ok (.lconst 0, 1) := by decide +kernel
theorem dX10_child_19 : decode cX10_child 19 = .ok (.lconst 1, 1) := by decide +kernel
theorem dX10_child_20 : decode cX10_child 20 = .ok (.invokestatic 69, 3) := by decide +kernel
theorem dX10_child_23 : decode cX10_child 23 = .ok (.ifCond .ne 5, 3) := by decide +kernel
theorem dX10_child_26 : decode cX10_child 26 = .ok (.iconst (-1), 1) := by decide +kernel
theorem dX10_child_27 : decode cX10_child 27 = .ok (.ireturn, 1) := by decide +kernel
theorem dX10_child_28 : decode cX10_child 28 = .ok (.iload_n 2, 1) := by decide +kernel
theorem dX10_child_29 : decode cX10_child 29 = .ok (.ifCond .ne 12, 3) := by decide +kernel
theorem dX10_child_32 : decode cX10_child 32 = .ok (.aload_n 0, 1) := by decide +kernel
theorem dX10_child_33 : decode cX10_child 33 = .ok (.getfield 20, 3) := by decide +kernel
theorem dX10_child_36 : decode cX10_child 36 = .ok (.iload_n 1, 1) := by decide +kernel
theorem dX10_child_37 : decode cX10_child 37 = .ok (.iaload, 1) := by decide +kernel
theorem dX10_child_38 : decode cX10_child 38 = .ok (.goto 12, 3) := by decide +kernel
theorem dX10_child_41 : decode cX10_child 41 = .ok (.aload_n 0, 1) := by decide +kernel
theorem dX10_child_42 : decode cX10_child 42 = .ok (.getfield 23, 3) := by decide +kernel
theorem dX10_child_45 : decode cX10_child 45 = .ok (.bipush 24, 2) := by decide +kernel
theorem dX10_child_47 : decode cX10_child 47 = .ok (.iload_n 1, 1) := by decide +kernel
theorem dX10_child_48 : decode cX10_child 48 = .ok (.iadd, 1) := by decide +kernel
theorem dX10_child_49 : decode cX10_child 49 = .ok (.iaload, 1) := by decide +kernel
theorem dX10_child_50 : decode cX10_child 50 = .ok (.ireturn, 1) := by decide +kernel
theorem dX10_keepPast_0 : decode cX10_keepPast 0 = .ok (.aload_n 0, 1) := by decide +kernel
theorem dX10_keepPast_1 : decode cX10_keepPast 1 = .ok (.getfield 135, 3) := by decide +kernel
theorem dX10_keepPast_4 : decode cX10_keepPast 4 = .ok (.bipush 10, 2) := by decide +kernel
theorem dX10_keepPast_6 : decode cX10_keepPast 6 = .ok (.if_icmp .ne 43, 3) := by decide +kernel
theorem dX10_keepPast_9 : decode cX10_keepPast 9 = .ok (.iconst 0, 1) := by decide +kernel
theorem dX10_keepPast_10 : decode cX10_keepPast 10 = .ok (.istore_n 1, 1) := by decide +kernel
theorem dX10_keepPast_11 : decode cX10_keepPast 11 = .ok (.iload_n 1, 1) := by decide +kernel
theorem dX10_keepPast_12 : decode cX10_keepPast 12 = .ok (.sipush 261, 3) := by decide +kernel
theorem dX10_keepPast_15 : decode cX10_keepPast 15 = .ok (.if_icmp .ge 24, 3) := by decide +kernel
theorem dX10_keepPast_18 : decode cX10_keepPast 18 = .ok (.aload_n 0, 1) := by decide +kernel
theorem dX10_keepPast_19 : decode cX10_keepPast 19 = .ok (.getfield 26, 3) := by decide +kernel
theorem dX10_keepPast_22 : decode cX10_keepPast 22 = .ok (.iload_n 1, 1) := by decide +kernel
theorem dX10_keepPast_23 : decode cX10_keepPast 23 = .ok (.aload_n 0, 1) := by decide +kernel
theorem dX10_keepPast_24 : decode cX10_keepPast 24 = .ok (.getfield 26, 3) := by decide +kernel
theorem dX10_keepPast_27 : decode cX10_keepPast 27 = .ok (.iload_n 1, 1) := by decide +kernel
theorem dX10_keepPast_28 : decode cX10_keepPast 28 = .ok (.bipush 29, 2) := by decide +kernel
theorem dX10_keepPast_30 : decode cX10_keepPast 30 = .ok (.iadd, 1) := by decide +kernel
theorem dX10_keepPast_31 : decode cX10_keepPast 31 = .ok (.iaload, 1) := by decide +kernel
theorem dX10_keepPast_32 : decode cX10_keepPast 32 = .ok (.iastore, 1) := by decide +kernel
theorem dX10_keepPast_33 : decode cX10_keepPast 33 = .ok (.iinc 1 1, 3) := by decide +kernel
theorem dX10_keepPast_36 : decode cX10_keepPast 36 = .ok (.goto (-25), 3) := by decide +kernel
theorem dX10_keepPast_39 : decode cX10_keepPast 39 = .ok (.aload_n 0, 1) := by decide +kernel
theorem dX10_keepPast_40 : decode cX10_keepPast 40 = .ok (.dup, 1) := by decide +kernel
theorem dX10_keepPast_41 : decode cX10_keepPast 41 = .ok (.getfield 135, 3) := by decide +kernel
theorem dX10_keepPast_44 : decode cX10_keepPast 44 = .ok (.iconst 1, 1) := by decide +kernel
theorem dX10_keepPast_45 : decode cX10_keepPast 45 = .ok (.isub, 1) := by decide +kernel
theorem dX10_keepPast_46 : decode cX10_keepPast 46 = .ok (.putfield 135, 3) := by decide +kernel
theorem dX10_keepPast_49 : decode cX10_keepPast 49 = .ok (.iconst 0, 1) := by decide +kernel
theorem dX10_keepPast_50 : decode cX10_keepPast 50 = .ok (.istore_n 1, 1) := by decide +kernel
theorem dX10_keepPast_51 : decode cX10_keepPast 51 = .ok (.iload_n 1, 1) := by decide +kernel
theorem dX10_keepPast_52 : decode cX10_keepPast 52 = .ok (.bipush 29, 2) := by decide +kernel
theorem dX10_keepPast_54 : decode cX10_keepPast 54 = .ok (.if_icmp .ge 29, 3) := by decide +kernel
theorem dX10_keepPast_57 : decode cX10_keepPast 57 = .ok (.aload_n 0, 1) := by decide +kernel
theorem dX10_keepPast_58 : decode cX10_keepPast 58 = .ok (.getfield 26, 3) := by decide +kernel
theorem dX10_keepPast_61 : decode cX10_keepPast 61 = .ok (.bipush 29, 2) := by decide +kernel
theorem dX10_keepPast_63 : decode cX10_keepPast 63 = .ok (.aload_n 0, 1) := by decide +kernel
theorem dX10_keepPast_64 : decode cX10_keepPast 64 = .ok (.getfield 135, 3) := by decide +kernel
theorem dX10_keepPast_67 : decode cX10_keepPast 67 = .ok (.imul, 1) := by decide +kernel
theorem dX10_keepPast_68 : decode cX10_keepPast 68 = .ok (.iload_n 1, 1) := by decide +kernel
theorem dX10_keepPast_69 : decode cX10_keepPast 69 = .ok (.iadd, 1) := by decide +kernel
theorem dX10_keepPast_70 : decode cX10_keepPast 70 = .ok (.aload_n 0, 1) := by decide +kernel
theorem dX10_keepPast_71 : decode cX10_keepPast 71 = .ok (.getfield 23, 3) := by decide +kernel
theorem dX10_keepPast_74 : decode cX10_keepPast 74 = .ok (.iload_n 1, 1) := by decide +kernel
theorem dX10_keepPast_75 : decode cX10_keepPast 75 = .ok (.iaload, 1) := by decide +kernel
theorem dX10_keepPast_76 : decode cX10_keepPast 76 = .ok (.iastore, 1) := by decide +kernel
theorem dX10_keepPast_77 : decode cX10_keepPast 77 = .ok (.iinc 1 1, 3) := by decide +kernel
theorem dX10_keepPast_80 : decode cX10_keepPast 80 = .ok (.goto (-29), 3) := by decide +kernel
theorem dX10_keepPast_83 : decode cX10_keepPast 83 = .ok (.aload_n 0, 1) := by decide +kernel
theorem dX10_keepPast_84 : decode cX10_keepPast 84 = .ok (.dup, 1) := by decide +kernel
theorem dX10_keepPast_85 : decode cX10_keepPast 85 = .ok (.getfield 135, 3) := by decide +kernel
theorem dX10_keepPast_88 : decode cX10_keepPast 88 = .ok (.iconst 1, 1) := by decide +kernel
theorem dX10_keepPast_89 : decode cX10_keepPast 89 = .ok (.iadd, 1) := by decide +kernel
theorem dX10_keepPast_90 : decode cX10_keepPast 90 = .ok (.putfield 135, 3) := by decide +kernel
theorem dX10_keepPast_93 : decode cX10_keepPast 93 = .ok (.return_, 1) := by decide +kernel
theorem dX10_goes_0 : decode cX10_goes 0 = .ok (.aload_n 0, 1) := by decide +kernel
theorem dX10_goes_1 : decode cX10_goes 1 = .ok (.iload_n 1, 1) := by decide +kernel
theorem dX10_goes_2 : decode cX10_goes 2 = .ok (.invokevirtual 179, 3) := by decide +kernel
theorem dX10_goes_5 : decode cX10_goes 5 = .ok (.ifCond .eq 11, 3) := by decide +kernel
theorem dX10_goes_8 : decode cX10_goes 8 = .ok (.aload_n 0, 1) := by decide +kernel
theorem dX10_goes_9 : decode cX10_goes 9 = .ok (.iload_n 2, 1) := by decide +kernel
theorem dX10_goes_10 : decode cX10_goes 10 = .ok (.invokevirtual 174, 3) := by decide +kernel
theorem dX10_goes_13 : decode cX10_goes 13 = .ok (.ifCond .ne 5, 3) := by decide +kernel
theorem dX10_goes_16 : decode cX10_goes 16 = .ok (.iconst (-1), 1) := by decide +kernel
theorem dX10_goes_17 : decode cX10_goes 17 = .ok (.ireturn, 1) := by decide +kernel
theorem dX10_goes_18 : decode cX10_goes 18 = .ok (.aload_n 0, 1) := by decide +kernel
theorem dX10_goes_19 : decode cX10_goes 19 = .ok (.iload_n 2, 1) := by decide +kernel
theorem dX10_goes_20 : decode cX10_goes 20 = .ok (.aload_n 0, 1) := by decide +kernel
theorem dX10_goes_21 : decode cX10_goes 21 = .ok (.iload_n 1, 1) := by decide +kernel
theorem dX10_goes_22 : decode cX10_goes 22 = .ok (.iconst 0, 1) := by decide +kernel
theorem dX10_goes_23 : decode cX10_goes 23 = .ok (.invokevirtual 76, 3) := by decide +kernel
theorem dX10_goes_26 : decode cX10_goes 26 = .ok (.invokevirtual 191, 3) := by decide +kernel
theorem dX10_goes_29 : decode cX10_goes 29 = .ok (.istore_n 3, 1) := by decide +kernel
theorem dX10_goes_30 : decode cX10_goes 30 = .ok (.iload_n 3, 1) := by decide +kernel
theorem dX10_goes_31 : decode cX10_goes 31 = .ok (.bipush (-9), 2) := by decide +kernel
theorem dX10_goes_33 : decode cX10_goes 33 = .ok (.if_icmp .eq 12, 3) := by decide +kernel
theorem dX10_goes_36 : decode cX10_goes 36 = .ok (.aload_n 0, 1) := by decide +kernel
theorem dX10_goes_37 : decode cX10_goes 37 = .ok (.iload_n 1, 1) := by decide +kernel
theorem dX10_goes_38 : decode cX10_goes 38 = .ok (.iload_n 2, 1) := by decide +kernel
theorem dX10_goes_39 : decode cX10_goes 39 = .ok (.invokevirtual 164, 3) := by decide +kernel
theorem dX10_goes_42 : decode cX10_goes 42 = .ok (.ifCond .ne 6, 3) := by decide +kernel
theorem dX10_goes_45 : decode cX10_goes 45 = .ok (.bipush (-2), 2) := by decide +kernel
theorem dX10_goes_47 : decode cX10_goes 47 = .ok (.ireturn, 1) := by decide +kernel
theorem dX10_goes_48 : decode cX10_goes 48 = .ok (.aload_n 0, 1) := by decide +kernel
theorem dX10_goes_49 : decode cX10_goes 49 = .ok (.invokevirtual 194, 3) := by decide +kernel
theorem dX10_goes_52 : decode cX10_goes 52 = .ok (.aload_n 0, 1) := by decide +kernel
theorem dX10_goes_53 : decode cX10_goes 53 = .ok (.iload_n 1, 1) := by decide +kernel
theorem dX10_goes_54 : decode cX10_goes 54 = .ok (.iconst 2, 1) := by decide +kernel
theorem dX10_goes_55 : decode cX10_goes 55 = .ok (.invokevirtual 76, 3) := by decide +kernel
theorem dX10_goes_58 : decode cX10_goes 58 = .ok (.aload_n 0, 1) := by decide +kernel
theorem dX10_goes_59 : decode cX10_goes 59 = .ok (.iload_n 1, 1) := by decide +kernel
theorem dX10_goes_60 : decode cX10_goes 60 = .ok (.iconst 1, 1) := by decide +kernel
theorem dX10_goes_61 : decode cX10_goes 61 = .ok (.invokevirtual 76, 3) := by decide +kernel
theorem dX10_goes_64 : decode cX10_goes 64 = .ok (.aload_n 0, 1) := by decide +kernel
theorem dX10_goes_65 : decode cX10_goes 65 = .ok (.getfield 13, 3) := by decide +kernel
theorem dX10_goes_68 : decode cX10_goes 68 = .ok (.iconst 3, 1) := by decide +kernel
theorem dX10_goes_69 : decode cX10_goes 69 = .ok (.iload_n 2, 1) := by decide +kernel
theorem dX10_goes_70 : decode cX10_goes 70 = .ok (.imul, 1) := by decide +kernel
theorem dX10_goes_71 : decode cX10_goes 71 = .ok (.iconst 2, 1) := by decide +kernel
theorem dX10_goes_72 : decode cX10_goes 72 = .ok (.iadd, 1) := by decide +kernel
theorem dX10_goes_73 : decode cX10_goes 73 = .ok (.iaload, 1) := by decide +kernel
theorem dX10_goes_74 : decode cX10_goes 74 = .ok (.imul, 1) := by decide +kernel
theorem dX10_goes_75 : decode cX10_goes 75 = .ok (.iadd, 1) := by decide +kernel
theorem dX10_goes_76 : decode cX10_goes 76 = .ok (.istore 4, 2) := by decide +kernel
theorem dX10_goes_78 : decode cX10_goes 78 = .ok (.aload_n 0, 1) := by decide +kernel
theorem dX10_goes_79 : decode cX10_goes 79 = .ok (.getfield 23, 3) := by decide +kernel
theorem dX10_goes_82 : decode cX10_goes 82 = .ok (.iconst 4, 1) := by decide +kernel
theorem dX10_goes_83 : decode cX10_goes 83 = .ok (.iload_n 1, 1) := by decide +kernel
theorem dX10_goes_84 : decode cX10_goes 84 = .ok (.imul, 1) := by decide +kernel
theorem dX10_goes_85 : decode cX10_goes 85 = .ok (.iconst 2, 1) := by decide +kernel
theorem dX10_goes_86 : decode cX10_goes 86 = .ok (.iadd, 1) := by decide +kernel
theorem dX10_goes_87 : decode cX10_goes 87 = .ok (.iload 4, 2) := by decide +kernel
theorem dX10_goes_89 : decode cX10_goes 89 = .ok (.sipush 9999, 3) := by decide +kernel
theorem dX10_goes_92 : decode cX10_goes 92 = .ok (.if_icmp .le 9, 3) := by decide +kernel
theorem dX10_goes_95 : decode cX10_goes 95 = .ok (.sipush 9999, 3) := by decide +kernel
theorem dX10_goes_98 : decode cX10_goes 98 = .ok (.goto 5, 3) := by decide +kernel
theorem dX10_goes_101 : decode cX10_goes 101 = .ok (.iload 4, 2) := by decide +kernel
theorem dX10_goes_103 : decode cX10_goes 103 = .ok (.iastore, 1) := by decide +kernel
theorem dX10_goes_104 : decode cX10_goes 104 = .ok (.aload_n 0, 1) := by decide +kernel
theorem dX10_goes_105 : decode cX10_goes 105 = .ok (.getfield 23, 3) := by decide +kernel
theorem dX10_goes_108 : decode cX10_goes 108 = .ok (.iconst 4, 1) := by decide +kernel
theorem dX10_goes_109 : decode cX10_goes 109 = .ok (.iload_n 1, 1) := by decide +kernel
theorem dX10_goes_110 : decode cX10_goes 110 = .ok (.imul, 1) := by decide +kernel
theorem dX10_goes_111 : decode cX10_goes 111 = .ok (.iconst 0, 1) := by decide +kernel
theorem dX10_goes_112 : decode cX10_goes 112 = .ok (.iadd, 1) := by decide +kernel
theorem dX10_goes_113 : decode cX10_goes 113 = .ok (.iload_n 3, 1) := by decide +kernel
theorem dX10_goes_114 : decode cX10_goes 114 = .ok (.iastore, 1) := by decide +kernel
theorem dX10_goes_115 : decode cX10_goes 115 = .ok (.iload_n 3, 1) := by decide +kernel
theorem dX10_goes_116 : decode cX10_goes 116 = .ok (.ireturn, 1) := by decide +kernel
theorem dX10_rests_0 : decode cX10_rests 0 = .ok (.aload_n 0, 1) := by decide +kernel
theorem dX10_rests_1 : decode cX10_rests 1 = .ok (.iload_n 1, 1) := by decide +kernel
theorem dX10_rests_2 : decode cX10_rests 2 = .ok (.invokevirtual 179, 3) := by decide +kernel
theorem dX10_rests_5 : decode cX10_rests 5 = .ok (.ifCond .ne 5, 3) := by decide +kernel
theorem dX10_rests_8 : decode cX10_rests 8 = .ok (.iconst (-1), 1) := by decide +kernel
theorem dX10_rests_9 : decode cX10_rests 9 = .ok (.ireturn, 1) := by decide +kernel
theorem dX10_rests_10 : decode cX10_rests 10 = .ok (.aload_n 0, 1) := by decide +kernel
theorem dX10_rests_11 : decode cX10_rests 11 = .ok (.iload_n 1, 1) := by decide +kernel
theorem dX10_rests_12 : decode cX10_rests 12 = .ok (.iconst 2, 1) := by decide +kernel
theorem dX10_rests_13 : decode cX10_rests 13 = .ok (.invokevirtual 76, 3) := by decide +kernel
theorem dX10_rests_16 : decode cX10_rests 16 = .ok (.istore_n 2, 1) := by decide +kernel
theorem dX10_rests_17 : decode cX10_rests 17 = .ok (.iload_n 2, 1) := by decide +kernel
theorem dX10_rests_18 : decode cX10_rests 18 = .ok (.ifCond .ne 6, 3) := by decide +kernel
theorem dX10_rests_21 : decode cX10_rests 21 = .ok (.bipush (-2), 2) := by decide +kernel
theorem dX10_rests_23 : decode cX10_rests 23 = .ok (.ireturn, 1) := by decide +kernel
theorem dX10_rests_24 : decode cX10_rests 24 = .ok (.aload_n 0, 1) := by decide +kernel
theorem dX10_rests_25 : decode cX10_rests 25 = .ok (.invokevirtual 194, 3) := by decide +kernel
theorem dX10_rests_28 : decode cX10_rests 28 = .ok (.aload_n 0, 1) := by decide +kernel
theorem dX10_rests_29 : decode cX10_rests 29 = .ok (.getfield 23, 3) := by decide +kernel
theorem dX10_rests_32 : decode cX10_rests 32 = .ok (.iconst 4, 1) := by decide +kernel
theorem dX10_rests_33 : decode cX10_rests 33 = .ok (.iload_n 1, 1) := by decide +kernel
theorem dX10_rests_34 : decode cX10_rests 34 = .ok (.imul, 1) := by decide +kernel
theorem dX10_rests_35 : decode cX10_rests 35 = .ok (.iconst 2, 1) := by decide +kernel
theorem dX10_rests_36 : decode cX10_rests 36 = .ok (.iadd, 1) := by decide +kernel
theorem dX10_rests_37 : decode cX10_rests 37 = .ok (.iconst 0, 1) := by decide +kernel
theorem dX10_rests_38 : decode cX10_rests 38 = .ok (.iastore, 1) := by decide +kernel
theorem dX10_rests_39 : decode cX10_rests 39 = .ok (.iload_n 2, 1) := by decide +kernel
theorem dX10_rests_40 : decode cX10_rests 40 = .ok (.ireturn, 1) := by decide +kernel
theorem dX10_offends_0 : decode cX10_offends 0 = .ok (.aload_n 0, 1) := by decide +kernel
theorem dX10_offends_1 : decode cX10_offends 1 = .ok (.iload_n 1, 1) := by decide +kernel
theorem dX10_offends_2 : decode cX10_offends 2 = .ok (.invokevirtual 179, 3) := by decide +kernel
theorem dX10_offends_5 : decode cX10_offends 5 = .ok (.ifCond .eq 31, 3) := by decide +kernel
theorem dX10_offends_8 : decode cX10_offends 8 = .ok (.iload_n 2, 1) := by decide +kernel
theorem dX10_offends_9 : decode cX10_offends 9 = .ok (.i2l, 1) := by decide +kernel
theorem dX10_offends_10 : decode cX10_offends 10 = .ok (.lconst 0, 1) := by decide +kernel
theorem dX10_offends_11 : decode cX10_offends 11 = .ok (.aload_n 0, 1) := by decide +kernel
theorem dX10_offends_12 : decode cX10_offends 12 = .ok (.getfield 132, 3) := by decide +kernel
theorem dX10_offends_15 : decode cX10_offends 15 = .ok (.iconst 1, 1) := by decide +kernel
theorem dX10_offends_16 : decode cX10_offends 16 = .ok (.isub, 1) := by decide +kernel
theorem dX10_offends_17 : decode cX10_offends 17 = .ok (.i2l, 1) := by decide +kernel
theorem dX10_offends_18 : decode cX10_offends 18 = .ok (.invokestatic 69, 3) := by decide +kernel
theorem dX10_offends_21 : decode cX10_offends 21 = .ok (.ifCond .eq 15, 3) := by decide +kernel
theorem dX10_offends_24 : decode cX10_offends 24 = .ok (.iload_n 3, 1) := by decide +kernel
theorem dX10_offends_25 : decode cX10_offends 25 = .ok (.i2l, 1) := by decide +kernel
theorem dX10_offends_26 : decode cX10_offends 26 = .ok (.lconst 1, 1) := by decide +kernel
theorem dX10_offends_27 : decode cX10_offends 27 = .ok (.ldc2_w 197, 3) := by decide +kernel
theorem dX10_offends_30 : decode cX10_offends 30 = .ok (.invokestatic 69, 3) := by decide +kernel
theorem dX10_offends_33 : decode cX10_offends 33 = .ok (.ifCond .ne 5, 3) := by decide +kernel
theorem dX10_offends_36 : decode cX10_offends 36 = .ok (.iconst (-1), 1) := by decide +kernel
theorem dX10_offends_37 : decode cX10_offends 37 = .ok (.ireturn, 1) := by decide +kernel
theorem dX10_offends_38 : decode cX10_offends 38 = .ok (.aload_n 0, 1) := by decide +kernel
theorem dX10_offends_39 : decode cX10_offends 39 = .ok (.invokevirtual 194, 3) := by decide +kernel
theorem dX10_offends_42 : decode cX10_offends 42 = .ok (.aload_n 0, 1) := by decide +kernel
theorem dX10_offends_43 : decode cX10_offends 43 = .ok (.getfield 23, 3) := by decide +kernel
theorem dX10_offends_46 : decode cX10_offends 46 = .ok (.bipush 24, 2) := by decide +kernel
theorem dX10_offends_48 : decode cX10_offends 48 = .ok (.iload_n 2, 1) := by decide +kernel
theorem dX10_offends_49 : decode cX10_offends 49 = .ok (.iadd, 1) := by decide +kernel
theorem dX10_offends_50 : decode cX10_offends 50 = .ok (.dup2, 1) := by decide +kernel
theorem dX10_offends_51 : decode cX10_offends 51 = .ok (.iaload, 1) := by decide +kernel
theorem dX10_offends_52 : decode cX10_offends 52 = .ok (.iload_n 3, 1) := by decide +kernel
theorem dX10_offends_53 : decode cX10_offends 53 = .ok (.iadd, 1) := by decide +kernel
theorem dX10_offends_54 : decode cX10_offends 54 = .ok (.iastore, 1) := by decide +kernel
theorem dX10_offends_55 : decode cX10_offends 55 = .ok (.aload_n 0, 1) := by decide +kernel
theorem dX10_offends_56 : decode cX10_offends 56 = .ok (.getfield 23, 3) := by decide +kernel
theorem dX10_offends_59 : decode cX10_offends 59 = .ok (.bipush 24, 2) := by decide +kernel
theorem dX10_offends_61 : decode cX10_offends 61 = .ok (.iload_n 2, 1) := by decide +kernel
theorem dX10_offends_62 : decode cX10_offends 62 = .ok (.iadd, 1) := by decide +kernel
theorem dX10_offends_63 : decode cX10_offends 63 = .ok (.iaload, 1) := by decide +kernel
theorem dX10_offends_64 : decode cX10_offends 64 = .ok (.aload_n 0, 1) := by decide +kernel
theorem dX10_offends_65 : decode cX10_offends 65 = .ok (.getfield 20, 3) := by decide +kernel
theorem dX10_offends_68 : decode cX10_offends 68 = .ok (.iload_n 2, 1) := by decide +kernel
theorem dX10_offends_69 : decode cX10_offends 69 = .ok (.iaload, 1) := by decide +kernel
theorem dX10_offends_70 : decode cX10_offends 70 = .ok (.if_icmp .lt 72, 3) := by decide +kernel
theorem dX10_offends_73 : decode cX10_offends 73 = .ok (.aload_n 0, 1) := by decide +kernel
theorem dX10_offends_74 : decode cX10_offends 74 = .ok (.getfield 23, 3) := by decide +kernel
theorem dX10_offends_77 : decode cX10_offends 77 = .ok (.bipush 24, 2) := by decide +kernel
theorem dX10_offends_79 : decode cX10_offends 79 = .ok (.iload_n 2, 1) := by decide +kernel
theorem dX10_offends_80 : decode cX10_offends 80 = .ok (.iadd, 1) := by decide +kernel
theorem dX10_offends_81 : decode cX10_offends 81 = .ok (.iconst 0, 1) := by decide +kernel
theorem dX10_offends_82 : decode cX10_offends 82 = .ok (.iastore, 1) := by decide +kernel
theorem dX10_offends_83 : decode cX10_offends 83 = .ok (.aload_n 0, 1) := by decide +kernel
theorem dX10_offends_84 : decode cX10_offends 84 = .ok (.getfield 23, 3) := by decide +kernel
theorem dX10_offends_87 : decode cX10_offends 87 = .ok (.iconst 4, 1) := by decide +kernel
theorem dX10_offends_88 : decode cX10_offends 88 = .ok (.iload_n 1, 1) := by decide +kernel
theorem dX10_offends_89 : decode cX10_offends 89 = .ok (.imul, 1) := by decide +kernel
theorem dX10_offends_90 : decode cX10_offends 90 = .ok (.iconst 1, 1) := by decide +kernel
theorem dX10_offends_91 : decode cX10_offends 91 = .ok (.iadd, 1) := by decide +kernel
theorem dX10_offends_92 : decode cX10_offends 92 = .ok (.dup2, 1) := by decide +kernel
theorem dX10_offends_93 : decode cX10_offends 93 = .ok (.iaload, 1) := by decide +kernel
theorem dX10_offends_94 : decode cX10_offends 94 = .ok (.aload_n 0, 1) := by decide +kernel
theorem dX10_offends_95 : decode cX10_offends 95 = .ok (.iload_n 1, 1) := by decide +kernel
theorem dX10_offends_96 : decode cX10_offends 96 = .ok (.iconst 1, 1) := by decide +kernel
theorem dX10_offends_97 : decode cX10_offends 97 = .ok (.invokevirtual 76, 3) := by decide +kernel
theorem dX10_offends_100 : decode cX10_offends 100 = .ok (.bipush 99, 2) := by decide +kernel
theorem dX10_offends_102 : decode cX10_offends 102 = .ok (.if_icmp .ge 7, 3) := by decide +kernel
theorem dX10_offends_105 : decode cX10_offends 105 = .ok (.iconst 1, 1) := by decide +kernel
theorem dX10_offends_106 : decode cX10_offends 106 = .ok (.goto 4, 3) := by decide +kernel
theorem dX10_offends_109 : decode cX10_offends 109 = .ok (.iconst 0, 1) := by decide +kernel
theorem dX10_offends_110 : decode cX10_offends 110 = .ok (.iadd, 1) := by decide +kernel
theorem dX10_offends_111 : decode cX10_offends 111 = .ok (.iastore, 1) := by decide +kernel
theorem dX10_offends_112 : decode cX10_offends 112 = .ok (.aload_n 0, 1) := by decide +kernel
theorem dX10_offends_113 : decode cX10_offends 113 = .ok (.getfield 23, 3) := by decide +kernel
theorem dX10_offends_116 : decode cX10_offends 116 = .ok (.iconst 4, 1) := by decide +kernel
theorem dX10_offends_117 : decode cX10_offends 117 = .ok (.iload_n 1, 1) := by decide +kernel
theorem dX10_offends_118 : decode cX10_offends 118 = .ok (.imul, 1) := by decide +kernel
theorem dX10_offends_119 : decode cX10_offends 119 = .ok (.iconst 3, 1) := by decide +kernel
theorem dX10_offends_120 : decode cX10_offends 120 = .ok (.iadd, 1) := by decide +kernel
theorem dX10_offends_121 : decode cX10_offends 121 = .ok (.dup2, 1) := by decide +kernel
theorem dX10_offends_122 : decode cX10_offends 122 = .ok (.iaload, 1) := by decide +kernel
theorem dX10_offends_123 : decode cX10_offends 123 = .ok (.aload_n 0, 1) := by decide +kernel
theorem dX10_offends_124 : decode cX10_offends 124 = .ok (.iload_n 1, 1) := by decide +kernel
theorem dX10_offends_125 : decode cX10_offends 125 = .ok (.iconst 3, 1) := by decide +kernel
theorem dX10_offends_126 : decode cX10_offends 126 = .ok (.invokevirtual 76, 3) := by decide +kernel
theorem dX10_offends_129 : decode cX10_offends 129 = .ok (.sipush 999, 3) := by decide +kernel
theorem dX10_offends_132 : decode cX10_offends 132 = .ok (.if_icmp .ge 7, 3) := by decide +kernel
theorem dX10_offends_135 : decode cX10_offends 135 = .ok (.iconst 1, 1) := by decide +kernel
theorem dX10_offends_136 : decode cX10_offends 136 = .ok (.goto 4, 3) := by decide +kernel
theorem dX10_offends_139 : decode cX10_offends 139 = .ok (.iconst 0, 1) := by decide +kernel
theorem dX10_offends_140 : decode cX10_offends 140 = .ok (.iadd, 1) := by decide +kernel
theorem dX10_offends_141 : decode cX10_offends 141 = .ok (.iastore, 1) := by decide +kernel
theorem dX10_offends_142 : decode cX10_offends 142 = .ok (.aload_n 0, 1) := by decide +kernel
theorem dX10_offends_143 : decode cX10_offends 143 = .ok (.getfield 23, 3) := by decide +kernel
theorem dX10_offends_146 : decode cX10_offends 146 = .ok (.bipush 24, 2) := by decide +kernel
theorem dX10_offends_148 : decode cX10_offends 148 = .ok (.iload_n 2, 1) := by decide +kernel
theorem dX10_offends_149 : decode cX10_offends 149 = .ok (.iadd, 1) := by decide +kernel
theorem dX10_offends_150 : decode cX10_offends 150 = .ok (.iaload, 1) := by decide +kernel
theorem dX10_offends_151 : decode cX10_offends 151 = .ok (.ireturn, 1) := by decide +kernel
theorem dX10_shifts_0 : decode cX10_shifts 0 = .ok (.aload_n 0, 1) := by decide +kernel
theorem dX10_shifts_1 : decode cX10_shifts 1 = .ok (.iload_n 1, 1) := by decide +kernel
theorem dX10_shifts_2 : decode cX10_shifts 2 = .ok (.invokevirtual 179, 3) := by decide +kernel
theorem dX10_shifts_5 : decode cX10_shifts 5 = .ok (.ifCond .eq 16, 3) := by decide +kernel
theorem dX10_shifts_8 : decode cX10_shifts 8 = .ok (.aload_n 0, 1) := by decide +kernel
theorem dX10_shifts_9 : decode cX10_shifts 9 = .ok (.iload_n 2, 1) := by decide +kernel
theorem dX10_shifts_10 : decode cX10_shifts 10 = .ok (.invokevirtual 179, 3) := by decide +kernel
theorem dX10_shifts_13 : decode cX10_shifts 13 = .ok (.ifCond .eq 8, 3) := by decide +kernel
theorem dX10_shifts_16 : decode cX10_shifts 16 = .ok (.iload_n 1, 1) := by decide +kernel
theorem dX10_shifts_17 : decode cX10_shifts 17 = .ok (.iload_n 2, 1) := by decide +kernel
theorem dX10_shifts_18 : decode cX10_shifts 18 = .ok (.if_icmp .ne 5, 3) := by decide +kernel
theorem dX10_shifts_21 : decode cX10_shifts 21 = .ok (.iconst (-1), 1) := by decide +kernel
theorem dX10_shifts_22 : decode cX10_shifts 22 = .ok (.ireturn, 1) := by decide +kernel
theorem dX10_shifts_23 : decode cX10_shifts 23 = .ok (.aload_n 0, 1) := by decide +kernel
theorem dX10_shifts_24 : decode cX10_shifts 24 = .ok (.iload_n 1, 1) := by decide +kernel
theorem dX10_shifts_25 : decode cX10_shifts 25 = .ok (.iconst 0, 1) := by decide +kernel
theorem dX10_shifts_26 : decode cX10_shifts 26 = .ok (.invokevirtual 76, 3) := by decide +kernel
theorem dX10_shifts_29 : decode cX10_shifts 29 = .ok (.aload_n 0, 1) := by decide +kernel
theorem dX10_shifts_30 : decode cX10_shifts 30 = .ok (.iload_n 2, 1) := by decide +kernel
theorem dX10_shifts_31 : decode cX10_shifts 31 = .ok (.iconst 0, 1) := by decide +kernel
theorem dX10_shifts_32 : decode cX10_shifts 32 = .ok (.invokevirtual 76, 3) := by decide +kernel
theorem dX10_shifts_35 : decode cX10_shifts 35 = .ok (.if_icmp .ne 23, 3) := by decide +kernel
theorem dX10_shifts_38 : decode cX10_shifts 38 = .ok (.aload_n 0, 1) := by decide +kernel
theorem dX10_shifts_39 : decode cX10_shifts 39 = .ok (.iload_n 1, 1) := by decide +kernel
theorem dX10_shifts_40 : decode cX10_shifts 40 = .ok (.iconst 1, 1) := by decide +kernel
theorem dX10_shifts_41 : decode cX10_shifts 41 = .ok (.invokevirtual 76, 3) := by decide +kernel
theorem dX10_shifts_44 : decode cX10_shifts 44 = .ok (.ifCond .eq 14, 3) := by decide +kernel
theorem dX10_shifts_47 : decode cX10_shifts 47 = .ok (.aload_n 0, 1) := by decide +kernel
theorem dX10_shifts_48 : decode cX10_shifts 48 = .ok (.iload_n 2, 1) := by decide +kernel
theorem dX10_shifts_49 : decode cX10_shifts 49 = .ok (.iconst 1, 1) := by decide +kernel
theorem dX10_shifts_50 : decode cX10_shifts 50 = .ok (.invokevirtual 76, 3) := by decide +kernel
theorem dX10_shifts_53 : decode cX10_shifts 53 = .ok (.bipush 98, 2) := by decide +kernel
theorem dX10_shifts_55 : decode cX10_shifts 55 = .ok (.if_icmp .le 6, 3) := by decide +kernel
theorem dX10_shifts_58 : decode cX10_shifts 58 = .ok (.bipush (-2), 2) := by decide +kernel
theorem dX10_shifts_60 : decode cX10_shifts 60 = .ok (.ireturn, 1) := by decide +kernel
theorem dX10_shifts_61 : decode cX10_shifts 61 = .ok (.aload_n 0, 1) := by decide +kernel
theorem dX10_shifts_62 : decode cX10_shifts 62 = .ok (.invokevirtual 194, 3) := by decide +kernel
theorem dX10_shifts_65 : decode cX10_shifts 65 = .ok (.aload_n 0, 1) := by decide +kernel
theorem dX10_shifts_66 : decode cX10_shifts 66 = .ok (.getfield 23, 3) := by decide +kernel
theorem dX10_shifts_69 : decode cX10_shifts 69 = .ok (.iconst 4, 1) := by decide +kernel
theorem dX10_shifts_70 : decode cX10_shifts 70 = .ok (.iload_n 1, 1) := by decide +kernel
theorem dX10_shifts_71 : decode cX10_shifts 71 = .ok (.imul, 1) := by decide +kernel
theorem dX10_shifts_72 : decode cX10_shifts 72 = .ok (.iconst 1, 1) := by decide +kernel
theorem dX10_shifts_73 : decode cX10_shifts 73 = .ok (.iadd, 1) := by decide +kernel
theorem dX10_shifts_74 : decode cX10_shifts 74 = .ok (.dup2, 1) := by decide +kernel
theorem dX10_shifts_75 : decode cX10_shifts 75 = .ok (.iaload, 1) := by decide +kernel
theorem dX10_shifts_76 : decode cX10_shifts 76 = .ok (.iconst 1, 1) := by decide +kernel
theorem dX10_shifts_77 : decode cX10_shifts 77 = .ok (.isub, 1) := by decide +kernel
theorem dX10_shifts_78 : decode cX10_shifts 78 = .ok (.iastore, 1) := by decide +kernel
theorem dX10_shifts_79 : decode cX10_shifts 79 = .ok (.aload_n 0, 1) := by decide +kernel
theorem dX10_shifts_80 : decode cX10_shifts 80 = .ok (.getfield 23, 3) := by decide +kernel
theorem dX10_shifts_83 : decode cX10_shifts 83 = .ok (.iconst 4, 1) := by decide +kernel
theorem dX10_shifts_84 : decode cX10_shifts 84 = .ok (.iload_n 2, 1) := by decide +kernel
theorem dX10_shifts_85 : decode cX10_shifts 85 = .ok (.imul, 1) := by decide +kernel
theorem dX10_shifts_86 : decode cX10_shifts 86 = .ok (.iconst 1, 1) := by decide +kernel
theorem dX10_shifts_87 : decode cX10_shifts 87 = .ok (.iadd, 1) := by decide +kernel
theorem dX10_shifts_88 : decode cX10_shifts 88 = .ok (.dup2, 1) := by decide +kernel
theorem dX10_shifts_89 : decode cX10_shifts 89 = .ok (.iaload, 1) := by decide +kernel
theorem dX10_shifts_90 : decode cX10_shifts 90 = .ok (.iconst 1, 1) := by decide +kernel
theorem dX10_shifts_91 : decode cX10_shifts 91 = .ok (.iadd, 1) := by decide +kernel
theorem dX10_shifts_92 : decode cX10_shifts 92 = .ok (.iastore, 1) := by decide +kernel
theorem dX10_shifts_93 : decode cX10_shifts 93 = .ok (.aload_n 0, 1) := by decide +kernel
theorem dX10_shifts_94 : decode cX10_shifts 94 = .ok (.iload_n 2, 1) := by decide +kernel
theorem dX10_shifts_95 : decode cX10_shifts 95 = .ok (.iconst 1, 1) := by decide +kernel
theorem dX10_shifts_96 : decode cX10_shifts 96 = .ok (.invokevirtual 76, 3) := by decide +kernel
theorem dX10_shifts_99 : decode cX10_shifts 99 = .ok (.ireturn, 1) := by decide +kernel
theorem dX10_spreadOf_0 : decode cX10_spreadOf 0 = .ok (.iload_n 1, 1) := by decide +kernel
theorem dX10_spreadOf_1 : decode cX10_spreadOf 1 = .ok (.istore_n 2, 1) := by decide +kernel
theorem dX10_spreadOf_2 : decode cX10_spreadOf 2 = .ok (.iconst (-1), 1) := by decide +kernel
theorem dX10_spreadOf_3 : decode cX10_spreadOf 3 = .ok (.istore_n 3, 1) := by decide +kernel
theorem dX10_spreadOf_4 : decode cX10_spreadOf 4 = .ok (.iload_n 3, 1) := by decide +kernel
theorem dX10_spreadOf_5 : decode cX10_spreadOf 5 = .ok (.iload_n 2, 1) := by decide +kernel
theorem dX10_spreadOf_6 : decode cX10_spreadOf 6 = .ok (.if_icmp .eq 66, 3) := by decide +kernel
theorem dX10_spreadOf_9 : decode cX10_spreadOf 9 = .ok (.iload_n 2, 1) := by decide +kernel
theorem dX10_spreadOf_10 : decode cX10_spreadOf 10 = .ok (.istore_n 3, 1) := by decide +kernel
theorem dX10_spreadOf_11 : decode cX10_spreadOf 11 = .ok (.iconst 0, 1) := by decide +kernel
theorem dX10_spreadOf_12 : decode cX10_spreadOf 12 = .ok (.istore 4, 2) := by decide +kernel
theorem dX10_spreadOf_14 : decode cX10_spreadOf 14 = .ok (.iload 4, 2) := by decide +kernel
theorem dX10_spreadOf_16 : decode cX10_spreadOf 16 = .ok (.aload_n 0, 1) := by decide +kernel
theorem dX10_spreadOf_17 : decode cX10_spreadOf 17 = .ok (.getfield 66, 3) := by decide +kernel
theorem dX10_spreadOf_20 : decode cX10_spreadOf 20 = .ok (.if_icmp .ge 49, 3) := by decide +kernel
theorem dX10_spreadOf_23 : decode cX10_spreadOf 23 = .ok (.aload_n 0, 1) := by decide +kernel
theorem dX10_spreadOf_24 : decode cX10_spreadOf 24 = .ok (.iload 4, 2) := by decide +kernel
theorem dX10_spreadOf_26 : decode cX10_spreadOf 26 = .ok (.invokevirtual 185, 3) := by decide +kernel
theorem dX10_spreadOf_29 : decode cX10_spreadOf 29 = .ok (.iload_n 2, 1) := by decide +kernel
theorem dX10_spreadOf_30 : decode cX10_spreadOf 30 = .ok (.iand, 1) := by decide +kernel
theorem dX10_spreadOf_31 : decode cX10_spreadOf 31 = .ok (.invokestatic 199, 3) := by decide +kernel
theorem dX10_spreadOf_34 : decode cX10_spreadOf 34 = .ok (.istore 5, 2) := by decide +kernel
theorem dX10_spreadOf_36 : decode cX10_spreadOf 36 = .ok (.iload_n 2, 1) := by decide +kernel
theorem dX10_spreadOf_37 : decode cX10_spreadOf 37 = .ok (.iload 5, 2) := by decide +kernel
theorem dX10_spreadOf_39 : decode cX10_spreadOf 39 = .ok (.ifCond .le 21, 3) := by decide +kernel
theorem dX10_spreadOf_42 : decode cX10_spreadOf 42 = .ok (.iload 5, 2) := by decide +kernel
theorem dX10_spreadOf_44 : decode cX10_spreadOf 44 = .ok (.aload_n 0, 1) := by decide +kernel
theorem dX10_spreadOf_45 : decode cX10_spreadOf 45 = .ok (.iload 4, 2) := by decide +kernel
theorem dX10_spreadOf_47 : decode cX10_spreadOf 47 = .ok (.invokevirtual 182, 3) := by decide +kernel
theorem dX10_spreadOf_50 : decode cX10_spreadOf 50 = .ok (.if_icmp .lt 10, 3) := by decide +kernel
theorem dX10_spreadOf_53 : decode cX10_spreadOf 53 = .ok (.iconst 1, 1) := by decide +kernel
theorem dX10_spreadOf_54 : decode cX10_spreadOf 54 = .ok (.iload 4, 2) := by decide +kernel
theorem dX10_spreadOf_56 : decode cX10_spreadOf 56 = .ok (.ishl, 1) := by decide +kernel
theorem dX10_spreadOf_57 : decode cX10_spreadOf 57 = .ok (.goto 4, 3) := by decide +kernel
theorem dX10_spreadOf_60 : decode cX10_spreadOf 60 = .ok (.iconst 0, 1) := by decide +kernel
theorem dX10_spreadOf_61 : decode cX10_spreadOf 61 = .ok (.ior, 1) := by decide +kernel
theorem dX10_spreadOf_62 : decode cX10_spreadOf 62 = .ok (.istore_n 2, 1) := by decide +kernel
theorem dX10_spreadOf_63 : decode cX10_spreadOf 63 = .ok (.iinc 4 1, 3) := by decide +kernel
theorem dX10_spreadOf_66 : decode cX10_spreadOf 66 = .ok (.goto (-52), 3) := by decide +kernel
theorem dX10_spreadOf_69 : decode cX10_spreadOf 69 = .ok (.goto (-65), 3) := by decide +kernel
theorem dX10_spreadOf_72 : decode cX10_spreadOf 72 = .ok (.iload_n 2, 1) := by decide +kernel
theorem dX10_spreadOf_73 : decode cX10_spreadOf 73 = .ok (.ireturn, 1) := by decide +kernel
theorem dX10_calls_0 : decode cX10_calls 0 = .ok (.aload_n 0, 1) := by decide +kernel
theorem dX10_calls_1 : decode cX10_calls 1 = .ok (.iload_n 1, 1) := by decide +kernel
theorem dX10_calls_2 : decode cX10_calls 2 = .ok (.invokevirtual 202, 3) := by decide +kernel
theorem dX10_calls_5 : decode cX10_calls 5 = .ok (.ifCond .ne 5, 3) := by decide +kernel
theorem dX10_calls_8 : decode cX10_calls 8 = .ok (.iconst (-1), 1) := by decide +kernel
theorem dX10_calls_9 : decode cX10_calls 9 = .ok (.ireturn, 1) := by decide +kernel
theorem dX10_calls_10 : decode cX10_calls 10 = .ok (.iconst 0, 1) := by decide +kernel
theorem dX10_calls_11 : decode cX10_calls 11 = .ok (.istore_n 2, 1) := by decide +kernel
theorem dX10_calls_12 : decode cX10_calls 12 = .ok (.iconst 0, 1) := by decide +kernel
theorem dX10_calls_13 : decode cX10_calls 13 = .ok (.istore_n 3, 1) := by decide +kernel
theorem dX10_calls_14 : decode cX10_calls 14 = .ok (.iload_n 3, 1) := by decide +kernel
theorem dX10_calls_15 : decode cX10_calls 15 = .ok (.aload_n 0, 1) := by decide +kernel
theorem dX10_calls_16 : decode cX10_calls 16 = .ok (.getfield 66, 3) := by decide +kernel
theorem dX10_calls_19 : decode cX10_calls 19 = .ok (.if_icmp .ge 29, 3) := by decide +kernel
theorem dX10_calls_22 : decode cX10_calls 22 = .ok (.iload_n 2, 1) := by decide +kernel
theorem dX10_calls_23 : decode cX10_calls 23 = .ok (.aload_n 0, 1) := by decide +kernel
theorem dX10_calls_24 : decode cX10_calls 24 = .ok (.iload_n 3, 1) := by decide +kernel
theorem dX10_calls_25 : decode cX10_calls 25 = .ok (.iconst 0, 1) := by decide +kernel
theorem dX10_calls_26 : decode cX10_calls 26 = .ok (.invokevirtual 76, 3) := by decide +kernel
theorem dX10_calls_29 : decode cX10_calls 29 = .ok (.iload_n 1, 1) := by decide +kernel
theorem dX10_calls_30 : decode cX10_calls 30 = .ok (.if_icmp .ne 9, 3) := by decide +kernel
theorem dX10_calls_33 : decode cX10_calls 33 = .ok (.iconst 1, 1) := by decide +kernel
theorem dX10_calls_34 : decode cX10_calls 34 = .ok (.iload_n 3, 1) := by decide +kernel
theorem dX10_calls_35 : decode cX10_calls 35 = .ok (.ishl, 1) := by decide +kernel
theorem dX10_calls_36 : decode cX10_calls 36 = .ok (.goto 4, 3) := by decide +kernel
theorem dX10_calls_39 : decode cX10_calls 39 = .ok (.iconst 0, 1) := by decide +kernel
theorem dX10_calls_40 : decode cX10_calls 40 = .ok (.ior, 1) := by decide +kernel
theorem dX10_calls_41 : decode cX10_calls 41 = .ok (.istore_n 2, 1) := by decide +kernel
theorem dX10_calls_42 : decode cX10_calls 42 = .ok (.iinc 3 1, 3) := by decide +kernel
theorem dX10_calls_45 : decode cX10_calls 45 = .ok (.goto (-31), 3) := by decide +kernel
theorem dX10_calls_48 : decode cX10_calls 48 = .ok (.iload_n 2, 1) := by decide +kernel
theorem dX10_calls_49 : decode cX10_calls 49 = .ok (.aload_n 0, 1) := by decide +kernel
theorem dX10_calls_50 : decode cX10_calls 50 = .ok (.getfield 23, 3) := by decide +kernel
theorem dX10_calls_53 : decode cX10_calls 53 = .ok (.bipush 28, 2) := by decide +kernel
theorem dX10_calls_55 : decode cX10_calls 55 = .ok (.iaload, 1) := by decide +kernel
theorem dX10_calls_56 : decode cX10_calls 56 = .ok (.iconst (-1), 1) := by decide +kernel
theorem dX10_calls_57 : decode cX10_calls 57 = .ok (.ixor, 1) := by decide +kernel
theorem dX10_calls_58 : decode cX10_calls 58 = .ok (.iand, 1) := by decide +kernel
theorem dX10_calls_59 : decode cX10_calls 59 = .ok (.ifCond .ne 6, 3) := by decide +kernel
theorem dX10_calls_62 : decode cX10_calls 62 = .ok (.bipush (-2), 2) := by decide +kernel
theorem dX10_calls_64 : decode cX10_calls 64 = .ok (.ireturn, 1) := by decide +kernel
theorem dX10_calls_65 : decode cX10_calls 65 = .ok (.aload_n 0, 1) := by decide +kernel
theorem dX10_calls_66 : decode cX10_calls 66 = .ok (.invokevirtual 194, 3) := by decide +kernel
theorem dX10_calls_69 : decode cX10_calls 69 = .ok (.aload_n 0, 1) := by decide +kernel
theorem dX10_calls_70 : decode cX10_calls 70 = .ok (.getfield 23, 3) := by decide +kernel
theorem dX10_calls_73 : decode cX10_calls 73 = .ok (.bipush 28, 2) := by decide +kernel
theorem dX10_calls_75 : decode cX10_calls 75 = .ok (.aload_n 0, 1) := by decide +kernel
theorem dX10_calls_76 : decode cX10_calls 76 = .ok (.aload_n 0, 1) := by decide +kernel
theorem dX10_calls_77 : decode cX10_calls 77 = .ok (.getfield 23, 3) := by decide +kernel
theorem dX10_calls_80 : decode cX10_calls 80 = .ok (.bipush 28, 2) := by decide +kernel
theorem dX10_calls_82 : decode cX10_calls 82 = .ok (.iaload, 1) := by decide +kernel
theorem dX10_calls_83 : decode cX10_calls 83 = .ok (.iload_n 2, 1) := by decide +kernel
theorem dX10_calls_84 : decode cX10_calls 84 = .ok (.ior, 1) := by decide +kernel
theorem dX10_calls_85 : decode cX10_calls 85 = .ok (.invokevirtual 205, 3) := by decide +kernel
theorem dX10_calls_88 : decode cX10_calls 88 = .ok (.iastore, 1) := by decide +kernel
theorem dX10_calls_89 : decode cX10_calls 89 = .ok (.iconst 0, 1) := by decide +kernel
theorem dX10_calls_90 : decode cX10_calls 90 = .ok (.istore_n 3, 1) := by decide +kernel
theorem dX10_calls_91 : decode cX10_calls 91 = .ok (.iload_n 3, 1) := by decide +kernel
theorem dX10_calls_92 : decode cX10_calls 92 = .ok (.aload_n 0, 1) := by decide +kernel
theorem dX10_calls_93 : decode cX10_calls 93 = .ok (.getfield 66, 3) := by decide +kernel
theorem dX10_calls_96 : decode cX10_calls 96 = .ok (.if_icmp .ge 43, 3) := by decide +kernel
theorem dX10_calls_99 : decode cX10_calls 99 = .ok (.aload_n 0, 1) := by decide +kernel
theorem dX10_calls_100 : decode cX10_calls 100 = .ok (.getfield 23, 3) := by decide +kernel
theorem dX10_calls_103 : decode cX10_calls 103 = .ok (.iconst 4, 1) := by decide +kernel
theorem dX10_calls_104 : decode cX10_calls 104 = .ok (.iload_n 3, 1) := by decide +kernel
theorem dX10_calls_105 : decode cX10_calls 105 = .ok (.imul, 1) := by decide +kernel
theorem dX10_calls_106 : decode cX10_calls 106 = .ok (.iconst 1, 1) := by decide +kernel
theorem dX10_calls_107 : decode cX10_calls 107 = .ok (.iadd, 1) := by decide +kernel
theorem dX10_calls_108 : decode cX10_calls 108 = .ok (.aload_n 0, 1) := by decide +kernel
theorem dX10_calls_109 : decode cX10_calls 109 = .ok (.getfield 23, 3) := by decide +kernel
theorem dX10_calls_112 : decode cX10_calls 112 = .ok (.bipush 28, 2) := by decide +kernel
theorem dX10_calls_114 : decode cX10_calls 114 = .ok (.iaload, 1) := by decide +kernel
theorem dX10_calls_115 : decode cX10_calls 115 = .ok (.iload_n 3, 1) := by decide +kernel
theorem dX10_calls_116 : decode cX10_calls 116 = .ok (.invokestatic 171, 3) := by decide +kernel
theorem dX10_calls_119 : decode cX10_calls 119 = .ok (.ifCond .eq 7, 3) := by decide +kernel
theorem dX10_calls_122 : decode cX10_calls 122 = .ok (.iconst 0, 1) := by decide +kernel
theorem dX10_calls_123 : decode cX10_calls 123 = .ok (.goto 9, 3) := by decide +kernel
theorem dX10_calls_126 : decode cX10_calls 126 = .ok (.aload_n 0, 1) := by decide +kernel
theorem dX10_calls_127 : decode cX10_calls 127 = .ok (.iload_n 3, 1) := by decide +kernel
theorem dX10_calls_128 : decode cX10_calls 128 = .ok (.iconst 1, 1) := by decide +kernel
theorem dX10_calls_129 : decode cX10_calls 129 = .ok (.invokevirtual 76, 3) := by decide +kernel
theorem dX10_calls_132 : decode cX10_calls 132 = .ok (.iastore, 1) := by decide +kernel
theorem dX10_calls_133 : decode cX10_calls 133 = .ok (.iinc 3 1, 3) := by decide +kernel
theorem dX10_calls_136 : decode cX10_calls 136 = .ok (.goto (-45), 3) := by decide +kernel
theorem dX10_calls_139 : decode cX10_calls 139 = .ok (.aload_n 0, 1) := by decide +kernel
theorem dX10_calls_140 : decode cX10_calls 140 = .ok (.getfield 23, 3) := by decide +kernel
theorem dX10_calls_143 : decode cX10_calls 143 = .ok (.bipush 28, 2) := by decide +kernel
theorem dX10_calls_145 : decode cX10_calls 145 = .ok (.iaload, 1) := by decide +kernel
theorem dX10_calls_146 : decode cX10_calls 146 = .ok (.ireturn, 1) := by decide +kernel
theorem dX10_undo_0 : decode cX10_undo 0 = .ok (.aload_n 0, 1) := by decide +kernel
theorem dX10_undo_1 : decode cX10_undo 1 = .ok (.getfield 135, 3) := by decide +kernel
theorem dX10_undo_4 : decode cX10_undo 4 = .ok (.ifCond .ne 6, 3) := by decide +kernel
theorem dX10_undo_7 : decode cX10_undo 7 = .ok (.bipush (-2), 2) := by decide +kernel
theorem dX10_undo_9 : decode cX10_undo 9 = .ok (.ireturn, 1) := by decide +kernel
theorem dX10_undo_10 : decode cX10_undo 10 = .ok (.aload_n 0, 1) := by decide +kernel
theorem dX10_undo_11 : decode cX10_undo 11 = .ok (.dup, 1) := by decide +kernel
theorem dX10_undo_12 : decode cX10_undo 12 = .ok (.getfield 135, 3) := by decide +kernel
theorem dX10_undo_15 : decode cX10_undo 15 = .ok (.iconst 1, 1) := by decide +kernel
theorem dX10_undo_16 : decode cX10_undo 16 = .ok (.isub, 1) := by decide +kernel
theorem dX10_undo_17 : decode cX10_undo 17 = .ok (.putfield 135, 3) := by decide +kernel
theorem dX10_undo_20 : decode cX10_undo 20 = .ok (.iconst 0, 1) := by decide +kernel
theorem dX10_undo_21 : decode cX10_undo 21 = .ok (.istore_n 1, 1) := by decide +kernel
theorem dX10_undo_22 : decode cX10_undo 22 = .ok (.iload_n 1, 1) := by decide +kernel
theorem dX10_undo_23 : decode cX10_undo 23 = .ok (.bipush 29, 2) := by decide +kernel
theorem dX10_undo_25 : decode cX10_undo 25 = .ok (.if_icmp .ge 29, 3) := by decide +kernel
theorem dX10_undo_28 : decode cX10_undo 28 = .ok (.aload_n 0, 1) := by decide +kernel
theorem dX10_undo_29 : decode cX10_undo 29 = .ok (.getfield 23, 3) := by decide +kernel
theorem dX10_undo_32 : decode cX10_undo 32 = .ok (.iload_n 1, 1) := by decide +kernel
theorem dX10_undo_33 : decode cX10_undo 33 = .ok (.aload_n 0, 1) := by decide +kernel
theorem dX10_undo_34 : decode cX10_undo 34 = .ok (.getfield 26, 3) := by decide +kernel
theorem dX10_undo_37 : decode cX10_undo 37 = .ok (.bipush 29, 2) := by decide +kernel
theorem dX10_undo_39 : decode cX10_undo 39 = .ok (.aload_n 0, 1) := by decide +kernel
theorem dX10_undo_40 : decode cX10_undo 40 = .ok (.getfield 135, 3) := by decide +kernel
theorem dX10_undo_43 : decode cX10_undo 43 = .ok (.imul, 1) := by decide +kernel
theorem dX10_undo_44 : decode cX10_undo 44 = .ok (.iload_n 1, 1) := by decide +kernel
theorem dX10_undo_45 : decode cX10_undo 45 = .ok (.iadd, 1) := by decide +kernel
theorem dX10_undo_46 : decode cX10_undo 46 = .ok (.iaload, 1) := by decide +kernel
theorem dX10_undo_47 : decode cX10_undo 47 = .ok (.iastore, 1) := by decide +kernel
theorem dX10_undo_48 : decode cX10_undo 48 = .ok (.iinc 1 1, 3) := by decide +kernel
theorem dX10_undo_51 : decode cX10_undo 51 = .ok (.goto (-29), 3) := by decide +kernel
theorem dX10_undo_54 : decode cX10_undo 54 = .ok (.aload_n 0, 1) := by decide +kernel
theorem dX10_undo_55 : decode cX10_undo 55 = .ok (.getfield 135, 3) := by decide +kernel
theorem dX10_undo_58 : decode cX10_undo 58 = .ok (.ireturn, 1) := by decide +kernel
theorem dX10_meet_0 : decode cX10_meet 0 = .ok (.aload_n 0, 1) := by decide +kernel
theorem dX10_meet_1 : decode cX10_meet 1 = .ok (.bipush (-9), 2) := by decide +kernel
theorem dX10_meet_3 : decode cX10_meet 3 = .ok (.putfield 208, 3) := by decide +kernel
theorem dX10_meet_6 : decode cX10_meet 6 = .ok (.aload_n 0, 1) := by decide +kernel
theorem dX10_meet_7 : decode cX10_meet 7 = .ok (.bipush (-9), 2) := by decide +kernel
theorem dX10_meet_9 : decode cX10_meet 9 = .ok (.putfield 211, 3) := by decide +kernel
theorem dX10_meet_12 : decode cX10_meet 12 = .ok (.iconst 0, 1) := by decide +kernel
theorem dX10_meet_13 : decode cX10_meet 13 = .ok (.istore_n 1, 1) := by decide +kernel
theorem dX10_meet_14 : decode cX10_meet 14 = .ok (.iload_n 1, 1) := by decide +kernel
theorem dX10_meet_15 : decode cX10_meet 15 = .ok (.aload_n 0, 1) := by decide +kernel
theorem dX10_meet_16 : decode cX10_meet 16 = .ok (.getfield 7, 3) := by decide +kernel
theorem dX10_meet_19 : decode cX10_meet 19 = .ok (.if_icmp .ge 108, 3) := by decide +kernel
theorem dX10_meet_22 : decode cX10_meet 22 = .ok (.aload_n 0, 1) := by decide +kernel
theorem dX10_meet_23 : decode cX10_meet 23 = .ok (.getfield 66, 3) := by decide +kernel
theorem dX10_meet_26 : decode cX10_meet 26 = .ok (.ifCond .le 101, 3) := by decide +kernel
theorem dX10_meet_29 : decode cX10_meet 29 = .ok (.iconst 0, 1) := by decide +kernel
theorem dX10_meet_30 : decode cX10_meet 30 = .ok (.istore_n 2, 1) := by decide +kernel
theorem dX10_meet_31 : decode cX10_meet 31 = .ok (.iconst 1, 1) := by decide +kernel
theorem dX10_meet_32 : decode cX10_meet 32 = .ok (.istore_n 3, 1) := by decide +kernel
theorem dX10_meet_33 : decode cX10_meet 33 = .ok (.iconst 0, 1) := by decide +kernel
theorem dX10_meet_34 : decode cX10_meet 34 = .ok (.istore 4, 2) := by decide +kernel
theorem dX10_meet_36 : decode cX10_meet 36 = .ok (.iload 4, 2) := by decide +kernel
theorem dX10_meet_38 : decode cX10_meet 38 = .ok (.aload_n 0, 1) := by decide +kernel
theorem dX10_meet_39 : decode cX10_meet 39 = .ok (.getfield 66, 3) := by decide +kernel
theorem dX10_meet_42 : decode cX10_meet 42 = .ok (.if_icmp .ge 48, 3) := by decide +kernel
theorem dX10_meet_45 : decode cX10_meet 45 = .ok (.aload_n 0, 1) := by decide +kernel
theorem dX10_meet_46 : decode cX10_meet 46 = .ok (.iload 4, 2) := by decide +kernel
theorem dX10_meet_48 : decode cX10_meet 48 = .ok (.invokevirtual 168, 3) := by decide +kernel
theorem dX10_meet_51 : decode cX10_meet 51 = .ok (.iload_n 3, 1) := by decide +kernel
theorem dX10_meet_52 : decode cX10_meet 52 = .ok (.ifCond .eq 18, 3) := by decide +kernel
theorem dX10_meet_55 : decode cX10_meet 55 = .ok (.aload_n 0, 1) := by decide +kernel
theorem dX10_meet_56 : decode cX10_meet 56 = .ok (.getfield 60, 3) := by decide +kernel
theorem dX10_meet_59 : decode cX10_meet 59 = .ok (.iload_n 1, 1) := by decide +kernel
theorem dX10_meet_60 : decode cX10_meet 60 = .ok (.iaload, 1) := by decide +kernel
theorem dX10_meet_61 : decode cX10_meet 61 = .ok (.bipush (-9), 2) := by decide +kernel
theorem dX10_meet_63 : decode cX10_meet 63 = .ok (.if_icmp .eq 7, 3) := by decide +kernel
theorem dX10_meet_66 : decode cX10_meet 66 = .ok (.iconst 1, 1) := by decide +kernel
theorem dX10_meet_67 : decode cX10_meet 67 = .ok (.goto 4, 3) := by decide +kernel
theorem dX10_meet_70 : decode cX10_meet 70 = .ok (.iconst 0, 1) := by decide +kernel
theorem dX10_meet_71 : decode cX10_meet 71 = .ok (.istore_n 3, 1) := by decide +kernel
theorem dX10_meet_72 : decode cX10_meet 72 = .ok (.iload_n 2, 1) := by decide +kernel
theorem dX10_meet_73 : decode cX10_meet 73 = .ok (.aload_n 0, 1) := by decide +kernel
theorem dX10_meet_74 : decode cX10_meet 74 = .ok (.getfield 60, 3) := by decide +kernel
theorem dX10_meet_77 : decode cX10_meet 77 = .ok (.iload_n 1, 1) := by decide +kernel
theorem dX10_meet_78 : decode cX10_meet 78 = .ok (.iaload, 1) := by decide +kernel
theorem dX10_meet_79 : decode cX10_meet 79 = .ok (.bipush 100, 2) := by decide +kernel
theorem dX10_meet_81 : decode cX10_meet 81 = .ok (.idiv, 1) := by decide +kernel
theorem dX10_meet_82 : decode cX10_meet 82 = .ok (.iadd, 1) := by decide +kernel
theorem dX10_meet_83 : decode cX10_meet 83 = .ok (.istore_n 2, 1) := by decide +kernel
theorem dX10_meet_84 : decode cX10_meet 84 = .ok (.iinc 4 1, 3) := by decide +kernel
theorem dX10_meet_87 : decode cX10_meet 87 = .ok (.goto (-51), 3) := by decide +kernel
theorem dX10_meet_90 : decode cX10_meet 90 = .ok (.iload_n 3, 1) := by decide +kernel
theorem dX10_meet_91 : decode cX10_meet 91 = .ok (.ifCond .eq 30, 3) := by decide +kernel
theorem dX10_meet_94 : decode cX10_meet 94 = .ok (.aload_n 0, 1) := by decide +kernel
theorem dX10_meet_95 : decode cX10_meet 95 = .ok (.getfield 208, 3) := by decide +kernel
theorem dX10_meet_98 : decode cX10_meet 98 = .ok (.bipush (-9), 2) := by decide +kernel
theorem dX10_meet_100 : decode cX10_meet 100 = .ok (.if_icmp .eq 11, 3) := by decide +kernel
theorem dX10_meet_103 : decode cX10_meet 103 = .ok (.iload_n 2, 1) := by decide +kernel
theorem dX10_meet_104 : decode cX10_meet 104 = .ok (.aload_n 0, 1) := by decide +kernel
theorem dX10_meet_105 : decode cX10_meet 105 = .ok (.getfield 211, 3) := by decide +kernel
theorem dX10_meet_108 : decode cX10_meet 108 = .ok (.if_icmp .ge 13, 3) := by decide +kernel
theorem dX10_meet_111 : decode cX10_meet 111 = .ok (.aload_n 0, 1) := by decide +kernel
theorem dX10_meet_112 : decode cX10_meet 112 = .ok (.iload_n 1, 1) := by decide +kernel
theorem dX10_meet_113 : decode cX10_meet 113 = .ok (.putfield 208, 3) := by decide +kernel
theorem dX10_meet_116 : decode cX10_meet 116 = .ok (.aload_n 0, 1) := by decide +kernel
theorem dX10_meet_117 : decode cX10_meet 117 = .ok (.iload_n 2, 1) := by decide +kernel
theorem dX10_meet_118 : decode cX10_meet 118 = .ok (.putfield 211, 3) := by decide +kernel
theorem dX10_meet_121 : decode cX10_meet 121 = .ok (.iinc 1 1, 3) := by decide +kernel
theorem dX10_meet_124 : decode cX10_meet 124 = .ok (.goto (-110), 3) := by decide +kernel
theorem dX10_meet_127 : decode cX10_meet 127 = .ok (.return_, 1) := by decide +kernel
theorem dX10_fewestToAll_0 : decode cX10_fewestToAll 0 = .ok (.bipush (-9), 2) := by decide +kernel
theorem dX10_fewestToAll_2 : decode cX10_fewestToAll 2 = .ok (.istore_n 1, 1) := by decide +kernel
theorem dX10_fewestToAll_3 : decode cX10_fewestToAll 3 = .ok (.iconst 0, 1) := by decide +kernel
theorem dX10_fewestToAll_4 : decode cX10_fewestToAll 4 = .ok (.istore_n 2, 1) := by decide +kernel
theorem dX10_fewestToAll_5 : decode cX10_fewestToAll 5 = .ok (.iload_n 2, 1) := by decide +kernel
theorem dX10_fewestToAll_6 : decode cX10_fewestToAll 6 = .ok (.iconst 1, 1) := by decide +kernel
theorem dX10_fewestToAll_7 : decode cX10_fewestToAll 7 = .ok (.aload_n 0, 1) := by decide +kernel
theorem dX10_fewestToAll_8 : decode cX10_fewestToAll 8 = .ok (.getfield 66, 3) := by decide +kernel
theorem dX10_fewestToAll_11 : decode cX10_fewestToAll 11 = .ok (.ishl, 1) := by decide +kernel
theorem dX10_fewestToAll_12 : decode cX10_fewestToAll 12 = .ok (.if_icmp .ge 44, 3) := by decide +kernel
theorem dX10_fewestToAll_15 : decode cX10_fewestToAll 15 = .ok (.iload_n 1, 1) := by decide +kernel
theorem dX10_fewestToAll_16 : decode cX10_fewestToAll 16 = .ok (.bipush (-9), 2) := by decide +kernel
theorem dX10_fewestToAll_18 : decode cX10_fewestToAll 18 = .ok (.if_icmp .eq 14, 3) := by decide +kernel
theorem dX10_fewestToAll_21 : decode cX10_fewestToAll 21 = .ok (.iload_n 2, 1) := by decide +kernel
theorem dX10_fewestToAll_22 : decode cX10_fewestToAll 22 = .ok (.invokestatic 199, 3) := by decide +kernel
theorem dX10_fewestToAll_25 : decode cX10_fewestToAll 25 = .ok (.iload_n 1, 1) := by decide +kernel
theorem dX10_fewestToAll_26 : decode cX10_fewestToAll 26 = .ok (.invokestatic 199, 3) := by decide +kernel
theorem dX10_fewestToAll_29 : decode cX10_fewestToAll 29 = .ok (.if_icmp .ge 21, 3) := by decide +kernel
theorem dX10_fewestToAll_32 : decode cX10_fewestToAll 32 = .ok (.aload_n 0, 1) := by decide +kernel
theorem dX10_fewestToAll_33 : decode cX10_fewestToAll 33 = .ok (.iload_n 2, 1) := by decide +kernel
theorem dX10_fewestToAll_34 : decode cX10_fewestToAll 34 = .ok (.invokevirtual 205, 3) := by decide +kernel
theorem dX10_fewestToAll_37 : decode cX10_fewestToAll 37 = .ok (.iconst 1, 1) := by decide +kernel
theorem dX10_fewestToAll_38 : decode cX10_fewestToAll 38 = .ok (.aload_n 0, 1) := by decide +kernel
theorem dX10_fewestToAll_39 : decode cX10_fewestToAll 39 = .ok (.getfield 66, 3) := by decide +kernel
theorem dX10_fewestToAll_42 : decode cX10_fewestToAll 42 = .ok (.ishl, 1) := by decide +kernel
theorem dX10_fewestToAll_43 : decode cX10_fewestToAll 43 = .ok (.iconst 1, 1) := by decide +kernel
theorem dX10_fewestToAll_44 : decode cX10_fewestToAll 44 = .ok (.isub, 1) := by decide +kernel
theorem dX10_fewestToAll_45 : decode cX10_fewestToAll 45 = .ok (.if_icmp .ne 5, 3) := by decide +kernel
theorem dX10_fewestToAll_48 : decode cX10_fewestToAll 48 = .ok (.iload_n 2, 1) := by decide +kernel
theorem dX10_fewestToAll_49 : decode cX10_fewestToAll 49 = .ok (.istore_n 1, 1) := by decide +kernel
theorem dX10_fewestToAll_50 : decode cX10_fewestToAll 50 = .ok (.iinc 2 1, 3) := by decide +kernel
theorem dX10_fewestToAll_53 : decode cX10_fewestToAll 53 = .ok (.goto (-48), 3) := by decide +kernel
theorem dX10_fewestToAll_56 : decode cX10_fewestToAll 56 = .ok (.iload_n 1, 1) := by decide +kernel
theorem dX10_fewestToAll_57 : decode cX10_fewestToAll 57 = .ok (.ireturn, 1) := by decide +kernel
theorem dX10_now_0 : decode cX10_now 0 = .ok (.iload_n 1, 1) := by decide +kernel
theorem dX10_now_1 : decode cX10_now 1 = .ok (.tableswitch 71 0 4 #[35, 43, 52, 61, 66], 35) := by decide +kernel
theorem dX10_now_36 : decode cX10_now 36 = .ok (.aload_n 0, 1) := by decide +kernel
theorem dX10_now_37 : decode cX10_now 37 = .ok (.getfield 23, 3) := by decide +kernel
theorem dX10_now_40 : decode cX10_now 40 = .ok (.bipush 28, 2) := by decide +kernel
theorem dX10_now_42 : decode cX10_now 42 = .ok (.iaload, 1) := by decide +kernel
theorem dX10_now_43 : decode cX10_now 43 = .ok (.ireturn, 1) := by decide +kernel
theorem dX10_now_44 : decode cX10_now 44 = .ok (.aload_n 0, 1) := by decide +kernel
theorem dX10_now_45 : decode cX10_now 45 = .ok (.invokevirtual 214, 3) := by decide +kernel
theorem dX10_now_48 : decode cX10_now 48 = .ok (.aload_n 0, 1) := by decide +kernel
theorem dX10_now_49 : decode cX10_now 49 = .ok (.getfield 208, 3) := by decide +kernel
theorem dX10_now_52 : decode cX10_now 52 = .ok (.ireturn, 1) := by decide +kernel
theorem dX10_now_53 : decode cX10_now 53 = .ok (.aload_n 0, 1) := by decide +kernel
theorem dX10_now_54 : decode cX10_now 54 = .ok (.invokevirtual 214, 3) := by decide +kernel
theorem dX10_now_57 : decode cX10_now 57 = .ok (.aload_n 0, 1) := by decide +kernel
theorem dX10_now_58 : decode cX10_now 58 = .ok (.getfield 211, 3) := by decide +kernel
theorem dX10_now_61 : decode cX10_now 61 = .ok (.ireturn, 1) := by decide +kernel
theorem dX10_now_62 : decode cX10_now 62 = .ok (.aload_n 0, 1) := by decide +kernel
theorem dX10_now_63 : decode cX10_now 63 = .ok (.invokevirtual 217, 3) := by decide +kernel
theorem dX10_now_66 : decode cX10_now 66 = .ok (.ireturn, 1) := by decide +kernel
theorem dX10_now_67 : decode cX10_now 67 = .ok (.aload_n 0, 1) := by decide +kernel
theorem dX10_now_68 : decode cX10_now 68 = .ok (.invokevirtual 221, 3) := by decide +kernel
theorem dX10_now_71 : decode cX10_now 71 = .ok (.ireturn, 1) := by decide +kernel
theorem dX10_now_72 : decode cX10_now 72 = .ok (.iconst (-1), 1) := by decide +kernel
theorem dX10_now_73 : decode cX10_now 73 = .ok (.ireturn, 1) := by decide +kernel
theorem dX10_way_0 : decode cX10_way 0 = .ok (.aload_n 0, 1) := by decide +kernel
theorem dX10_way_1 : decode cX10_way 1 = .ok (.iload_n 1, 1) := by decide +kernel
theorem dX10_way_2 : decode cX10_way 2 = .ok (.invokevirtual 179, 3) := by decide +kernel
theorem dX10_way_5 : decode cX10_way 5 = .ok (.ifCond .eq 21, 3) := by decide +kernel
theorem dX10_way_8 : decode cX10_way 8 = .ok (.aload_n 0, 1) := by decide +kernel
theorem dX10_way_9 : decode cX10_way 9 = .ok (.iload_n 2, 1) := by decide +kernel
theorem dX10_way_10 : decode cX10_way 10 = .ok (.invokevirtual 202, 3) := by decide +kernel
theorem dX10_way_13 : decode cX10_way 13 = .ok (.ifCond .eq 13, 3) := by decide +kernel
theorem dX10_way_16 : decode cX10_way 16 = .ok (.iload_n 3, 1) := by decide +kernel
theorem dX10_way_17 : decode cX10_way 17 = .ok (.i2l, 1) := by decide +kernel
theorem dX10_way_18 : decode cX10_way 18 = .ok (.lconst 0, 1) := by decide +kernel
theorem dX10_way_19 : decode cX10_way 19 = .ok (.lconst 1, 1) := by decide +kernel
theorem dX10_way_20 : decode cX10_way 20 = .ok (.invokestatic 69, 3) := by decide +kernel
theorem dX10_way_23 : decode cX10_way 23 = .ok (.ifCond .ne 5, 3) := by decide +kernel
theorem dX10_way_26 : decode cX10_way 26 = .ok (.iconst (-1), 1) := by decide +kernel
theorem dX10_way_27 : decode cX10_way 27 = .ok (.ireturn, 1) := by decide +kernel
theorem dX10_way_28 : decode cX10_way 28 = .ok (.aload_n 0, 1) := by decide +kernel
theorem dX10_way_29 : decode cX10_way 29 = .ok (.iload_n 1, 1) := by decide +kernel
theorem dX10_way_30 : decode cX10_way 30 = .ok (.invokevirtual 168, 3) := by decide +kernel
theorem dX10_way_33 : decode cX10_way 33 = .ok (.aload_n 0, 1) := by decide +kernel
theorem dX10_way_34 : decode cX10_way 34 = .ok (.getfield 60, 3) := by decide +kernel
theorem dX10_way_37 : decode cX10_way 37 = .ok (.iload_n 2, 1) := by decide +kernel
theorem dX10_way_38 : decode cX10_way 38 = .ok (.iaload, 1) := by decide +kernel
theorem dX10_way_39 : decode cX10_way 39 = .ok (.bipush (-9), 2) := by decide +kernel
theorem dX10_way_41 : decode cX10_way 41 = .ok (.if_icmp .ne 8, 3) := by decide +kernel
theorem dX10_way_44 : decode cX10_way 44 = .ok (.bipush (-9), 2) := by decide +kernel
theorem dX10_way_46 : decode cX10_way 46 = .ok (.goto 28, 3) := by decide +kernel
theorem dX10_way_49 : decode cX10_way 49 = .ok (.iload_n 3, 1) := by decide +kernel
theorem dX10_way_50 : decode cX10_way 50 = .ok (.ifCond .ne 15, 3) := by decide +kernel
theorem dX10_way_53 : decode cX10_way 53 = .ok (.aload_n 0, 1) := by decide +kernel
theorem dX10_way_54 : decode cX10_way 54 = .ok (.getfield 60, 3) := by decide +kernel
theorem dX10_way_57 : decode cX10_way 57 = .ok (.iload_n 2, 1) := by decide +kernel
theorem dX10_way_58 : decode cX10_way 58 = .ok (.iaload, 1) := by decide +kernel
theorem dX10_way_59 : decode cX10_way 59 = .ok (.bipush 100, 2) := by decide +kernel
theorem dX10_way_61 : decode cX10_way 61 = .ok (.idiv, 1) := by decide +kernel
theorem dX10_way_62 : decode cX10_way 62 = .ok (.goto 12, 3) := by decide +kernel
theorem dX10_way_65 : decode cX10_way 65 = .ok (.aload_n 0, 1) := by decide +kernel
theorem dX10_way_66 : decode cX10_way 66 = .ok (.getfield 60, 3) := by decide +kernel
theorem dX10_way_69 : decode cX10_way 69 = .ok (.iload_n 2, 1) := by decide +kernel
theorem dX10_way_70 : decode cX10_way 70 = .ok (.iaload, 1) := by decide +kernel
theorem dX10_way_71 : decode cX10_way 71 = .ok (.bipush 100, 2) := by decide +kernel
theorem dX10_way_73 : decode cX10_way 73 = .ok (.irem, 1) := by decide +kernel
theorem dX10_way_74 : decode cX10_way 74 = .ok (.ireturn, 1) := by decide +kernel
theorem dX10_edge_0 : decode cX10_edge 0 = .ok (.aload_n 0, 1) := by decide +kernel
theorem dX10_edge_1 : decode cX10_edge 1 = .ok (.iload_n 1, 1) := by decide +kernel
theorem dX10_edge_2 : decode cX10_edge 2 = .ok (.invokevirtual 179, 3) := by decide +kernel
theorem dX10_edge_5 : decode cX10_edge 5 = .ok (.ifCond .eq 11, 3) := by decide +kernel
theorem dX10_edge_8 : decode cX10_edge 8 = .ok (.aload_n 0, 1) := by decide +kernel
theorem dX10_edge_9 : decode cX10_edge 9 = .ok (.iload_n 2, 1) := by decide +kernel
theorem dX10_edge_10 : decode cX10_edge 10 = .ok (.invokevirtual 202, 3) := by decide +kernel
theorem dX10_edge_13 : decode cX10_edge 13 = .ok (.ifCond .ne 5, 3) := by decide +kernel
theorem dX10_edge_16 : decode cX10_edge 16 = .ok (.iconst (-1), 1) := by decide +kernel
theorem dX10_edge_17 : decode cX10_edge 17 = .ok (.ireturn, 1) := by decide +kernel
theorem dX10_edge_18 : decode cX10_edge 18 = .ok (.iload_n 2, 1) := by decide +kernel
theorem dX10_edge_19 : decode cX10_edge 19 = .ok (.aload_n 0, 1) := by decide +kernel
theorem dX10_edge_20 : decode cX10_edge 20 = .ok (.iload_n 1, 1) := by decide +kernel
theorem dX10_edge_21 : decode cX10_edge 21 = .ok (.iconst 0, 1) := by decide +kernel
theorem dX10_edge_22 : decode cX10_edge 22 = .ok (.invokevirtual 76, 3) := by decide +kernel
theorem dX10_edge_25 : decode cX10_edge 25 = .ok (.if_icmp .ne 6, 3) := by decide +kernel
theorem dX10_edge_28 : decode cX10_edge 28 = .ok (.bipush 60, 2) := by decide +kernel
theorem dX10_edge_30 : decode cX10_edge 30 = .ok (.ireturn, 1) := by decide +kernel
theorem dX10_edge_31 : decode cX10_edge 31 = .ok (.aload_n 0, 1) := by decide +kernel
theorem dX10_edge_32 : decode cX10_edge 32 = .ok (.iload_n 1, 1) := by decide +kernel
theorem dX10_edge_33 : decode cX10_edge 33 = .ok (.iload_n 2, 1) := by decide +kernel
theorem dX10_edge_34 : decode cX10_edge 34 = .ok (.invokevirtual 224, 3) := by decide +kernel
theorem dX10_edge_37 : decode cX10_edge 37 = .ok (.istore_n 3, 1) := by decide +kernel
theorem dX10_edge_38 : decode cX10_edge 38 = .ok (.aload_n 0, 1) := by decide +kernel
theorem dX10_edge_39 : decode cX10_edge 39 = .ok (.iload_n 1, 1) := by decide +kernel
theorem dX10_edge_40 : decode cX10_edge 40 = .ok (.invokevirtual 160, 3) := by decide +kernel
theorem dX10_edge_43 : decode cX10_edge 43 = .ok (.aload_n 0, 1) := by decide +kernel
theorem dX10_edge_44 : decode cX10_edge 44 = .ok (.iload_n 1, 1) := by decide +kernel
theorem dX10_edge_45 : decode cX10_edge 45 = .ok (.iconst 1, 1) := by decide +kernel
theorem dX10_edge_46 : decode cX10_edge 46 = .ok (.invokevirtual 76, 3) := by decide +kernel
theorem dX10_edge_49 : decode cX10_edge 49 = .ok (.isub, 1) := by decide +kernel
theorem dX10_edge_50 : decode cX10_edge 50 = .ok (.iload_n 3, 1) := by decide +kernel
theorem dX10_edge_51 : decode cX10_edge 51 = .ok (.isub, 1) := by decide +kernel
theorem dX10_edge_52 : decode cX10_edge 52 = .ok (.istore 4, 2) := by decide +kernel
theorem dX10_edge_54 : decode cX10_edge 54 = .ok (.iload_n 3, 1) := by decide +kernel
theorem dX10_edge_55 : decode cX10_edge 55 = .ok (.bipush (-9), 2) := by decide +kernel
theorem dX10_edge_57 : decode cX10_edge 57 = .ok (.if_icmp .eq 8, 3) := by decide +kernel
theorem dX10_edge_60 : decode cX10_edge 60 = .ok (.iload 4, 2) := by decide +kernel
theorem dX10_edge_62 : decode cX10_edge 62 = .ok (.ifCond .ge 8, 3) := by decide +kernel
theorem dX10_edge_65 : decode cX10_edge 65 = .ok (.bipush (-9), 2) := by decide +kernel
theorem dX10_edge_67 : decode cX10_edge 67 = .ok (.goto 17, 3) := by decide +kernel
theorem dX10_edge_70 : decode cX10_edge 70 = .ok (.iload 4, 2) := by decide +kernel
theorem dX10_edge_72 : decode cX10_edge 72 = .ok (.bipush 60, 2) := by decide +kernel
theorem dX10_edge_74 : decode cX10_edge 74 = .ok (.if_icmp .le 8, 3) := by decide +kernel
theorem dX10_edge_77 : decode cX10_edge 77 = .ok (.bipush 60, 2) := by decide +kernel
theorem dX10_edge_79 : decode cX10_edge 79 = .ok (.goto 5, 3) := by decide +kernel
theorem dX10_edge_82 : decode cX10_edge 82 = .ok (.iload 4, 2) := by decide +kernel
theorem dX10_edge_84 : decode cX10_edge 84 = .ok (.ireturn, 1) := by decide +kernel
theorem dX10_spread_0 : decode cX10_spread 0 = .ok (.iload_n 1, 1) := by decide +kernel
theorem dX10_spread_1 : decode cX10_spread 1 = .ok (.i2l, 1) := by decide +kernel
theorem dX10_spread_2 : decode cX10_spread 2 = .ok (.lconst 0, 1) := by decide +kernel
theorem dX10_spread_3 : decode cX10_spread 3 = .ok (.iconst 1, 1) := by decide +kernel
theorem dX10_spread_4 : decode cX10_spread 4 = .ok (.aload_n 0, 1) := by decide +kernel
theorem dX10_spread_5 : decode cX10_spread 5 = .ok (.getfield 66, 3) := by decide +kernel
theorem dX10_spread_8 : decode cX10_spread 8 = .ok (.ishl, 1) := by decide +kernel
theorem dX10_spread_9 : decode cX10_spread 9 = .ok (.iconst 1, 1) := by decide +kernel
theorem dX10_spread_10 : decode cX10_spread 10 = .ok (.isub, 1) := by decide +kernel
theorem dX10_spread_11 : decode cX10_spread 11 = .ok (.i2l, 1) := by decide +kernel
theorem dX10_spread_12 : decode cX10_spread 12 = .ok (.invokestatic 69, 3) := by decide +kernel
theorem dX10_spread_15 : decode cX10_spread 15 = .ok (.ifCond .eq 11, 3) := by decide +kernel
theorem dX10_spread_18 : decode cX10_spread 18 = .ok (.aload_n 0, 1) := by decide +kernel
theorem dX10_spread_19 : decode cX10_spread 19 = .ok (.iload_n 1, 1) := by decide +kernel
theorem dX10_spread_20 : decode cX10_spread 20 = .ok (.invokevirtual 205, 3) := by decide +kernel
theorem dX10_spread_23 : decode cX10_spread 23 = .ok (.goto 4, 3) := by decide +kernel
theorem dX10_spread_26 : decode cX10_spread 26 = .ok (.iconst (-1), 1) := by decide +kernel
theorem dX10_spread_27 : decode cX10_spread 27 = .ok (.ireturn, 1) := by decide +kernel
theorem dX10_fit_0 : decode cX10_fit 0 = .ok (.aload_n 0, 1) := by decide +kernel
theorem dX10_fit_1 : decode cX10_fit 1 = .ok (.iload_n 1, 1) := by decide +kernel
theorem dX10_fit_2 : decode cX10_fit 2 = .ok (.invokevirtual 160, 3) := by decide +kernel
theorem dX10_fit_5 : decode cX10_fit 5 = .ok (.aload_n 0, 1) := by decide +kernel
theorem dX10_fit_6 : decode cX10_fit 6 = .ok (.iload_n 2, 1) := by decide +kernel
theorem dX10_fit_7 : decode cX10_fit 7 = .ok (.iconst 1, 1) := by decide +kernel
theorem dX10_fit_8 : decode cX10_fit 8 = .ok (.invokevirtual 76, 3) := by decide +kernel
theorem dX10_fit_11 : decode cX10_fit 11 = .ok (.if_icmp .lt 21, 3) := by decide +kernel
theorem dX10_fit_14 : decode cX10_fit 14 = .ok (.aload_n 0, 1) := by decide +kernel
theorem dX10_fit_15 : decode cX10_fit 15 = .ok (.iload_n 2, 1) := by decide +kernel
theorem dX10_fit_16 : decode cX10_fit 16 = .ok (.invokevirtual 160, 3) := by decide +kernel
theorem dX10_fit_19 : decode cX10_fit 19 = .ok (.aload_n 0, 1) := by decide +kernel
theorem dX10_fit_20 : decode cX10_fit 20 = .ok (.iload_n 1, 1) := by decide +kernel
theorem dX10_fit_21 : decode cX10_fit 21 = .ok (.iconst 1, 1) := by decide +kernel
theorem dX10_fit_22 : decode cX10_fit 22 = .ok (.invokevirtual 76, 3) := by decide +kernel
theorem dX10_fit_25 : decode cX10_fit 25 = .ok (.if_icmp .lt 7, 3) := by decide +kernel
theorem dX10_fit_28 : decode cX10_fit 28 = .ok (.iconst 1, 1) := by decide +kernel
theorem dX10_fit_29 : decode cX10_fit 29 = .ok (.goto 4, 3) := by decide +kernel
theorem dX10_fit_32 : decode cX10_fit 32 = .ok (.iconst 0, 1) := by decide +kernel
theorem dX10_fit_33 : decode cX10_fit 33 = .ok (.ireturn, 1) := by decide +kernel
theorem dX10_layPairs_0 : decode cX10_layPairs 0 = .ok (.iconst 0, 1) := by decide +kernel
theorem dX10_layPairs_1 : decode cX10_layPairs 1 = .ok (.istore_n 1, 1) := by decide +kernel
theorem dX10_layPairs_2 : decode cX10_layPairs 2 = .ok (.iload_n 1, 1) := by decide +kernel
theorem dX10_layPairs_3 : decode cX10_layPairs 3 = .ok (.iconst 1, 1) := by decide +kernel
theorem dX10_layPairs_4 : decode cX10_layPairs 4 = .ok (.aload_n 0, 1) := by decide +kernel
theorem dX10_layPairs_5 : decode cX10_layPairs 5 = .ok (.getfield 66, 3) := by decide +kernel
theorem dX10_layPairs_8 : decode cX10_layPairs 8 = .ok (.ishl, 1) := by decide +kernel
theorem dX10_layPairs_9 : decode cX10_layPairs 9 = .ok (.if_icmp .ge 143, 3) := by decide +kernel
theorem dX10_layPairs_12 : decode cX10_layPairs 12 = .ok (.aload_n 0, 1) := by decide +kernel
theorem dX10_layPairs_13 : decode cX10_layPairs 13 = .ok (.getfield 63, 3) := by decide +kernel
theorem dX10_layPairs_16 : decode cX10_layPairs 16 = .ok (.iload_n 1, 1) := by decide +kernel
theorem dX10_layPairs_17 : decode cX10_layPairs 17 = .ok (.iconst 0, 1) := by decide +kernel
theorem dX10_layPairs_18 : decode cX10_layPairs 18 = .ok (.iastore, 1) := by decide +kernel
theorem dX10_layPairs_19 : decode cX10_layPairs 19 = .ok (.iconst 0, 1) := by decide +kernel
theorem dX10_layPairs_20 : decode cX10_layPairs 20 = .ok (.istore_n 2, 1) := by decide +kernel
theorem dX10_layPairs_21 : decode cX10_layPairs 21 = .ok (.iload_n 1, 1) := by decide +kernel
theorem dX10_layPairs_22 : decode cX10_layPairs 22 = .ok (.ifCond .eq 17, 3) := by decide +kernel
theorem dX10_layPairs_25 : decode cX10_layPairs 25 = .ok (.iload_n 1, 1) := by decide +kernel
theorem dX10_layPairs_26 : decode cX10_layPairs 26 = .ok (.iload_n 2, 1) := by decide +kernel
theorem dX10_layPairs_27 : decode cX10_layPairs 27 = .ok (.invokestatic 171, 3) := by decide +kernel
theorem dX10_layPairs_30 : decode cX10_layPairs 30 = .ok (.ifCond .ne 9, 3) := by decide +kernel
theorem dX10_layPairs_33 : decode cX10_layPairs 33 = .ok (.iinc 2 1, 3) := by decide +kernel
theorem dX10_layPairs_36 : decode cX10_layPairs 36 = .ok (.goto (-15), 3) := by decide +kernel
theorem dX10_layPairs_39 : decode cX10_layPairs 39 = .ok (.iload_n 1, 1) := by decide +kernel
theorem dX10_layPairs_40 : decode cX10_layPairs 40 = .ok (.ifCond .eq 21, 3) := by decide +kernel
theorem dX10_layPairs_43 : decode cX10_layPairs 43 = .ok (.aload_n 0, 1) := by decide +kernel
theorem dX10_layPairs_44 : decode cX10_layPairs 44 = .ok (.getfield 63, 3) := by decide +kernel
theorem dX10_layPairs_47 : decode cX10_layPairs 47 = .ok (.iload_n 1, 1) := by decide +kernel
theorem dX10_layPairs_48 : decode cX10_layPairs 48 = .ok (.aload_n 0, 1) := by decide +kernel
theorem dX10_layPairs_49 : decode cX10_layPairs 49 = .ok (.getfield 63, 3) := by decide +kernel
theorem dX10_layPairs_52 : decode cX10_layPairs 52 = .ok (.iload_n 1, 1) := by decide +kernel
theorem dX10_layPairs_53 : decode cX10_layPairs 53 = .ok (.iconst 1, 1) := by decide +kernel
theorem dX10_layPairs_54 : decode cX10_layPairs 54 = .ok (.iload_n 2, 1) := by decide +kernel
theorem dX10_layPairs_55 : decode cX10_layPairs 55 = .ok (.ishl, 1) := by decide +kernel
theorem dX10_layPairs_56 : decode cX10_layPairs 56 = .ok (.iconst (-1), 1) := by decide +kernel
theorem dX10_layPairs_57 : decode cX10_layPairs 57 = .ok (.ixor, 1) := by decide +kernel
theorem dX10_layPairs_58 : decode cX10_layPairs 58 = .ok (.iand, 1) := by decide +kernel
theorem dX10_layPairs_59 : decode cX10_layPairs 59 = .ok (.iaload, 1) := by decide +kernel
theorem dX10_layPairs_60 : decode cX10_layPairs 60 = .ok (.iastore, 1) := by decide +kernel
theorem dX10_layPairs_61 : decode cX10_layPairs 61 = .ok (.iload_n 2, 1) := by decide +kernel
theorem dX10_layPairs_62 : decode cX10_layPairs 62 = .ok (.iconst 1, 1) := by decide +kernel
theorem dX10_layPairs_63 : decode cX10_layPairs 63 = .ok (.iadd, 1) := by decide +kernel
theorem dX10_layPairs_64 : decode cX10_layPairs 64 = .ok (.istore_n 3, 1) := by decide +kernel
theorem dX10_layPairs_65 : decode cX10_layPairs 65 = .ok (.iload_n 3, 1) := by decide +kernel
theorem dX10_layPairs_66 : decode cX10_layPairs 66 = .ok (.aload_n 0, 1) := by decide +kernel
theorem dX10_layPairs_67 : decode cX10_layPairs 67 = .ok (.getfield 66, 3) := by decide +kernel
theorem dX10_layPairs_70 : decode cX10_layPairs 70 = .ok (.if_icmp .ge 76, 3) := by decide +kernel
theorem dX10_layPairs_73 : decode cX10_layPairs 73 = .ok (.iload_n 1, 1) := by decide +kernel
theorem dX10_layPairs_74 : decode cX10_layPairs 74 = .ok (.iload_n 3, 1) := by decide +kernel
theorem dX10_layPairs_75 : decode cX10_layPairs 75 = .ok (.invokestatic 171, 3) := by decide +kernel
theorem dX10_layPairs_78 : decode cX10_layPairs 78 = .ok (.ifCond .eq 62, 3) := by decide +kernel
theorem dX10_layPairs_81 : decode cX10_layPairs 81 = .ok (.aload_n 0, 1) := by decide +kernel
theorem dX10_layPairs_82 : decode cX10_layPairs 82 = .ok (.iload_n 2, 1) := by decide +kernel
theorem dX10_layPairs_83 : decode cX10_layPairs 83 = .ok (.iload_n 3, 1) := by decide +kernel
theorem dX10_layPairs_84 : decode cX10_layPairs 84 = .ok (.invokevirtual 227, 3) := by decide +kernel
theorem dX10_layPairs_87 : decode cX10_layPairs 87 = .ok (.ifCond .eq 53, 3) := by decide +kernel
theorem dX10_layPairs_90 : decode cX10_layPairs 90 = .ok (.iconst 1, 1) := by decide +kernel
theorem dX10_layPairs_91 : decode cX10_layPairs 91 = .ok (.aload_n 0, 1) := by decide +kernel
theorem dX10_layPairs_92 : decode cX10_layPairs 92 = .ok (.getfield 63, 3) := by decide +kernel
theorem dX10_layPairs_95 : decode cX10_layPairs 95 = .ok (.iload_n 1, 1) := by decide +kernel
theorem dX10_layPairs_96 : decode cX10_layPairs 96 = .ok (.iconst 1, 1) := by decide +kernel
theorem dX10_layPairs_97 : decode cX10_layPairs 97 = .ok (.iload_n 2, 1) := by decide +kernel
theorem dX10_layPairs_98 : decode cX10_layPairs 98 = .ok (.ishl, 1) := by decide +kernel
theorem dX10_layPairs_99 : decode cX10_layPairs 99 = .ok (.iconst (-1), 1) := by decide +kernel
theorem dX10_layPairs_100 : decode cX10_layPairs 100 = .ok (.ixor, 1) := by decide +kernel
theorem dX10_layPairs_101 : decode cX10_layPairs 101 = .ok (.iand, 1) := by decide +kernel
theorem dX10_layPairs_102 : decode cX10_layPairs 102 = .ok (.iconst 1, 1) := by decide +kernel
theorem dX10_layPairs_103 : decode cX10_layPairs 103 = .ok (.iload_n 3, 1) := by decide +kernel
theorem dX10_layPairs_104 : decode cX10_layPairs 104 = .ok (.ishl, 1) := by decide +kernel
theorem dX10_layPairs_105 : decode cX10_layPairs 105 = .ok (.iconst (-1), 1) := by decide +kernel
theorem dX10_layPairs_106 : decode cX10_layPairs 106 = .ok (.ixor, 1) := by decide +kernel
theorem dX10_layPairs_107 : decode cX10_layPairs 107 = .ok (.iand, 1) := by decide +kernel
theorem dX10_layPairs_108 : decode cX10_layPairs 108 = .ok (.iaload, 1) := by decide +kernel
theorem dX10_layPairs_109 : decode cX10_layPairs 109 = .ok (.iadd, 1) := by decide +kernel
theorem dX10_layPairs_110 : decode cX10_layPairs 110 = .ok (.istore 4, 2) := by decide +kernel
theorem dX10_layPairs_112 : decode cX10_layPairs 112 = .ok (.aload_n 0, 1) := by decide +kernel
theorem dX10_layPairs_113 : decode cX10_layPairs 113 = .ok (.getfield 63, 3) := by decide +kernel
theorem dX10_layPairs_116 : decode cX10_layPairs 116 = .ok (.iload_n 1, 1) := by decide +kernel
theorem dX10_layPairs_117 : decode cX10_layPairs 117 = .ok (.iload 4, 2) := by decide +kernel
theorem dX10_layPairs_119 : decode cX10_layPairs 119 = .ok (.aload_n 0, 1) := by decide +kernel
theorem dX10_layPairs_120 : decode cX10_layPairs 120 = .ok (.getfield 63, 3) := by decide +kernel
theorem dX10_layPairs_123 : decode cX10_layPairs 123 = .ok (.iload_n 1, 1) := by decide +kernel
theorem dX10_layPairs_124 : decode cX10_layPairs 124 = .ok (.iaload, 1) := by decide +kernel
theorem dX10_layPairs_125 : decode cX10_layPairs 125 = .ok (.if_icmp .le 8, 3) := by decide +kernel
theorem dX10_layPairs_128 : decode cX10_layPairs 128 = .ok (.iload 4, 2) := by decide +kernel
theorem dX10_layPairs_130 : decode cX10_layPairs 130 = .ok (.goto 9, 3) := by decide +kernel
theorem dX10_layPairs_133 : decode cX10_layPairs 133 = .ok (.aload_n 0, 1) := by decide +kernel
theorem dX10_layPairs_134 : decode cX10_layPairs 134 = .ok (.getfield 63, 3) := by decide +kernel
theorem dX10_layPairs_137 : decode cX10_layPairs 137 = .ok (.iload_n 1, 1) := by decide +kernel
theorem dX10_layPairs_138 : decode cX10_layPairs 138 = .ok (.iaload, 1) := by decide +kernel
theorem dX10_layPairs_139 : decode cX10_layPairs 139 = .ok (.iastore, 1) := by decide +kernel
theorem dX10_layPairs_140 : decode cX10_layPairs 140 = .ok (.iinc 3 1, 3) := by decide +kernel
theorem dX10_layPairs_143 : decode cX10_layPairs 143 = .ok (.goto (-78), 3) := by decide +kernel
theorem dX10_layPairs_146 : decode cX10_layPairs 146 = .ok (.iinc 1 1, 3) := by decide +kernel
theorem dX10_layPairs_149 : decode cX10_layPairs 149 = .ok (.goto (-147), 3) := by decide +kernel
theorem dX10_layPairs_152 : decode cX10_layPairs 152 = .ok (.return_, 1) := by decide +kernel
theorem dX10_pair_0 : decode cX10_pair 0 = .ok (.iload_n 1, 1) := by decide +kernel
theorem dX10_pair_1 : decode cX10_pair 1 = .ok (.iconst (-1), 1) := by decide +kernel
theorem dX10_pair_2 : decode cX10_pair 2 = .ok (.if_icmp .eq 13, 3) := by decide +kernel
theorem dX10_pair_5 : decode cX10_pair 5 = .ok (.aload_n 0, 1) := by decide +kernel
theorem dX10_pair_6 : decode cX10_pair 6 = .ok (.iload_n 1, 1) := by decide +kernel
theorem dX10_pair_7 : decode cX10_pair 7 = .ok (.invokevirtual 179, 3) := by decide +kernel
theorem dX10_pair_10 : decode cX10_pair 10 = .ok (.ifCond .ne 5, 3) := by decide +kernel
theorem dX10_pair_13 : decode cX10_pair 13 = .ok (.iconst (-1), 1) := by decide +kernel
theorem dX10_pair_14 : decode cX10_pair 14 = .ok (.ireturn, 1) := by decide +kernel
theorem dX10_pair_15 : decode cX10_pair 15 = .ok (.aload_n 0, 1) := by decide +kernel
theorem dX10_pair_16 : decode cX10_pair 16 = .ok (.invokevirtual 230, 3) := by decide +kernel
theorem dX10_pair_19 : decode cX10_pair 19 = .ok (.iconst 1, 1) := by decide +kernel
theorem dX10_pair_20 : decode cX10_pair 20 = .ok (.aload_n 0, 1) := by decide +kernel
theorem dX10_pair_21 : decode cX10_pair 21 = .ok (.getfield 66, 3) := by decide +kernel
theorem dX10_pair_24 : decode cX10_pair 24 = .ok (.ishl, 1) := by decide +kernel
theorem dX10_pair_25 : decode cX10_pair 25 = .ok (.iconst 1, 1) := by decide +kernel
theorem dX10_pair_26 : decode cX10_pair 26 = .ok (.isub, 1) := by decide +kernel
theorem dX10_pair_27 : decode cX10_pair 27 = .ok (.istore_n 2, 1) := by decide +kernel
theorem dX10_pair_28 : decode cX10_pair 28 = .ok (.iload_n 1, 1) := by decide +kernel
theorem dX10_pair_29 : decode cX10_pair 29 = .ok (.iconst (-1), 1) := by decide +kernel
theorem dX10_pair_30 : decode cX10_pair 30 = .ok (.if_icmp .ne 10, 3) := by decide +kernel
theorem dX10_pair_33 : decode cX10_pair 33 = .ok (.aload_n 0, 1) := by decide +kernel
theorem dX10_pair_34 : decode cX10_pair 34 = .ok (.getfield 63, 3) := by decide +kernel
theorem dX10_pair_37 : decode cX10_pair 37 = .ok (.iload_n 2, 1) := by decide +kernel
theorem dX10_pair_38 : decode cX10_pair 38 = .ok (.iaload, 1) := by decide +kernel
theorem dX10_pair_39 : decode cX10_pair 39 = .ok (.ireturn, 1) := by decide +kernel
theorem dX10_pair_40 : decode cX10_pair 40 = .ok (.iconst 0, 1) := by decide +kernel
theorem dX10_pair_41 : decode cX10_pair 41 = .ok (.istore_n 3, 1) := by decide +kernel
theorem dX10_pair_42 : decode cX10_pair 42 = .ok (.iload_n 3, 1) := by decide +kernel
theorem dX10_pair_43 : decode cX10_pair 43 = .ok (.aload_n 0, 1) := by decide +kernel
theorem dX10_pair_44 : decode cX10_pair 44 = .ok (.getfield 66, 3) := by decide +kernel
theorem dX10_pair_47 : decode cX10_pair 47 = .ok (.if_icmp .ge 155, 3) := by decide +kernel
theorem dX10_pair_50 : decode cX10_pair 50 = .ok (.iload_n 2, 1) := by decide +kernel
theorem dX10_pair_51 : decode cX10_pair 51 = .ok (.iload_n 3, 1) := by decide +kernel
theorem dX10_pair_52 : decode cX10_pair 52 = .ok (.invokestatic 171, 3) := by decide +kernel
theorem dX10_pair_55 : decode cX10_pair 55 = .ok (.ifCond .eq 141, 3) := by decide +kernel
theorem dX10_pair_58 : decode cX10_pair 58 = .ok (.bipush (-9), 2) := by decide +kernel
theorem dX10_pair_60 : decode cX10_pair 60 = .ok (.istore 4, 2) := by decide +kernel
theorem dX10_pair_62 : decode cX10_pair 62 = .ok (.aload_n 0, 1) := by decide +kernel
theorem dX10_pair_63 : decode cX10_pair 63 = .ok (.getfield 66, 3) := by decide +kernel
theorem dX10_pair_66 : decode cX10_pair 66 = .ok (.iconst 1, 1) := by decide +kernel
theorem dX10_pair_67 : decode cX10_pair 67 = .ok (.isub, 1) := by decide +kernel
theorem dX10_pair_68 : decode cX10_pair 68 = .ok (.istore 5, 2) := by decide +kernel
theorem dX10_pair_70 : decode cX10_pair 70 = .ok (.iload 5, 2) := by decide +kernel
theorem dX10_pair_72 : decode cX10_pair 72 = .ok (.iload_n 3, 1) := by decide +kernel
theorem dX10_pair_73 : decode cX10_pair 73 = .ok (.if_icmp .le 79, 3) := by decide +kernel
theorem dX10_pair_76 : decode cX10_pair 76 = .ok (.iload_n 2, 1) := by decide +kernel
theorem dX10_pair_77 : decode cX10_pair 77 = .ok (.iload 5, 2) := by decide +kernel
theorem dX10_pair_79 : decode cX10_pair 79 = .ok (.invokestatic 171, 3) := by decide +kernel
theorem dX10_pair_82 : decode cX10_pair 82 = .ok (.ifCond .eq 47, 3) := by decide +kernel
theorem dX10_pair_85 : decode cX10_pair 85 = .ok (.aload_n 0, 1) := by decide +kernel
theorem dX10_pair_86 : decode cX10_pair 86 = .ok (.iload_n 3, 1) := by decide +kernel
theorem dX10_pair_87 : decode cX10_pair 87 = .ok (.iload 5, 2) := by decide +kernel
theorem dX10_pair_89 : decode cX10_pair 89 = .ok (.invokevirtual 227, 3) := by decide +kernel
theorem dX10_pair_92 : decode cX10_pair 92 = .ok (.ifCond .eq 37, 3) := by decide +kernel
theorem dX10_pair_95 : decode cX10_pair 95 = .ok (.iconst 1, 1) := by decide +kernel
theorem dX10_pair_96 : decode cX10_pair 96 = .ok (.aload_n 0, 1) := by decide +kernel
theorem dX10_pair_97 : decode cX10_pair 97 = .ok (.getfield 63, 3) := by decide +kernel
theorem dX10_pair_100 : decode cX10_pair 100 = .ok (.iload_n 2, 1) := by decide +kernel
theorem dX10_pair_101 : decode cX10_pair 101 = .ok (.iconst 1, 1) := by decide +kernel
theorem dX10_pair_102 : decode cX10_pair 102 = .ok (.iload_n 3, 1) := by decide +kernel
theorem dX10_pair_103 : decode cX10_pair 103 = .ok (.ishl, 1) := by decide +kernel
theorem dX10_pair_104 : decode cX10_pair 104 = .ok (.iconst (-1), 1) := by decide +kernel
theorem dX10_pair_105 : decode cX10_pair 105 = .ok (.ixor, 1) := by decide +kernel
theorem dX10_pair_106 : decode cX10_pair 106 = .ok (.iand, 1) := by decide +kernel
theorem dX10_pair_107 : decode cX10_pair 107 = .ok (.iconst 1, 1) := by decide +kernel
theorem dX10_pair_108 : decode cX10_pair 108 = .ok (.iload 5, 2) := by decide +kernel
theorem dX10_pair_110 : decode cX10_pair 110 = .ok (.ishl, 1) := by decide +kernel
theorem dX10_pair_111 : decode cX10_pair 111 = .ok (.iconst (-1), 1) := by decide +kernel
theorem dX10_pair_112 : decode cX10_pair 112 = .ok (.ixor, 1) := by decide +kernel
theorem dX10_pair_113 : decode cX10_pair 113 = .ok (.iand, 1) := by decide +kernel
theorem dX10_pair_114 : decode cX10_pair 114 = .ok (.iaload, 1) := by decide +kernel
theorem dX10_pair_115 : decode cX10_pair 115 = .ok (.iadd, 1) := by decide +kernel
theorem dX10_pair_116 : decode cX10_pair 116 = .ok (.aload_n 0, 1) := by decide +kernel
theorem dX10_pair_117 : decode cX10_pair 117 = .ok (.getfield 63, 3) := by decide +kernel
theorem dX10_pair_120 : decode cX10_pair 120 = .ok (.iload_n 2, 1) := by decide +kernel
theorem dX10_pair_121 : decode cX10_pair 121 = .ok (.iaload, 1) := by decide +kernel
theorem dX10_pair_122 : decode cX10_pair 122 = .ok (.if_icmp .ne 7, 3) := by decide +kernel
theorem dX10_pair_125 : decode cX10_pair 125 = .ok (.iconst 1, 1) := by decide +kernel
theorem dX10_pair_126 : decode cX10_pair 126 = .ok (.goto 4, 3) := by decide +kernel
theorem dX10_pair_129 : decode cX10_pair 129 = .ok (.iconst 0, 1) := by decide +kernel
theorem dX10_pair_130 : decode cX10_pair 130 = .ok (.istore 6, 2) := by decide +kernel
theorem dX10_pair_132 : decode cX10_pair 132 = .ok (.iload 6, 2) := by decide +kernel
theorem dX10_pair_134 : decode cX10_pair 134 = .ok (.ifCond .eq 8, 3) := by decide +kernel
theorem dX10_pair_137 : decode cX10_pair 137 = .ok (.iload 5, 2) := by decide +kernel
theorem dX10_pair_139 : decode cX10_pair 139 = .ok (.goto 5, 3) := by decide +kernel
theorem dX10_pair_142 : decode cX10_pair 142 = .ok (.iload 4, 2) := by decide +kernel
theorem dX10_pair_144 : decode cX10_pair 144 = .ok (.istore 4, 2) := by decide +kernel
theorem dX10_pair_146 : decode cX10_pair 146 = .ok (.iinc 5 (-1), 3) := by decide +kernel
theorem dX10_pair_149 : decode cX10_pair 149 = .ok (.goto (-79), 3) := by decide +kernel
theorem dX10_pair_152 : decode cX10_pair 152 = .ok (.iload_n 3, 1) := by decide +kernel
theorem dX10_pair_153 : decode cX10_pair 153 = .ok (.iload_n 1, 1) := by decide +kernel
theorem dX10_pair_154 : decode cX10_pair 154 = .ok (.if_icmp .ne 6, 3) := by decide +kernel
theorem dX10_pair_157 : decode cX10_pair 157 = .ok (.iload 4, 2) := by decide +kernel
theorem dX10_pair_159 : decode cX10_pair 159 = .ok (.ireturn, 1) := by decide +kernel
theorem dX10_pair_160 : decode cX10_pair 160 = .ok (.iload 4, 2) := by decide +kernel
theorem dX10_pair_162 : decode cX10_pair 162 = .ok (.iload_n 1, 1) := by decide +kernel
theorem dX10_pair_163 : decode cX10_pair 163 = .ok (.if_icmp .ne 5, 3) := by decide +kernel
theorem dX10_pair_166 : decode cX10_pair 166 = .ok (.iload_n 3, 1) := by decide +kernel
theorem dX10_pair_167 : decode cX10_pair 167 = .ok (.ireturn, 1) := by decide +kernel
theorem dX10_pair_168 : decode cX10_pair 168 = .ok (.iload_n 2, 1) := by decide +kernel
theorem dX10_pair_169 : decode cX10_pair 169 = .ok (.iconst 1, 1) := by decide +kernel
theorem dX10_pair_170 : decode cX10_pair 170 = .ok (.iload_n 3, 1) := by decide +kernel
theorem dX10_pair_171 : decode cX10_pair 171 = .ok (.ishl, 1) := by decide +kernel
theorem dX10_pair_172 : decode cX10_pair 172 = .ok (.iconst (-1), 1) := by decide +kernel
theorem dX10_pair_173 : decode cX10_pair 173 = .ok (.ixor, 1) := by decide +kernel
theorem dX10_pair_174 : decode cX10_pair 174 = .ok (.iand, 1) := by decide +kernel
theorem dX10_pair_175 : decode cX10_pair 175 = .ok (.istore_n 2, 1) := by decide +kernel
theorem dX10_pair_176 : decode cX10_pair 176 = .ok (.iload_n 2, 1) := by decide +kernel
theorem dX10_pair_177 : decode cX10_pair 177 = .ok (.iload 4, 2) := by decide +kernel
theorem dX10_pair_179 : decode cX10_pair 179 = .ok (.bipush (-9), 2) := by decide +kernel
theorem dX10_pair_181 : decode cX10_pair 181 = .ok (.if_icmp .ne 7, 3) := by decide +kernel
theorem dX10_pair_184 : decode cX10_pair 184 = .ok (.iconst (-1), 1) := by decide +kernel
theorem dX10_pair_185 : decode cX10_pair 185 = .ok (.goto 9, 3) := by decide +kernel
theorem dX10_pair_188 : decode cX10_pair 188 = .ok (.iconst 1, 1) := by decide +kernel
theorem dX10_pair_189 : decode cX10_pair 189 = .ok (.iload 4, 2) := by decide +kernel
theorem dX10_pair_191 : decode cX10_pair 191 = .ok (.ishl, 1) := by decide +kernel
theorem dX10_pair_192 : decode cX10_pair 192 = .ok (.iconst (-1), 1) := by decide +kernel
theorem dX10_pair_193 : decode cX10_pair 193 = .ok (.ixor, 1) := by decide +kernel
theorem dX10_pair_194 : decode cX10_pair 194 = .ok (.iand, 1) := by decide +kernel
theorem dX10_pair_195 : decode cX10_pair 195 = .ok (.istore_n 2, 1) := by decide +kernel
theorem dX10_pair_196 : decode cX10_pair 196 = .ok (.iinc 3 1, 3) := by decide +kernel
theorem dX10_pair_199 : decode cX10_pair 199 = .ok (.goto (-157), 3) := by decide +kernel
theorem dX10_pair_202 : decode cX10_pair 202 = .ok (.bipush (-9), 2) := by decide +kernel
theorem dX10_pair_204 : decode cX10_pair 204 = .ok (.ireturn, 1) := by decide +kernel
theorem dX10_odds_0 : decode cX10_odds 0 = .ok (.iload_n 1, 1) := by decide +kernel
theorem dX10_odds_1 : decode cX10_odds 1 = .ok (.i2l, 1) := by decide +kernel
theorem dX10_odds_2 : decode cX10_odds 2 = .ok (.lconst 0, 1) := by decide +kernel
theorem dX10_odds_3 : decode cX10_odds 3 = .ok (.ldc2_w 233, 3) := by decide +kernel
theorem dX10_odds_6 : decode cX10_odds 6 = .ok (.invokestatic 69, 3) := by decide +kernel
theorem dX10_odds_9 : decode cX10_odds 9 = .ok (.ifCond .eq 25, 3) := by decide +kernel
theorem dX10_odds_12 : decode cX10_odds 12 = .ok (.iload_n 2, 1) := by decide +kernel
theorem dX10_odds_13 : decode cX10_odds 13 = .ok (.i2l, 1) := by decide +kernel
theorem dX10_odds_14 : decode cX10_odds 14 = .ok (.lconst 0, 1) := by decide +kernel
theorem dX10_odds_15 : decode cX10_odds 15 = .ok (.ldc2_w 235, 3) := by decide +kernel
theorem dX10_odds_18 : decode cX10_odds 18 = .ok (.invokestatic 69, 3) := by decide +kernel
theorem dX10_odds_21 : decode cX10_odds 21 = .ok (.ifCond .eq 13, 3) := by decide +kernel
theorem dX10_odds_24 : decode cX10_odds 24 = .ok (.iload_n 3, 1) := by decide +kernel
theorem dX10_odds_25 : decode cX10_odds 25 = .ok (.i2l, 1) := by decide +kernel
theorem dX10_odds_26 : decode cX10_odds 26 = .ok (.lconst 0, 1) := by decide +kernel
theorem dX10_odds_27 : decode cX10_odds 27 = .ok (.lconst 1, 1) := by decide +kernel
theorem dX10_odds_28 : decode cX10_odds 28 = .ok (.invokestatic 69, 3) := by decide +kernel
theorem dX10_odds_31 : decode cX10_odds 31 = .ok (.ifCond .ne 5, 3) := by decide +kernel
theorem dX10_odds_34 : decode cX10_odds 34 = .ok (.iconst (-1), 1) := by decide +kernel
theorem dX10_odds_35 : decode cX10_odds 35 = .ok (.ireturn, 1) := by decide +kernel
theorem dX10_odds_36 : decode cX10_odds 36 = .ok (.iconst 0, 1) := by decide +kernel
theorem dX10_odds_37 : decode cX10_odds 37 = .ok (.istore 4, 2) := by decide +kernel
theorem dX10_odds_39 : decode cX10_odds 39 = .ok (.iconst 0, 1) := by decide +kernel
theorem dX10_odds_40 : decode cX10_odds 40 = .ok (.istore 5, 2) := by decide +kernel
theorem dX10_odds_42 : decode cX10_odds 42 = .ok (.iconst 0, 1) := by decide +kernel
theorem dX10_odds_43 : decode cX10_odds 43 = .ok (.istore 6, 2) := by decide +kernel
theorem dX10_odds_45 : decode cX10_odds 45 = .ok (.iload 6, 2) := by decide +kernel
theorem dX10_odds_47 : decode cX10_odds 47 = .ok (.iconst 1, 1) := by decide +kernel
theorem dX10_odds_48 : decode cX10_odds 48 = .ok (.aload_n 0, 1) := by decide +kernel
theorem dX10_odds_49 : decode cX10_odds 49 = .ok (.getfield 132, 3) := by decide +kernel
theorem dX10_odds_52 : decode cX10_odds 52 = .ok (.ishl, 1) := by decide +kernel
theorem dX10_odds_53 : decode cX10_odds 53 = .ok (.if_icmp .ge 80, 3) := by decide +kernel
theorem dX10_odds_56 : decode cX10_odds 56 = .ok (.iconst 1, 1) := by decide +kernel
theorem dX10_odds_57 : decode cX10_odds 57 = .ok (.istore 7, 2) := by decide +kernel
theorem dX10_odds_59 : decode cX10_odds 59 = .ok (.iconst 0, 1) := by decide +kernel
theorem dX10_odds_60 : decode cX10_odds 60 = .ok (.istore 8, 2) := by decide +kernel
theorem dX10_odds_62 : decode cX10_odds 62 = .ok (.iload 8, 2) := by decide +kernel
theorem dX10_odds_64 : decode cX10_odds 64 = .ok (.aload_n 0, 1) := by decide +kernel
theorem dX10_odds_65 : decode cX10_odds 65 = .ok (.getfield 132, 3) := by decide +kernel
theorem dX10_odds_68 : decode cX10_odds 68 = .ok (.if_icmp .ge 32, 3) := by decide +kernel
theorem dX10_odds_71 : decode cX10_odds 71 = .ok (.iload 7, 2) := by decide +kernel
theorem dX10_odds_73 : decode cX10_odds 73 = .ok (.iload 6, 2) := by decide +kernel
theorem dX10_odds_75 : decode cX10_odds 75 = .ok (.iload 8, 2) := by decide +kernel
theorem dX10_odds_77 : decode cX10_odds 77 = .ok (.invokestatic 171, 3) := by decide +kernel
theorem dX10_odds_80 : decode cX10_odds 80 = .ok (.ifCond .eq 7, 3) := by decide +kernel
theorem dX10_odds_83 : decode cX10_odds 83 = .ok (.iload_n 1, 1) := by decide +kernel
theorem dX10_odds_84 : decode cX10_odds 84 = .ok (.goto 7, 3) := by decide +kernel
theorem dX10_odds_87 : decode cX10_odds 87 = .ok (.bipush 10, 2) := by decide +kernel
theorem dX10_odds_89 : decode cX10_odds 89 = .ok (.iload_n 1, 1) := by decide +kernel
theorem dX10_odds_90 : decode cX10_odds 90 = .ok (.isub, 1) := by decide +kernel
theorem dX10_odds_91 : decode cX10_odds 91 = .ok (.imul, 1) := by decide +kernel
theorem dX10_odds_92 : decode cX10_odds 92 = .ok (.istore 7, 2) := by decide +kernel
theorem dX10_odds_94 : decode cX10_odds 94 = .ok (.iinc 8 1, 3) := by decide +kernel
theorem dX10_odds_97 : decode cX10_odds 97 = .ok (.goto (-35), 3) := by decide +kernel
theorem dX10_odds_100 : decode cX10_odds 100 = .ok (.iload 5, 2) := by decide +kernel
theorem dX10_odds_102 : decode cX10_odds 102 = .ok (.iload 7, 2) := by decide +kernel
theorem dX10_odds_104 : decode cX10_odds 104 = .ok (.iadd, 1) := by decide +kernel
theorem dX10_odds_105 : decode cX10_odds 105 = .ok (.istore 5, 2) := by decide +kernel
theorem dX10_odds_107 : decode cX10_odds 107 = .ok (.iload 4, 2) := by decide +kernel
theorem dX10_odds_109 : decode cX10_odds 109 = .ok (.iload 6, 2) := by decide +kernel
theorem dX10_odds_111 : decode cX10_odds 111 = .ok (.invokestatic 199, 3) := by decide +kernel
theorem dX10_odds_114 : decode cX10_odds 114 = .ok (.iload_n 2, 1) := by decide +kernel
theorem dX10_odds_115 : decode cX10_odds 115 = .ok (.if_icmp .gt 8, 3) := by decide +kernel
theorem dX10_odds_118 : decode cX10_odds 118 = .ok (.iload 7, 2) := by decide +kernel
theorem dX10_odds_120 : decode cX10_odds 120 = .ok (.goto 4, 3) := by decide +kernel
theorem dX10_odds_123 : decode cX10_odds 123 = .ok (.iconst 0, 1) := by decide +kernel
theorem dX10_odds_124 : decode cX10_odds 124 = .ok (.iadd, 1) := by decide +kernel
theorem dX10_odds_125 : decode cX10_odds 125 = .ok (.istore 4, 2) := by decide +kernel
theorem dX10_odds_127 : decode cX10_odds 127 = .ok (.iinc 6 1, 3) := by decide +kernel
theorem dX10_odds_130 : decode cX10_odds 130 = .ok (.goto (-85), 3) := by decide +kernel
theorem dX10_odds_133 : decode cX10_odds 133 = .ok (.iload 4, 2) := by decide +kernel
theorem dX10_odds_135 : decode cX10_odds 135 = .ok (.istore 6, 2) := by decide +kernel
theorem dX10_odds_137 : decode cX10_odds 137 = .ok (.iload 5, 2) := by decide +kernel
theorem dX10_odds_139 : decode cX10_odds 139 = .ok (.istore 7, 2) := by decide +kernel
theorem dX10_odds_141 : decode cX10_odds 141 = .ok (.iload 7, 2) := by decide +kernel
theorem dX10_odds_143 : decode cX10_odds 143 = .ok (.ifCond .eq 21, 3) := by decide +kernel
theorem dX10_odds_146 : decode cX10_odds 146 = .ok (.iload 6, 2) := by decide +kernel
theorem dX10_odds_148 : decode cX10_odds 148 = .ok (.iload 7, 2) := by decide +kernel
theorem dX10_odds_150 : decode cX10_odds 150 = .ok (.irem, 1) := by decide +kernel
theorem dX10_odds_151 : decode cX10_odds 151 = .ok (.istore 8, 2) := by decide +kernel
theorem dX10_odds_153 : decode cX10_odds 153 = .ok (.iload 7, 2) := by decide +kernel
theorem dX10_odds_155 : decode cX10_odds 155 = .ok (.istore 6, 2) := by decide +kernel
theorem dX10_odds_157 : decode cX10_odds 157 = .ok (.iload 8, 2) := by decide +kernel
theorem dX10_odds_159 : decode cX10_odds 159 = .ok (.istore 7, 2) := by decide +kernel
theorem dX10_odds_161 : decode cX10_odds 161 = .ok (.goto (-20), 3) := by decide +kernel
theorem dX10_odds_164 : decode cX10_odds 164 = .ok (.iload_n 3, 1) := by decide +kernel
theorem dX10_odds_165 : decode cX10_odds 165 = .ok (.ifCond .ne 8, 3) := by decide +kernel
theorem dX10_odds_168 : decode cX10_odds 168 = .ok (.iload 4, 2) := by decide +kernel
theorem dX10_odds_170 : decode cX10_odds 170 = .ok (.goto 5, 3) := by decide +kernel
theorem dX10_odds_173 : decode cX10_odds 173 = .ok (.iload 5, 2) := by decide +kernel
theorem dX10_odds_175 : decode cX10_odds 175 = .ok (.iload 6, 2) := by decide +kernel
theorem dX10_odds_177 : decode cX10_odds 177 = .ok (.idiv, 1) := by decide +kernel
theorem dX10_odds_178 : decode cX10_odds 178 = .ok (.ireturn, 1) := by decide +kernel
theorem dX10_hears_0 : decode cX10_hears 0 = .ok (.aload_n 0, 1) := by decide +kernel
theorem dX10_hears_1 : decode cX10_hears 1 = .ok (.iload_n 1, 1) := by decide +kernel
theorem dX10_hears_2 : decode cX10_hears 2 = .ok (.invokevirtual 174, 3) := by decide +kernel
theorem dX10_hears_5 : decode cX10_hears 5 = .ok (.ifCond .eq 13, 3) := by decide +kernel
theorem dX10_hears_8 : decode cX10_hears 8 = .ok (.iload_n 2, 1) := by decide +kernel
theorem dX10_hears_9 : decode cX10_hears 9 = .ok (.i2l, 1) := by decide +kernel
theorem dX10_hears_10 : decode cX10_hears 10 = .ok (.lconst 0, 1) := by decide +kernel
theorem dX10_hears_11 : decode cX10_hears 11 = .ok (.lconst 1, 1) := by decide +kernel
theorem dX10_hears_12 : decode cX10_hears 12 = .ok (.invokestatic 69, 3) := by decide +kernel
theorem dX10_hears_15 : decode cX10_hears 15 = .ok (.ifCond .ne 5, 3) := by decide +kernel
theorem dX10_hears_18 : decode cX10_hears 18 = .ok (.iconst (-1), 1) := by decide +kernel
theorem dX10_hears_19 : decode cX10_hears 19 = .ok (.ireturn, 1) := by decide +kernel
theorem dX10_hears_20 : decode cX10_hears 20 = .ok (.aload_n 0, 1) := by decide +kernel
theorem dX10_hears_21 : decode cX10_hears 21 = .ok (.getfield 138, 3) := by decide +kernel
theorem dX10_hears_24 : decode cX10_hears 24 = .ok (.iconst 4, 1) := by decide +kernel
theorem dX10_hears_25 : decode cX10_hears 25 = .ok (.if_icmp .ne 6, 3) := by decide +kernel
theorem dX10_hears_28 : decode cX10_hears 28 = .ok (.bipush (-3), 2) := by decide +kernel
theorem dX10_hears_30 : decode cX10_hears 30 = .ok (.ireturn, 1) := by decide +kernel
theorem dX10_hears_31 : decode cX10_hears 31 = .ok (.aload_n 0, 1) := by decide +kernel
theorem dX10_hears_32 : decode cX10_hears 32 = .ok (.getfield 36, 3) := by decide +kernel
theorem dX10_hears_35 : decode cX10_hears 35 = .ok (.iconst 2, 1) := by decide +kernel
theorem dX10_hears_36 : decode cX10_hears 36 = .ok (.aload_n 0, 1) := by decide +kernel
theorem dX10_hears_37 : decode cX10_hears 37 = .ok (.getfield 138, 3) := by decide +kernel
theorem dX10_hears_40 : decode cX10_hears 40 = .ok (.imul, 1) := by decide +kernel
theorem dX10_hears_41 : decode cX10_hears 41 = .ok (.iload_n 1, 1) := by decide +kernel
theorem dX10_hears_42 : decode cX10_hears 42 = .ok (.iastore, 1) := by decide +kernel
theorem dX10_hears_43 : decode cX10_hears 43 = .ok (.aload_n 0, 1) := by decide +kernel
theorem dX10_hears_44 : decode cX10_hears 44 = .ok (.getfield 36, 3) := by decide +kernel
theorem dX10_hears_47 : decode cX10_hears 47 = .ok (.iconst 2, 1) := by decide +kernel
theorem dX10_hears_48 : decode cX10_hears 48 = .ok (.aload_n 0, 1) := by decide +kernel
theorem dX10_hears_49 : decode cX10_hears 49 = .ok (.getfield 138, 3) := by decide +kernel
theorem dX10_hears_52 : decode cX10_hears 52 = .ok (.imul, 1) := by decide +kernel
theorem dX10_hears_53 : decode cX10_hears 53 = .ok (.iconst 1, 1) := by decide +kernel
theorem dX10_hears_54 : decode cX10_hears 54 = .ok (.iadd, 1) := by decide +kernel
theorem dX10_hears_55 : decode cX10_hears 55 = .ok (.iload_n 2, 1) := by decide +kernel
theorem dX10_hears_56 : decode cX10_hears 56 = .ok (.iastore, 1) := by decide +kernel
theorem dX10_hears_57 : decode cX10_hears 57 = .ok (.aload_n 0, 1) := by decide +kernel
theorem dX10_hears_58 : decode cX10_hears 58 = .ok (.dup, 1) := by decide +kernel
theorem dX10_hears_59 : decode cX10_hears 59 = .ok (.getfield 138, 3) := by decide +kernel
theorem dX10_hears_62 : decode cX10_hears 62 = .ok (.iconst 1, 1) := by decide +kernel
theorem dX10_hears_63 : decode cX10_hears 63 = .ok (.iadd, 1) := by decide +kernel
theorem dX10_hears_64 : decode cX10_hears 64 = .ok (.putfield 138, 3) := by decide +kernel
theorem dX10_hears_67 : decode cX10_hears 67 = .ok (.aload_n 0, 1) := by decide +kernel
theorem dX10_hears_68 : decode cX10_hears 68 = .ok (.getfield 138, 3) := by decide +kernel
theorem dX10_hears_71 : decode cX10_hears 71 = .ok (.ireturn, 1) := by decide +kernel
theorem dX10_forget_0 : decode cX10_forget 0 = .ok (.aload_n 0, 1) := by decide +kernel
theorem dX10_forget_1 : decode cX10_forget 1 = .ok (.getfield 138, 3) := by decide +kernel
theorem dX10_forget_4 : decode cX10_forget 4 = .ok (.istore_n 1, 1) := by decide +kernel
theorem dX10_forget_5 : decode cX10_forget 5 = .ok (.aload_n 0, 1) := by decide +kernel
theorem dX10_forget_6 : decode cX10_forget 6 = .ok (.iconst 0, 1) := by decide +kernel
theorem dX10_forget_7 : decode cX10_forget 7 = .ok (.putfield 138, 3) := by decide +kernel
theorem dX10_forget_10 : decode cX10_forget 10 = .ok (.iload_n 1, 1) := by decide +kernel
theorem dX10_forget_11 : decode cX10_forget 11 = .ok (.ireturn, 1) := by decide +kernel
theorem dX10_whoBits_0 : decode cX10_whoBits 0 = .ok (.iconst 0, 1) := by decide +kernel
theorem dX10_whoBits_1 : decode cX10_whoBits 1 = .ok (.istore_n 1, 1) := by decide +kernel
theorem dX10_whoBits_2 : decode cX10_whoBits 2 = .ok (.iconst 0, 1) := by decide +kernel
theorem dX10_whoBits_3 : decode cX10_whoBits 3 = .ok (.istore_n 2, 1) := by decide +kernel
theorem dX10_whoBits_4 : decode cX10_whoBits 4 = .ok (.iload_n 2, 1) := by decide +kernel
theorem dX10_whoBits_5 : decode cX10_whoBits 5 = .ok (.aload_n 0, 1) := by decide +kernel
theorem dX10_whoBits_6 : decode cX10_whoBits 6 = .ok (.getfield 66, 3) := by decide +kernel
theorem dX10_whoBits_9 : decode cX10_whoBits 9 = .ok (.if_icmp .ge 90, 3) := by decide +kernel
theorem dX10_whoBits_12 : decode cX10_whoBits 12 = .ok (.iconst 1, 1) := by decide +kernel
theorem dX10_whoBits_13 : decode cX10_whoBits 13 = .ok (.istore_n 3, 1) := by decide +kernel
theorem dX10_whoBits_14 : decode cX10_whoBits 14 = .ok (.iconst 0, 1) := by decide +kernel
theorem dX10_whoBits_15 : decode cX10_whoBits 15 = .ok (.istore 4, 2) := by decide +kernel
theorem dX10_whoBits_17 : decode cX10_whoBits 17 = .ok (.iload 4, 2) := by decide +kernel
theorem dX10_whoBits_19 : decode cX10_whoBits 19 = .ok (.aload_n 0, 1) := by decide +kernel
theorem dX10_whoBits_20 : decode cX10_whoBits 20 = .ok (.getfield 138, 3) := by decide +kernel
theorem dX10_whoBits_23 : decode cX10_whoBits 23 = .ok (.if_icmp .ge 56, 3) := by decide +kernel
theorem dX10_whoBits_26 : decode cX10_whoBits 26 = .ok (.iload_n 3, 1) := by decide +kernel
theorem dX10_whoBits_27 : decode cX10_whoBits 27 = .ok (.ifCond .eq 44, 3) := by decide +kernel
theorem dX10_whoBits_30 : decode cX10_whoBits 30 = .ok (.aload_n 0, 1) := by decide +kernel
theorem dX10_whoBits_31 : decode cX10_whoBits 31 = .ok (.iload_n 2, 1) := by decide +kernel
theorem dX10_whoBits_32 : decode cX10_whoBits 32 = .ok (.aload_n 0, 1) := by decide +kernel
theorem dX10_whoBits_33 : decode cX10_whoBits 33 = .ok (.getfield 36, 3) := by decide +kernel
theorem dX10_whoBits_36 : decode cX10_whoBits 36 = .ok (.iconst 2, 1) := by decide +kernel
theorem dX10_whoBits_37 : decode cX10_whoBits 37 = .ok (.iload 4, 2) := by decide +kernel
theorem dX10_whoBits_39 : decode cX10_whoBits 39 = .ok (.imul, 1) := by decide +kernel
theorem dX10_whoBits_40 : decode cX10_whoBits 40 = .ok (.iaload, 1) := by decide +kernel
theorem dX10_whoBits_41 : decode cX10_whoBits 41 = .ok (.invokevirtual 164, 3) := by decide +kernel
theorem dX10_whoBits_44 : decode cX10_whoBits 44 = .ok (.aload_n 0, 1) := by decide +kernel
theorem dX10_whoBits_45 : decode cX10_whoBits 45 = .ok (.getfield 36, 3) := by decide +kernel
theorem dX10_whoBits_48 : decode cX10_whoBits 48 = .ok (.iconst 2, 1) := by decide +kernel
theorem dX10_whoBits_49 : decode cX10_whoBits 49 = .ok (.iload 4, 2) := by decide +kernel
theorem dX10_whoBits_51 : decode cX10_whoBits 51 = .ok (.imul, 1) := by decide +kernel
theorem dX10_whoBits_52 : decode cX10_whoBits 52 = .ok (.iconst 1, 1) := by decide +kernel
theorem dX10_whoBits_53 : decode cX10_whoBits 53 = .ok (.iadd, 1) := by decide +kernel
theorem dX10_whoBits_54 : decode cX10_whoBits 54 = .ok (.iaload, 1) := by decide +kernel
theorem dX10_whoBits_55 : decode cX10_whoBits 55 = .ok (.iconst 1, 1) := by decide +kernel
theorem dX10_whoBits_56 : decode cX10_whoBits 56 = .ok (.if_icmp .ne 7, 3) := by decide +kernel
theorem dX10_whoBits_59 : decode cX10_whoBits 59 = .ok (.iconst 1, 1) := by decide +kernel
theorem dX10_whoBits_60 : decode cX10_whoBits 60 = .ok (.goto 4, 3) := by decide +kernel
theorem dX10_whoBits_63 : decode cX10_whoBits 63 = .ok (.iconst 0, 1) := by decide +kernel
theorem dX10_whoBits_64 : decode cX10_whoBits 64 = .ok (.if_icmp .ne 7, 3) := by decide +kernel
theorem dX10_whoBits_67 : decode cX10_whoBits 67 = .ok (.iconst 1, 1) := by decide +kernel
theorem dX10_whoBits_68 : decode cX10_whoBits 68 = .ok (.goto 4, 3) := by decide +kernel
theorem dX10_whoBits_71 : decode cX10_whoBits 71 = .ok (.iconst 0, 1) := by decide +kernel
theorem dX10_whoBits_72 : decode cX10_whoBits 72 = .ok (.istore_n 3, 1) := by decide +kernel
theorem dX10_whoBits_73 : decode cX10_whoBits 73 = .ok (.iinc 4 1, 3) := by decide +kernel
theorem dX10_whoBits_76 : decode cX10_whoBits 76 = .ok (.goto (-59), 3) := by decide +kernel
theorem dX10_whoBits_79 : decode cX10_whoBits 79 = .ok (.iload_n 1, 1) := by decide +kernel
theorem dX10_whoBits_80 : decode cX10_whoBits 80 = .ok (.iload_n 3, 1) := by decide +kernel
theorem dX10_whoBits_81 : decode cX10_whoBits 81 = .ok (.ifCond .eq 9, 3) := by decide +kernel
theorem dX10_whoBits_84 : decode cX10_whoBits 84 = .ok (.iconst 1, 1) := by decide +kernel
theorem dX10_whoBits_85 : decode cX10_whoBits 85 = .ok (.iload_n 2, 1) := by decide +kernel
theorem dX10_whoBits_86 : decode cX10_whoBits 86 = .ok (.ishl, 1) := by decide +kernel
theorem dX10_whoBits_87 : decode cX10_whoBits 87 = .ok (.goto 4, 3) := by decide +kernel
theorem dX10_whoBits_90 : decode cX10_whoBits 90 = .ok (.iconst 0, 1) := by decide +kernel
theorem dX10_whoBits_91 : decode cX10_whoBits 91 = .ok (.ior, 1) := by decide +kernel
theorem dX10_whoBits_92 : decode cX10_whoBits 92 = .ok (.istore_n 1, 1) := by decide +kernel
theorem dX10_whoBits_93 : decode cX10_whoBits 93 = .ok (.iinc 2 1, 3) := by decide +kernel
theorem dX10_whoBits_96 : decode cX10_whoBits 96 = .ok (.goto (-92), 3) := by decide +kernel
theorem dX10_whoBits_99 : decode cX10_whoBits 99 = .ok (.iload_n 1, 1) := by decide +kernel
theorem dX10_whoBits_100 : decode cX10_whoBits 100 = .ok (.ireturn, 1) := by decide +kernel
theorem dX10_who_0 : decode cX10_who 0 = .ok (.aload_n 0, 1) := by decide +kernel
theorem dX10_who_1 : decode cX10_who 1 = .ok (.invokevirtual 237, 3) := by decide +kernel
theorem dX10_who_4 : decode cX10_who 4 = .ok (.ireturn, 1) := by decide +kernel
theorem dX10_ask_0 : decode cX10_ask 0 = .ok (.aload_n 0, 1) := by decide +kernel
theorem dX10_ask_1 : decode cX10_ask 1 = .ok (.invokevirtual 237, 3) := by decide +kernel
theorem dX10_ask_4 : decode cX10_ask 4 = .ok (.istore_n 1, 1) := by decide +kernel
theorem dX10_ask_5 : decode cX10_ask 5 = .ok (.bipush (-9), 2) := by decide +kernel
theorem dX10_ask_7 : decode cX10_ask 7 = .ok (.istore_n 2, 1) := by decide +kernel
theorem dX10_ask_8 : decode cX10_ask 8 = .ok (.iload_n 1, 1) := by decide +kernel
theorem dX10_ask_9 : decode cX10_ask 9 = .ok (.invokestatic 199, 3) := by decide +kernel
theorem dX10_ask_12 : decode cX10_ask 12 = .ok (.istore_n 3, 1) := by decide +kernel
theorem dX10_ask_13 : decode cX10_ask 13 = .ok (.iconst 0, 1) := by decide +kernel
theorem dX10_ask_14 : decode cX10_ask 14 = .ok (.istore 4, 2) := by decide +kernel
theorem dX10_ask_16 : decode cX10_ask 16 = .ok (.iload 4, 2) := by decide +kernel
theorem dX10_ask_18 : decode cX10_ask 18 = .ok (.aload_n 0, 1) := by decide +kernel
theorem dX10_ask_19 : decode cX10_ask 19 = .ok (.getfield 73, 3) := by decide +kernel
theorem dX10_ask_22 : decode cX10_ask 22 = .ok (.if_icmp .ge 98, 3) := by decide +kernel
theorem dX10_ask_25 : decode cX10_ask 25 = .ok (.iconst 0, 1) := by decide +kernel
theorem dX10_ask_26 : decode cX10_ask 26 = .ok (.istore 5, 2) := by decide +kernel
theorem dX10_ask_28 : decode cX10_ask 28 = .ok (.iconst 0, 1) := by decide +kernel
theorem dX10_ask_29 : decode cX10_ask 29 = .ok (.istore 6, 2) := by decide +kernel
theorem dX10_ask_31 : decode cX10_ask 31 = .ok (.iload 6, 2) := by decide +kernel
theorem dX10_ask_33 : decode cX10_ask 33 = .ok (.aload_n 0, 1) := by decide +kernel
theorem dX10_ask_34 : decode cX10_ask 34 = .ok (.getfield 66, 3) := by decide +kernel
theorem dX10_ask_37 : decode cX10_ask 37 = .ok (.if_icmp .ge 39, 3) := by decide +kernel
theorem dX10_ask_40 : decode cX10_ask 40 = .ok (.iload 5, 2) := by decide +kernel
theorem dX10_ask_42 : decode cX10_ask 42 = .ok (.iload_n 1, 1) := by decide +kernel
theorem dX10_ask_43 : decode cX10_ask 43 = .ok (.iload 6, 2) := by decide +kernel
theorem dX10_ask_45 : decode cX10_ask 45 = .ok (.invokestatic 171, 3) := by decide +kernel
theorem dX10_ask_48 : decode cX10_ask 48 = .ok (.ifCond .eq 18, 3) := by decide +kernel
theorem dX10_ask_51 : decode cX10_ask 51 = .ok (.aload_n 0, 1) := by decide +kernel
theorem dX10_ask_52 : decode cX10_ask 52 = .ok (.iload 6, 2) := by decide +kernel
theorem dX10_ask_54 : decode cX10_ask 54 = .ok (.iload 4, 2) := by decide +kernel
theorem dX10_ask_56 : decode cX10_ask 56 = .ok (.invokevirtual 164, 3) := by decide +kernel
theorem dX10_ask_59 : decode cX10_ask 59 = .ok (.ifCond .eq 7, 3) := by decide +kernel
theorem dX10_ask_62 : decode cX10_ask 62 = .ok (.iconst 1, 1) := by decide +kernel
theorem dX10_ask_63 : decode cX10_ask 63 = .ok (.goto 4, 3) := by decide +kernel
theorem dX10_ask_66 : decode cX10_ask 66 = .ok (.iconst 0, 1) := by decide +kernel
theorem dX10_ask_67 : decode cX10_ask 67 = .ok (.iadd, 1) := by decide +kernel
theorem dX10_ask_68 : decode cX10_ask 68 = .ok (.istore 5, 2) := by decide +kernel
theorem dX10_ask_70 : decode cX10_ask 70 = .ok (.iinc 6 1, 3) := by decide +kernel
theorem dX10_ask_73 : decode cX10_ask 73 = .ok (.goto (-42), 3) := by decide +kernel
theorem dX10_ask_76 : decode cX10_ask 76 = .ok (.iload 5, 2) := by decide +kernel
theorem dX10_ask_78 : decode cX10_ask 78 = .ok (.iload_n 1, 1) := by decide +kernel
theorem dX10_ask_79 : decode cX10_ask 79 = .ok (.invokestatic 199, 3) := by decide +kernel
theorem dX10_ask_82 : decode cX10_ask 82 = .ok (.iload 5, 2) := by decide +kernel
theorem dX10_ask_84 : decode cX10_ask 84 = .ok (.isub, 1) := by decide +kernel
theorem dX10_ask_85 : decode cX10_ask 85 = .ok (.if_icmp .le 8, 3) := by decide +kernel
theorem dX10_ask_88 : decode cX10_ask 88 = .ok (.iload 5, 2) := by decide +kernel
theorem dX10_ask_90 : decode cX10_ask 90 = .ok (.goto 10, 3) := by decide +kernel
theorem dX10_ask_93 : decode cX10_ask 93 = .ok (.iload_n 1, 1) := by decide +kernel
theorem dX10_ask_94 : decode cX10_ask 94 = .ok (.invokestatic 199, 3) := by decide +kernel
theorem dX10_ask_97 : decode cX10_ask 97 = .ok (.iload 5, 2) := by decide +kernel
theorem dX10_ask_99 : decode cX10_ask 99 = .ok (.isub, 1) := by decide +kernel
theorem dX10_ask_100 : decode cX10_ask 100 = .ok (.istore 6, 2) := by decide +kernel
theorem dX10_ask_102 : decode cX10_ask 102 = .ok (.iload 6, 2) := by decide +kernel
theorem dX10_ask_104 : decode cX10_ask 104 = .ok (.iload_n 3, 1) := by decide +kernel
theorem dX10_ask_105 : decode cX10_ask 105 = .ok (.if_icmp .ge 9, 3) := by decide +kernel
theorem dX10_ask_108 : decode cX10_ask 108 = .ok (.iload 6, 2) := by decide +kernel
theorem dX10_ask_110 : decode cX10_ask 110 = .ok (.istore_n 3, 1) := by decide +kernel
theorem dX10_ask_111 : decode cX10_ask 111 = .ok (.iload 4, 2) := by decide +kernel
theorem dX10_ask_113 : decode cX10_ask 113 = .ok (.istore_n 2, 1) := by decide +kernel
theorem dX10_ask_114 : decode cX10_ask 114 = .ok (.iinc 4 1, 3) := by decide +kernel
theorem dX10_ask_117 : decode cX10_ask 117 = .ok (.goto (-101), 3) := by decide +kernel
theorem dX10_ask_120 : decode cX10_ask 120 = .ok (.iload_n 2, 1) := by decide +kernel
theorem dX10_ask_121 : decode cX10_ask 121 = .ok (.ireturn, 1) := by decide +kernel
theorem dX10_founder_0 : decode cX10_founder 0 = .ok (.aload_n 0, 1) := by decide +kernel
theorem dX10_founder_1 : decode cX10_founder 1 = .ok (.dup, 1) := by decide +kernel
theorem dX10_founder_2 : decode cX10_founder 2 = .ok (.getfield 240, 3) := by decide +kernel
theorem dX10_founder_5 : decode cX10_founder 5 = .ok (.ldc2_w 244, 3) := by decide +kernel
theorem dX10_founder_8 : decode cX10_founder 8 = .ok (.ladd, 1) := by decide +kernel
theorem dX10_founder_9 : decode cX10_founder 9 = .ok (.putfield 240, 3) := by decide +kernel
theorem dX10_founder_12 : decode cX10_founder 12 = .ok (.aload_n 0, 1) := by decide +kernel
theorem dX10_founder_13 : decode cX10_founder 13 = .ok (.iload_n 1, 1) := by decide +kernel
theorem dX10_founder_14 : decode cX10_founder 14 = .ok (.iconst 1, 1) := by decide +kernel
theorem dX10_founder_15 : decode cX10_founder 15 = .ok (.invokevirtual 76, 3) := by decide +kernel
theorem dX10_founder_18 : decode cX10_founder 18 = .ok (.aload_n 0, 1) := by decide +kernel
theorem dX10_founder_19 : decode cX10_founder 19 = .ok (.iload_n 1, 1) := by decide +kernel
theorem dX10_founder_20 : decode cX10_founder 20 = .ok (.invokevirtual 182, 3) := by decide +kernel
theorem dX10_founder_23 : decode cX10_founder 23 = .ok (.iadd, 1) := by decide +kernel
theorem dX10_founder_24 : decode cX10_founder 24 = .ok (.ireturn, 1) := by decide +kernel
theorem dX10_chair_0 : decode cX10_chair 0 = .ok (.aload_n 0, 1) := by decide +kernel
theorem dX10_chair_1 : decode cX10_chair 1 = .ok (.dup, 1) := by decide +kernel
theorem dX10_chair_2 : decode cX10_chair 2 = .ok (.getfield 240, 3) := by decide +kernel
theorem dX10_chair_5 : decode cX10_chair 5 = .ok (.ldc2_w 246, 3) := by decide +kernel
theorem dX10_chair_8 : decode cX10_chair 8 = .ok (.ladd, 1) := by decide +kernel
theorem dX10_chair_9 : decode cX10_chair 9 = .ok (.putfield 240, 3) := by decide +kernel
theorem dX10_chair_12 : decode cX10_chair 12 = .ok (.aload_n 0, 1) := by decide +kernel
theorem dX10_chair_13 : decode cX10_chair 13 = .ok (.iload_n 1, 1) := by decide +kernel
theorem dX10_chair_14 : decode cX10_chair 14 = .ok (.iconst 1, 1) := by decide +kernel
theorem dX10_chair_15 : decode cX10_chair 15 = .ok (.invokevirtual 76, 3) := by decide +kernel
theorem dX10_chair_18 : decode cX10_chair 18 = .ok (.aload_n 0, 1) := by decide +kernel
theorem dX10_chair_19 : decode cX10_chair 19 = .ok (.iload_n 1, 1) := by decide +kernel
theorem dX10_chair_20 : decode cX10_chair 20 = .ok (.iconst 3, 1) := by decide +kernel
theorem dX10_chair_21 : decode cX10_chair 21 = .ok (.invokevirtual 76, 3) := by decide +kernel
theorem dX10_chair_24 : decode cX10_chair 24 = .ok (.isub, 1) := by decide +kernel
theorem dX10_chair_25 : decode cX10_chair 25 = .ok (.ireturn, 1) := by decide +kernel
theorem dX10_mark_0 : decode cX10_mark 0 = .ok (.iload_n 1, 1) := by decide +kernel
theorem dX10_mark_1 : decode cX10_mark 1 = .ok (.i2l, 1) := by decide +kernel
theorem dX10_mark_2 : decode cX10_mark 2 = .ok (.lconst 0, 1) := by decide +kernel
theorem dX10_mark_3 : decode cX10_mark 3 = .ok (.ldc2_w 248, 3) := by decide +kernel
theorem dX10_mark_6 : decode cX10_mark 6 = .ok (.invokestatic 69, 3) := by decide +kernel
theorem dX10_mark_9 : decode cX10_mark 9 = .ok (.ifCond .eq 11, 3) := by decide +kernel
theorem dX10_mark_12 : decode cX10_mark 12 = .ok (.aload_n 0, 1) := by decide +kernel
theorem dX10_mark_13 : decode cX10_mark 13 = .ok (.iload_n 2, 1) := by decide +kernel
theorem dX10_mark_14 : decode cX10_mark 14 = .ok (.invokevirtual 179, 3) := by decide +kernel
theorem dX10_mark_17 : decode cX10_mark 17 = .ok (.ifCond .ne 6, 3) := by decide +kernel
theorem dX10_mark_20 : decode cX10_mark 20 = .ok (.ldc 250, 2) := by decide +kernel
theorem dX10_mark_22 : decode cX10_mark 22 = .ok (.ireturn, 1) := by decide +kernel
theorem dX10_mark_23 : decode cX10_mark 23 = .ok (.iload_n 1, 1) := by decide +kernel
theorem dX10_mark_24 : decode cX10_mark 24 = .ok (.tableswitch 105 0 4 #[36, 53, 59, 65, 85], 36) := by decide +kernel
theorem dX10_mark_60 : decode cX10_mark 60 = .ok (.aload_n 0, 1) := by decide +kernel
theorem dX10_mark_61 : decode cX10_mark 61 = .ok (.dup, 1) := by decide +kernel
theorem dX10_mark_62 : decode cX10_mark 62 = .ok (.getfield 240, 3) := by decide +kernel
theorem dX10_mark_65 : decode cX10_mark 65 = .ok (.lconst 1, 1) := by decide +kernel
theorem dX10_mark_66 : decode cX10_mark 66 = .ok (.ladd, 1) := by decide +kernel
theorem dX10_mark_67 : decode cX10_mark 67 = .ok (.putfield 240, 3) := by decide +kernel
theorem dX10_mark_70 : decode cX10_mark 70 = .ok (.aload_n 0, 1) := by decide +kernel
theorem dX10_mark_71 : decode cX10_mark 71 = .ok (.iload_n 2, 1) := by decide +kernel
theorem dX10_mark_72 : decode cX10_mark 72 = .ok (.iconst 1, 1) := by decide +kernel
theorem dX10_mark_73 : decode cX10_mark 73 = .ok (.invokevirtual 76, 3) := by decide +kernel
theorem dX10_mark_76 : decode cX10_mark 76 = .ok (.ireturn, 1) := by decide +kernel
theorem dX10_mark_77 : decode cX10_mark 77 = .ok (.aload_n 0, 1) := by decide +kernel
theorem dX10_mark_78 : decode cX10_mark 78 = .ok (.iload_n 2, 1) := by decide +kernel
theorem dX10_mark_79 : decode cX10_mark 79 = .ok (.invokevirtual 251, 3) := by decide +kernel
theorem dX10_mark_82 : decode cX10_mark 82 = .ok (.ireturn, 1) := by decide +kernel
theorem dX10_mark_83 : decode cX10_mark 83 = .ok (.aload_n 0, 1) := by decide +kernel
theorem dX10_mark_84 : decode cX10_mark 84 = .ok (.iload_n 2, 1) := by decide +kernel
theorem dX10_mark_85 : decode cX10_mark 85 = .ok (.invokevirtual 254, 3) := by decide +kernel
theorem dX10_mark_88 : decode cX10_mark 88 = .ok (.ireturn, 1) := by decide +kernel
theorem dX10_mark_89 : decode cX10_mark 89 = .ok (.aload_n 0, 1) := by decide +kernel
theorem dX10_mark_90 : decode cX10_mark 90 = .ok (.dup, 1) := by decide +kernel
theorem dX10_mark_91 : decode cX10_mark 91 = .ok (.getfield 240, 3) := by decide +kernel
theorem dX10_mark_94 : decode cX10_mark 94 = .ok (.ldc2_w 257, 3) := by decide +kernel
theorem dX10_mark_97 : decode cX10_mark 97 = .ok (.ladd, 1) := by decide +kernel
theorem dX10_mark_98 : decode cX10_mark 98 = .ok (.putfield 240, 3) := by decide +kernel
theorem dX10_mark_101 : decode cX10_mark 101 = .ok (.iconst 2, 1) := by decide +kernel
theorem dX10_mark_102 : decode cX10_mark 102 = .ok (.aload_n 0, 1) := by decide +kernel
theorem dX10_mark_103 : decode cX10_mark 103 = .ok (.iload_n 2, 1) := by decide +kernel
theorem dX10_mark_104 : decode cX10_mark 104 = .ok (.invokevirtual 251, 3) := by decide +kernel
theorem dX10_mark_107 : decode cX10_mark 107 = .ok (.imul, 1) := by decide +kernel
theorem dX10_mark_108 : decode cX10_mark 108 = .ok (.ireturn, 1) := by decide +kernel
theorem dX10_mark_109 : decode cX10_mark 109 = .ok (.aload_n 0, 1) := by decide +kernel
theorem dX10_mark_110 : decode cX10_mark 110 = .ok (.dup, 1) := by decide +kernel
theorem dX10_mark_111 : decode cX10_mark 111 = .ok (.getfield 240, 3) := by decide +kernel
theorem dX10_mark_114 : decode cX10_mark 114 = .ok (.ldc2_w 259, 3) := by decide +kernel
theorem dX10_mark_117 : decode cX10_mark 117 = .ok (.ladd, 1) := by decide +kernel
theorem dX10_mark_118 : decode cX10_mark 118 = .ok (.putfield 240, 3) := by decide +kernel
theorem dX10_mark_121 : decode cX10_mark 121 = .ok (.aload_n 0, 1) := by decide +kernel
theorem dX10_mark_122 : decode cX10_mark 122 = .ok (.iload_n 2, 1) := by decide +kernel
theorem dX10_mark_123 : decode cX10_mark 123 = .ok (.invokevirtual 254, 3) := by decide +kernel
theorem dX10_mark_126 : decode cX10_mark 126 = .ok (.iload_n 2, 1) := by decide +kernel
theorem dX10_mark_127 : decode cX10_mark 127 = .ok (.iadd, 1) := by decide +kernel
theorem dX10_mark_128 : decode cX10_mark 128 = .ok (.ireturn, 1) := by decide +kernel
theorem dX10_mark_129 : decode cX10_mark 129 = .ok (.aload_n 0, 1) := by decide +kernel
theorem dX10_mark_130 : decode cX10_mark 130 = .ok (.dup, 1) := by decide +kernel
theorem dX10_mark_131 : decode cX10_mark 131 = .ok (.getfield 240, 3) := by decide +kernel
theorem dX10_mark_134 : decode cX10_mark 134 = .ok (.ldc2_w 261, 3) := by decide +kernel
theorem dX10_mark_137 : decode cX10_mark 137 = .ok (.ladd, 1) := by decide +kernel
theorem dX10_mark_138 : decode cX10_mark 138 = .ok (.putfield 240, 3) := by decide +kernel
theorem dX10_mark_141 : decode cX10_mark 141 = .ok (.aload_n 0, 1) := by decide +kernel
theorem dX10_mark_142 : decode cX10_mark 142 = .ok (.iload_n 2, 1) := by decide +kernel
theorem dX10_mark_143 : decode cX10_mark 143 = .ok (.iconst 1, 1) := by decide +kernel
theorem dX10_mark_144 : decode cX10_mark 144 = .ok (.invokevirtual 76, 3) := by decide +kernel
theorem dX10_mark_147 : decode cX10_mark 147 = .ok (.aload_n 0, 1) := by decide +kernel
theorem dX10_mark_148 : decode cX10_mark 148 = .ok (.iload_n 2, 1) := by decide +kernel
theorem dX10_mark_149 : decode cX10_mark 149 = .ok (.iconst 0, 1) := by decide +kernel
theorem dX10_mark_150 : decode cX10_mark 150 = .ok (.invokevirtual 76, 3) := by decide +kernel
theorem dX10_mark_153 : decode cX10_mark 153 = .ok (.iadd, 1) := by decide +kernel
theorem dX10_mark_154 : decode cX10_mark 154 = .ok (.ireturn, 1) := by decide +kernel
theorem dX10_keep_0 : decode cX10_keep 0 = .ok (.iload_n 1, 1) := by decide +kernel
theorem dX10_keep_1 : decode cX10_keep 1 = .ok (.i2l, 1) := by decide +kernel
theorem dX10_keep_2 : decode cX10_keep 2 = .ok (.lconst 0, 1) := by decide +kernel
theorem dX10_keep_3 : decode cX10_keep 3 = .ok (.lconst 1, 1) := by decide +kernel
theorem dX10_keep_4 : decode cX10_keep 4 = .ok (.invokestatic 69, 3) := by decide +kernel
theorem dX10_keep_7 : decode cX10_keep 7 = .ok (.ifCond .ne 5, 3) := by decide +kernel
theorem dX10_keep_10 : decode cX10_keep 10 = .ok (.iconst (-1), 1) := by decide +kernel
theorem dX10_keep_11 : decode cX10_keep 11 = .ok (.ireturn, 1) := by decide +kernel
theorem dX10_keep_12 : decode cX10_keep 12 = .ok (.sipush 320, 3) := by decide +kernel
theorem dX10_keep_15 : decode cX10_keep 15 = .ok (.iload_n 1, 1) := by decide +kernel
theorem dX10_keep_16 : decode cX10_keep 16 = .ok (.imul, 1) := by decide +kernel
theorem dX10_keep_17 : decode cX10_keep 17 = .ok (.istore_n 2, 1) := by decide +kernel
theorem dX10_keep_18 : decode cX10_keep 18 = .ok (.iconst 0, 1) := by decide +kernel
theorem dX10_keep_19 : decode cX10_keep 19 = .ok (.istore_n 3, 1) := by decide +kernel
theorem dX10_keep_20 : decode cX10_keep 20 = .ok (.iload_n 3, 1) := by decide +kernel
theorem dX10_keep_21 : decode cX10_keep 21 = .ok (.bipush 29, 2) := by decide +kernel
theorem dX10_keep_23 : decode cX10_keep 23 = .ok (.if_icmp .ge 23, 3) := by decide +kernel
theorem dX10_keep_26 : decode cX10_keep 26 = .ok (.aload_n 0, 1) := by decide +kernel
theorem dX10_keep_27 : decode cX10_keep 27 = .ok (.getfield 29, 3) := by decide +kernel
theorem dX10_keep_30 : decode cX10_keep 30 = .ok (.iload_n 2, 1) := by decide +kernel
theorem dX10_keep_31 : decode cX10_keep 31 = .ok (.iload_n 3, 1) := by decide +kernel
theorem dX10_keep_32 : decode cX10_keep 32 = .ok (.iadd, 1) := by decide +kernel
theorem dX10_keep_33 : decode cX10_keep 33 = .ok (.aload_n 0, 1) := by decide +kernel
theorem dX10_keep_34 : decode cX10_keep 34 = .ok (.getfield 23, 3) := by decide +kernel
theorem dX10_keep_37 : decode cX10_keep 37 = .ok (.iload_n 3, 1) := by decide +kernel
theorem dX10_keep_38 : decode cX10_keep 38 = .ok (.iaload, 1) := by decide +kernel
theorem dX10_keep_39 : decode cX10_keep 39 = .ok (.iastore, 1) := by decide +kernel
theorem dX10_keep_40 : decode cX10_keep 40 = .ok (.iinc 3 1, 3) := by decide +kernel
theorem dX10_keep_43 : decode cX10_keep 43 = .ok (.goto (-23), 3) := by decide +kernel
theorem dX10_keep_46 : decode cX10_keep 46 = .ok (.iconst 0, 1) := by decide +kernel
theorem dX10_keep_47 : decode cX10_keep 47 = .ok (.istore_n 3, 1) := by decide +kernel
theorem dX10_keep_48 : decode cX10_keep 48 = .ok (.iload_n 3, 1) := by decide +kernel
theorem dX10_keep_49 : decode cX10_keep 49 = .ok (.sipush 290, 3) := by decide +kernel
theorem dX10_keep_52 : decode cX10_keep 52 = .ok (.if_icmp .ge 26, 3) := by decide +kernel
theorem dX10_keep_55 : decode cX10_keep 55 = .ok (.aload_n 0, 1) := by decide +kernel
theorem dX10_keep_56 : decode cX10_keep 56 = .ok (.getfield 29, 3) := by decide +kernel
theorem dX10_keep_59 : decode cX10_keep 59 = .ok (.iload_n 2, 1) := by decide +kernel
theorem dX10_keep_60 : decode cX10_keep 60 = .ok (.bipush 29, 2) := by decide +kernel
theorem dX10_keep_62 : decode cX10_keep 62 = .ok (.iadd, 1) := by decide +kernel
theorem dX10_keep_63 : decode cX10_keep 63 = .ok (.iload_n 3, 1) := by decide +kernel
theorem dX10_keep_64 : decode cX10_keep 64 = .ok (.iadd, 1) := by decide +kernel
theorem dX10_keep_65 : decode cX10_keep 65 = .ok (.aload_n 0, 1) := by decide +kernel
theorem dX10_keep_66 : decode cX10_keep 66 = .ok (.getfield 26, 3) := by decide +kernel
theorem dX10_keep_69 : decode cX10_keep 69 = .ok (.iload_n 3, 1) := by decide +kernel
theorem dX10_keep_70 : decode cX10_keep 70 = .ok (.iaload, 1) := by decide +kernel
theorem dX10_keep_71 : decode cX10_keep 71 = .ok (.iastore, 1) := by decide +kernel
theorem dX10_keep_72 : decode cX10_keep 72 = .ok (.iinc 3 1, 3) := by decide +kernel
theorem dX10_keep_75 : decode cX10_keep 75 = .ok (.goto (-27), 3) := by decide +kernel
theorem dX10_keep_78 : decode cX10_keep 78 = .ok (.aload_n 0, 1) := by decide +kernel
theorem dX10_keep_79 : decode cX10_keep 79 = .ok (.getfield 29, 3) := by decide +kernel
theorem dX10_keep_82 : decode cX10_keep 82 = .ok (.iload_n 2, 1) := by decide +kernel
theorem dX10_keep_83 : decode cX10_keep 83 = .ok (.sipush 319, 3) := by decide +kernel
theorem dX10_keep_86 : decode cX10_keep 86 = .ok (.iadd, 1) := by decide +kernel
theorem dX10_keep_87 : decode cX10_keep 87 = .ok (.aload_n 0, 1) := by decide +kernel
theorem dX10_keep_88 : decode cX10_keep 88 = .ok (.getfield 135, 3) := by decide +kernel
theorem dX10_keep_91 : decode cX10_keep 91 = .ok (.iastore, 1) := by decide +kernel
theorem dX10_keep_92 : decode cX10_keep 92 = .ok (.aload_n 0, 1) := by decide +kernel
theorem dX10_keep_93 : decode cX10_keep 93 = .ok (.getfield 32, 3) := by decide +kernel
theorem dX10_keep_96 : decode cX10_keep 96 = .ok (.iload_n 1, 1) := by decide +kernel
theorem dX10_keep_97 : decode cX10_keep 97 = .ok (.iconst 1, 1) := by decide +kernel
theorem dX10_keep_98 : decode cX10_keep 98 = .ok (.bastore, 1) := by decide +kernel
theorem dX10_keep_99 : decode cX10_keep 99 = .ok (.aload_n 0, 1) := by decide +kernel
theorem dX10_keep_100 : decode cX10_keep 100 = .ok (.invokevirtual 221, 3) := by decide +kernel
theorem dX10_keep_103 : decode cX10_keep 103 = .ok (.ireturn, 1) := by decide +kernel
theorem dX10_back_0 : decode cX10_back 0 = .ok (.iload_n 1, 1) := by decide +kernel
theorem dX10_back_1 : decode cX10_back 1 = .ok (.i2l, 1) := by decide +kernel
theorem dX10_back_2 : decode cX10_back 2 = .ok (.lconst 0, 1) := by decide +kernel
theorem dX10_back_3 : decode cX10_back 3 = .ok (.lconst 1, 1) := by decide +kernel
theorem dX10_back_4 : decode cX10_back 4 = .ok (.invokestatic 69, 3) := by decide +kernel
theorem dX10_back_7 : decode cX10_back 7 = .ok (.ifCond .ne 5, 3) := by decide +kernel
theorem dX10_back_10 : decode cX10_back 10 = .ok (.iconst (-1), 1) := by decide +kernel
theorem dX10_back_11 : decode cX10_back 11 = .ok (.ireturn, 1) := by decide +kernel
theorem dX10_back_12 : decode cX10_back 12 = .ok (.aload_n 0, 1) := by decide +kernel
theorem dX10_back_13 : decode cX10_back 13 = .ok (.getfield 32, 3) := by decide +kernel
theorem dX10_back_16 : decode cX10_back 16 = .ok (.iload_n 1, 1) := by decide +kernel
theorem dX10_back_17 : decode cX10_back 17 = .ok (.baload, 1) := by decide +kernel
theorem dX10_back_18 : decode cX10_back 18 = .ok (.ifCond .ne 6, 3) := by decide +kernel
theorem dX10_back_21 : decode cX10_back 21 = .ok (.bipush (-2), 2) := by decide +kernel
theorem dX10_back_23 : decode cX10_back 23 = .ok (.ireturn, 1) := by decide +kernel
theorem dX10_back_24 : decode cX10_back 24 = .ok (.sipush 320, 3) := by decide +kernel
theorem dX10_back_27 : decode cX10_back 27 = .ok (.iload_n 1, 1) := by decide +kernel
theorem dX10_back_28 : decode cX10_back 28 = .ok (.imul, 1) := by decide +kernel
theorem dX10_back_29 : decode cX10_back 29 = .ok (.istore_n 2, 1) := by decide +kernel
theorem dX10_back_30 : decode cX10_back 30 = .ok (.iconst 0, 1) := by decide +kernel
theorem dX10_back_31 : decode cX10_back 31 = .ok (.istore_n 3, 1) := by decide +kernel
theorem dX10_back_32 : decode cX10_back 32 = .ok (.iload_n 3, 1) := by decide +kernel
theorem dX10_back_33 : decode cX10_back 33 = .ok (.bipush 29, 2) := by decide +kernel
theorem dX10_back_35 : decode cX10_back 35 = .ok (.if_icmp .ge 23, 3) := by decide +kernel
theorem dX10_back_38 : decode cX10_back 38 = .ok (.aload_n 0, 1) := by decide +kernel
theorem dX10_back_39 : decode cX10_back 39 = .ok (.getfield 23, 3) := by decide +kernel
theorem dX10_back_42 : decode cX10_back 42 = .ok (.iload_n 3, 1) := by decide +kernel
theorem dX10_back_43 : decode cX10_back 43 = .ok (.aload_n 0, 1) := by decide +kernel
theorem dX10_back_44 : decode cX10_back 44 = .ok (.getfield 29, 3) := by decide +kernel
theorem dX10_back_47 : decode cX10_back 47 = .ok (.iload_n 2, 1) := by decide +kernel
theorem dX10_back_48 : decode cX10_back 48 = .ok (.iload_n 3, 1) := by decide +kernel
theorem dX10_back_49 : decode cX10_back 49 = .ok (.iadd, 1) := by decide +kernel
theorem dX10_back_50 : decode cX10_back 50 = .ok (.iaload, 1) := by decide +kernel
theorem dX10_back_51 : decode cX10_back 51 = .ok (.iastore, 1) := by decide +kernel
theorem dX10_back_52 : decode cX10_back 52 = .ok (.iinc 3 1, 3) := by decide +kernel
theorem dX10_back_55 : decode cX10_back 55 = .ok (.goto (-23), 3) := by decide +kernel
theorem dX10_back_58 : decode cX10_back 58 = .ok (.iconst 0, 1) := by decide +kernel
theorem dX10_back_59 : decode cX10_back 59 = .ok (.istore_n 3, 1) := by decide +kernel
theorem dX10_back_60 : decode cX10_back 60 = .ok (.iload_n 3, 1) := by decide +kernel
theorem dX10_back_61 : decode cX10_back 61 = .ok (.sipush 290, 3) := by decide +kernel
theorem dX10_back_64 : decode cX10_back 64 = .ok (.if_icmp .ge 26, 3) := by decide +kernel
theorem dX10_back_67 : decode cX10_back 67 = .ok (.aload_n 0, 1) := by decide +kernel
theorem dX10_back_68 : decode cX10_back 68 = .ok (.getfield 26, 3) := by decide +kernel
theorem dX10_back_71 : decode cX10_back 71 = .ok (.iload_n 3, 1) := by decide +kernel
theorem dX10_back_72 : decode cX10_back 72 = .ok (.aload_n 0, 1) := by decide +kernel
theorem dX10_back_73 : decode cX10_back 73 = .ok (.getfield 29, 3) := by decide +kernel
theorem dX10_back_76 : decode cX10_back 76 = .ok (.iload_n 2, 1) := by decide +kernel
theorem dX10_back_77 : decode cX10_back 77 = .ok (.bipush 29, 2) := by decide +kernel
theorem dX10_back_79 : decode cX10_back 79 = .ok (.iadd, 1) := by decide +kernel
theorem dX10_back_80 : decode cX10_back 80 = .ok (.iload_n 3, 1) := by decide +kernel
theorem dX10_back_81 : decode cX10_back 81 = .ok (.iadd, 1) := by decide +kernel
theorem dX10_back_82 : decode cX10_back 82 = .ok (.iaload, 1) := by decide +kernel
theorem dX10_back_83 : decode cX10_back 83 = .ok (.iastore, 1) := by decide +kernel
theorem dX10_back_84 : decode cX10_back 84 = .ok (.iinc 3 1, 3) := by decide +kernel
theorem dX10_back_87 : decode cX10_back 87 = .ok (.goto (-27), 3) := by decide +kernel
theorem dX10_back_90 : decode cX10_back 90 = .ok (.aload_n 0, 1) := by decide +kernel
theorem dX10_back_91 : decode cX10_back 91 = .ok (.aload_n 0, 1) := by decide +kernel
theorem dX10_back_92 : decode cX10_back 92 = .ok (.getfield 29, 3) := by decide +kernel
theorem dX10_back_95 : decode cX10_back 95 = .ok (.iload_n 2, 1) := by decide +kernel
theorem dX10_back_96 : decode cX10_back 96 = .ok (.sipush 319, 3) := by decide +kernel
theorem dX10_back_99 : decode cX10_back 99 = .ok (.iadd, 1) := by decide +kernel
theorem dX10_back_100 : decode cX10_back 100 = .ok (.iaload, 1) := by decide +kernel
theorem dX10_back_101 : decode cX10_back 101 = .ok (.putfield 135, 3) := by decide +kernel
theorem dX10_back_104 : decode cX10_back 104 = .ok (.aload_n 0, 1) := by decide +kernel
theorem dX10_back_105 : decode cX10_back 105 = .ok (.invokevirtual 221, 3) := by decide +kernel
theorem dX10_back_108 : decode cX10_back 108 = .ok (.ireturn, 1) := by decide +kernel
theorem dX10_count_0 : decode cX10_count 0 = .ok (.iload_n 1, 1) := by decide +kernel
theorem dX10_count_1 : decode cX10_count 1 = .ok (.tableswitch 78 0 6 #[43, 48, 53, 58, 63, 68, 73], 43) := by decide +kernel
theorem dX10_count_44 : decode cX10_count 44 = .ok (.aload_n 0, 1) := by decide +kernel
theorem dX10_count_45 : decode cX10_count 45 = .ok (.getfield 7, 3) := by decide +kernel
theorem dX10_count_48 : decode cX10_count 48 = .ok (.ireturn, 1) := by decide +kernel
theorem dX10_count_49 : decode cX10_count 49 = .ok (.aload_n 0, 1) := by decide +kernel
theorem dX10_count_50 : decode cX10_count 50 = .ok (.getfield 73, 3) := by decide +kernel
theorem dX10_count_53 : decode cX10_count 53 = .ok (.ireturn, 1) := by decide +kernel
theorem dX10_count_54 : decode cX10_count 54 = .ok (.aload_n 0, 1) := by decide +kernel
theorem dX10_count_55 : decode cX10_count 55 = .ok (.getfield 66, 3) := by decide +kernel
theorem dX10_count_58 : decode cX10_count 58 = .ok (.ireturn, 1) := by decide +kernel
theorem dX10_count_59 : decode cX10_count 59 = .ok (.aload_n 0, 1) := by decide +kernel
theorem dX10_count_60 : decode cX10_count 60 = .ok (.getfield 132, 3) := by decide +kernel
theorem dX10_count_63 : decode cX10_count 63 = .ok (.ireturn, 1) := by decide +kernel
theorem dX10_count_64 : decode cX10_count 64 = .ok (.aload_n 0, 1) := by decide +kernel
theorem dX10_count_65 : decode cX10_count 65 = .ok (.getfield 138, 3) := by decide +kernel
theorem dX10_count_68 : decode cX10_count 68 = .ok (.ireturn, 1) := by decide +kernel
theorem dX10_count_69 : decode cX10_count 69 = .ok (.aload_n 0, 1) := by decide +kernel
theorem dX10_count_70 : decode cX10_count 70 = .ok (.getfield 135, 3) := by decide +kernel
theorem dX10_count_73 : decode cX10_count 73 = .ok (.ireturn, 1) := by decide +kernel
theorem dX10_count_74 : decode cX10_count 74 = .ok (.aload_n 0, 1) := by decide +kernel
theorem dX10_count_75 : decode cX10_count 75 = .ok (.getfield 82, 3) := by decide +kernel
theorem dX10_count_78 : decode cX10_count 78 = .ok (.ireturn, 1) := by decide +kernel
theorem dX10_count_79 : decode cX10_count 79 = .ok (.iconst (-1), 1) := by decide +kernel
theorem dX10_count_80 : decode cX10_count 80 = .ok (.ireturn, 1) := by decide +kernel
theorem dX10_trace_0 : decode cX10_trace 0 = .ok (.aload_n 0, 1) := by decide +kernel
theorem dX10_trace_1 : decode cX10_trace 1 = .ok (.getfield 240, 3) := by decide +kernel
theorem dX10_trace_4 : decode cX10_trace 4 = .ok (.lreturn, 1) := by decide +kernel
