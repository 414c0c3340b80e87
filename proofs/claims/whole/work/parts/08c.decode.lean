theorem dX9_init_0 : decode cX9_init 0 = .ok (.aload_n 0, 1) := by decide +kernel
theorem dX9_init_1 : decode cX9_init 1 = .ok (.invokespecial 1, 3) := by decide +kernel
theorem dX9_init_4 : decode cX9_init 4 = .ok (.aload_n 0, 1) := by decide +kernel
theorem dX9_init_5 : decode cX9_init 5 = .ok (.new 7, 3) := by decide +kernel
theorem dX9_init_8 : decode cX9_init 8 = .ok (.dup, 1) := by decide +kernel
theorem dX9_init_9 : decode cX9_init 9 = .ok (.invokespecial 9, 3) := by decide +kernel
theorem dX9_init_12 : decode cX9_init 12 = .ok (.putfield 10, 3) := by decide +kernel
theorem dX9_init_15 : decode cX9_init 15 = .ok (.aload_n 0, 1) := by decide +kernel
theorem dX9_init_16 : decode cX9_init 16 = .ok (.new 16, 3) := by decide +kernel
theorem dX9_init_19 : decode cX9_init 19 = .ok (.dup, 1) := by decide +kernel
theorem dX9_init_20 : decode cX9_init 20 = .ok (.invokespecial 18, 3) := by decide +kernel
theorem dX9_init_23 : decode cX9_init 23 = .ok (.putfield 19, 3) := by decide +kernel
theorem dX9_init_26 : decode cX9_init 26 = .ok (.aload_n 0, 1) := by decide +kernel
theorem dX9_init_27 : decode cX9_init 27 = .ok (.new 16, 3) := by decide +kernel
theorem dX9_init_30 : decode cX9_init 30 = .ok (.dup, 1) := by decide +kernel
theorem dX9_init_31 : decode cX9_init 31 = .ok (.invokespecial 18, 3) := by decide +kernel
theorem dX9_init_34 : decode cX9_init 34 = .ok (.putfield 23, 3) := by decide +kernel
theorem dX9_init_37 : decode cX9_init 37 = .ok (.aload_n 0, 1) := by decide +kernel
theorem dX9_init_38 : decode cX9_init 38 = .ok (.new 26, 3) := by decide +kernel
theorem dX9_init_41 : decode cX9_init 41 = .ok (.dup, 1) := by decide +kernel
theorem dX9_init_42 : decode cX9_init 42 = .ok (.invokespecial 28, 3) := by decide +kernel
theorem dX9_init_45 : decode cX9_init 45 = .ok (.putfield 29, 3) := by decide +kernel
theorem dX9_init_48 : decode cX9_init 48 = .ok (.aload_n 0, 1) := by decide +kernel
theorem dX9_init_49 : decode cX9_init 49 = .ok (.new 33, 3) := by decide +kernel
theorem dX9_init_52 : decode cX9_init 52 = .ok (.dup, 1) := by decide +kernel
theorem dX9_init_53 : decode cX9_init 53 = .ok (.invokespecial 35, 3) := by decide +kernel
theorem dX9_init_56 : decode cX9_init 56 = .ok (.putfield 36, 3) := by decide +kernel
theorem dX9_init_59 : decode cX9_init 59 = .ok (.aload_n 0, 1) := by decide +kernel
theorem dX9_init_60 : decode cX9_init 60 = .ok (.iconst 2, 1) := by decide +kernel
theorem dX9_init_61 : decode cX9_init 61 = .ok (.anewarray 40, 3) := by decide +kernel
theorem dX9_init_64 : decode cX9_init 64 = .ok (.putfield 42, 3) := by decide +kernel
theorem dX9_init_67 : decode cX9_init 67 = .ok (.aload_n 0, 1) := by decide +kernel
theorem dX9_init_68 : decode cX9_init 68 = .ok (.new 46, 3) := by decide +kernel
theorem dX9_init_71 : decode cX9_init 71 = .ok (.dup, 1) := by decide +kernel
theorem dX9_init_72 : decode cX9_init 72 = .ok (.invokespecial 48, 3) := by decide +kernel
theorem dX9_init_75 : decode cX9_init 75 = .ok (.putfield 49, 3) := by decide +kernel
theorem dX9_init_78 : decode cX9_init 78 = .ok (.aload_n 0, 1) := by decide +kernel
theorem dX9_init_79 : decode cX9_init 79 = .ok (.new 53, 3) := by decide +kernel
theorem dX9_init_82 : decode cX9_init 82 = .ok (.dup, 1) := by decide +kernel
theorem dX9_init_83 : decode cX9_init 83 = .ok (.invokespecial 55, 3) := by decide +kernel
theorem dX9_init_86 : decode cX9_init 86 = .ok (.putfield 56, 3) := by decide +kernel
theorem dX9_init_89 : decode cX9_init 89 = .ok (.aload_n 0, 1) := by decide +kernel
theorem dX9_init_90 : decode cX9_init 90 = .ok (.new 60, 3) := by decide +kernel
theorem dX9_init_93 : decode cX9_init 93 = .ok (.dup, 1) := by decide +kernel
theorem dX9_init_94 : decode cX9_init 94 = .ok (.invokespecial 62, 3) := by decide +kernel
theorem dX9_init_97 : decode cX9_init 97 = .ok (.putfield 63, 3) := by decide +kernel
theorem dX9_init_100 : decode cX9_init 100 = .ok (.iconst 0, 1) := by decide +kernel
theorem dX9_init_101 : decode cX9_init 101 = .ok (.istore_n 1, 1) := by decide +kernel
theorem dX9_init_102 : decode cX9_init 102 = .ok (.iload_n 1, 1) := by decide +kernel
theorem dX9_init_103 : decode cX9_init 103 = .ok (.iconst 2, 1) := by decide +kernel
theorem dX9_init_104 : decode cX9_init 104 = .ok (.if_icmp .ge 22, 3) := by decide +kernel
theorem dX9_init_107 : decode cX9_init 107 = .ok (.aload_n 0, 1) := by decide +kernel
theorem dX9_init_108 : decode cX9_init 108 = .ok (.getfield 42, 3) := by decide +kernel
theorem dX9_init_111 : decode cX9_init 111 = .ok (.iload_n 1, 1) := by decide +kernel
theorem dX9_init_112 : decode cX9_init 112 = .ok (.new 40, 3) := by decide +kernel
theorem dX9_init_115 : decode cX9_init 115 = .ok (.dup, 1) := by decide +kernel
theorem dX9_init_116 : decode cX9_init 116 = .ok (.invokespecial 67, 3) := by decide +kernel
theorem dX9_init_119 : decode cX9_init 119 = .ok (.aastore, 1) := by decide +kernel
theorem dX9_init_120 : decode cX9_init 120 = .ok (.iinc 1 1, 3) := by decide +kernel
theorem dX9_init_123 : decode cX9_init 123 = .ok (.goto (-21), 3) := by decide +kernel
theorem dX9_init_126 : decode cX9_init 126 = .ok (.return_, 1) := by decide +kernel
theorem dX9_type_0 : decode cX9_type 0 = .ok (.iload_n 1, 1) := by decide +kernel
theorem dX9_type_1 : decode cX9_type 1 = .ok (.ifCond .lt 10, 3) := by decide +kernel
theorem dX9_type_4 : decode cX9_type 4 = .ok (.iload_n 1, 1) := by decide +kernel
theorem dX9_type_5 : decode cX9_type 5 = .ok (.sipush 255, 3) := by decide +kernel
theorem dX9_type_8 : decode cX9_type 8 = .ok (.if_icmp .le 5, 3) := by decide +kernel
theorem dX9_type_11 : decode cX9_type 11 = .ok (.iconst (-1), 1) := by decide +kernel
theorem dX9_type_12 : decode cX9_type 12 = .ok (.ireturn, 1) := by decide +kernel
theorem dX9_type_13 : decode cX9_type 13 = .ok (.aload_n 0, 1) := by decide +kernel
theorem dX9_type_14 : decode cX9_type 14 = .ok (.getfield 10, 3) := by decide +kernel
theorem dX9_type_17 : decode cX9_type 17 = .ok (.iload_n 1, 1) := by decide +kernel
theorem dX9_type_18 : decode cX9_type 18 = .ok (.invokevirtual 68, 3) := by decide +kernel
theorem dX9_type_21 : decode cX9_type 21 = .ok (.ifCond .eq 13, 3) := by decide +kernel
theorem dX9_type_24 : decode cX9_type 24 = .ok (.aload_n 0, 1) := by decide +kernel
theorem dX9_type_25 : decode cX9_type 25 = .ok (.getfield 10, 3) := by decide +kernel
theorem dX9_type_28 : decode cX9_type 28 = .ok (.getfield 72, 3) := by decide +kernel
theorem dX9_type_31 : decode cX9_type 31 = .ok (.goto 5, 3) := by decide +kernel
theorem dX9_type_34 : decode cX9_type 34 = .ok (.bipush (-3), 2) := by decide +kernel
theorem dX9_type_36 : decode cX9_type 36 = .ok (.ireturn, 1) := by decide +kernel
theorem dX9_clear_0 : decode cX9_clear 0 = .ok (.aload_n 0, 1) := by decide +kernel
theorem dX9_clear_1 : decode cX9_clear 1 = .ok (.getfield 10, 3) := by decide +kernel
theorem dX9_clear_4 : decode cX9_clear 4 = .ok (.invokevirtual 76, 3) := by decide +kernel
theorem dX9_clear_7 : decode cX9_clear 7 = .ok (.ireturn, 1) := by decide +kernel
theorem dX9_house_0 : decode cX9_house 0 = .ok (.aload_n 0, 1) := by decide +kernel
theorem dX9_house_1 : decode cX9_house 1 = .ok (.getfield 10, 3) := by decide +kernel
theorem dX9_house_4 : decode cX9_house 4 = .ok (.aload_n 0, 1) := by decide +kernel
theorem dX9_house_5 : decode cX9_house 5 = .ok (.getfield 23, 3) := by decide +kernel
theorem dX9_house_8 : decode cX9_house 8 = .ok (.invokevirtual 80, 3) := by decide +kernel
theorem dX9_house_11 : decode cX9_house 11 = .ok (.istore_n 1, 1) := by decide +kernel
theorem dX9_house_12 : decode cX9_house 12 = .ok (.iload_n 1, 1) := by decide +kernel
theorem dX9_house_13 : decode cX9_house 13 = .ok (.ifCond .ge 5, 3) := by decide +kernel
theorem dX9_house_16 : decode cX9_house 16 = .ok (.iload_n 1, 1) := by decide +kernel
theorem dX9_house_17 : decode cX9_house 17 = .ok (.ireturn, 1) := by decide +kernel
theorem dX9_house_18 : decode cX9_house 18 = .ok (.aload_n 0, 1) := by decide +kernel
theorem dX9_house_19 : decode cX9_house 19 = .ok (.getfield 19, 3) := by decide +kernel
theorem dX9_house_22 : decode cX9_house 22 = .ok (.astore_n 2, 1) := by decide +kernel
theorem dX9_house_23 : decode cX9_house 23 = .ok (.aload_n 0, 1) := by decide +kernel
theorem dX9_house_24 : decode cX9_house 24 = .ok (.aload_n 0, 1) := by decide +kernel
theorem dX9_house_25 : decode cX9_house 25 = .ok (.getfield 23, 3) := by decide +kernel
theorem dX9_house_28 : decode cX9_house 28 = .ok (.putfield 19, 3) := by decide +kernel
theorem dX9_house_31 : decode cX9_house 31 = .ok (.aload_n 0, 1) := by decide +kernel
theorem dX9_house_32 : decode cX9_house 32 = .ok (.aload_n 2, 1) := by decide +kernel
theorem dX9_house_33 : decode cX9_house 33 = .ok (.putfield 23, 3) := by decide +kernel
theorem dX9_house_36 : decode cX9_house 36 = .ok (.aload_n 0, 1) := by decide +kernel
theorem dX9_house_37 : decode cX9_house 37 = .ok (.getfield 10, 3) := by decide +kernel
theorem dX9_house_40 : decode cX9_house 40 = .ok (.invokevirtual 76, 3) := by decide +kernel
theorem dX9_house_43 : decode cX9_house 43 = .ok (.pop, 1) := by decide +kernel
theorem dX9_house_44 : decode cX9_house 44 = .ok (.aload_n 0, 1) := by decide +kernel
theorem dX9_house_45 : decode cX9_house 45 = .ok (.getfield 29, 3) := by decide +kernel
theorem dX9_house_48 : decode cX9_house 48 = .ok (.aload_n 0, 1) := by decide +kernel
theorem dX9_house_49 : decode cX9_house 49 = .ok (.getfield 19, 3) := by decide +kernel
theorem dX9_house_52 : decode cX9_house 52 = .ok (.invokevirtual 84, 3) := by decide +kernel
theorem dX9_house_55 : decode cX9_house 55 = .ok (.aload_n 0, 1) := by decide +kernel
theorem dX9_house_56 : decode cX9_house 56 = .ok (.getfield 36, 3) := by decide +kernel
theorem dX9_house_59 : decode cX9_house 59 = .ok (.iconst 0, 1) := by decide +kernel
theorem dX9_house_60 : decode cX9_house 60 = .ok (.putfield 88, 3) := by decide +kernel
theorem dX9_house_63 : decode cX9_house 63 = .ok (.aload_n 0, 1) := by decide +kernel
theorem dX9_house_64 : decode cX9_house 64 = .ok (.getfield 49, 3) := by decide +kernel
theorem dX9_house_67 : decode cX9_house 67 = .ok (.iconst 0, 1) := by decide +kernel
theorem dX9_house_68 : decode cX9_house 68 = .ok (.putfield 91, 3) := by decide +kernel
theorem dX9_house_71 : decode cX9_house 71 = .ok (.iconst 0, 1) := by decide +kernel
theorem dX9_house_72 : decode cX9_house 72 = .ok (.istore_n 3, 1) := by decide +kernel
theorem dX9_house_73 : decode cX9_house 73 = .ok (.iload_n 3, 1) := by decide +kernel
theorem dX9_house_74 : decode cX9_house 74 = .ok (.iconst 2, 1) := by decide +kernel
theorem dX9_house_75 : decode cX9_house 75 = .ok (.if_icmp .ge 19, 3) := by decide +kernel
theorem dX9_house_78 : decode cX9_house 78 = .ok (.aload_n 0, 1) := by decide +kernel
theorem dX9_house_79 : decode cX9_house 79 = .ok (.getfield 42, 3) := by decide +kernel
theorem dX9_house_82 : decode cX9_house 82 = .ok (.iload_n 3, 1) := by decide +kernel
theorem dX9_house_83 : decode cX9_house 83 = .ok (.aaload, 1) := by decide +kernel
theorem dX9_house_84 : decode cX9_house 84 = .ok (.iconst 0, 1) := by decide +kernel
theorem dX9_house_85 : decode cX9_house 85 = .ok (.putfield 94, 3) := by decide +kernel
theorem dX9_house_88 : decode cX9_house 88 = .ok (.iinc 3 1, 3) := by decide +kernel
theorem dX9_house_91 : decode cX9_house 91 = .ok (.goto (-18), 3) := by decide +kernel
theorem dX9_house_94 : decode cX9_house 94 = .ok (.iload_n 1, 1) := by decide +kernel
theorem dX9_house_95 : decode cX9_house 95 = .ok (.ireturn, 1) := by decide +kernel
theorem dX9_path_0 : decode cX9_path 0 = .ok (.aload_n 0, 1) := by decide +kernel
theorem dX9_path_1 : decode cX9_path 1 = .ok (.getfield 19, 3) := by decide +kernel
theorem dX9_path_4 : decode cX9_path 4 = .ok (.iload_n 1, 1) := by decide +kernel
theorem dX9_path_5 : decode cX9_path 5 = .ok (.invokevirtual 98, 3) := by decide +kernel
theorem dX9_path_8 : decode cX9_path 8 = .ok (.ifCond .ne 5, 3) := by decide +kernel
theorem dX9_path_11 : decode cX9_path 11 = .ok (.iconst (-1), 1) := by decide +kernel
theorem dX9_path_12 : decode cX9_path 12 = .ok (.ireturn, 1) := by decide +kernel
theorem dX9_path_13 : decode cX9_path 13 = .ok (.iload_n 2, 1) := by decide +kernel
theorem dX9_path_14 : decode cX9_path 14 = .ok (.tableswitch 66 0 3 #[30, 40, 50, 60], 30) := by decide +kernel
theorem dX9_path_44 : decode cX9_path 44 = .ok (.aload_n 0, 1) := by decide +kernel
theorem dX9_path_45 : decode cX9_path 45 = .ok (.getfield 19, 3) := by decide +kernel
theorem dX9_path_48 : decode cX9_path 48 = .ok (.getfield 101, 3) := by decide +kernel
theorem dX9_path_51 : decode cX9_path 51 = .ok (.iload_n 1, 1) := by decide +kernel
theorem dX9_path_52 : decode cX9_path 52 = .ok (.iaload, 1) := by decide +kernel
theorem dX9_path_53 : decode cX9_path 53 = .ok (.ireturn, 1) := by decide +kernel
theorem dX9_path_54 : decode cX9_path 54 = .ok (.aload_n 0, 1) := by decide +kernel
theorem dX9_path_55 : decode cX9_path 55 = .ok (.getfield 19, 3) := by decide +kernel
theorem dX9_path_58 : decode cX9_path 58 = .ok (.getfield 105, 3) := by decide +kernel
theorem dX9_path_61 : decode cX9_path 61 = .ok (.iload_n 1, 1) := by decide +kernel
theorem dX9_path_62 : decode cX9_path 62 = .ok (.iaload, 1) := by decide +kernel
theorem dX9_path_63 : decode cX9_path 63 = .ok (.ireturn, 1) := by decide +kernel
theorem dX9_path_64 : decode cX9_path 64 = .ok (.aload_n 0, 1) := by decide +kernel
theorem dX9_path_65 : decode cX9_path 65 = .ok (.getfield 19, 3) := by decide +kernel
theorem dX9_path_68 : decode cX9_path 68 = .ok (.getfield 108, 3) := by decide +kernel
theorem dX9_path_71 : decode cX9_path 71 = .ok (.iload_n 1, 1) := by decide +kernel
theorem dX9_path_72 : decode cX9_path 72 = .ok (.iaload, 1) := by decide +kernel
theorem dX9_path_73 : decode cX9_path 73 = .ok (.ireturn, 1) := by decide +kernel
theorem dX9_path_74 : decode cX9_path 74 = .ok (.aload_n 0, 1) := by decide +kernel
theorem dX9_path_75 : decode cX9_path 75 = .ok (.iload_n 1, 1) := by decide +kernel
theorem dX9_path_76 : decode cX9_path 76 = .ok (.invokevirtual 111, 3) := by decide +kernel
theorem dX9_path_79 : decode cX9_path 79 = .ok (.ireturn, 1) := by decide +kernel
theorem dX9_path_80 : decode cX9_path 80 = .ok (.iconst (-1), 1) := by decide +kernel
theorem dX9_path_81 : decode cX9_path 81 = .ok (.ireturn, 1) := by decide +kernel
theorem dX9_director_0 : decode cX9_director 0 = .ok (.aload_n 0, 1) := by decide +kernel
theorem dX9_director_1 : decode cX9_director 1 = .ok (.getfield 19, 3) := by decide +kernel
theorem dX9_director_4 : decode cX9_director 4 = .ok (.iload_n 1, 1) := by decide +kernel
theorem dX9_director_5 : decode cX9_director 5 = .ok (.invokevirtual 115, 3) := by decide +kernel
theorem dX9_director_8 : decode cX9_director 8 = .ok (.ifCond .ne 5, 3) := by decide +kernel
theorem dX9_director_11 : decode cX9_director 11 = .ok (.iconst (-1), 1) := by decide +kernel
theorem dX9_director_12 : decode cX9_director 12 = .ok (.ireturn, 1) := by decide +kernel
theorem dX9_director_13 : decode cX9_director 13 = .ok (.iload_n 2, 1) := by decide +kernel
theorem dX9_director_14 : decode cX9_director 14 = .ok (.tableswitch 171 0 8 #[50, 60, 70, 80, 90, 100, 110, 120, 142], 50) := by decide +kernel
theorem dX9_director_64 : decode cX9_director 64 = .ok (.aload_n 0, 1) := by decide +kernel
theorem dX9_director_65 : decode cX9_director 65 = .ok (.getfield 19, 3) := by decide +kernel
theorem dX9_director_68 : decode cX9_director 68 = .ok (.getfield 118, 3) := by decide +kernel
theorem dX9_director_71 : decode cX9_director 71 = .ok (.iload_n 1, 1) := by decide +kernel
theorem dX9_director_72 : decode cX9_director 72 = .ok (.iaload, 1) := by decide +kernel
theorem dX9_director_73 : decode cX9_director 73 = .ok (.ireturn, 1) := by decide +kernel
theorem dX9_director_74 : decode cX9_director 74 = .ok (.aload_n 0, 1) := by decide +kernel
theorem dX9_director_75 : decode cX9_director 75 = .ok (.getfield 29, 3) := by decide +kernel
theorem dX9_director_78 : decode cX9_director 78 = .ok (.getfield 121, 3) := by decide +kernel
theorem dX9_director_81 : decode cX9_director 81 = .ok (.iload_n 1, 1) := by decide +kernel
theorem dX9_director_82 : decode cX9_director 82 = .ok (.iaload, 1) := by decide +kernel
theorem dX9_director_83 : decode cX9_director 83 = .ok (.ireturn, 1) := by decide +kernel
theorem dX9_director_84 : decode cX9_director 84 = .ok (.aload_n 0, 1) := by decide +kernel
theorem dX9_director_85 : decode cX9_director 85 = .ok (.getfield 19, 3) := by decide +kernel
theorem dX9_director_88 : decode cX9_director 88 = .ok (.getfield 124, 3) := by decide +kernel
theorem dX9_director_91 : decode cX9_director 91 = .ok (.iload_n 1, 1) := by decide +kernel
theorem dX9_director_92 : decode cX9_director 92 = .ok (.iaload, 1) := by decide +kernel
theorem dX9_director_93 : decode cX9_director 93 = .ok (.ireturn, 1) := by decide +kernel
theorem dX9_director_94 : decode cX9_director 94 = .ok (.aload_n 0, 1) := by decide +kernel
theorem dX9_director_95 : decode cX9_director 95 = .ok (.getfield 29, 3) := by decide +kernel
theorem dX9_director_98 : decode cX9_director 98 = .ok (.getfield 127, 3) := by decide +kernel
theorem dX9_director_101 : decode cX9_director 101 = .ok (.iload_n 1, 1) := by decide +kernel
theorem dX9_director_102 : decode cX9_director 102 = .ok (.iaload, 1) := by decide +kernel
theorem dX9_director_103 : decode cX9_director 103 = .ok (.ireturn, 1) := by decide +kernel
theorem dX9_director_104 : decode cX9_director 104 = .ok (.aload_n 0, 1) := by decide +kernel
theorem dX9_director_105 : decode cX9_director 105 = .ok (.getfield 29, 3) := by decide +kernel
theorem dX9_director_108 : decode cX9_director 108 = .ok (.getfield 130, 3) := by decide +kernel
theorem dX9_director_111 : decode cX9_director 111 = .ok (.iload_n 1, 1) := by decide +kernel
theorem dX9_director_112 : decode cX9_director 112 = .ok (.iaload, 1) := by decide +kernel
theorem dX9_director_113 : decode cX9_director 113 = .ok (.ireturn, 1) := by decide +kernel
theorem dX9_director_114 : decode cX9_director 114 = .ok (.aload_n 0, 1) := by decide +kernel
theorem dX9_director_115 : decode cX9_director 115 = .ok (.getfield 29, 3) := by decide +kernel
theorem dX9_director_118 : decode cX9_director 118 = .ok (.getfield 133, 3) := by decide +kernel
theorem dX9_director_121 : decode cX9_director 121 = .ok (.iload_n 1, 1) := by decide +kernel
theorem dX9_director_122 : decode cX9_director 122 = .ok (.iaload, 1) := by decide +kernel
theorem dX9_director_123 : decode cX9_director 123 = .ok (.ireturn, 1) := by decide +kernel
theorem dX9_director_124 : decode cX9_director 124 = .ok (.aload_n 0, 1) := by decide +kernel
theorem dX9_director_125 : decode cX9_director 125 = .ok (.getfield 19, 3) := by decide +kernel
theorem dX9_director_128 : decode cX9_director 128 = .ok (.getfield 136, 3) := by decide +kernel
theorem dX9_director_131 : decode cX9_director 131 = .ok (.iload_n 1, 1) := by decide +kernel
theorem dX9_director_132 : decode cX9_director 132 = .ok (.iaload, 1) := by decide +kernel
theorem dX9_director_133 : decode cX9_director 133 = .ok (.ireturn, 1) := by decide +kernel
theorem dX9_director_134 : decode cX9_director 134 = .ok (.aload_n 0, 1) := by decide +kernel
theorem dX9_director_135 : decode cX9_director 135 = .ok (.getfield 19, 3) := by decide +kernel
theorem dX9_director_138 : decode cX9_director 138 = .ok (.aload_n 0, 1) := by decide +kernel
theorem dX9_director_139 : decode cX9_director 139 = .ok (.getfield 29, 3) := by decide +kernel
theorem dX9_director_142 : decode cX9_director 142 = .ok (.getfield 127, 3) := by decide +kernel
theorem dX9_director_145 : decode cX9_director 145 = .ok (.iload_n 1, 1) := by decide +kernel
theorem dX9_director_146 : decode cX9_director 146 = .ok (.iaload, 1) := by decide +kernel
theorem dX9_director_147 : decode cX9_director 147 = .ok (.aload_n 0, 1) := by decide +kernel
theorem dX9_director_148 : decode cX9_director 148 = .ok (.iload_n 1, 1) := by decide +kernel
theorem dX9_director_149 : decode cX9_director 149 = .ok (.invokevirtual 139, 3) := by decide +kernel
theorem dX9_director_152 : decode cX9_director 152 = .ok (.invokevirtual 142, 3) := by decide +kernel
theorem dX9_director_155 : decode cX9_director 155 = .ok (.ireturn, 1) := by decide +kernel
theorem dX9_director_156 : decode cX9_director 156 = .ok (.aload_n 0, 1) := by decide +kernel
theorem dX9_director_157 : decode cX9_director 157 = .ok (.getfield 19, 3) := by decide +kernel
theorem dX9_director_160 : decode cX9_director 160 = .ok (.getfield 118, 3) := by decide +kernel
theorem dX9_director_163 : decode cX9_director 163 = .ok (.iload_n 1, 1) := by decide +kernel
theorem dX9_director_164 : decode cX9_director 164 = .ok (.iaload, 1) := by decide +kernel
theorem dX9_director_165 : decode cX9_director 165 = .ok (.iconst 2, 1) := by decide +kernel
theorem dX9_director_166 : decode cX9_director 166 = .ok (.aload_n 0, 1) := by decide +kernel
theorem dX9_director_167 : decode cX9_director 167 = .ok (.getfield 29, 3) := by decide +kernel
theorem dX9_director_170 : decode cX9_director 170 = .ok (.getfield 121, 3) := by decide +kernel
theorem dX9_director_173 : decode cX9_director 173 = .ok (.iload_n 1, 1) := by decide +kernel
theorem dX9_director_174 : decode cX9_director 174 = .ok (.iaload, 1) := by decide +kernel
theorem dX9_director_175 : decode cX9_director 175 = .ok (.imul, 1) := by decide +kernel
theorem dX9_director_176 : decode cX9_director 176 = .ok (.if_icmp .lt 7, 3) := by decide +kernel
theorem dX9_director_179 : decode cX9_director 179 = .ok (.iconst 1, 1) := by decide +kernel
theorem dX9_director_180 : decode cX9_director 180 = .ok (.goto 4, 3) := by decide +kernel
theorem dX9_director_183 : decode cX9_director 183 = .ok (.iconst 0, 1) := by decide +kernel
theorem dX9_director_184 : decode cX9_director 184 = .ok (.ireturn, 1) := by decide +kernel
theorem dX9_director_185 : decode cX9_director 185 = .ok (.iconst (-1), 1) := by decide +kernel
theorem dX9_director_186 : decode cX9_director 186 = .ok (.ireturn, 1) := by decide +kernel
theorem dX9_child_0 : decode cX9_child 0 = .ok (.aload_n 0, 1) := by decide +kernel
theorem dX9_child_1 : decode cX9_child 1 = .ok (.getfield 19, 3) := by decide +kernel
theorem dX9_child_4 : decode cX9_child 4 = .ok (.iload_n 1, 1) := by decide +kernel
theorem dX9_child_5 : decode cX9_child 5 = .ok (.invokevirtual 146, 3) := by decide +kernel
theorem dX9_child_8 : decode cX9_child 8 = .ok (.ifCond .ne 5, 3) := by decide +kernel
theorem dX9_child_11 : decode cX9_child 11 = .ok (.iconst (-1), 1) := by decide +kernel
theorem dX9_child_12 : decode cX9_child 12 = .ok (.ireturn, 1) := by decide +kernel
theorem dX9_child_13 : decode cX9_child 13 = .ok (.iload_n 2, 1) := by decide +kernel
theorem dX9_child_14 : decode cX9_child 14 = .ok (.lookupswitch 46 #[(0, 26), (1, 36)], 26) := by decide +kernel
theorem dX9_child_40 : decode cX9_child 40 = .ok (.aload_n 0, 1) := by decide +kernel
theorem dX9_child_41 : decode cX9_child 41 = .ok (.getfield 19, 3) := by decide +kernel
theorem dX9_child_44 : decode cX9_child 44 = .ok (.getfield 149, 3) := by decide +kernel
theorem dX9_child_47 : decode cX9_child 47 = .ok (.iload_n 1, 1) := by decide +kernel
theorem dX9_child_48 : decode cX9_child 48 = .ok (.iaload, 1) := by decide +kernel
theorem dX9_child_49 : decode cX9_child 49 = .ok (.ireturn, 1) := by decide +kernel
theorem dX9_child_50 : decode cX9_child 50 = .ok (.aload_n 0, 1) := by decide +kernel
theorem dX9_child_51 : decode cX9_child 51 = .ok (.getfield 29, 3) := by decide +kernel
theorem dX9_child_54 : decode cX9_child 54 = .ok (.getfield 152, 3) := by decide +kernel
theorem dX9_child_57 : decode cX9_child 57 = .ok (.iload_n 1, 1) := by decide +kernel
theorem dX9_child_58 : decode cX9_child 58 = .ok (.iaload, 1) := by decide +kernel
theorem dX9_child_59 : decode cX9_child 59 = .ok (.ireturn, 1) := by decide +kernel
theorem dX9_child_60 : decode cX9_child 60 = .ok (.iconst (-1), 1) := by decide +kernel
theorem dX9_child_61 : decode cX9_child 61 = .ok (.ireturn, 1) := by decide +kernel
theorem dX9_goes_0 : decode cX9_goes 0 = .ok (.aload_n 0, 1) := by decide +kernel
theorem dX9_goes_1 : decode cX9_goes 1 = .ok (.getfield 19, 3) := by decide +kernel
theorem dX9_goes_4 : decode cX9_goes 4 = .ok (.iload_n 1, 1) := by decide +kernel
theorem dX9_goes_5 : decode cX9_goes 5 = .ok (.invokevirtual 115, 3) := by decide +kernel
theorem dX9_goes_8 : decode cX9_goes 8 = .ok (.ifCond .eq 14, 3) := by decide +kernel
theorem dX9_goes_11 : decode cX9_goes 11 = .ok (.aload_n 0, 1) := by decide +kernel
theorem dX9_goes_12 : decode cX9_goes 12 = .ok (.getfield 19, 3) := by decide +kernel
theorem dX9_goes_15 : decode cX9_goes 15 = .ok (.iload_n 2, 1) := by decide +kernel
theorem dX9_goes_16 : decode cX9_goes 16 = .ok (.invokevirtual 98, 3) := by decide +kernel
theorem dX9_goes_19 : decode cX9_goes 19 = .ok (.ifCond .ne 5, 3) := by decide +kernel
theorem dX9_goes_22 : decode cX9_goes 22 = .ok (.iconst (-1), 1) := by decide +kernel
theorem dX9_goes_23 : decode cX9_goes 23 = .ok (.ireturn, 1) := by decide +kernel
theorem dX9_goes_24 : decode cX9_goes 24 = .ok (.aload_n 0, 1) := by decide +kernel
theorem dX9_goes_25 : decode cX9_goes 25 = .ok (.getfield 19, 3) := by decide +kernel
theorem dX9_goes_28 : decode cX9_goes 28 = .ok (.iload_n 2, 1) := by decide +kernel
theorem dX9_goes_29 : decode cX9_goes 29 = .ok (.aload_n 0, 1) := by decide +kernel
theorem dX9_goes_30 : decode cX9_goes 30 = .ok (.getfield 29, 3) := by decide +kernel
theorem dX9_goes_33 : decode cX9_goes 33 = .ok (.getfield 127, 3) := by decide +kernel
theorem dX9_goes_36 : decode cX9_goes 36 = .ok (.iload_n 1, 1) := by decide +kernel
theorem dX9_goes_37 : decode cX9_goes 37 = .ok (.iaload, 1) := by decide +kernel
theorem dX9_goes_38 : decode cX9_goes 38 = .ok (.invokevirtual 155, 3) := by decide +kernel
theorem dX9_goes_41 : decode cX9_goes 41 = .ok (.istore_n 3, 1) := by decide +kernel
theorem dX9_goes_42 : decode cX9_goes 42 = .ok (.iload_n 3, 1) := by decide +kernel
theorem dX9_goes_43 : decode cX9_goes 43 = .ok (.ifCond .lt 12, 3) := by decide +kernel
theorem dX9_goes_46 : decode cX9_goes 46 = .ok (.aload_n 0, 1) := by decide +kernel
theorem dX9_goes_47 : decode cX9_goes 47 = .ok (.iload_n 1, 1) := by decide +kernel
theorem dX9_goes_48 : decode cX9_goes 48 = .ok (.iload_n 2, 1) := by decide +kernel
theorem dX9_goes_49 : decode cX9_goes 49 = .ok (.invokevirtual 158, 3) := by decide +kernel
theorem dX9_goes_52 : decode cX9_goes 52 = .ok (.ifCond .ne 6, 3) := by decide +kernel
theorem dX9_goes_55 : decode cX9_goes 55 = .ok (.bipush (-2), 2) := by decide +kernel
theorem dX9_goes_57 : decode cX9_goes 57 = .ok (.ireturn, 1) := by decide +kernel
theorem dX9_goes_58 : decode cX9_goes 58 = .ok (.aload_n 0, 1) := by decide +kernel
theorem dX9_goes_59 : decode cX9_goes 59 = .ok (.getfield 36, 3) := by decide +kernel
theorem dX9_goes_62 : decode cX9_goes 62 = .ok (.aload_n 0, 1) := by decide +kernel
theorem dX9_goes_63 : decode cX9_goes 63 = .ok (.getfield 29, 3) := by decide +kernel
theorem dX9_goes_66 : decode cX9_goes 66 = .ok (.invokevirtual 162, 3) := by decide +kernel
theorem dX9_goes_69 : decode cX9_goes 69 = .ok (.aload_n 0, 1) := by decide +kernel
theorem dX9_goes_70 : decode cX9_goes 70 = .ok (.getfield 29, 3) := by decide +kernel
theorem dX9_goes_73 : decode cX9_goes 73 = .ok (.getfield 127, 3) := by decide +kernel
theorem dX9_goes_76 : decode cX9_goes 76 = .ok (.iload_n 1, 1) := by decide +kernel
theorem dX9_goes_77 : decode cX9_goes 77 = .ok (.iload_n 3, 1) := by decide +kernel
theorem dX9_goes_78 : decode cX9_goes 78 = .ok (.iastore, 1) := by decide +kernel
theorem dX9_goes_79 : decode cX9_goes 79 = .ok (.aload_n 0, 1) := by decide +kernel
theorem dX9_goes_80 : decode cX9_goes 80 = .ok (.getfield 29, 3) := by decide +kernel
theorem dX9_goes_83 : decode cX9_goes 83 = .ok (.getfield 130, 3) := by decide +kernel
theorem dX9_goes_86 : decode cX9_goes 86 = .ok (.iload_n 1, 1) := by decide +kernel
theorem dX9_goes_87 : decode cX9_goes 87 = .ok (.sipush 9999, 3) := by decide +kernel
theorem dX9_goes_90 : decode cX9_goes 90 = .ok (.aload_n 0, 1) := by decide +kernel
theorem dX9_goes_91 : decode cX9_goes 91 = .ok (.getfield 29, 3) := by decide +kernel
theorem dX9_goes_94 : decode cX9_goes 94 = .ok (.getfield 130, 3) := by decide +kernel
theorem dX9_goes_97 : decode cX9_goes 97 = .ok (.iload_n 1, 1) := by decide +kernel
theorem dX9_goes_98 : decode cX9_goes 98 = .ok (.iaload, 1) := by decide +kernel
theorem dX9_goes_99 : decode cX9_goes 99 = .ok (.aload_n 0, 1) := by decide +kernel
theorem dX9_goes_100 : decode cX9_goes 100 = .ok (.getfield 29, 3) := by decide +kernel
theorem dX9_goes_103 : decode cX9_goes 103 = .ok (.getfield 121, 3) := by decide +kernel
theorem dX9_goes_106 : decode cX9_goes 106 = .ok (.iload_n 1, 1) := by decide +kernel
theorem dX9_goes_107 : decode cX9_goes 107 = .ok (.iaload, 1) := by decide +kernel
theorem dX9_goes_108 : decode cX9_goes 108 = .ok (.aload_n 0, 1) := by decide +kernel
theorem dX9_goes_109 : decode cX9_goes 109 = .ok (.getfield 19, 3) := by decide +kernel
theorem dX9_goes_112 : decode cX9_goes 112 = .ok (.getfield 108, 3) := by decide +kernel
theorem dX9_goes_115 : decode cX9_goes 115 = .ok (.iload_n 2, 1) := by decide +kernel
theorem dX9_goes_116 : decode cX9_goes 116 = .ok (.iaload, 1) := by decide +kernel
theorem dX9_goes_117 : decode cX9_goes 117 = .ok (.imul, 1) := by decide +kernel
theorem dX9_goes_118 : decode cX9_goes 118 = .ok (.iadd, 1) := by decide +kernel
theorem dX9_goes_119 : decode cX9_goes 119 = .ok (.invokestatic 166, 3) := by decide +kernel
theorem dX9_goes_122 : decode cX9_goes 122 = .ok (.iastore, 1) := by decide +kernel
theorem dX9_goes_123 : decode cX9_goes 123 = .ok (.iload_n 3, 1) := by decide +kernel
theorem dX9_goes_124 : decode cX9_goes 124 = .ok (.ireturn, 1) := by decide +kernel
theorem dX9_rests_0 : decode cX9_rests 0 = .ok (.aload_n 0, 1) := by decide +kernel
theorem dX9_rests_1 : decode cX9_rests 1 = .ok (.getfield 19, 3) := by decide +kernel
theorem dX9_rests_4 : decode cX9_rests 4 = .ok (.iload_n 1, 1) := by decide +kernel
theorem dX9_rests_5 : decode cX9_rests 5 = .ok (.invokevirtual 115, 3) := by decide +kernel
theorem dX9_rests_8 : decode cX9_rests 8 = .ok (.ifCond .ne 5, 3) := by decide +kernel
theorem dX9_rests_11 : decode cX9_rests 11 = .ok (.iconst (-1), 1) := by decide +kernel
theorem dX9_rests_12 : decode cX9_rests 12 = .ok (.ireturn, 1) := by decide +kernel
theorem dX9_rests_13 : decode cX9_rests 13 = .ok (.aload_n 0, 1) := by decide +kernel
theorem dX9_rests_14 : decode cX9_rests 14 = .ok (.getfield 29, 3) := by decide +kernel
theorem dX9_rests_17 : decode cX9_rests 17 = .ok (.getfield 130, 3) := by decide +kernel
theorem dX9_rests_20 : decode cX9_rests 20 = .ok (.iload_n 1, 1) := by decide +kernel
theorem dX9_rests_21 : decode cX9_rests 21 = .ok (.iaload, 1) := by decide +kernel
theorem dX9_rests_22 : decode cX9_rests 22 = .ok (.istore_n 2, 1) := by decide +kernel
theorem dX9_rests_23 : decode cX9_rests 23 = .ok (.iload_n 2, 1) := by decide +kernel
theorem dX9_rests_24 : decode cX9_rests 24 = .ok (.ifCond .ne 6, 3) := by decide +kernel
theorem dX9_rests_27 : decode cX9_rests 27 = .ok (.bipush (-2), 2) := by decide +kernel
theorem dX9_rests_29 : decode cX9_rests 29 = .ok (.ireturn, 1) := by decide +kernel
theorem dX9_rests_30 : decode cX9_rests 30 = .ok (.aload_n 0, 1) := by decide +kernel
theorem dX9_rests_31 : decode cX9_rests 31 = .ok (.getfield 36, 3) := by decide +kernel
theorem dX9_rests_34 : decode cX9_rests 34 = .ok (.aload_n 0, 1) := by decide +kernel
theorem dX9_rests_35 : decode cX9_rests 35 = .ok (.getfield 29, 3) := by decide +kernel
theorem dX9_rests_38 : decode cX9_rests 38 = .ok (.invokevirtual 162, 3) := by decide +kernel
theorem dX9_rests_41 : decode cX9_rests 41 = .ok (.aload_n 0, 1) := by decide +kernel
theorem dX9_rests_42 : decode cX9_rests 42 = .ok (.getfield 29, 3) := by decide +kernel
theorem dX9_rests_45 : decode cX9_rests 45 = .ok (.getfield 130, 3) := by decide +kernel
theorem dX9_rests_48 : decode cX9_rests 48 = .ok (.iload_n 1, 1) := by decide +kernel
theorem dX9_rests_49 : decode cX9_rests 49 = .ok (.iconst 0, 1) := by decide +kernel
theorem dX9_rests_50 : decode cX9_rests 50 = .ok (.iastore, 1) := by decide +kernel
theorem dX9_rests_51 : decode cX9_rests 51 = .ok (.iload_n 2, 1) := by decide +kernel
theorem dX9_rests_52 : decode cX9_rests 52 = .ok (.ireturn, 1) := by decide +kernel
theorem dX9_offends_0 : decode cX9_offends 0 = .ok (.aload_n 0, 1) := by decide +kernel
theorem dX9_offends_1 : decode cX9_offends 1 = .ok (.getfield 19, 3) := by decide +kernel
theorem dX9_offends_4 : decode cX9_offends 4 = .ok (.iload_n 1, 1) := by decide +kernel
theorem dX9_offends_5 : decode cX9_offends 5 = .ok (.invokevirtual 115, 3) := by decide +kernel
theorem dX9_offends_8 : decode cX9_offends 8 = .ok (.ifCond .eq 25, 3) := by decide +kernel
theorem dX9_offends_11 : decode cX9_offends 11 = .ok (.aload_n 0, 1) := by decide +kernel
theorem dX9_offends_12 : decode cX9_offends 12 = .ok (.getfield 19, 3) := by decide +kernel
theorem dX9_offends_15 : decode cX9_offends 15 = .ok (.iload_n 2, 1) := by decide +kernel
theorem dX9_offends_16 : decode cX9_offends 16 = .ok (.invokevirtual 146, 3) := by decide +kernel
theorem dX9_offends_19 : decode cX9_offends 19 = .ok (.ifCond .eq 14, 3) := by decide +kernel
theorem dX9_offends_22 : decode cX9_offends 22 = .ok (.iload_n 3, 1) := by decide +kernel
theorem dX9_offends_23 : decode cX9_offends 23 = .ok (.iconst 1, 1) := by decide +kernel
theorem dX9_offends_24 : decode cX9_offends 24 = .ok (.if_icmp .lt 9, 3) := by decide +kernel
theorem dX9_offends_27 : decode cX9_offends 27 = .ok (.iload_n 3, 1) := by decide +kernel
theorem dX9_offends_28 : decode cX9_offends 28 = .ok (.bipush 9, 2) := by decide +kernel
theorem dX9_offends_30 : decode cX9_offends 30 = .ok (.if_icmp .le 5, 3) := by decide +kernel
theorem dX9_offends_33 : decode cX9_offends 33 = .ok (.iconst (-1), 1) := by decide +kernel
theorem dX9_offends_34 : decode cX9_offends 34 = .ok (.ireturn, 1) := by decide +kernel
theorem dX9_offends_35 : decode cX9_offends 35 = .ok (.aload_n 0, 1) := by decide +kernel
theorem dX9_offends_36 : decode cX9_offends 36 = .ok (.getfield 36, 3) := by decide +kernel
theorem dX9_offends_39 : decode cX9_offends 39 = .ok (.aload_n 0, 1) := by decide +kernel
theorem dX9_offends_40 : decode cX9_offends 40 = .ok (.getfield 29, 3) := by decide +kernel
theorem dX9_offends_43 : decode cX9_offends 43 = .ok (.invokevirtual 162, 3) := by decide +kernel
theorem dX9_offends_46 : decode cX9_offends 46 = .ok (.aload_n 0, 1) := by decide +kernel
theorem dX9_offends_47 : decode cX9_offends 47 = .ok (.getfield 29, 3) := by decide +kernel
theorem dX9_offends_50 : decode cX9_offends 50 = .ok (.getfield 152, 3) := by decide +kernel
theorem dX9_offends_53 : decode cX9_offends 53 = .ok (.iload_n 2, 1) := by decide +kernel
theorem dX9_offends_54 : decode cX9_offends 54 = .ok (.dup2, 1) := by decide +kernel
theorem dX9_offends_55 : decode cX9_offends 55 = .ok (.iaload, 1) := by decide +kernel
theorem dX9_offends_56 : decode cX9_offends 56 = .ok (.iload_n 3, 1) := by decide +kernel
theorem dX9_offends_57 : decode cX9_offends 57 = .ok (.iadd, 1) := by decide +kernel
theorem dX9_offends_58 : decode cX9_offends 58 = .ok (.iastore, 1) := by decide +kernel
theorem dX9_offends_59 : decode cX9_offends 59 = .ok (.aload_n 0, 1) := by decide +kernel
theorem dX9_offends_60 : decode cX9_offends 60 = .ok (.getfield 29, 3) := by decide +kernel
theorem dX9_offends_63 : decode cX9_offends 63 = .ok (.getfield 152, 3) := by decide +kernel
theorem dX9_offends_66 : decode cX9_offends 66 = .ok (.iload_n 2, 1) := by decide +kernel
theorem dX9_offends_67 : decode cX9_offends 67 = .ok (.iaload, 1) := by decide +kernel
theorem dX9_offends_68 : decode cX9_offends 68 = .ok (.aload_n 0, 1) := by decide +kernel
theorem dX9_offends_69 : decode cX9_offends 69 = .ok (.getfield 19, 3) := by decide +kernel
theorem dX9_offends_72 : decode cX9_offends 72 = .ok (.getfield 149, 3) := by decide +kernel
theorem dX9_offends_75 : decode cX9_offends 75 = .ok (.iload_n 2, 1) := by decide +kernel
theorem dX9_offends_76 : decode cX9_offends 76 = .ok (.iaload, 1) := by decide +kernel
theorem dX9_offends_77 : decode cX9_offends 77 = .ok (.if_icmp .lt 12, 3) := by decide +kernel
theorem dX9_offends_80 : decode cX9_offends 80 = .ok (.aload_n 0, 1) := by decide +kernel
theorem dX9_offends_81 : decode cX9_offends 81 = .ok (.getfield 29, 3) := by decide +kernel
theorem dX9_offends_84 : decode cX9_offends 84 = .ok (.iload_n 1, 1) := by decide +kernel
theorem dX9_offends_85 : decode cX9_offends 85 = .ok (.iload_n 2, 1) := by decide +kernel
theorem dX9_offends_86 : decode cX9_offends 86 = .ok (.invokevirtual 171, 3) := by decide +kernel
theorem dX9_offends_89 : decode cX9_offends 89 = .ok (.aload_n 0, 1) := by decide +kernel
theorem dX9_offends_90 : decode cX9_offends 90 = .ok (.getfield 29, 3) := by decide +kernel
theorem dX9_offends_93 : decode cX9_offends 93 = .ok (.getfield 152, 3) := by decide +kernel
theorem dX9_offends_96 : decode cX9_offends 96 = .ok (.iload_n 2, 1) := by decide +kernel
theorem dX9_offends_97 : decode cX9_offends 97 = .ok (.iaload, 1) := by decide +kernel
theorem dX9_offends_98 : decode cX9_offends 98 = .ok (.ireturn, 1) := by decide +kernel
theorem dX9_shifts_0 : decode cX9_shifts 0 = .ok (.aload_n 0, 1) := by decide +kernel
theorem dX9_shifts_1 : decode cX9_shifts 1 = .ok (.getfield 19, 3) := by decide +kernel
theorem dX9_shifts_4 : decode cX9_shifts 4 = .ok (.iload_n 1, 1) := by decide +kernel
theorem dX9_shifts_5 : decode cX9_shifts 5 = .ok (.invokevirtual 115, 3) := by decide +kernel
theorem dX9_shifts_8 : decode cX9_shifts 8 = .ok (.ifCond .eq 19, 3) := by decide +kernel
theorem dX9_shifts_11 : decode cX9_shifts 11 = .ok (.aload_n 0, 1) := by decide +kernel
theorem dX9_shifts_12 : decode cX9_shifts 12 = .ok (.getfield 19, 3) := by decide +kernel
theorem dX9_shifts_15 : decode cX9_shifts 15 = .ok (.iload_n 2, 1) := by decide +kernel
theorem dX9_shifts_16 : decode cX9_shifts 16 = .ok (.invokevirtual 115, 3) := by decide +kernel
theorem dX9_shifts_19 : decode cX9_shifts 19 = .ok (.ifCond .eq 8, 3) := by decide +kernel
theorem dX9_shifts_22 : decode cX9_shifts 22 = .ok (.iload_n 1, 1) := by decide +kernel
theorem dX9_shifts_23 : decode cX9_shifts 23 = .ok (.iload_n 2, 1) := by decide +kernel
theorem dX9_shifts_24 : decode cX9_shifts 24 = .ok (.if_icmp .ne 5, 3) := by decide +kernel
theorem dX9_shifts_27 : decode cX9_shifts 27 = .ok (.iconst (-1), 1) := by decide +kernel
theorem dX9_shifts_28 : decode cX9_shifts 28 = .ok (.ireturn, 1) := by decide +kernel
theorem dX9_shifts_29 : decode cX9_shifts 29 = .ok (.aload_n 0, 1) := by decide +kernel
theorem dX9_shifts_30 : decode cX9_shifts 30 = .ok (.getfield 29, 3) := by decide +kernel
theorem dX9_shifts_33 : decode cX9_shifts 33 = .ok (.getfield 127, 3) := by decide +kernel
theorem dX9_shifts_36 : decode cX9_shifts 36 = .ok (.iload_n 1, 1) := by decide +kernel
theorem dX9_shifts_37 : decode cX9_shifts 37 = .ok (.iaload, 1) := by decide +kernel
theorem dX9_shifts_38 : decode cX9_shifts 38 = .ok (.aload_n 0, 1) := by decide +kernel
theorem dX9_shifts_39 : decode cX9_shifts 39 = .ok (.getfield 29, 3) := by decide +kernel
theorem dX9_shifts_42 : decode cX9_shifts 42 = .ok (.getfield 127, 3) := by decide +kernel
theorem dX9_shifts_45 : decode cX9_shifts 45 = .ok (.iload_n 2, 1) := by decide +kernel
theorem dX9_shifts_46 : decode cX9_shifts 46 = .ok (.iaload, 1) := by decide +kernel
theorem dX9_shifts_47 : decode cX9_shifts 47 = .ok (.if_icmp .ne 30, 3) := by decide +kernel
theorem dX9_shifts_50 : decode cX9_shifts 50 = .ok (.aload_n 0, 1) := by decide +kernel
theorem dX9_shifts_51 : decode cX9_shifts 51 = .ok (.getfield 29, 3) := by decide +kernel
theorem dX9_shifts_54 : decode cX9_shifts 54 = .ok (.getfield 121, 3) := by decide +kernel
theorem dX9_shifts_57 : decode cX9_shifts 57 = .ok (.iload_n 1, 1) := by decide +kernel
theorem dX9_shifts_58 : decode cX9_shifts 58 = .ok (.iaload, 1) := by decide +kernel
theorem dX9_shifts_59 : decode cX9_shifts 59 = .ok (.iconst 1, 1) := by decide +kernel
theorem dX9_shifts_60 : decode cX9_shifts 60 = .ok (.if_icmp .lt 17, 3) := by decide +kernel
theorem dX9_shifts_63 : decode cX9_shifts 63 = .ok (.aload_n 0, 1) := by decide +kernel
theorem dX9_shifts_64 : decode cX9_shifts 64 = .ok (.getfield 29, 3) := by decide +kernel
theorem dX9_shifts_67 : decode cX9_shifts 67 = .ok (.getfield 121, 3) := by decide +kernel
theorem dX9_shifts_70 : decode cX9_shifts 70 = .ok (.iload_n 2, 1) := by decide +kernel
theorem dX9_shifts_71 : decode cX9_shifts 71 = .ok (.iaload, 1) := by decide +kernel
theorem dX9_shifts_72 : decode cX9_shifts 72 = .ok (.bipush 99, 2) := by decide +kernel
theorem dX9_shifts_74 : decode cX9_shifts 74 = .ok (.if_icmp .lt 6, 3) := by decide +kernel
theorem dX9_shifts_77 : decode cX9_shifts 77 = .ok (.bipush (-2), 2) := by decide +kernel
theorem dX9_shifts_79 : decode cX9_shifts 79 = .ok (.ireturn, 1) := by decide +kernel
theorem dX9_shifts_80 : decode cX9_shifts 80 = .ok (.aload_n 0, 1) := by decide +kernel
theorem dX9_shifts_81 : decode cX9_shifts 81 = .ok (.getfield 36, 3) := by decide +kernel
theorem dX9_shifts_84 : decode cX9_shifts 84 = .ok (.aload_n 0, 1) := by decide +kernel
theorem dX9_shifts_85 : decode cX9_shifts 85 = .ok (.getfield 29, 3) := by decide +kernel
theorem dX9_shifts_88 : decode cX9_shifts 88 = .ok (.invokevirtual 162, 3) := by decide +kernel
theorem dX9_shifts_91 : decode cX9_shifts 91 = .ok (.aload_n 0, 1) := by decide +kernel
theorem dX9_shifts_92 : decode cX9_shifts 92 = .ok (.getfield 29, 3) := by decide +kernel
theorem dX9_shifts_95 : decode cX9_shifts 95 = .ok (.getfield 121, 3) := by decide +kernel
theorem dX9_shifts_98 : decode cX9_shifts 98 = .ok (.iload_n 1, 1) := by decide +kernel
theorem dX9_shifts_99 : decode cX9_shifts 99 = .ok (.dup2, 1) := by decide +kernel
theorem dX9_shifts_100 : decode cX9_shifts 100 = .ok (.iaload, 1) := by decide +kernel
theorem dX9_shifts_101 : decode cX9_shifts 101 = .ok (.iconst 1, 1) := by decide +kernel
theorem dX9_shifts_102 : decode cX9_shifts 102 = .ok (.isub, 1) := by decide +kernel
theorem dX9_shifts_103 : decode cX9_shifts 103 = .ok (.iastore, 1) := by decide +kernel
theorem dX9_shifts_104 : decode cX9_shifts 104 = .ok (.aload_n 0, 1) := by decide +kernel
theorem dX9_shifts_105 : decode cX9_shifts 105 = .ok (.getfield 29, 3) := by decide +kernel
theorem dX9_shifts_108 : decode cX9_shifts 108 = .ok (.getfield 121, 3) := by decide +kernel
theorem dX9_shifts_111 : decode cX9_shifts 111 = .ok (.iload_n 2, 1) := by decide +kernel
theorem dX9_shifts_112 : decode cX9_shifts 112 = .ok (.dup2, 1) := by decide +kernel
theorem dX9_shifts_113 : decode cX9_shifts 113 = .ok (.iaload, 1) := by decide +kernel
theorem dX9_shifts_114 : decode cX9_shifts 114 = .ok (.iconst 1, 1) := by decide +kernel
theorem dX9_shifts_115 : decode cX9_shifts 115 = .ok (.iadd, 1) := by decide +kernel
theorem dX9_shifts_116 : decode cX9_shifts 116 = .ok (.iastore, 1) := by decide +kernel
theorem dX9_shifts_117 : decode cX9_shifts 117 = .ok (.aload_n 0, 1) := by decide +kernel
theorem dX9_shifts_118 : decode cX9_shifts 118 = .ok (.getfield 29, 3) := by decide +kernel
theorem dX9_shifts_121 : decode cX9_shifts 121 = .ok (.getfield 121, 3) := by decide +kernel
theorem dX9_shifts_124 : decode cX9_shifts 124 = .ok (.iload_n 2, 1) := by decide +kernel
theorem dX9_shifts_125 : decode cX9_shifts 125 = .ok (.iaload, 1) := by decide +kernel
theorem dX9_shifts_126 : decode cX9_shifts 126 = .ok (.ireturn, 1) := by decide +kernel
theorem dX9_calls_0 : decode cX9_calls 0 = .ok (.aload_n 0, 1) := by decide +kernel
theorem dX9_calls_1 : decode cX9_calls 1 = .ok (.getfield 19, 3) := by decide +kernel
theorem dX9_calls_4 : decode cX9_calls 4 = .ok (.iload_n 1, 1) := by decide +kernel
theorem dX9_calls_5 : decode cX9_calls 5 = .ok (.invokevirtual 175, 3) := by decide +kernel
theorem dX9_calls_8 : decode cX9_calls 8 = .ok (.ifCond .ne 5, 3) := by decide +kernel
theorem dX9_calls_11 : decode cX9_calls 11 = .ok (.iconst (-1), 1) := by decide +kernel
theorem dX9_calls_12 : decode cX9_calls 12 = .ok (.ireturn, 1) := by decide +kernel
theorem dX9_calls_13 : decode cX9_calls 13 = .ok (.aload_n 0, 1) := by decide +kernel
theorem dX9_calls_14 : decode cX9_calls 14 = .ok (.iload_n 1, 1) := by decide +kernel
theorem dX9_calls_15 : decode cX9_calls 15 = .ok (.invokevirtual 178, 3) := by decide +kernel
theorem dX9_calls_18 : decode cX9_calls 18 = .ok (.istore_n 2, 1) := by decide +kernel
theorem dX9_calls_19 : decode cX9_calls 19 = .ok (.iload_n 2, 1) := by decide +kernel
theorem dX9_calls_20 : decode cX9_calls 20 = .ok (.aload_n 0, 1) := by decide +kernel
theorem dX9_calls_21 : decode cX9_calls 21 = .ok (.getfield 29, 3) := by decide +kernel
theorem dX9_calls_24 : decode cX9_calls 24 = .ok (.getfield 181, 3) := by decide +kernel
theorem dX9_calls_27 : decode cX9_calls 27 = .ok (.iconst (-1), 1) := by decide +kernel
theorem dX9_calls_28 : decode cX9_calls 28 = .ok (.ixor, 1) := by decide +kernel
theorem dX9_calls_29 : decode cX9_calls 29 = .ok (.iand, 1) := by decide +kernel
theorem dX9_calls_30 : decode cX9_calls 30 = .ok (.ifCond .ne 6, 3) := by decide +kernel
theorem dX9_calls_33 : decode cX9_calls 33 = .ok (.bipush (-2), 2) := by decide +kernel
theorem dX9_calls_35 : decode cX9_calls 35 = .ok (.ireturn, 1) := by decide +kernel
theorem dX9_calls_36 : decode cX9_calls 36 = .ok (.aload_n 0, 1) := by decide +kernel
theorem dX9_calls_37 : decode cX9_calls 37 = .ok (.getfield 36, 3) := by decide +kernel
theorem dX9_calls_40 : decode cX9_calls 40 = .ok (.aload_n 0, 1) := by decide +kernel
theorem dX9_calls_41 : decode cX9_calls 41 = .ok (.getfield 29, 3) := by decide +kernel
theorem dX9_calls_44 : decode cX9_calls 44 = .ok (.invokevirtual 162, 3) := by decide +kernel
theorem dX9_calls_47 : decode cX9_calls 47 = .ok (.aload_n 0, 1) := by decide +kernel
theorem dX9_calls_48 : decode cX9_calls 48 = .ok (.getfield 29, 3) := by decide +kernel
theorem dX9_calls_51 : decode cX9_calls 51 = .ok (.aload_n 0, 1) := by decide +kernel
theorem dX9_calls_52 : decode cX9_calls 52 = .ok (.getfield 19, 3) := by decide +kernel
theorem dX9_calls_55 : decode cX9_calls 55 = .ok (.aload_n 0, 1) := by decide +kernel
theorem dX9_calls_56 : decode cX9_calls 56 = .ok (.getfield 29, 3) := by decide +kernel
theorem dX9_calls_59 : decode cX9_calls 59 = .ok (.getfield 181, 3) := by decide +kernel
theorem dX9_calls_62 : decode cX9_calls 62 = .ok (.iload_n 2, 1) := by decide +kernel
theorem dX9_calls_63 : decode cX9_calls 63 = .ok (.ior, 1) := by decide +kernel
theorem dX9_calls_64 : decode cX9_calls 64 = .ok (.invokevirtual 184, 3) := by decide +kernel
theorem dX9_calls_67 : decode cX9_calls 67 = .ok (.putfield 181, 3) := by decide +kernel
theorem dX9_calls_70 : decode cX9_calls 70 = .ok (.iconst 0, 1) := by decide +kernel
theorem dX9_calls_71 : decode cX9_calls 71 = .ok (.istore_n 3, 1) := by decide +kernel
theorem dX9_calls_72 : decode cX9_calls 72 = .ok (.iload_n 3, 1) := by decide +kernel
theorem dX9_calls_73 : decode cX9_calls 73 = .ok (.aload_n 0, 1) := by decide +kernel
theorem dX9_calls_74 : decode cX9_calls 74 = .ok (.getfield 19, 3) := by decide +kernel
theorem dX9_calls_77 : decode cX9_calls 77 = .ok (.getfield 187, 3) := by decide +kernel
theorem dX9_calls_80 : decode cX9_calls 80 = .ok (.if_icmp .ge 33, 3) := by decide +kernel
theorem dX9_calls_83 : decode cX9_calls 83 = .ok (.aload_n 0, 1) := by decide +kernel
theorem dX9_calls_84 : decode cX9_calls 84 = .ok (.getfield 29, 3) := by decide +kernel
theorem dX9_calls_87 : decode cX9_calls 87 = .ok (.getfield 181, 3) := by decide +kernel
theorem dX9_calls_90 : decode cX9_calls 90 = .ok (.iload_n 3, 1) := by decide +kernel
theorem dX9_calls_91 : decode cX9_calls 91 = .ok (.invokestatic 190, 3) := by decide +kernel
theorem dX9_calls_94 : decode cX9_calls 94 = .ok (.ifCond .eq 13, 3) := by decide +kernel
theorem dX9_calls_97 : decode cX9_calls 97 = .ok (.aload_n 0, 1) := by decide +kernel
theorem dX9_calls_98 : decode cX9_calls 98 = .ok (.getfield 29, 3) := by decide +kernel
theorem dX9_calls_101 : decode cX9_calls 101 = .ok (.getfield 121, 3) := by decide +kernel
theorem dX9_calls_104 : decode cX9_calls 104 = .ok (.iload_n 3, 1) := by decide +kernel
theorem dX9_calls_105 : decode cX9_calls 105 = .ok (.iconst 0, 1) := by decide +kernel
theorem dX9_calls_106 : decode cX9_calls 106 = .ok (.iastore, 1) := by decide +kernel
theorem dX9_calls_107 : decode cX9_calls 107 = .ok (.iinc 3 1, 3) := by decide +kernel
theorem dX9_calls_110 : decode cX9_calls 110 = .ok (.goto (-38), 3) := by decide +kernel
theorem dX9_calls_113 : decode cX9_calls 113 = .ok (.aload_n 0, 1) := by decide +kernel
theorem dX9_calls_114 : decode cX9_calls 114 = .ok (.getfield 29, 3) := by decide +kernel
theorem dX9_calls_117 : decode cX9_calls 117 = .ok (.getfield 181, 3) := by decide +kernel
theorem dX9_calls_120 : decode cX9_calls 120 = .ok (.ireturn, 1) := by decide +kernel
theorem dX9_undo_0 : decode cX9_undo 0 = .ok (.aload_n 0, 1) := by decide +kernel
theorem dX9_undo_1 : decode cX9_undo 1 = .ok (.getfield 36, 3) := by decide +kernel
theorem dX9_undo_4 : decode cX9_undo 4 = .ok (.getfield 88, 3) := by decide +kernel
theorem dX9_undo_7 : decode cX9_undo 7 = .ok (.ifCond .ne 6, 3) := by decide +kernel
theorem dX9_undo_10 : decode cX9_undo 10 = .ok (.bipush (-2), 2) := by decide +kernel
theorem dX9_undo_12 : decode cX9_undo 12 = .ok (.ireturn, 1) := by decide +kernel
theorem dX9_undo_13 : decode cX9_undo 13 = .ok (.aload_n 0, 1) := by decide +kernel
theorem dX9_undo_14 : decode cX9_undo 14 = .ok (.getfield 36, 3) := by decide +kernel
theorem dX9_undo_17 : decode cX9_undo 17 = .ok (.aload_n 0, 1) := by decide +kernel
theorem dX9_undo_18 : decode cX9_undo 18 = .ok (.getfield 29, 3) := by decide +kernel
theorem dX9_undo_21 : decode cX9_undo 21 = .ok (.invokevirtual 193, 3) := by decide +kernel
theorem dX9_undo_24 : decode cX9_undo 24 = .ok (.aload_n 0, 1) := by decide +kernel
theorem dX9_undo_25 : decode cX9_undo 25 = .ok (.getfield 36, 3) := by decide +kernel
theorem dX9_undo_28 : decode cX9_undo 28 = .ok (.getfield 88, 3) := by decide +kernel
theorem dX9_undo_31 : decode cX9_undo 31 = .ok (.ireturn, 1) := by decide +kernel
theorem dX9_now_0 : decode cX9_now 0 = .ok (.iload_n 1, 1) := by decide +kernel
theorem dX9_now_1 : decode cX9_now 1 = .ok (.tableswitch 118 0 4 #[35, 43, 74, 105, 113], 35) := by decide +kernel
theorem dX9_now_36 : decode cX9_now 36 = .ok (.aload_n 0, 1) := by decide +kernel
theorem dX9_now_37 : decode cX9_now 37 = .ok (.getfield 29, 3) := by decide +kernel
theorem dX9_now_40 : decode cX9_now 40 = .ok (.getfield 181, 3) := by decide +kernel
theorem dX9_now_43 : decode cX9_now 43 = .ok (.ireturn, 1) := by decide +kernel
theorem dX9_now_44 : decode cX9_now 44 = .ok (.aload_n 0, 1) := by decide +kernel
theorem dX9_now_45 : decode cX9_now 45 = .ok (.getfield 56, 3) := by decide +kernel
theorem dX9_now_48 : decode cX9_now 48 = .ok (.aload_n 0, 1) := by decide +kernel
theorem dX9_now_49 : decode cX9_now 49 = .ok (.getfield 19, 3) := by decide +kernel
theorem dX9_now_52 : decode cX9_now 52 = .ok (.aload_n 0, 1) := by decide +kernel
theorem dX9_now_53 : decode cX9_now 53 = .ok (.getfield 29, 3) := by decide +kernel
theorem dX9_now_56 : decode cX9_now 56 = .ok (.invokevirtual 196, 3) := by decide +kernel
theorem dX9_now_59 : decode cX9_now 59 = .ok (.ifCond .eq 13, 3) := by decide +kernel
theorem dX9_now_62 : decode cX9_now 62 = .ok (.aload_n 0, 1) := by decide +kernel
theorem dX9_now_63 : decode cX9_now 63 = .ok (.getfield 56, 3) := by decide +kernel
theorem dX9_now_66 : decode cX9_now 66 = .ok (.getfield 200, 3) := by decide +kernel
theorem dX9_now_69 : decode cX9_now 69 = .ok (.goto 5, 3) := by decide +kernel
theorem dX9_now_72 : decode cX9_now 72 = .ok (.bipush (-9), 2) := by decide +kernel
theorem dX9_now_74 : decode cX9_now 74 = .ok (.ireturn, 1) := by decide +kernel
theorem dX9_now_75 : decode cX9_now 75 = .ok (.aload_n 0, 1) := by decide +kernel
theorem dX9_now_76 : decode cX9_now 76 = .ok (.getfield 56, 3) := by decide +kernel
theorem dX9_now_79 : decode cX9_now 79 = .ok (.aload_n 0, 1) := by decide +kernel
theorem dX9_now_80 : decode cX9_now 80 = .ok (.getfield 19, 3) := by decide +kernel
theorem dX9_now_83 : decode cX9_now 83 = .ok (.aload_n 0, 1) := by decide +kernel
theorem dX9_now_84 : decode cX9_now 84 = .ok (.getfield 29, 3) := by decide +kernel
theorem dX9_now_87 : decode cX9_now 87 = .ok (.invokevirtual 196, 3) := by decide +kernel
theorem dX9_now_90 : decode cX9_now 90 = .ok (.ifCond .eq 13, 3) := by decide +kernel
theorem dX9_now_93 : decode cX9_now 93 = .ok (.aload_n 0, 1) := by decide +kernel
theorem dX9_now_94 : decode cX9_now 94 = .ok (.getfield 56, 3) := by decide +kernel
theorem dX9_now_97 : decode cX9_now 97 = .ok (.getfield 203, 3) := by decide +kernel
theorem dX9_now_100 : decode cX9_now 100 = .ok (.goto 5, 3) := by decide +kernel
theorem dX9_now_103 : decode cX9_now 103 = .ok (.bipush (-9), 2) := by decide +kernel
theorem dX9_now_105 : decode cX9_now 105 = .ok (.ireturn, 1) := by decide +kernel
theorem dX9_now_106 : decode cX9_now 106 = .ok (.aload_n 0, 1) := by decide +kernel
theorem dX9_now_107 : decode cX9_now 107 = .ok (.getfield 19, 3) := by decide +kernel
theorem dX9_now_110 : decode cX9_now 110 = .ok (.invokevirtual 206, 3) := by decide +kernel
theorem dX9_now_113 : decode cX9_now 113 = .ok (.ireturn, 1) := by decide +kernel
theorem dX9_now_114 : decode cX9_now 114 = .ok (.aload_n 0, 1) := by decide +kernel
theorem dX9_now_115 : decode cX9_now 115 = .ok (.invokevirtual 209, 3) := by decide +kernel
theorem dX9_now_118 : decode cX9_now 118 = .ok (.ireturn, 1) := by decide +kernel
theorem dX9_now_119 : decode cX9_now 119 = .ok (.iconst (-1), 1) := by decide +kernel
theorem dX9_now_120 : decode cX9_now 120 = .ok (.ireturn, 1) := by decide +kernel
theorem dX9_way_0 : decode cX9_way 0 = .ok (.aload_n 0, 1) := by decide +kernel
theorem dX9_way_1 : decode cX9_way 1 = .ok (.getfield 19, 3) := by decide +kernel
theorem dX9_way_4 : decode cX9_way 4 = .ok (.iload_n 1, 1) := by decide +kernel
theorem dX9_way_5 : decode cX9_way 5 = .ok (.invokevirtual 115, 3) := by decide +kernel
theorem dX9_way_8 : decode cX9_way 8 = .ok (.ifCond .eq 23, 3) := by decide +kernel
theorem dX9_way_11 : decode cX9_way 11 = .ok (.aload_n 0, 1) := by decide +kernel
theorem dX9_way_12 : decode cX9_way 12 = .ok (.getfield 19, 3) := by decide +kernel
theorem dX9_way_15 : decode cX9_way 15 = .ok (.iload_n 2, 1) := by decide +kernel
theorem dX9_way_16 : decode cX9_way 16 = .ok (.invokevirtual 175, 3) := by decide +kernel
theorem dX9_way_19 : decode cX9_way 19 = .ok (.ifCond .eq 12, 3) := by decide +kernel
theorem dX9_way_22 : decode cX9_way 22 = .ok (.iload_n 3, 1) := by decide +kernel
theorem dX9_way_23 : decode cX9_way 23 = .ok (.ifCond .lt 8, 3) := by decide +kernel
theorem dX9_way_26 : decode cX9_way 26 = .ok (.iload_n 3, 1) := by decide +kernel
theorem dX9_way_27 : decode cX9_way 27 = .ok (.iconst 1, 1) := by decide +kernel
theorem dX9_way_28 : decode cX9_way 28 = .ok (.if_icmp .le 5, 3) := by decide +kernel
theorem dX9_way_31 : decode cX9_way 31 = .ok (.iconst (-1), 1) := by decide +kernel
theorem dX9_way_32 : decode cX9_way 32 = .ok (.ireturn, 1) := by decide +kernel
theorem dX9_way_33 : decode cX9_way 33 = .ok (.aload_n 0, 1) := by decide +kernel
theorem dX9_way_34 : decode cX9_way 34 = .ok (.getfield 56, 3) := by decide +kernel
theorem dX9_way_37 : decode cX9_way 37 = .ok (.aload_n 0, 1) := by decide +kernel
theorem dX9_way_38 : decode cX9_way 38 = .ok (.getfield 19, 3) := by decide +kernel
theorem dX9_way_41 : decode cX9_way 41 = .ok (.aload_n 0, 1) := by decide +kernel
theorem dX9_way_42 : decode cX9_way 42 = .ok (.getfield 29, 3) := by decide +kernel
theorem dX9_way_45 : decode cX9_way 45 = .ok (.getfield 127, 3) := by decide +kernel
theorem dX9_way_48 : decode cX9_way 48 = .ok (.iload_n 1, 1) := by decide +kernel
theorem dX9_way_49 : decode cX9_way 49 = .ok (.iaload, 1) := by decide +kernel
theorem dX9_way_50 : decode cX9_way 50 = .ok (.aload_n 0, 1) := by decide +kernel
theorem dX9_way_51 : decode cX9_way 51 = .ok (.getfield 29, 3) := by decide +kernel
theorem dX9_way_54 : decode cX9_way 54 = .ok (.getfield 121, 3) := by decide +kernel
theorem dX9_way_57 : decode cX9_way 57 = .ok (.iload_n 1, 1) := by decide +kernel
theorem dX9_way_58 : decode cX9_way 58 = .ok (.iaload, 1) := by decide +kernel
theorem dX9_way_59 : decode cX9_way 59 = .ok (.aload_n 0, 1) := by decide +kernel
theorem dX9_way_60 : decode cX9_way 60 = .ok (.getfield 19, 3) := by decide +kernel
theorem dX9_way_63 : decode cX9_way 63 = .ok (.getfield 118, 3) := by decide +kernel
theorem dX9_way_66 : decode cX9_way 66 = .ok (.iload_n 1, 1) := by decide +kernel
theorem dX9_way_67 : decode cX9_way 67 = .ok (.iaload, 1) := by decide +kernel
theorem dX9_way_68 : decode cX9_way 68 = .ok (.invokevirtual 212, 3) := by decide +kernel
theorem dX9_way_71 : decode cX9_way 71 = .ok (.aload_n 0, 1) := by decide +kernel
theorem dX9_way_72 : decode cX9_way 72 = .ok (.getfield 56, 3) := by decide +kernel
theorem dX9_way_75 : decode cX9_way 75 = .ok (.iload_n 2, 1) := by decide +kernel
theorem dX9_way_76 : decode cX9_way 76 = .ok (.invokevirtual 216, 3) := by decide +kernel
theorem dX9_way_79 : decode cX9_way 79 = .ok (.ifCond .ne 6, 3) := by decide +kernel
theorem dX9_way_82 : decode cX9_way 82 = .ok (.bipush (-9), 2) := by decide +kernel
theorem dX9_way_84 : decode cX9_way 84 = .ok (.ireturn, 1) := by decide +kernel
theorem dX9_way_85 : decode cX9_way 85 = .ok (.iload_n 3, 1) := by decide +kernel
theorem dX9_way_86 : decode cX9_way 86 = .ok (.ifCond .ne 14, 3) := by decide +kernel
theorem dX9_way_89 : decode cX9_way 89 = .ok (.aload_n 0, 1) := by decide +kernel
theorem dX9_way_90 : decode cX9_way 90 = .ok (.getfield 56, 3) := by decide +kernel
theorem dX9_way_93 : decode cX9_way 93 = .ok (.iload_n 2, 1) := by decide +kernel
theorem dX9_way_94 : decode cX9_way 94 = .ok (.invokevirtual 219, 3) := by decide +kernel
theorem dX9_way_97 : decode cX9_way 97 = .ok (.goto 11, 3) := by decide +kernel
theorem dX9_way_100 : decode cX9_way 100 = .ok (.aload_n 0, 1) := by decide +kernel
theorem dX9_way_101 : decode cX9_way 101 = .ok (.getfield 56, 3) := by decide +kernel
theorem dX9_way_104 : decode cX9_way 104 = .ok (.iload_n 2, 1) := by decide +kernel
theorem dX9_way_105 : decode cX9_way 105 = .ok (.invokevirtual 222, 3) := by decide +kernel
theorem dX9_way_108 : decode cX9_way 108 = .ok (.ireturn, 1) := by decide +kernel
theorem dX9_edge_0 : decode cX9_edge 0 = .ok (.aload_n 0, 1) := by decide +kernel
theorem dX9_edge_1 : decode cX9_edge 1 = .ok (.getfield 19, 3) := by decide +kernel
theorem dX9_edge_4 : decode cX9_edge 4 = .ok (.iload_n 1, 1) := by decide +kernel
theorem dX9_edge_5 : decode cX9_edge 5 = .ok (.invokevirtual 115, 3) := by decide +kernel
theorem dX9_edge_8 : decode cX9_edge 8 = .ok (.ifCond .eq 14, 3) := by decide +kernel
theorem dX9_edge_11 : decode cX9_edge 11 = .ok (.aload_n 0, 1) := by decide +kernel
theorem dX9_edge_12 : decode cX9_edge 12 = .ok (.getfield 19, 3) := by decide +kernel
theorem dX9_edge_15 : decode cX9_edge 15 = .ok (.iload_n 2, 1) := by decide +kernel
theorem dX9_edge_16 : decode cX9_edge 16 = .ok (.invokevirtual 175, 3) := by decide +kernel
theorem dX9_edge_19 : decode cX9_edge 19 = .ok (.ifCond .ne 5, 3) := by decide +kernel
theorem dX9_edge_22 : decode cX9_edge 22 = .ok (.iconst (-1), 1) := by decide +kernel
theorem dX9_edge_23 : decode cX9_edge 23 = .ok (.ireturn, 1) := by decide +kernel
theorem dX9_edge_24 : decode cX9_edge 24 = .ok (.aload_n 0, 1) := by decide +kernel
theorem dX9_edge_25 : decode cX9_edge 25 = .ok (.getfield 29, 3) := by decide +kernel
theorem dX9_edge_28 : decode cX9_edge 28 = .ok (.getfield 127, 3) := by decide +kernel
theorem dX9_edge_31 : decode cX9_edge 31 = .ok (.iload_n 1, 1) := by decide +kernel
theorem dX9_edge_32 : decode cX9_edge 32 = .ok (.iaload, 1) := by decide +kernel
theorem dX9_edge_33 : decode cX9_edge 33 = .ok (.iload_n 2, 1) := by decide +kernel
theorem dX9_edge_34 : decode cX9_edge 34 = .ok (.if_icmp .ne 6, 3) := by decide +kernel
theorem dX9_edge_37 : decode cX9_edge 37 = .ok (.bipush 60, 2) := by decide +kernel
theorem dX9_edge_39 : decode cX9_edge 39 = .ok (.ireturn, 1) := by decide +kernel
theorem dX9_edge_40 : decode cX9_edge 40 = .ok (.aload_n 0, 1) := by decide +kernel
theorem dX9_edge_41 : decode cX9_edge 41 = .ok (.iload_n 1, 1) := by decide +kernel
theorem dX9_edge_42 : decode cX9_edge 42 = .ok (.invokevirtual 139, 3) := by decide +kernel
theorem dX9_edge_45 : decode cX9_edge 45 = .ok (.istore_n 3, 1) := by decide +kernel
theorem dX9_edge_46 : decode cX9_edge 46 = .ok (.iconst 0, 1) := by decide +kernel
theorem dX9_edge_47 : decode cX9_edge 47 = .ok (.istore 4, 2) := by decide +kernel
theorem dX9_edge_49 : decode cX9_edge 49 = .ok (.iload 4, 2) := by decide +kernel
theorem dX9_edge_51 : decode cX9_edge 51 = .ok (.bipush 9, 2) := by decide +kernel
theorem dX9_edge_53 : decode cX9_edge 53 = .ok (.if_icmp .gt 50, 3) := by decide +kernel
theorem dX9_edge_56 : decode cX9_edge 56 = .ok (.iload 4, 2) := by decide +kernel
theorem dX9_edge_58 : decode cX9_edge 58 = .ok (.iload_n 3, 1) := by decide +kernel
theorem dX9_edge_59 : decode cX9_edge 59 = .ok (.if_icmp .gt 44, 3) := by decide +kernel
theorem dX9_edge_62 : decode cX9_edge 62 = .ok (.aload_n 0, 1) := by decide +kernel
theorem dX9_edge_63 : decode cX9_edge 63 = .ok (.getfield 19, 3) := by decide +kernel
theorem dX9_edge_66 : decode cX9_edge 66 = .ok (.aload_n 0, 1) := by decide +kernel
theorem dX9_edge_67 : decode cX9_edge 67 = .ok (.getfield 29, 3) := by decide +kernel
theorem dX9_edge_70 : decode cX9_edge 70 = .ok (.getfield 127, 3) := by decide +kernel
theorem dX9_edge_73 : decode cX9_edge 73 = .ok (.iload_n 1, 1) := by decide +kernel
theorem dX9_edge_74 : decode cX9_edge 74 = .ok (.iaload, 1) := by decide +kernel
theorem dX9_edge_75 : decode cX9_edge 75 = .ok (.iload 4, 2) := by decide +kernel
theorem dX9_edge_77 : decode cX9_edge 77 = .ok (.invokevirtual 142, 3) := by decide +kernel
theorem dX9_edge_80 : decode cX9_edge 80 = .ok (.iload_n 2, 1) := by decide +kernel
theorem dX9_edge_81 : decode cX9_edge 81 = .ok (.invokestatic 190, 3) := by decide +kernel
theorem dX9_edge_84 : decode cX9_edge 84 = .ok (.ifCond .eq 13, 3) := by decide +kernel
theorem dX9_edge_87 : decode cX9_edge 87 = .ok (.bipush 60, 2) := by decide +kernel
theorem dX9_edge_89 : decode cX9_edge 89 = .ok (.iload_n 3, 1) := by decide +kernel
theorem dX9_edge_90 : decode cX9_edge 90 = .ok (.iload 4, 2) := by decide +kernel
theorem dX9_edge_92 : decode cX9_edge 92 = .ok (.isub, 1) := by decide +kernel
theorem dX9_edge_93 : decode cX9_edge 93 = .ok (.invokestatic 166, 3) := by decide +kernel
theorem dX9_edge_96 : decode cX9_edge 96 = .ok (.ireturn, 1) := by decide +kernel
theorem dX9_edge_97 : decode cX9_edge 97 = .ok (.iinc 4 1, 3) := by decide +kernel
theorem dX9_edge_100 : decode cX9_edge 100 = .ok (.goto (-51), 3) := by decide +kernel
theorem dX9_edge_103 : decode cX9_edge 103 = .ok (.bipush (-9), 2) := by decide +kernel
theorem dX9_edge_105 : decode cX9_edge 105 = .ok (.ireturn, 1) := by decide +kernel
theorem dX9_spread_0 : decode cX9_spread 0 = .ok (.iload_n 1, 1) := by decide +kernel
theorem dX9_spread_1 : decode cX9_spread 1 = .ok (.ifCond .lt 14, 3) := by decide +kernel
theorem dX9_spread_4 : decode cX9_spread 4 = .ok (.iload_n 1, 1) := by decide +kernel
theorem dX9_spread_5 : decode cX9_spread 5 = .ok (.aload_n 0, 1) := by decide +kernel
theorem dX9_spread_6 : decode cX9_spread 6 = .ok (.getfield 19, 3) := by decide +kernel
theorem dX9_spread_9 : decode cX9_spread 9 = .ok (.invokevirtual 225, 3) := by decide +kernel
theorem dX9_spread_12 : decode cX9_spread 12 = .ok (.if_icmp .le 5, 3) := by decide +kernel
theorem dX9_spread_15 : decode cX9_spread 15 = .ok (.iconst (-1), 1) := by decide +kernel
theorem dX9_spread_16 : decode cX9_spread 16 = .ok (.ireturn, 1) := by decide +kernel
theorem dX9_spread_17 : decode cX9_spread 17 = .ok (.aload_n 0, 1) := by decide +kernel
theorem dX9_spread_18 : decode cX9_spread 18 = .ok (.getfield 19, 3) := by decide +kernel
theorem dX9_spread_21 : decode cX9_spread 21 = .ok (.iload_n 1, 1) := by decide +kernel
theorem dX9_spread_22 : decode cX9_spread 22 = .ok (.invokevirtual 184, 3) := by decide +kernel
theorem dX9_spread_25 : decode cX9_spread 25 = .ok (.ireturn, 1) := by decide +kernel
theorem dX9_pair_0 : decode cX9_pair 0 = .ok (.iload_n 1, 1) := by decide +kernel
theorem dX9_pair_1 : decode cX9_pair 1 = .ok (.iconst (-1), 1) := by decide +kernel
theorem dX9_pair_2 : decode cX9_pair 2 = .ok (.if_icmp .eq 16, 3) := by decide +kernel
theorem dX9_pair_5 : decode cX9_pair 5 = .ok (.aload_n 0, 1) := by decide +kernel
theorem dX9_pair_6 : decode cX9_pair 6 = .ok (.getfield 19, 3) := by decide +kernel
theorem dX9_pair_9 : decode cX9_pair 9 = .ok (.iload_n 1, 1) := by decide +kernel
theorem dX9_pair_10 : decode cX9_pair 10 = .ok (.invokevirtual 115, 3) := by decide +kernel
theorem dX9_pair_13 : decode cX9_pair 13 = .ok (.ifCond .ne 5, 3) := by decide +kernel
theorem dX9_pair_16 : decode cX9_pair 16 = .ok (.iconst (-1), 1) := by decide +kernel
theorem dX9_pair_17 : decode cX9_pair 17 = .ok (.ireturn, 1) := by decide +kernel
theorem dX9_pair_18 : decode cX9_pair 18 = .ok (.aload_n 0, 1) := by decide +kernel
theorem dX9_pair_19 : decode cX9_pair 19 = .ok (.getfield 63, 3) := by decide +kernel
theorem dX9_pair_22 : decode cX9_pair 22 = .ok (.aload_n 0, 1) := by decide +kernel
theorem dX9_pair_23 : decode cX9_pair 23 = .ok (.getfield 19, 3) := by decide +kernel
theorem dX9_pair_26 : decode cX9_pair 26 = .ok (.aload_n 0, 1) := by decide +kernel
theorem dX9_pair_27 : decode cX9_pair 27 = .ok (.getfield 29, 3) := by decide +kernel
theorem dX9_pair_30 : decode cX9_pair 30 = .ok (.invokevirtual 228, 3) := by decide +kernel
theorem dX9_pair_33 : decode cX9_pair 33 = .ok (.iload_n 1, 1) := by decide +kernel
theorem dX9_pair_34 : decode cX9_pair 34 = .ok (.iconst (-1), 1) := by decide +kernel
theorem dX9_pair_35 : decode cX9_pair 35 = .ok (.if_icmp .ne 13, 3) := by decide +kernel
theorem dX9_pair_38 : decode cX9_pair 38 = .ok (.aload_n 0, 1) := by decide +kernel
theorem dX9_pair_39 : decode cX9_pair 39 = .ok (.getfield 63, 3) := by decide +kernel
theorem dX9_pair_42 : decode cX9_pair 42 = .ok (.getfield 232, 3) := by decide +kernel
theorem dX9_pair_45 : decode cX9_pair 45 = .ok (.goto 12, 3) := by decide +kernel
theorem dX9_pair_48 : decode cX9_pair 48 = .ok (.aload_n 0, 1) := by decide +kernel
theorem dX9_pair_49 : decode cX9_pair 49 = .ok (.getfield 63, 3) := by decide +kernel
theorem dX9_pair_52 : decode cX9_pair 52 = .ok (.getfield 235, 3) := by decide +kernel
theorem dX9_pair_55 : decode cX9_pair 55 = .ok (.iload_n 1, 1) := by decide +kernel
theorem dX9_pair_56 : decode cX9_pair 56 = .ok (.iaload, 1) := by decide +kernel
theorem dX9_pair_57 : decode cX9_pair 57 = .ok (.ireturn, 1) := by decide +kernel
theorem dX9_odds_0 : decode cX9_odds 0 = .ok (.iload_n 1, 1) := by decide +kernel
theorem dX9_odds_1 : decode cX9_odds 1 = .ok (.ifCond .lt 27, 3) := by decide +kernel
theorem dX9_odds_4 : decode cX9_odds 4 = .ok (.iload_n 1, 1) := by decide +kernel
theorem dX9_odds_5 : decode cX9_odds 5 = .ok (.bipush 10, 2) := by decide +kernel
theorem dX9_odds_7 : decode cX9_odds 7 = .ok (.if_icmp .gt 21, 3) := by decide +kernel
theorem dX9_odds_10 : decode cX9_odds 10 = .ok (.iload_n 2, 1) := by decide +kernel
theorem dX9_odds_11 : decode cX9_odds 11 = .ok (.ifCond .lt 17, 3) := by decide +kernel
theorem dX9_odds_14 : decode cX9_odds 14 = .ok (.iload_n 2, 1) := by decide +kernel
theorem dX9_odds_15 : decode cX9_odds 15 = .ok (.iconst 4, 1) := by decide +kernel
theorem dX9_odds_16 : decode cX9_odds 16 = .ok (.if_icmp .gt 12, 3) := by decide +kernel
theorem dX9_odds_19 : decode cX9_odds 19 = .ok (.iload_n 3, 1) := by decide +kernel
theorem dX9_odds_20 : decode cX9_odds 20 = .ok (.ifCond .lt 8, 3) := by decide +kernel
theorem dX9_odds_23 : decode cX9_odds 23 = .ok (.iload_n 3, 1) := by decide +kernel
theorem dX9_odds_24 : decode cX9_odds 24 = .ok (.iconst 1, 1) := by decide +kernel
theorem dX9_odds_25 : decode cX9_odds 25 = .ok (.if_icmp .le 5, 3) := by decide +kernel
theorem dX9_odds_28 : decode cX9_odds 28 = .ok (.iconst (-1), 1) := by decide +kernel
theorem dX9_odds_29 : decode cX9_odds 29 = .ok (.ireturn, 1) := by decide +kernel
theorem dX9_odds_30 : decode cX9_odds 30 = .ok (.aload_n 0, 1) := by decide +kernel
theorem dX9_odds_31 : decode cX9_odds 31 = .ok (.getfield 19, 3) := by decide +kernel
theorem dX9_odds_34 : decode cX9_odds 34 = .ok (.getfield 238, 3) := by decide +kernel
theorem dX9_odds_37 : decode cX9_odds 37 = .ok (.iload_n 2, 1) := by decide +kernel
theorem dX9_odds_38 : decode cX9_odds 38 = .ok (.iload_n 1, 1) := by decide +kernel
theorem dX9_odds_39 : decode cX9_odds 39 = .ok (.invokestatic 241, 3) := by decide +kernel
theorem dX9_odds_42 : decode cX9_odds 42 = .ok (.istore 4, 2) := by decide +kernel
theorem dX9_odds_44 : decode cX9_odds 44 = .ok (.bipush 10, 2) := by decide +kernel
theorem dX9_odds_46 : decode cX9_odds 46 = .ok (.aload_n 0, 1) := by decide +kernel
theorem dX9_odds_47 : decode cX9_odds 47 = .ok (.getfield 19, 3) := by decide +kernel
theorem dX9_odds_50 : decode cX9_odds 50 = .ok (.getfield 238, 3) := by decide +kernel
theorem dX9_odds_53 : decode cX9_odds 53 = .ok (.invokestatic 247, 3) := by decide +kernel
theorem dX9_odds_56 : decode cX9_odds 56 = .ok (.istore 5, 2) := by decide +kernel
theorem dX9_odds_58 : decode cX9_odds 58 = .ok (.iconst 1, 1) := by decide +kernel
theorem dX9_odds_59 : decode cX9_odds 59 = .ok (.iload 4, 2) := by decide +kernel
theorem dX9_odds_61 : decode cX9_odds 61 = .ok (.iload 5, 2) := by decide +kernel
theorem dX9_odds_63 : decode cX9_odds 63 = .ok (.invokestatic 250, 3) := by decide +kernel
theorem dX9_odds_66 : decode cX9_odds 66 = .ok (.invokestatic 253, 3) := by decide +kernel
theorem dX9_odds_69 : decode cX9_odds 69 = .ok (.istore 6, 2) := by decide +kernel
theorem dX9_odds_71 : decode cX9_odds 71 = .ok (.iload_n 3, 1) := by decide +kernel
theorem dX9_odds_72 : decode cX9_odds 72 = .ok (.ifCond .ne 8, 3) := by decide +kernel
theorem dX9_odds_75 : decode cX9_odds 75 = .ok (.iload 4, 2) := by decide +kernel
theorem dX9_odds_77 : decode cX9_odds 77 = .ok (.goto 5, 3) := by decide +kernel
theorem dX9_odds_80 : decode cX9_odds 80 = .ok (.iload 5, 2) := by decide +kernel
theorem dX9_odds_82 : decode cX9_odds 82 = .ok (.iload 6, 2) := by decide +kernel
theorem dX9_odds_84 : decode cX9_odds 84 = .ok (.idiv, 1) := by decide +kernel
theorem dX9_odds_85 : decode cX9_odds 85 = .ok (.ireturn, 1) := by decide +kernel
theorem dX9_hears_0 : decode cX9_hears 0 = .ok (.aload_n 0, 1) := by decide +kernel
theorem dX9_hears_1 : decode cX9_hears 1 = .ok (.getfield 19, 3) := by decide +kernel
theorem dX9_hears_4 : decode cX9_hears 4 = .ok (.iload_n 1, 1) := by decide +kernel
theorem dX9_hears_5 : decode cX9_hears 5 = .ok (.invokevirtual 98, 3) := by decide +kernel
theorem dX9_hears_8 : decode cX9_hears 8 = .ok (.ifCond .eq 12, 3) := by decide +kernel
theorem dX9_hears_11 : decode cX9_hears 11 = .ok (.iload_n 2, 1) := by decide +kernel
theorem dX9_hears_12 : decode cX9_hears 12 = .ok (.ifCond .lt 8, 3) := by decide +kernel
theorem dX9_hears_15 : decode cX9_hears 15 = .ok (.iload_n 2, 1) := by decide +kernel
theorem dX9_hears_16 : decode cX9_hears 16 = .ok (.iconst 1, 1) := by decide +kernel
theorem dX9_hears_17 : decode cX9_hears 17 = .ok (.if_icmp .le 5, 3) := by decide +kernel
theorem dX9_hears_20 : decode cX9_hears 20 = .ok (.iconst (-1), 1) := by decide +kernel
theorem dX9_hears_21 : decode cX9_hears 21 = .ok (.ireturn, 1) := by decide +kernel
theorem dX9_hears_22 : decode cX9_hears 22 = .ok (.aload_n 0, 1) := by decide +kernel
theorem dX9_hears_23 : decode cX9_hears 23 = .ok (.getfield 49, 3) := by decide +kernel
theorem dX9_hears_26 : decode cX9_hears 26 = .ok (.iload_n 1, 1) := by decide +kernel
theorem dX9_hears_27 : decode cX9_hears 27 = .ok (.iload_n 2, 1) := by decide +kernel
theorem dX9_hears_28 : decode cX9_hears 28 = .ok (.invokevirtual 256, 3) := by decide +kernel
theorem dX9_hears_31 : decode cX9_hears 31 = .ok (.ifCond .eq 13, 3) := by decide +kernel
theorem dX9_hears_34 : decode cX9_hears 34 = .ok (.aload_n 0, 1) := by decide +kernel
theorem dX9_hears_35 : decode cX9_hears 35 = .ok (.getfield 49, 3) := by decide +kernel
theorem dX9_hears_38 : decode cX9_hears 38 = .ok (.getfield 91, 3) := by decide +kernel
theorem dX9_hears_41 : decode cX9_hears 41 = .ok (.goto 5, 3) := by decide +kernel
theorem dX9_hears_44 : decode cX9_hears 44 = .ok (.bipush (-3), 2) := by decide +kernel
theorem dX9_hears_46 : decode cX9_hears 46 = .ok (.ireturn, 1) := by decide +kernel
theorem dX9_forget_0 : decode cX9_forget 0 = .ok (.aload_n 0, 1) := by decide +kernel
theorem dX9_forget_1 : decode cX9_forget 1 = .ok (.getfield 49, 3) := by decide +kernel
theorem dX9_forget_4 : decode cX9_forget 4 = .ok (.getfield 91, 3) := by decide +kernel
theorem dX9_forget_7 : decode cX9_forget 7 = .ok (.istore_n 1, 1) := by decide +kernel
theorem dX9_forget_8 : decode cX9_forget 8 = .ok (.aload_n 0, 1) := by decide +kernel
theorem dX9_forget_9 : decode cX9_forget 9 = .ok (.getfield 49, 3) := by decide +kernel
theorem dX9_forget_12 : decode cX9_forget 12 = .ok (.iconst 0, 1) := by decide +kernel
theorem dX9_forget_13 : decode cX9_forget 13 = .ok (.putfield 91, 3) := by decide +kernel
theorem dX9_forget_16 : decode cX9_forget 16 = .ok (.iload_n 1, 1) := by decide +kernel
theorem dX9_forget_17 : decode cX9_forget 17 = .ok (.ireturn, 1) := by decide +kernel
theorem dX9_who_0 : decode cX9_who 0 = .ok (.aload_n 0, 1) := by decide +kernel
theorem dX9_who_1 : decode cX9_who 1 = .ok (.getfield 19, 3) := by decide +kernel
theorem dX9_who_4 : decode cX9_who 4 = .ok (.invokevirtual 225, 3) := by decide +kernel
theorem dX9_who_7 : decode cX9_who 7 = .ok (.istore_n 1, 1) := by decide +kernel
theorem dX9_who_8 : decode cX9_who 8 = .ok (.iconst 0, 1) := by decide +kernel
theorem dX9_who_9 : decode cX9_who 9 = .ok (.istore_n 2, 1) := by decide +kernel
theorem dX9_who_10 : decode cX9_who 10 = .ok (.iload_n 2, 1) := by decide +kernel
theorem dX9_who_11 : decode cX9_who 11 = .ok (.aload_n 0, 1) := by decide +kernel
theorem dX9_who_12 : decode cX9_who 12 = .ok (.getfield 49, 3) := by decide +kernel
theorem dX9_who_15 : decode cX9_who 15 = .ok (.getfield 91, 3) := by decide +kernel
theorem dX9_who_18 : decode cX9_who 18 = .ok (.if_icmp .ge 46, 3) := by decide +kernel
theorem dX9_who_21 : decode cX9_who 21 = .ok (.aload_n 0, 1) := by decide +kernel
theorem dX9_who_22 : decode cX9_who 22 = .ok (.aload_n 0, 1) := by decide +kernel
theorem dX9_who_23 : decode cX9_who 23 = .ok (.getfield 49, 3) := by decide +kernel
theorem dX9_who_26 : decode cX9_who 26 = .ok (.getfield 259, 3) := by decide +kernel
theorem dX9_who_29 : decode cX9_who 29 = .ok (.iload_n 2, 1) := by decide +kernel
theorem dX9_who_30 : decode cX9_who 30 = .ok (.iaload, 1) := by decide +kernel
theorem dX9_who_31 : decode cX9_who 31 = .ok (.invokevirtual 111, 3) := by decide +kernel
theorem dX9_who_34 : decode cX9_who 34 = .ok (.istore_n 3, 1) := by decide +kernel
theorem dX9_who_35 : decode cX9_who 35 = .ok (.iload_n 1, 1) := by decide +kernel
theorem dX9_who_36 : decode cX9_who 36 = .ok (.aload_n 0, 1) := by decide +kernel
theorem dX9_who_37 : decode cX9_who 37 = .ok (.getfield 49, 3) := by decide +kernel
theorem dX9_who_40 : decode cX9_who 40 = .ok (.getfield 262, 3) := by decide +kernel
theorem dX9_who_43 : decode cX9_who 43 = .ok (.iload_n 2, 1) := by decide +kernel
theorem dX9_who_44 : decode cX9_who 44 = .ok (.iaload, 1) := by decide +kernel
theorem dX9_who_45 : decode cX9_who 45 = .ok (.iconst 1, 1) := by decide +kernel
theorem dX9_who_46 : decode cX9_who 46 = .ok (.if_icmp .ne 7, 3) := by decide +kernel
theorem dX9_who_49 : decode cX9_who 49 = .ok (.iload_n 3, 1) := by decide +kernel
theorem dX9_who_50 : decode cX9_who 50 = .ok (.goto 6, 3) := by decide +kernel
theorem dX9_who_53 : decode cX9_who 53 = .ok (.iload_n 3, 1) := by decide +kernel
theorem dX9_who_54 : decode cX9_who 54 = .ok (.iconst (-1), 1) := by decide +kernel
theorem dX9_who_55 : decode cX9_who 55 = .ok (.ixor, 1) := by decide +kernel
theorem dX9_who_56 : decode cX9_who 56 = .ok (.iand, 1) := by decide +kernel
theorem dX9_who_57 : decode cX9_who 57 = .ok (.istore_n 1, 1) := by decide +kernel
theorem dX9_who_58 : decode cX9_who 58 = .ok (.iinc 2 1, 3) := by decide +kernel
theorem dX9_who_61 : decode cX9_who 61 = .ok (.goto (-51), 3) := by decide +kernel
theorem dX9_who_64 : decode cX9_who 64 = .ok (.iload_n 1, 1) := by decide +kernel
theorem dX9_who_65 : decode cX9_who 65 = .ok (.ireturn, 1) := by decide +kernel
theorem dX9_ask_0 : decode cX9_ask 0 = .ok (.aload_n 0, 1) := by decide +kernel
theorem dX9_ask_1 : decode cX9_ask 1 = .ok (.invokevirtual 265, 3) := by decide +kernel
theorem dX9_ask_4 : decode cX9_ask 4 = .ok (.istore_n 1, 1) := by decide +kernel
theorem dX9_ask_5 : decode cX9_ask 5 = .ok (.iload_n 1, 1) := by decide +kernel
theorem dX9_ask_6 : decode cX9_ask 6 = .ok (.invokestatic 268, 3) := by decide +kernel
theorem dX9_ask_9 : decode cX9_ask 9 = .ok (.istore_n 2, 1) := by decide +kernel
theorem dX9_ask_10 : decode cX9_ask 10 = .ok (.bipush (-9), 2) := by decide +kernel
theorem dX9_ask_12 : decode cX9_ask 12 = .ok (.istore_n 3, 1) := by decide +kernel
theorem dX9_ask_13 : decode cX9_ask 13 = .ok (.iload_n 2, 1) := by decide +kernel
theorem dX9_ask_14 : decode cX9_ask 14 = .ok (.istore 4, 2) := by decide +kernel
theorem dX9_ask_16 : decode cX9_ask 16 = .ok (.iconst 0, 1) := by decide +kernel
theorem dX9_ask_17 : decode cX9_ask 17 = .ok (.istore 5, 2) := by decide +kernel
theorem dX9_ask_19 : decode cX9_ask 19 = .ok (.iload 5, 2) := by decide +kernel
theorem dX9_ask_21 : decode cX9_ask 21 = .ok (.aload_n 0, 1) := by decide +kernel
theorem dX9_ask_22 : decode cX9_ask 22 = .ok (.getfield 19, 3) := by decide +kernel
theorem dX9_ask_25 : decode cX9_ask 25 = .ok (.getfield 273, 3) := by decide +kernel
theorem dX9_ask_28 : decode cX9_ask 28 = .ok (.if_icmp .ge 47, 3) := by decide +kernel
theorem dX9_ask_31 : decode cX9_ask 31 = .ok (.iload_n 1, 1) := by decide +kernel
theorem dX9_ask_32 : decode cX9_ask 32 = .ok (.aload_n 0, 1) := by decide +kernel
theorem dX9_ask_33 : decode cX9_ask 33 = .ok (.iload 5, 2) := by decide +kernel
theorem dX9_ask_35 : decode cX9_ask 35 = .ok (.invokevirtual 111, 3) := by decide +kernel
theorem dX9_ask_38 : decode cX9_ask 38 = .ok (.iand, 1) := by decide +kernel
theorem dX9_ask_39 : decode cX9_ask 39 = .ok (.invokestatic 268, 3) := by decide +kernel
theorem dX9_ask_42 : decode cX9_ask 42 = .ok (.istore 6, 2) := by decide +kernel
theorem dX9_ask_44 : decode cX9_ask 44 = .ok (.iload 6, 2) := by decide +kernel
theorem dX9_ask_46 : decode cX9_ask 46 = .ok (.iload_n 2, 1) := by decide +kernel
theorem dX9_ask_47 : decode cX9_ask 47 = .ok (.iload 6, 2) := by decide +kernel
theorem dX9_ask_49 : decode cX9_ask 49 = .ok (.isub, 1) := by decide +kernel
theorem dX9_ask_50 : decode cX9_ask 50 = .ok (.invokestatic 253, 3) := by decide +kernel
theorem dX9_ask_53 : decode cX9_ask 53 = .ok (.istore 7, 2) := by decide +kernel
theorem dX9_ask_55 : decode cX9_ask 55 = .ok (.iload 7, 2) := by decide +kernel
theorem dX9_ask_57 : decode cX9_ask 57 = .ok (.iload 4, 2) := by decide +kernel
theorem dX9_ask_59 : decode cX9_ask 59 = .ok (.if_icmp .ge 10, 3) := by decide +kernel
theorem dX9_ask_62 : decode cX9_ask 62 = .ok (.iload 7, 2) := by decide +kernel
theorem dX9_ask_64 : decode cX9_ask 64 = .ok (.istore 4, 2) := by decide +kernel
theorem dX9_ask_66 : decode cX9_ask 66 = .ok (.iload 5, 2) := by decide +kernel
theorem dX9_ask_68 : decode cX9_ask 68 = .ok (.istore_n 3, 1) := by decide +kernel
theorem dX9_ask_69 : decode cX9_ask 69 = .ok (.iinc 5 1, 3) := by decide +kernel
theorem dX9_ask_72 : decode cX9_ask 72 = .ok (.goto (-53), 3) := by decide +kernel
theorem dX9_ask_75 : decode cX9_ask 75 = .ok (.iload_n 3, 1) := by decide +kernel
theorem dX9_ask_76 : decode cX9_ask 76 = .ok (.ireturn, 1) := by decide +kernel
theorem dX9_mark_0 : decode cX9_mark 0 = .ok (.aload_n 0, 1) := by decide +kernel
theorem dX9_mark_1 : decode cX9_mark 1 = .ok (.getfield 19, 3) := by decide +kernel
theorem dX9_mark_4 : decode cX9_mark 4 = .ok (.iload_n 2, 1) := by decide +kernel
theorem dX9_mark_5 : decode cX9_mark 5 = .ok (.invokevirtual 115, 3) := by decide +kernel
theorem dX9_mark_8 : decode cX9_mark 8 = .ok (.ifCond .ne 7, 3) := by decide +kernel
theorem dX9_mark_11 : decode cX9_mark 11 = .ok (.ldc_w 276, 3) := by decide +kernel
theorem dX9_mark_14 : decode cX9_mark 14 = .ok (.ireturn, 1) := by decide +kernel
theorem dX9_mark_15 : decode cX9_mark 15 = .ok (.iload_n 1, 1) := by decide +kernel
theorem dX9_mark_16 : decode cX9_mark 16 = .ok (.tableswitch 76 0 5 #[40, 46, 52, 58, 64, 70], 40) := by decide +kernel
theorem dX9_mark_56 : decode cX9_mark 56 = .ok (.aload_n 0, 1) := by decide +kernel
theorem dX9_mark_57 : decode cX9_mark 57 = .ok (.iload_n 2, 1) := by decide +kernel
theorem dX9_mark_58 : decode cX9_mark 58 = .ok (.invokevirtual 277, 3) := by decide +kernel
theorem dX9_mark_61 : decode cX9_mark 61 = .ok (.ireturn, 1) := by decide +kernel
theorem dX9_mark_62 : decode cX9_mark 62 = .ok (.aload_n 0, 1) := by decide +kernel
theorem dX9_mark_63 : decode cX9_mark 63 = .ok (.iload_n 2, 1) := by decide +kernel
theorem dX9_mark_64 : decode cX9_mark 64 = .ok (.invokevirtual 280, 3) := by decide +kernel
theorem dX9_mark_67 : decode cX9_mark 67 = .ok (.ireturn, 1) := by decide +kernel
theorem dX9_mark_68 : decode cX9_mark 68 = .ok (.aload_n 0, 1) := by decide +kernel
theorem dX9_mark_69 : decode cX9_mark 69 = .ok (.iload_n 2, 1) := by decide +kernel
theorem dX9_mark_70 : decode cX9_mark 70 = .ok (.invokevirtual 283, 3) := by decide +kernel
theorem dX9_mark_73 : decode cX9_mark 73 = .ok (.ireturn, 1) := by decide +kernel
theorem dX9_mark_74 : decode cX9_mark 74 = .ok (.aload_n 0, 1) := by decide +kernel
theorem dX9_mark_75 : decode cX9_mark 75 = .ok (.iload_n 2, 1) := by decide +kernel
theorem dX9_mark_76 : decode cX9_mark 76 = .ok (.invokevirtual 286, 3) := by decide +kernel
theorem dX9_mark_79 : decode cX9_mark 79 = .ok (.ireturn, 1) := by decide +kernel
theorem dX9_mark_80 : decode cX9_mark 80 = .ok (.aload_n 0, 1) := by decide +kernel
theorem dX9_mark_81 : decode cX9_mark 81 = .ok (.iload_n 2, 1) := by decide +kernel
theorem dX9_mark_82 : decode cX9_mark 82 = .ok (.invokevirtual 289, 3) := by decide +kernel
theorem dX9_mark_85 : decode cX9_mark 85 = .ok (.ireturn, 1) := by decide +kernel
theorem dX9_mark_86 : decode cX9_mark 86 = .ok (.aload_n 0, 1) := by decide +kernel
theorem dX9_mark_87 : decode cX9_mark 87 = .ok (.iload_n 2, 1) := by decide +kernel
theorem dX9_mark_88 : decode cX9_mark 88 = .ok (.invokevirtual 292, 3) := by decide +kernel
theorem dX9_mark_91 : decode cX9_mark 91 = .ok (.ireturn, 1) := by decide +kernel
theorem dX9_mark_92 : decode cX9_mark 92 = .ok (.ldc_w 276, 3) := by decide +kernel
theorem dX9_mark_95 : decode cX9_mark 95 = .ok (.ireturn, 1) := by decide +kernel
theorem dX9_keep_0 : decode cX9_keep 0 = .ok (.iload_n 1, 1) := by decide +kernel
theorem dX9_keep_1 : decode cX9_keep 1 = .ok (.ifCond .lt 8, 3) := by decide +kernel
theorem dX9_keep_4 : decode cX9_keep 4 = .ok (.iload_n 1, 1) := by decide +kernel
theorem dX9_keep_5 : decode cX9_keep 5 = .ok (.iconst 2, 1) := by decide +kernel
theorem dX9_keep_6 : decode cX9_keep 6 = .ok (.if_icmp .lt 5, 3) := by decide +kernel
theorem dX9_keep_9 : decode cX9_keep 9 = .ok (.iconst (-1), 1) := by decide +kernel
theorem dX9_keep_10 : decode cX9_keep 10 = .ok (.ireturn, 1) := by decide +kernel
theorem dX9_keep_11 : decode cX9_keep 11 = .ok (.aload_n 0, 1) := by decide +kernel
theorem dX9_keep_12 : decode cX9_keep 12 = .ok (.getfield 42, 3) := by decide +kernel
theorem dX9_keep_15 : decode cX9_keep 15 = .ok (.iload_n 1, 1) := by decide +kernel
theorem dX9_keep_16 : decode cX9_keep 16 = .ok (.aaload, 1) := by decide +kernel
theorem dX9_keep_17 : decode cX9_keep 17 = .ok (.aload_n 0, 1) := by decide +kernel
theorem dX9_keep_18 : decode cX9_keep 18 = .ok (.getfield 29, 3) := by decide +kernel
theorem dX9_keep_21 : decode cX9_keep 21 = .ok (.aload_n 0, 1) := by decide +kernel
theorem dX9_keep_22 : decode cX9_keep 22 = .ok (.getfield 36, 3) := by decide +kernel
theorem dX9_keep_25 : decode cX9_keep 25 = .ok (.invokevirtual 295, 3) := by decide +kernel
theorem dX9_keep_28 : decode cX9_keep 28 = .ok (.aload_n 0, 1) := by decide +kernel
theorem dX9_keep_29 : decode cX9_keep 29 = .ok (.invokevirtual 209, 3) := by decide +kernel
theorem dX9_keep_32 : decode cX9_keep 32 = .ok (.ireturn, 1) := by decide +kernel
theorem dX9_back_0 : decode cX9_back 0 = .ok (.iload_n 1, 1) := by decide +kernel
theorem dX9_back_1 : decode cX9_back 1 = .ok (.ifCond .lt 8, 3) := by decide +kernel
theorem dX9_back_4 : decode cX9_back 4 = .ok (.iload_n 1, 1) := by decide +kernel
theorem dX9_back_5 : decode cX9_back 5 = .ok (.iconst 2, 1) := by decide +kernel
theorem dX9_back_6 : decode cX9_back 6 = .ok (.if_icmp .lt 5, 3) := by decide +kernel
theorem dX9_back_9 : decode cX9_back 9 = .ok (.iconst (-1), 1) := by decide +kernel
theorem dX9_back_10 : decode cX9_back 10 = .ok (.ireturn, 1) := by decide +kernel
theorem dX9_back_11 : decode cX9_back 11 = .ok (.aload_n 0, 1) := by decide +kernel
theorem dX9_back_12 : decode cX9_back 12 = .ok (.getfield 42, 3) := by decide +kernel
theorem dX9_back_15 : decode cX9_back 15 = .ok (.iload_n 1, 1) := by decide +kernel
theorem dX9_back_16 : decode cX9_back 16 = .ok (.aaload, 1) := by decide +kernel
theorem dX9_back_17 : decode cX9_back 17 = .ok (.getfield 94, 3) := by decide +kernel
theorem dX9_back_20 : decode cX9_back 20 = .ok (.ifCond .ne 6, 3) := by decide +kernel
theorem dX9_back_23 : decode cX9_back 23 = .ok (.bipush (-2), 2) := by decide +kernel
theorem dX9_back_25 : decode cX9_back 25 = .ok (.ireturn, 1) := by decide +kernel
theorem dX9_back_26 : decode cX9_back 26 = .ok (.aload_n 0, 1) := by decide +kernel
theorem dX9_back_27 : decode cX9_back 27 = .ok (.getfield 42, 3) := by decide +kernel
theorem dX9_back_30 : decode cX9_back 30 = .ok (.iload_n 1, 1) := by decide +kernel
theorem dX9_back_31 : decode cX9_back 31 = .ok (.aaload, 1) := by decide +kernel
theorem dX9_back_32 : decode cX9_back 32 = .ok (.aload_n 0, 1) := by decide +kernel
theorem dX9_back_33 : decode cX9_back 33 = .ok (.getfield 29, 3) := by decide +kernel
theorem dX9_back_36 : decode cX9_back 36 = .ok (.aload_n 0, 1) := by decide +kernel
theorem dX9_back_37 : decode cX9_back 37 = .ok (.getfield 36, 3) := by decide +kernel
theorem dX9_back_40 : decode cX9_back 40 = .ok (.invokevirtual 299, 3) := by decide +kernel
theorem dX9_back_43 : decode cX9_back 43 = .ok (.aload_n 0, 1) := by decide +kernel
theorem dX9_back_44 : decode cX9_back 44 = .ok (.invokevirtual 209, 3) := by decide +kernel
theorem dX9_back_47 : decode cX9_back 47 = .ok (.ireturn, 1) := by decide +kernel
theorem dX9_count_0 : decode cX9_count 0 = .ok (.iload_n 1, 1) := by decide +kernel
theorem dX9_count_1 : decode cX9_count 1 = .ok (.tableswitch 99 0 6 #[43, 51, 59, 67, 75, 83, 91], 43) := by decide +kernel
theorem dX9_count_44 : decode cX9_count 44 = .ok (.aload_n 0, 1) := by decide +kernel
theorem dX9_count_45 : decode cX9_count 45 = .ok (.getfield 19, 3) := by decide +kernel
theorem dX9_count_48 : decode cX9_count 48 = .ok (.getfield 302, 3) := by decide +kernel
theorem dX9_count_51 : decode cX9_count 51 = .ok (.ireturn, 1) := by decide +kernel
theorem dX9_count_52 : decode cX9_count 52 = .ok (.aload_n 0, 1) := by decide +kernel
theorem dX9_count_53 : decode cX9_count 53 = .ok (.getfield 19, 3) := by decide +kernel
theorem dX9_count_56 : decode cX9_count 56 = .ok (.getfield 273, 3) := by decide +kernel
theorem dX9_count_59 : decode cX9_count 59 = .ok (.ireturn, 1) := by decide +kernel
theorem dX9_count_60 : decode cX9_count 60 = .ok (.aload_n 0, 1) := by decide +kernel
theorem dX9_count_61 : decode cX9_count 61 = .ok (.getfield 19, 3) := by decide +kernel
theorem dX9_count_64 : decode cX9_count 64 = .ok (.getfield 187, 3) := by decide +kernel
theorem dX9_count_67 : decode cX9_count 67 = .ok (.ireturn, 1) := by decide +kernel
theorem dX9_count_68 : decode cX9_count 68 = .ok (.aload_n 0, 1) := by decide +kernel
theorem dX9_count_69 : decode cX9_count 69 = .ok (.getfield 19, 3) := by decide +kernel
theorem dX9_count_72 : decode cX9_count 72 = .ok (.getfield 238, 3) := by decide +kernel
theorem dX9_count_75 : decode cX9_count 75 = .ok (.ireturn, 1) := by decide +kernel
theorem dX9_count_76 : decode cX9_count 76 = .ok (.aload_n 0, 1) := by decide +kernel
theorem dX9_count_77 : decode cX9_count 77 = .ok (.getfield 49, 3) := by decide +kernel
theorem dX9_count_80 : decode cX9_count 80 = .ok (.getfield 91, 3) := by decide +kernel
theorem dX9_count_83 : decode cX9_count 83 = .ok (.ireturn, 1) := by decide +kernel
theorem dX9_count_84 : decode cX9_count 84 = .ok (.aload_n 0, 1) := by decide +kernel
theorem dX9_count_85 : decode cX9_count 85 = .ok (.getfield 36, 3) := by decide +kernel
theorem dX9_count_88 : decode cX9_count 88 = .ok (.getfield 88, 3) := by decide +kernel
theorem dX9_count_91 : decode cX9_count 91 = .ok (.ireturn, 1) := by decide +kernel
theorem dX9_count_92 : decode cX9_count 92 = .ok (.aload_n 0, 1) := by decide +kernel
theorem dX9_count_93 : decode cX9_count 93 = .ok (.getfield 10, 3) := by decide +kernel
theorem dX9_count_96 : decode cX9_count 96 = .ok (.getfield 72, 3) := by decide +kernel
theorem dX9_count_99 : decode cX9_count 99 = .ok (.ireturn, 1) := by decide +kernel
theorem dX9_count_100 : decode cX9_count 100 = .ok (.iconst (-1), 1) := by decide +kernel
theorem dX9_count_101 : decode cX9_count 101 = .ok (.ireturn, 1) := by decide +kernel
theorem dX9_trace_0 : decode cX9_trace 0 = .ok (.aload_n 0, 1) := by decide +kernel
theorem dX9_trace_1 : decode cX9_trace 1 = .ok (.getfield 305, 3) := by decide +kernel
theorem dX9_trace_4 : decode cX9_trace 4 = .ok (.lreturn, 1) := by decide +kernel
theorem dX9_asDirector_0 : decode cX9_asDirector 0 = .ok (.aload_n 0, 1) := by decide +kernel
theorem dX9_asDirector_1 : decode cX9_asDirector 1 = .ok (.dup, 1) := by decide +kernel
theorem dX9_asDirector_2 : decode cX9_asDirector 2 = .ok (.getfield 305, 3) := by decide +kernel
theorem dX9_asDirector_5 : decode cX9_asDirector 5 = .ok (.lconst 1, 1) := by decide +kernel
theorem dX9_asDirector_6 : decode cX9_asDirector 6 = .ok (.ladd, 1) := by decide +kernel
theorem dX9_asDirector_7 : decode cX9_asDirector 7 = .ok (.putfield 305, 3) := by decide +kernel
theorem dX9_asDirector_10 : decode cX9_asDirector 10 = .ok (.aload_n 0, 1) := by decide +kernel
theorem dX9_asDirector_11 : decode cX9_asDirector 11 = .ok (.getfield 29, 3) := by decide +kernel
theorem dX9_asDirector_14 : decode cX9_asDirector 14 = .ok (.getfield 121, 3) := by decide +kernel
theorem dX9_asDirector_17 : decode cX9_asDirector 17 = .ok (.iload_n 1, 1) := by decide +kernel
theorem dX9_asDirector_18 : decode cX9_asDirector 18 = .ok (.iaload, 1) := by decide +kernel
theorem dX9_asDirector_19 : decode cX9_asDirector 19 = .ok (.ireturn, 1) := by decide +kernel
theorem dX9_asFounder_0 : decode cX9_asFounder 0 = .ok (.aload_n 0, 1) := by decide +kernel
theorem dX9_asFounder_1 : decode cX9_asFounder 1 = .ok (.dup, 1) := by decide +kernel
theorem dX9_asFounder_2 : decode cX9_asFounder 2 = .ok (.getfield 305, 3) := by decide +kernel
theorem dX9_asFounder_5 : decode cX9_asFounder 5 = .ok (.ldc2_w 309, 3) := by decide +kernel
theorem dX9_asFounder_8 : decode cX9_asFounder 8 = .ok (.ladd, 1) := by decide +kernel
theorem dX9_asFounder_9 : decode cX9_asFounder 9 = .ok (.putfield 305, 3) := by decide +kernel
theorem dX9_asFounder_12 : decode cX9_asFounder 12 = .ok (.aload_n 0, 1) := by decide +kernel
theorem dX9_asFounder_13 : decode cX9_asFounder 13 = .ok (.iload_n 1, 1) := by decide +kernel
theorem dX9_asFounder_14 : decode cX9_asFounder 14 = .ok (.invokevirtual 277, 3) := by decide +kernel
theorem dX9_asFounder_17 : decode cX9_asFounder 17 = .ok (.aload_n 0, 1) := by decide +kernel
theorem dX9_asFounder_18 : decode cX9_asFounder 18 = .ok (.getfield 19, 3) := by decide +kernel
theorem dX9_asFounder_21 : decode cX9_asFounder 21 = .ok (.getfield 124, 3) := by decide +kernel
theorem dX9_asFounder_24 : decode cX9_asFounder 24 = .ok (.iload_n 1, 1) := by decide +kernel
theorem dX9_asFounder_25 : decode cX9_asFounder 25 = .ok (.iaload, 1) := by decide +kernel
theorem dX9_asFounder_26 : decode cX9_asFounder 26 = .ok (.iadd, 1) := by decide +kernel
theorem dX9_asFounder_27 : decode cX9_asFounder 27 = .ok (.ireturn, 1) := by decide +kernel
theorem dX9_asChair_0 : decode cX9_asChair 0 = .ok (.aload_n 0, 1) := by decide +kernel
theorem dX9_asChair_1 : decode cX9_asChair 1 = .ok (.dup, 1) := by decide +kernel
theorem dX9_asChair_2 : decode cX9_asChair 2 = .ok (.getfield 305, 3) := by decide +kernel
theorem dX9_asChair_5 : decode cX9_asChair 5 = .ok (.ldc2_w 311, 3) := by decide +kernel
theorem dX9_asChair_8 : decode cX9_asChair 8 = .ok (.ladd, 1) := by decide +kernel
theorem dX9_asChair_9 : decode cX9_asChair 9 = .ok (.putfield 305, 3) := by decide +kernel
theorem dX9_asChair_12 : decode cX9_asChair 12 = .ok (.aload_n 0, 1) := by decide +kernel
theorem dX9_asChair_13 : decode cX9_asChair 13 = .ok (.iload_n 1, 1) := by decide +kernel
theorem dX9_asChair_14 : decode cX9_asChair 14 = .ok (.invokevirtual 277, 3) := by decide +kernel
theorem dX9_asChair_17 : decode cX9_asChair 17 = .ok (.aload_n 0, 1) := by decide +kernel
theorem dX9_asChair_18 : decode cX9_asChair 18 = .ok (.getfield 29, 3) := by decide +kernel
theorem dX9_asChair_21 : decode cX9_asChair 21 = .ok (.getfield 133, 3) := by decide +kernel
theorem dX9_asChair_24 : decode cX9_asChair 24 = .ok (.iload_n 1, 1) := by decide +kernel
theorem dX9_asChair_25 : decode cX9_asChair 25 = .ok (.iaload, 1) := by decide +kernel
theorem dX9_asChair_26 : decode cX9_asChair 26 = .ok (.isub, 1) := by decide +kernel
theorem dX9_asChair_27 : decode cX9_asChair 27 = .ok (.ireturn, 1) := by decide +kernel
theorem dX9_asElder_0 : decode cX9_asElder 0 = .ok (.aload_n 0, 1) := by decide +kernel
theorem dX9_asElder_1 : decode cX9_asElder 1 = .ok (.dup, 1) := by decide +kernel
theorem dX9_asElder_2 : decode cX9_asElder 2 = .ok (.getfield 305, 3) := by decide +kernel
theorem dX9_asElder_5 : decode cX9_asElder 5 = .ok (.ldc2_w 313, 3) := by decide +kernel
theorem dX9_asElder_8 : decode cX9_asElder 8 = .ok (.ladd, 1) := by decide +kernel
theorem dX9_asElder_9 : decode cX9_asElder 9 = .ok (.putfield 305, 3) := by decide +kernel
theorem dX9_asElder_12 : decode cX9_asElder 12 = .ok (.aload_n 0, 1) := by decide +kernel
theorem dX9_asElder_13 : decode cX9_asElder 13 = .ok (.iload_n 1, 1) := by decide +kernel
theorem dX9_asElder_14 : decode cX9_asElder 14 = .ok (.invokevirtual 280, 3) := by decide +kernel
theorem dX9_asElder_17 : decode cX9_asElder 17 = .ok (.iconst 2, 1) := by decide +kernel
theorem dX9_asElder_18 : decode cX9_asElder 18 = .ok (.imul, 1) := by decide +kernel
theorem dX9_asElder_19 : decode cX9_asElder 19 = .ok (.ireturn, 1) := by decide +kernel
theorem dX9_asBursar_0 : decode cX9_asBursar 0 = .ok (.aload_n 0, 1) := by decide +kernel
theorem dX9_asBursar_1 : decode cX9_asBursar 1 = .ok (.dup, 1) := by decide +kernel
theorem dX9_asBursar_2 : decode cX9_asBursar 2 = .ok (.getfield 305, 3) := by decide +kernel
theorem dX9_asBursar_5 : decode cX9_asBursar 5 = .ok (.ldc2_w 315, 3) := by decide +kernel
theorem dX9_asBursar_8 : decode cX9_asBursar 8 = .ok (.ladd, 1) := by decide +kernel
theorem dX9_asBursar_9 : decode cX9_asBursar 9 = .ok (.putfield 305, 3) := by decide +kernel
theorem dX9_asBursar_12 : decode cX9_asBursar 12 = .ok (.aload_n 0, 1) := by decide +kernel
theorem dX9_asBursar_13 : decode cX9_asBursar 13 = .ok (.iload_n 1, 1) := by decide +kernel
theorem dX9_asBursar_14 : decode cX9_asBursar 14 = .ok (.invokevirtual 283, 3) := by decide +kernel
theorem dX9_asBursar_17 : decode cX9_asBursar 17 = .ok (.iload_n 1, 1) := by decide +kernel
theorem dX9_asBursar_18 : decode cX9_asBursar 18 = .ok (.iadd, 1) := by decide +kernel
theorem dX9_asBursar_19 : decode cX9_asBursar 19 = .ok (.ireturn, 1) := by decide +kernel
theorem dX9_asClerk_0 : decode cX9_asClerk 0 = .ok (.aload_n 0, 1) := by decide +kernel
theorem dX9_asClerk_1 : decode cX9_asClerk 1 = .ok (.dup, 1) := by decide +kernel
theorem dX9_asClerk_2 : decode cX9_asClerk 2 = .ok (.getfield 305, 3) := by decide +kernel
theorem dX9_asClerk_5 : decode cX9_asClerk 5 = .ok (.ldc2_w 317, 3) := by decide +kernel
theorem dX9_asClerk_8 : decode cX9_asClerk 8 = .ok (.ladd, 1) := by decide +kernel
theorem dX9_asClerk_9 : decode cX9_asClerk 9 = .ok (.putfield 305, 3) := by decide +kernel
theorem dX9_asClerk_12 : decode cX9_asClerk 12 = .ok (.aload_n 0, 1) := by decide +kernel
theorem dX9_asClerk_13 : decode cX9_asClerk 13 = .ok (.iload_n 1, 1) := by decide +kernel
theorem dX9_asClerk_14 : decode cX9_asClerk 14 = .ok (.invokevirtual 277, 3) := by decide +kernel
theorem dX9_asClerk_17 : decode cX9_asClerk 17 = .ok (.aload_n 0, 1) := by decide +kernel
theorem dX9_asClerk_18 : decode cX9_asClerk 18 = .ok (.getfield 29, 3) := by decide +kernel
theorem dX9_asClerk_21 : decode cX9_asClerk 21 = .ok (.getfield 127, 3) := by decide +kernel
theorem dX9_asClerk_24 : decode cX9_asClerk 24 = .ok (.iload_n 1, 1) := by decide +kernel
theorem dX9_asClerk_25 : decode cX9_asClerk 25 = .ok (.iaload, 1) := by decide +kernel
theorem dX9_asClerk_26 : decode cX9_asClerk 26 = .ok (.iadd, 1) := by decide +kernel
theorem dX9_asClerk_27 : decode cX9_asClerk 27 = .ok (.ireturn, 1) := by decide +kernel
theorem dX9_strengthLeft_0 : decode cX9_strengthLeft 0 = .ok (.aload_n 0, 1) := by decide +kernel
theorem dX9_strengthLeft_1 : decode cX9_strengthLeft 1 = .ok (.getfield 19, 3) := by decide +kernel
theorem dX9_strengthLeft_4 : decode cX9_strengthLeft 4 = .ok (.getfield 118, 3) := by decide +kernel
theorem dX9_strengthLeft_7 : decode cX9_strengthLeft 7 = .ok (.iload_n 1, 1) := by decide +kernel
theorem dX9_strengthLeft_8 : decode cX9_strengthLeft 8 = .ok (.iaload, 1) := by decide +kernel
theorem dX9_strengthLeft_9 : decode cX9_strengthLeft 9 = .ok (.aload_n 0, 1) := by decide +kernel
theorem dX9_strengthLeft_10 : decode cX9_strengthLeft 10 = .ok (.getfield 29, 3) := by decide +kernel
theorem dX9_strengthLeft_13 : decode cX9_strengthLeft 13 = .ok (.getfield 121, 3) := by decide +kernel
theorem dX9_strengthLeft_16 : decode cX9_strengthLeft 16 = .ok (.iload_n 1, 1) := by decide +kernel
theorem dX9_strengthLeft_17 : decode cX9_strengthLeft 17 = .ok (.iaload, 1) := by decide +kernel
theorem dX9_strengthLeft_18 : decode cX9_strengthLeft 18 = .ok (.isub, 1) := by decide +kernel
theorem dX9_strengthLeft_19 : decode cX9_strengthLeft 19 = .ok (.ireturn, 1) := by decide +kernel
theorem dX9_mayGo_0 : decode cX9_mayGo 0 = .ok (.aload_n 0, 1) := by decide +kernel
theorem dX9_mayGo_1 : decode cX9_mayGo 1 = .ok (.getfield 19, 3) := by decide +kernel
theorem dX9_mayGo_4 : decode cX9_mayGo 4 = .ok (.getfield 108, 3) := by decide +kernel
theorem dX9_mayGo_7 : decode cX9_mayGo 7 = .ok (.iload_n 2, 1) := by decide +kernel
theorem dX9_mayGo_8 : decode cX9_mayGo 8 = .ok (.iaload, 1) := by decide +kernel
theorem dX9_mayGo_9 : decode cX9_mayGo 9 = .ok (.aload_n 0, 1) := by decide +kernel
theorem dX9_mayGo_10 : decode cX9_mayGo 10 = .ok (.iload_n 1, 1) := by decide +kernel
theorem dX9_mayGo_11 : decode cX9_mayGo 11 = .ok (.invokevirtual 139, 3) := by decide +kernel
theorem dX9_mayGo_14 : decode cX9_mayGo 14 = .ok (.if_icmp .gt 7, 3) := by decide +kernel
theorem dX9_mayGo_17 : decode cX9_mayGo 17 = .ok (.iconst 1, 1) := by decide +kernel
theorem dX9_mayGo_18 : decode cX9_mayGo 18 = .ok (.goto 4, 3) := by decide +kernel
theorem dX9_mayGo_21 : decode cX9_mayGo 21 = .ok (.iconst 0, 1) := by decide +kernel
theorem dX9_mayGo_22 : decode cX9_mayGo 22 = .ok (.ireturn, 1) := by decide +kernel
theorem dX9_whoMayGo_0 : decode cX9_whoMayGo 0 = .ok (.iconst 0, 1) := by decide +kernel
theorem dX9_whoMayGo_1 : decode cX9_whoMayGo 1 = .ok (.istore_n 2, 1) := by decide +kernel
theorem dX9_whoMayGo_2 : decode cX9_whoMayGo 2 = .ok (.iconst 0, 1) := by decide +kernel
theorem dX9_whoMayGo_3 : decode cX9_whoMayGo 3 = .ok (.istore_n 3, 1) := by decide +kernel
theorem dX9_whoMayGo_4 : decode cX9_whoMayGo 4 = .ok (.iload_n 3, 1) := by decide +kernel
theorem dX9_whoMayGo_5 : decode cX9_whoMayGo 5 = .ok (.aload_n 0, 1) := by decide +kernel
theorem dX9_whoMayGo_6 : decode cX9_whoMayGo 6 = .ok (.getfield 19, 3) := by decide +kernel
theorem dX9_whoMayGo_9 : decode cX9_whoMayGo 9 = .ok (.getfield 187, 3) := by decide +kernel
theorem dX9_whoMayGo_12 : decode cX9_whoMayGo 12 = .ok (.if_icmp .ge 24, 3) := by decide +kernel
theorem dX9_whoMayGo_15 : decode cX9_whoMayGo 15 = .ok (.aload_n 0, 1) := by decide +kernel
theorem dX9_whoMayGo_16 : decode cX9_whoMayGo 16 = .ok (.iload_n 3, 1) := by decide +kernel
theorem dX9_whoMayGo_17 : decode cX9_whoMayGo 17 = .ok (.iload_n 1, 1) := by decide +kernel
theorem dX9_whoMayGo_18 : decode cX9_whoMayGo 18 = .ok (.invokevirtual 158, 3) := by decide +kernel
theorem dX9_whoMayGo_21 : decode cX9_whoMayGo 21 = .ok (.ifCond .eq 9, 3) := by decide +kernel
theorem dX9_whoMayGo_24 : decode cX9_whoMayGo 24 = .ok (.iload_n 2, 1) := by decide +kernel
theorem dX9_whoMayGo_25 : decode cX9_whoMayGo 25 = .ok (.iconst 1, 1) := by decide +kernel
theorem dX9_whoMayGo_26 : decode cX9_whoMayGo 26 = .ok (.iload_n 3, 1) := by decide +kernel
theorem dX9_whoMayGo_27 : decode cX9_whoMayGo 27 = .ok (.ishl, 1) := by decide +kernel
theorem dX9_whoMayGo_28 : decode cX9_whoMayGo 28 = .ok (.ior, 1) := by decide +kernel
theorem dX9_whoMayGo_29 : decode cX9_whoMayGo 29 = .ok (.istore_n 2, 1) := by decide +kernel
theorem dX9_whoMayGo_30 : decode cX9_whoMayGo 30 = .ok (.iinc 3 1, 3) := by decide +kernel
theorem dX9_whoMayGo_33 : decode cX9_whoMayGo 33 = .ok (.goto (-29), 3) := by decide +kernel
theorem dX9_whoMayGo_36 : decode cX9_whoMayGo 36 = .ok (.iload_n 2, 1) := by decide +kernel
theorem dX9_whoMayGo_37 : decode cX9_whoMayGo 37 = .ok (.ireturn, 1) := by decide +kernel
theorem dX9_whoIsIn_0 : decode cX9_whoIsIn 0 = .ok (.iconst 0, 1) := by decide +kernel
theorem dX9_whoIsIn_1 : decode cX9_whoIsIn 1 = .ok (.istore_n 2, 1) := by decide +kernel
theorem dX9_whoIsIn_2 : decode cX9_whoIsIn 2 = .ok (.iconst 0, 1) := by decide +kernel
theorem dX9_whoIsIn_3 : decode cX9_whoIsIn 3 = .ok (.istore_n 3, 1) := by decide +kernel
theorem dX9_whoIsIn_4 : decode cX9_whoIsIn 4 = .ok (.iload_n 3, 1) := by decide +kernel
theorem dX9_whoIsIn_5 : decode cX9_whoIsIn 5 = .ok (.aload_n 0, 1) := by decide +kernel
theorem dX9_whoIsIn_6 : decode cX9_whoIsIn 6 = .ok (.getfield 19, 3) := by decide +kernel
theorem dX9_whoIsIn_9 : decode cX9_whoIsIn 9 = .ok (.getfield 187, 3) := by decide +kernel
theorem dX9_whoIsIn_12 : decode cX9_whoIsIn 12 = .ok (.if_icmp .ge 28, 3) := by decide +kernel
theorem dX9_whoIsIn_15 : decode cX9_whoIsIn 15 = .ok (.aload_n 0, 1) := by decide +kernel
theorem dX9_whoIsIn_16 : decode cX9_whoIsIn 16 = .ok (.getfield 29, 3) := by decide +kernel
theorem dX9_whoIsIn_19 : decode cX9_whoIsIn 19 = .ok (.getfield 127, 3) := by decide +kernel
theorem dX9_whoIsIn_22 : decode cX9_whoIsIn 22 = .ok (.iload_n 3, 1) := by decide +kernel
theorem dX9_whoIsIn_23 : decode cX9_whoIsIn 23 = .ok (.iaload, 1) := by decide +kernel
theorem dX9_whoIsIn_24 : decode cX9_whoIsIn 24 = .ok (.iload_n 1, 1) := by decide +kernel
theorem dX9_whoIsIn_25 : decode cX9_whoIsIn 25 = .ok (.if_icmp .ne 9, 3) := by decide +kernel
theorem dX9_whoIsIn_28 : decode cX9_whoIsIn 28 = .ok (.iload_n 2, 1) := by decide +kernel
theorem dX9_whoIsIn_29 : decode cX9_whoIsIn 29 = .ok (.iconst 1, 1) := by decide +kernel
theorem dX9_whoIsIn_30 : decode cX9_whoIsIn 30 = .ok (.iload_n 3, 1) := by decide +kernel
theorem dX9_whoIsIn_31 : decode cX9_whoIsIn 31 = .ok (.ishl, 1) := by decide +kernel
theorem dX9_whoIsIn_32 : decode cX9_whoIsIn 32 = .ok (.ior, 1) := by decide +kernel
theorem dX9_whoIsIn_33 : decode cX9_whoIsIn 33 = .ok (.istore_n 2, 1) := by decide +kernel
theorem dX9_whoIsIn_34 : decode cX9_whoIsIn 34 = .ok (.iinc 3 1, 3) := by decide +kernel
theorem dX9_whoIsIn_37 : decode cX9_whoIsIn 37 = .ok (.goto (-33), 3) := by decide +kernel
theorem dX9_whoIsIn_40 : decode cX9_whoIsIn 40 = .ok (.iload_n 2, 1) := by decide +kernel
theorem dX9_whoIsIn_41 : decode cX9_whoIsIn 41 = .ok (.ireturn, 1) := by decide +kernel
theorem dX9_stonesTogether_0 : decode cX9_stonesTogether 0 = .ok (.iconst 0, 1) := by decide +kernel
theorem dX9_stonesTogether_1 : decode cX9_stonesTogether 1 = .ok (.istore_n 1, 1) := by decide +kernel
theorem dX9_stonesTogether_2 : decode cX9_stonesTogether 2 = .ok (.iconst 0, 1) := by decide +kernel
theorem dX9_stonesTogether_3 : decode cX9_stonesTogether 3 = .ok (.istore_n 2, 1) := by decide +kernel
theorem dX9_stonesTogether_4 : decode cX9_stonesTogether 4 = .ok (.iload_n 2, 1) := by decide +kernel
theorem dX9_stonesTogether_5 : decode cX9_stonesTogether 5 = .ok (.aload_n 0, 1) := by decide +kernel
theorem dX9_stonesTogether_6 : decode cX9_stonesTogether 6 = .ok (.getfield 19, 3) := by decide +kernel
theorem dX9_stonesTogether_9 : decode cX9_stonesTogether 9 = .ok (.getfield 187, 3) := by decide +kernel
theorem dX9_stonesTogether_12 : decode cX9_stonesTogether 12 = .ok (.if_icmp .ge 21, 3) := by decide +kernel
theorem dX9_stonesTogether_15 : decode cX9_stonesTogether 15 = .ok (.iload_n 1, 1) := by decide +kernel
theorem dX9_stonesTogether_16 : decode cX9_stonesTogether 16 = .ok (.aload_n 0, 1) := by decide +kernel
theorem dX9_stonesTogether_17 : decode cX9_stonesTogether 17 = .ok (.getfield 29, 3) := by decide +kernel
theorem dX9_stonesTogether_20 : decode cX9_stonesTogether 20 = .ok (.getfield 121, 3) := by decide +kernel
theorem dX9_stonesTogether_23 : decode cX9_stonesTogether 23 = .ok (.iload_n 2, 1) := by decide +kernel
theorem dX9_stonesTogether_24 : decode cX9_stonesTogether 24 = .ok (.iaload, 1) := by decide +kernel
theorem dX9_stonesTogether_25 : decode cX9_stonesTogether 25 = .ok (.iadd, 1) := by decide +kernel
theorem dX9_stonesTogether_26 : decode cX9_stonesTogether 26 = .ok (.istore_n 1, 1) := by decide +kernel
theorem dX9_stonesTogether_27 : decode cX9_stonesTogether 27 = .ok (.iinc 2 1, 3) := by decide +kernel
theorem dX9_stonesTogether_30 : decode cX9_stonesTogether 30 = .ok (.goto (-26), 3) := by decide +kernel
theorem dX9_stonesTogether_33 : decode cX9_stonesTogether 33 = .ok (.iload_n 1, 1) := by decide +kernel
theorem dX9_stonesTogether_34 : decode cX9_stonesTogether 34 = .ok (.ireturn, 1) := by decide +kernel
theorem dX9_has_0 : decode cX9_has 0 = .ok (.iload_n 0, 1) := by decide +kernel
theorem dX9_has_1 : decode cX9_has 1 = .ok (.iload_n 1, 1) := by decide +kernel
theorem dX9_has_2 : decode cX9_has 2 = .ok (.ishr, 1) := by decide +kernel
theorem dX9_has_3 : decode cX9_has 3 = .ok (.iconst 1, 1) := by decide +kernel
theorem dX9_has_4 : decode cX9_has 4 = .ok (.iand, 1) := by decide +kernel
theorem dX9_has_5 : decode cX9_has 5 = .ok (.iconst 1, 1) := by decide +kernel
theorem dX9_has_6 : decode cX9_has 6 = .ok (.if_icmp .ne 7, 3) := by decide +kernel
theorem dX9_has_9 : decode cX9_has 9 = .ok (.iconst 1, 1) := by decide +kernel
theorem dX9_has_10 : decode cX9_has 10 = .ok (.goto 4, 3) := by decide +kernel
theorem dX9_has_13 : decode cX9_has 13 = .ok (.iconst 0, 1) := by decide +kernel
theorem dX9_has_14 : decode cX9_has 14 = .ok (.ireturn, 1) := by decide +kernel
theorem dX9_copyRow_0 : decode cX9_copyRow 0 = .ok (.iconst 0, 1) := by decide +kernel
theorem dX9_copyRow_1 : decode cX9_copyRow 1 = .ok (.istore_n 2, 1) := by decide +kernel
theorem dX9_copyRow_2 : decode cX9_copyRow 2 = .ok (.iload_n 2, 1) := by decide +kernel
theorem dX9_copyRow_3 : decode cX9_copyRow 3 = .ok (.aload_n 0, 1) := by decide +kernel
theorem dX9_copyRow_4 : decode cX9_copyRow 4 = .ok (.arraylength, 1) := by decide +kernel
theorem dX9_copyRow_5 : decode cX9_copyRow 5 = .ok (.if_icmp .ge 21, 3) := by decide +kernel
theorem dX9_copyRow_8 : decode cX9_copyRow 8 = .ok (.iload_n 2, 1) := by decide +kernel
theorem dX9_copyRow_9 : decode cX9_copyRow 9 = .ok (.aload_n 1, 1) := by decide +kernel
theorem dX9_copyRow_10 : decode cX9_copyRow 10 = .ok (.arraylength, 1) := by decide +kernel
theorem dX9_copyRow_11 : decode cX9_copyRow 11 = .ok (.if_icmp .ge 15, 3) := by decide +kernel
theorem dX9_copyRow_14 : decode cX9_copyRow 14 = .ok (.aload_n 1, 1) := by decide +kernel
theorem dX9_copyRow_15 : decode cX9_copyRow 15 = .ok (.iload_n 2, 1) := by decide +kernel
theorem dX9_copyRow_16 : decode cX9_copyRow 16 = .ok (.aload_n 0, 1) := by decide +kernel
theorem dX9_copyRow_17 : decode cX9_copyRow 17 = .ok (.iload_n 2, 1) := by decide +kernel
theorem dX9_copyRow_18 : decode cX9_copyRow 18 = .ok (.iaload, 1) := by decide +kernel
theorem dX9_copyRow_19 : decode cX9_copyRow 19 = .ok (.iastore, 1) := by decide +kernel
theorem dX9_copyRow_20 : decode cX9_copyRow 20 = .ok (.iinc 2 1, 3) := by decide +kernel
theorem dX9_copyRow_23 : decode cX9_copyRow 23 = .ok (.goto (-21), 3) := by decide +kernel
theorem dX9_copyRow_26 : decode cX9_copyRow 26 = .ok (.return_, 1) := by decide +kernel
