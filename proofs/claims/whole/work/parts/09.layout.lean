/-! The layout behind the constructors: shapes, references; rows without wrap-around. -/
def SHL : List (Nat × Nat) := [(8, 10), (6, 7), (100, 150), (3, 13), (100, 9), (100, 9), (100, 9), (100, 6), (100, 6), (100, 6), (100, 6), (100, 6), (100, 4), (3, 13), (100, 9), (100, 9), (100, 9), (100, 6), (100, 6), (100, 6), (100, 6), (100, 6), (100, 4), (5, 6), (100, 6), (100, 6), (100, 6), (100, 6), (100, 4), (2, 2), (102, 10), (5, 6), (100, 6), (100, 6), (100, 6), (100, 6), (100, 4), (5, 6), (100, 6), (100, 6), (100, 6), (100, 6), (100, 4), (5, 6), (100, 6), (100, 6), (100, 6), (100, 6), (100, 4), (5, 6), (100, 6), (100, 6), (100, 6), (100, 6), (100, 4), (5, 6), (100, 6), (100, 6), (100, 6), (100, 6), (100, 4), (5, 6), (100, 6), (100, 6), (100, 6), (100, 6), (100, 4), (5, 6), (100, 6), (100, 6), (100, 6), (100, 6), (100, 4), (5, 6), (100, 6), (100, 6), (100, 6), (100, 6), (100, 4), (5, 6), (100, 6), (100, 6), (100, 6), (100, 6), (100, 4), (5, 6), (100, 6), (100, 6), (100, 6), (100, 6), (100, 4), (103, 2), (1, 3), (100, 4), (100, 4), (7, 4), (100, 8), (100, 8), (0, 3), (100, 64), (100, 6), (4, 3), (5, 6), (100, 6), (100, 6), (100, 6), (100, 6), (100, 4), (2, 2), (102, 10), (5, 6), (100, 6), (100, 6), (100, 6), (100, 6), (100, 4), (5, 6), (100, 6), (100, 6), (100, 6), (100, 6), (100, 4), (5, 6), (100, 6), (100, 6), (100, 6), (100, 6), (100, 4), (5, 6), (100, 6), (100, 6), (100, 6), (100, 6), (100, 4), (5, 6), (100, 6), (100, 6), (100, 6), (100, 6), (100, 4), (5, 6), (100, 6), (100, 6), (100, 6), (100, 6), (100, 4), (5, 6), (100, 6), (100, 6), (100, 6), (100, 6), (100, 4), (5, 6), (100, 6), (100, 6), (100, 6), (100, 6), (100, 4), (5, 6), (100, 6), (100, 6), (100, 6), (100, 6), (100, 4), (5, 6), (100, 6), (100, 6), (100, 6), (100, 6), (100, 4), (4, 3), (5, 6), (100, 6), (100, 6), (100, 6), (100, 6), (100, 4), (2, 2), (102, 10), (5, 6), (100, 6), (100, 6), (100, 6), (100, 6), (100, 4), (5, 6), (100, 6), (100, 6), (100, 6), (100, 6), (100, 4), (5, 6), (100, 6), (100, 6), (100, 6), (100, 6), (100, 4), (5, 6), (100, 6), (100, 6), (100, 6), (100, 6), (100, 4), (5, 6), (100, 6), (100, 6), (100, 6), (100, 6), (100, 4), (5, 6), (100, 6), (100, 6), (100, 6), (100, 6), (100, 4), (5, 6), (100, 6), (100, 6), (100, 6), (100, 6), (100, 4), (5, 6), (100, 6), (100, 6), (100, 6), (100, 6), (100, 4), (5, 6), (100, 6), (100, 6), (100, 6), (100, 6), (100, 4), (5, 6), (100, 6), (100, 6), (100, 6), (100, 6), (100, 4), (9, 34), (100, 27), (100, 18), (100, 4), (100, 29), (100, 290), (100, 640), (101, 2), (100, 8), (100, 150), (100, 27), (100, 18), (100, 6), (100, 6), (100, 4), (100, 8), (100, 64)]
theorem zshL (g : zH) (n : Nat) : zsh (SHL, g) ((n : Int) + 1) = SHL[n]? := by
  unfold zsh
  rw [if_pos (by omega)]
  congr 1
set_option maxRecDepth 10000 in
theorem sh_1 {g : zH} : zsh (SHL, g) 1 = some (8, 10) := rfl
set_option maxRecDepth 10000 in
theorem sh_2 {g : zH} : zsh (SHL, g) 2 = some (6, 7) := rfl
set_option maxRecDepth 10000 in
theorem sh_3 {g : zH} : zsh (SHL, g) 3 = some (100, 150) := rfl
set_option maxRecDepth 10000 in
theorem sh_4 {g : zH} : zsh (SHL, g) 4 = some (3, 13) := rfl
set_option maxRecDepth 10000 in
theorem sh_5 {g : zH} : zsh (SHL, g) 5 = some (100, 9) := rfl
set_option maxRecDepth 10000 in
theorem sh_6 {g : zH} : zsh (SHL, g) 6 = some (100, 9) := rfl
set_option maxRecDepth 10000 in
theorem sh_7 {g : zH} : zsh (SHL, g) 7 = some (100, 9) := rfl
set_option maxRecDepth 10000 in
theorem sh_8 {g : zH} : zsh (SHL, g) 8 = some (100, 6) := rfl
set_option maxRecDepth 10000 in
theorem sh_9 {g : zH} : zsh (SHL, g) 9 = some (100, 6) := rfl
set_option maxRecDepth 10000 in
theorem sh_10 {g : zH} : zsh (SHL, g) 10 = some (100, 6) := rfl
set_option maxRecDepth 10000 in
theorem sh_11 {g : zH} : zsh (SHL, g) 11 = some (100, 6) := rfl
set_option maxRecDepth 10000 in
theorem sh_12 {g : zH} : zsh (SHL, g) 12 = some (100, 6) := rfl
set_option maxRecDepth 10000 in
theorem sh_13 {g : zH} : zsh (SHL, g) 13 = some (100, 4) := rfl
set_option maxRecDepth 10000 in
theorem sh_14 {g : zH} : zsh (SHL, g) 14 = some (3, 13) := rfl
set_option maxRecDepth 10000 in
theorem sh_15 {g : zH} : zsh (SHL, g) 15 = some (100, 9) := rfl
set_option maxRecDepth 10000 in
theorem sh_16 {g : zH} : zsh (SHL, g) 16 = some (100, 9) := rfl
set_option maxRecDepth 10000 in
theorem sh_17 {g : zH} : zsh (SHL, g) 17 = some (100, 9) := rfl
set_option maxRecDepth 10000 in
theorem sh_18 {g : zH} : zsh (SHL, g) 18 = some (100, 6) := rfl
set_option maxRecDepth 10000 in
theorem sh_19 {g : zH} : zsh (SHL, g) 19 = some (100, 6) := rfl
set_option maxRecDepth 10000 in
theorem sh_20 {g : zH} : zsh (SHL, g) 20 = some (100, 6) := rfl
set_option maxRecDepth 10000 in
theorem sh_21 {g : zH} : zsh (SHL, g) 21 = some (100, 6) := rfl
set_option maxRecDepth 10000 in
theorem sh_22 {g : zH} : zsh (SHL, g) 22 = some (100, 6) := rfl
set_option maxRecDepth 10000 in
theorem sh_23 {g : zH} : zsh (SHL, g) 23 = some (100, 4) := rfl
set_option maxRecDepth 10000 in
theorem sh_24 {g : zH} : zsh (SHL, g) 24 = some (5, 6) := rfl
set_option maxRecDepth 10000 in
theorem sh_25 {g : zH} : zsh (SHL, g) 25 = some (100, 6) := rfl
set_option maxRecDepth 10000 in
theorem sh_26 {g : zH} : zsh (SHL, g) 26 = some (100, 6) := rfl
set_option maxRecDepth 10000 in
theorem sh_27 {g : zH} : zsh (SHL, g) 27 = some (100, 6) := rfl
set_option maxRecDepth 10000 in
theorem sh_28 {g : zH} : zsh (SHL, g) 28 = some (100, 6) := rfl
set_option maxRecDepth 10000 in
theorem sh_29 {g : zH} : zsh (SHL, g) 29 = some (100, 4) := rfl
set_option maxRecDepth 10000 in
theorem sh_30 {g : zH} : zsh (SHL, g) 30 = some (2, 2) := rfl
set_option maxRecDepth 10000 in
theorem sh_31 {g : zH} : zsh (SHL, g) 31 = some (102, 10) := rfl
set_option maxRecDepth 10000 in
theorem sh_32 {g : zH} : zsh (SHL, g) 32 = some (5, 6) := rfl
set_option maxRecDepth 10000 in
theorem sh_33 {g : zH} : zsh (SHL, g) 33 = some (100, 6) := rfl
set_option maxRecDepth 10000 in
theorem sh_34 {g : zH} : zsh (SHL, g) 34 = some (100, 6) := rfl
set_option maxRecDepth 10000 in
theorem sh_35 {g : zH} : zsh (SHL, g) 35 = some (100, 6) := rfl
set_option maxRecDepth 10000 in
theorem sh_36 {g : zH} : zsh (SHL, g) 36 = some (100, 6) := rfl
set_option maxRecDepth 10000 in
theorem sh_37 {g : zH} : zsh (SHL, g) 37 = some (100, 4) := rfl
set_option maxRecDepth 10000 in
theorem sh_38 {g : zH} : zsh (SHL, g) 38 = some (5, 6) := rfl
set_option maxRecDepth 10000 in
theorem sh_39 {g : zH} : zsh (SHL, g) 39 = some (100, 6) := rfl
set_option maxRecDepth 10000 in
theorem sh_40 {g : zH} : zsh (SHL, g) 40 = some (100, 6) := rfl
set_option maxRecDepth 10000 in
theorem sh_41 {g : zH} : zsh (SHL, g) 41 = some (100, 6) := rfl
set_option maxRecDepth 10000 in
theorem sh_42 {g : zH} : zsh (SHL, g) 42 = some (100, 6) := rfl
set_option maxRecDepth 10000 in
theorem sh_43 {g : zH} : zsh (SHL, g) 43 = some (100, 4) := rfl
set_option maxRecDepth 10000 in
theorem sh_44 {g : zH} : zsh (SHL, g) 44 = some (5, 6) := rfl
set_option maxRecDepth 10000 in
theorem sh_45 {g : zH} : zsh (SHL, g) 45 = some (100, 6) := rfl
set_option maxRecDepth 10000 in
theorem sh_46 {g : zH} : zsh (SHL, g) 46 = some (100, 6) := rfl
set_option maxRecDepth 10000 in
theorem sh_47 {g : zH} : zsh (SHL, g) 47 = some (100, 6) := rfl
set_option maxRecDepth 10000 in
theorem sh_48 {g : zH} : zsh (SHL, g) 48 = some (100, 6) := rfl
set_option maxRecDepth 10000 in
theorem sh_49 {g : zH} : zsh (SHL, g) 49 = some (100, 4) := rfl
set_option maxRecDepth 10000 in
theorem sh_50 {g : zH} : zsh (SHL, g) 50 = some (5, 6) := rfl
set_option maxRecDepth 10000 in
theorem sh_51 {g : zH} : zsh (SHL, g) 51 = some (100, 6) := rfl
set_option maxRecDepth 10000 in
theorem sh_52 {g : zH} : zsh (SHL, g) 52 = some (100, 6) := rfl
set_option maxRecDepth 10000 in
theorem sh_53 {g : zH} : zsh (SHL, g) 53 = some (100, 6) := rfl
set_option maxRecDepth 10000 in
theorem sh_54 {g : zH} : zsh (SHL, g) 54 = some (100, 6) := rfl
set_option maxRecDepth 10000 in
theorem sh_55 {g : zH} : zsh (SHL, g) 55 = some (100, 4) := rfl
set_option maxRecDepth 10000 in
theorem sh_56 {g : zH} : zsh (SHL, g) 56 = some (5, 6) := rfl
set_option maxRecDepth 10000 in
theorem sh_57 {g : zH} : zsh (SHL, g) 57 = some (100, 6) := rfl
set_option maxRecDepth 10000 in
theorem sh_58 {g : zH} : zsh (SHL, g) 58 = some (100, 6) := rfl
set_option maxRecDepth 10000 in
theorem sh_59 {g : zH} : zsh (SHL, g) 59 = some (100, 6) := rfl
set_option maxRecDepth 10000 in
theorem sh_60 {g : zH} : zsh (SHL, g) 60 = some (100, 6) := rfl
set_option maxRecDepth 10000 in
theorem sh_61 {g : zH} : zsh (SHL, g) 61 = some (100, 4) := rfl
set_option maxRecDepth 10000 in
theorem sh_62 {g : zH} : zsh (SHL, g) 62 = some (5, 6) := rfl
set_option maxRecDepth 10000 in
theorem sh_63 {g : zH} : zsh (SHL, g) 63 = some (100, 6) := rfl
set_option maxRecDepth 10000 in
theorem sh_64 {g : zH} : zsh (SHL, g) 64 = some (100, 6) := rfl
set_option maxRecDepth 10000 in
theorem sh_65 {g : zH} : zsh (SHL, g) 65 = some (100, 6) := rfl
set_option maxRecDepth 10000 in
theorem sh_66 {g : zH} : zsh (SHL, g) 66 = some (100, 6) := rfl
set_option maxRecDepth 10000 in
theorem sh_67 {g : zH} : zsh (SHL, g) 67 = some (100, 4) := rfl
set_option maxRecDepth 10000 in
theorem sh_68 {g : zH} : zsh (SHL, g) 68 = some (5, 6) := rfl
set_option maxRecDepth 10000 in
theorem sh_69 {g : zH} : zsh (SHL, g) 69 = some (100, 6) := rfl
set_option maxRecDepth 10000 in
theorem sh_70 {g : zH} : zsh (SHL, g) 70 = some (100, 6) := rfl
set_option maxRecDepth 10000 in
theorem sh_71 {g : zH} : zsh (SHL, g) 71 = some (100, 6) := rfl
set_option maxRecDepth 10000 in
theorem sh_72 {g : zH} : zsh (SHL, g) 72 = some (100, 6) := rfl
set_option maxRecDepth 10000 in
theorem sh_73 {g : zH} : zsh (SHL, g) 73 = some (100, 4) := rfl
set_option maxRecDepth 10000 in
theorem sh_74 {g : zH} : zsh (SHL, g) 74 = some (5, 6) := rfl
set_option maxRecDepth 10000 in
theorem sh_75 {g : zH} : zsh (SHL, g) 75 = some (100, 6) := rfl
set_option maxRecDepth 10000 in
theorem sh_76 {g : zH} : zsh (SHL, g) 76 = some (100, 6) := rfl
set_option maxRecDepth 10000 in
theorem sh_77 {g : zH} : zsh (SHL, g) 77 = some (100, 6) := rfl
set_option maxRecDepth 10000 in
theorem sh_78 {g : zH} : zsh (SHL, g) 78 = some (100, 6) := rfl
set_option maxRecDepth 10000 in
theorem sh_79 {g : zH} : zsh (SHL, g) 79 = some (100, 4) := rfl
set_option maxRecDepth 10000 in
theorem sh_80 {g : zH} : zsh (SHL, g) 80 = some (5, 6) := rfl
set_option maxRecDepth 10000 in
theorem sh_81 {g : zH} : zsh (SHL, g) 81 = some (100, 6) := rfl
set_option maxRecDepth 10000 in
theorem sh_82 {g : zH} : zsh (SHL, g) 82 = some (100, 6) := rfl
set_option maxRecDepth 10000 in
theorem sh_83 {g : zH} : zsh (SHL, g) 83 = some (100, 6) := rfl
set_option maxRecDepth 10000 in
theorem sh_84 {g : zH} : zsh (SHL, g) 84 = some (100, 6) := rfl
set_option maxRecDepth 10000 in
theorem sh_85 {g : zH} : zsh (SHL, g) 85 = some (100, 4) := rfl
set_option maxRecDepth 10000 in
theorem sh_86 {g : zH} : zsh (SHL, g) 86 = some (5, 6) := rfl
set_option maxRecDepth 10000 in
theorem sh_87 {g : zH} : zsh (SHL, g) 87 = some (100, 6) := rfl
set_option maxRecDepth 10000 in
theorem sh_88 {g : zH} : zsh (SHL, g) 88 = some (100, 6) := rfl
set_option maxRecDepth 10000 in
theorem sh_89 {g : zH} : zsh (SHL, g) 89 = some (100, 6) := rfl
set_option maxRecDepth 10000 in
theorem sh_90 {g : zH} : zsh (SHL, g) 90 = some (100, 6) := rfl
set_option maxRecDepth 10000 in
theorem sh_91 {g : zH} : zsh (SHL, g) 91 = some (100, 4) := rfl
set_option maxRecDepth 10000 in
theorem sh_92 {g : zH} : zsh (SHL, g) 92 = some (103, 2) := rfl
set_option maxRecDepth 10000 in
theorem sh_93 {g : zH} : zsh (SHL, g) 93 = some (1, 3) := rfl
set_option maxRecDepth 10000 in
theorem sh_94 {g : zH} : zsh (SHL, g) 94 = some (100, 4) := rfl
set_option maxRecDepth 10000 in
theorem sh_95 {g : zH} : zsh (SHL, g) 95 = some (100, 4) := rfl
set_option maxRecDepth 10000 in
theorem sh_96 {g : zH} : zsh (SHL, g) 96 = some (7, 4) := rfl
set_option maxRecDepth 10000 in
theorem sh_97 {g : zH} : zsh (SHL, g) 97 = some (100, 8) := rfl
set_option maxRecDepth 10000 in
theorem sh_98 {g : zH} : zsh (SHL, g) 98 = some (100, 8) := rfl
set_option maxRecDepth 10000 in
theorem sh_99 {g : zH} : zsh (SHL, g) 99 = some (0, 3) := rfl
set_option maxRecDepth 10000 in
theorem sh_100 {g : zH} : zsh (SHL, g) 100 = some (100, 64) := rfl
set_option maxRecDepth 10000 in
theorem sh_101 {g : zH} : zsh (SHL, g) 101 = some (100, 6) := rfl
set_option maxRecDepth 10000 in
theorem sh_102 {g : zH} : zsh (SHL, g) 102 = some (4, 3) := rfl
set_option maxRecDepth 10000 in
theorem sh_103 {g : zH} : zsh (SHL, g) 103 = some (5, 6) := rfl
set_option maxRecDepth 10000 in
theorem sh_104 {g : zH} : zsh (SHL, g) 104 = some (100, 6) := rfl
set_option maxRecDepth 10000 in
theorem sh_105 {g : zH} : zsh (SHL, g) 105 = some (100, 6) := rfl
set_option maxRecDepth 10000 in
theorem sh_106 {g : zH} : zsh (SHL, g) 106 = some (100, 6) := rfl
set_option maxRecDepth 10000 in
theorem sh_107 {g : zH} : zsh (SHL, g) 107 = some (100, 6) := rfl
set_option maxRecDepth 10000 in
theorem sh_108 {g : zH} : zsh (SHL, g) 108 = some (100, 4) := rfl
set_option maxRecDepth 10000 in
theorem sh_109 {g : zH} : zsh (SHL, g) 109 = some (2, 2) := rfl
set_option maxRecDepth 10000 in
theorem sh_110 {g : zH} : zsh (SHL, g) 110 = some (102, 10) := rfl
set_option maxRecDepth 10000 in
theorem sh_111 {g : zH} : zsh (SHL, g) 111 = some (5, 6) := rfl
set_option maxRecDepth 10000 in
theorem sh_112 {g : zH} : zsh (SHL, g) 112 = some (100, 6) := rfl
set_option maxRecDepth 10000 in
theorem sh_113 {g : zH} : zsh (SHL, g) 113 = some (100, 6) := rfl
set_option maxRecDepth 10000 in
theorem sh_114 {g : zH} : zsh (SHL, g) 114 = some (100, 6) := rfl
set_option maxRecDepth 10000 in
theorem sh_115 {g : zH} : zsh (SHL, g) 115 = some (100, 6) := rfl
set_option maxRecDepth 10000 in
theorem sh_116 {g : zH} : zsh (SHL, g) 116 = some (100, 4) := rfl
set_option maxRecDepth 10000 in
theorem sh_117 {g : zH} : zsh (SHL, g) 117 = some (5, 6) := rfl
set_option maxRecDepth 10000 in
theorem sh_118 {g : zH} : zsh (SHL, g) 118 = some (100, 6) := rfl
set_option maxRecDepth 10000 in
theorem sh_119 {g : zH} : zsh (SHL, g) 119 = some (100, 6) := rfl
set_option maxRecDepth 10000 in
theorem sh_120 {g : zH} : zsh (SHL, g) 120 = some (100, 6) := rfl
set_option maxRecDepth 10000 in
theorem sh_121 {g : zH} : zsh (SHL, g) 121 = some (100, 6) := rfl
set_option maxRecDepth 10000 in
theorem sh_122 {g : zH} : zsh (SHL, g) 122 = some (100, 4) := rfl
set_option maxRecDepth 10000 in
theorem sh_123 {g : zH} : zsh (SHL, g) 123 = some (5, 6) := rfl
set_option maxRecDepth 10000 in
theorem sh_124 {g : zH} : zsh (SHL, g) 124 = some (100, 6) := rfl
set_option maxRecDepth 10000 in
theorem sh_125 {g : zH} : zsh (SHL, g) 125 = some (100, 6) := rfl
set_option maxRecDepth 10000 in
theorem sh_126 {g : zH} : zsh (SHL, g) 126 = some (100, 6) := rfl
set_option maxRecDepth 10000 in
theorem sh_127 {g : zH} : zsh (SHL, g) 127 = some (100, 6) := rfl
set_option maxRecDepth 10000 in
theorem sh_128 {g : zH} : zsh (SHL, g) 128 = some (100, 4) := rfl
set_option maxRecDepth 10000 in
theorem sh_129 {g : zH} : zsh (SHL, g) 129 = some (5, 6) := rfl
set_option maxRecDepth 10000 in
theorem sh_130 {g : zH} : zsh (SHL, g) 130 = some (100, 6) := rfl
set_option maxRecDepth 10000 in
theorem sh_131 {g : zH} : zsh (SHL, g) 131 = some (100, 6) := rfl
set_option maxRecDepth 10000 in
theorem sh_132 {g : zH} : zsh (SHL, g) 132 = some (100, 6) := rfl
set_option maxRecDepth 10000 in
theorem sh_133 {g : zH} : zsh (SHL, g) 133 = some (100, 6) := rfl
set_option maxRecDepth 10000 in
theorem sh_134 {g : zH} : zsh (SHL, g) 134 = some (100, 4) := rfl
set_option maxRecDepth 10000 in
theorem sh_135 {g : zH} : zsh (SHL, g) 135 = some (5, 6) := rfl
set_option maxRecDepth 10000 in
theorem sh_136 {g : zH} : zsh (SHL, g) 136 = some (100, 6) := rfl
set_option maxRecDepth 10000 in
theorem sh_137 {g : zH} : zsh (SHL, g) 137 = some (100, 6) := rfl
set_option maxRecDepth 10000 in
theorem sh_138 {g : zH} : zsh (SHL, g) 138 = some (100, 6) := rfl
set_option maxRecDepth 10000 in
theorem sh_139 {g : zH} : zsh (SHL, g) 139 = some (100, 6) := rfl
set_option maxRecDepth 10000 in
theorem sh_140 {g : zH} : zsh (SHL, g) 140 = some (100, 4) := rfl
set_option maxRecDepth 10000 in
theorem sh_141 {g : zH} : zsh (SHL, g) 141 = some (5, 6) := rfl
set_option maxRecDepth 10000 in
theorem sh_142 {g : zH} : zsh (SHL, g) 142 = some (100, 6) := rfl
set_option maxRecDepth 10000 in
theorem sh_143 {g : zH} : zsh (SHL, g) 143 = some (100, 6) := rfl
set_option maxRecDepth 10000 in
theorem sh_144 {g : zH} : zsh (SHL, g) 144 = some (100, 6) := rfl
set_option maxRecDepth 10000 in
theorem sh_145 {g : zH} : zsh (SHL, g) 145 = some (100, 6) := rfl
set_option maxRecDepth 10000 in
theorem sh_146 {g : zH} : zsh (SHL, g) 146 = some (100, 4) := rfl
set_option maxRecDepth 10000 in
theorem sh_147 {g : zH} : zsh (SHL, g) 147 = some (5, 6) := rfl
set_option maxRecDepth 10000 in
theorem sh_148 {g : zH} : zsh (SHL, g) 148 = some (100, 6) := rfl
set_option maxRecDepth 10000 in
theorem sh_149 {g : zH} : zsh (SHL, g) 149 = some (100, 6) := rfl
set_option maxRecDepth 10000 in
theorem sh_150 {g : zH} : zsh (SHL, g) 150 = some (100, 6) := rfl
set_option maxRecDepth 10000 in
theorem sh_151 {g : zH} : zsh (SHL, g) 151 = some (100, 6) := rfl
set_option maxRecDepth 10000 in
theorem sh_152 {g : zH} : zsh (SHL, g) 152 = some (100, 4) := rfl
set_option maxRecDepth 10000 in
theorem sh_153 {g : zH} : zsh (SHL, g) 153 = some (5, 6) := rfl
set_option maxRecDepth 10000 in
theorem sh_154 {g : zH} : zsh (SHL, g) 154 = some (100, 6) := rfl
set_option maxRecDepth 10000 in
theorem sh_155 {g : zH} : zsh (SHL, g) 155 = some (100, 6) := rfl
set_option maxRecDepth 10000 in
theorem sh_156 {g : zH} : zsh (SHL, g) 156 = some (100, 6) := rfl
set_option maxRecDepth 10000 in
theorem sh_157 {g : zH} : zsh (SHL, g) 157 = some (100, 6) := rfl
set_option maxRecDepth 10000 in
theorem sh_158 {g : zH} : zsh (SHL, g) 158 = some (100, 4) := rfl
set_option maxRecDepth 10000 in
theorem sh_159 {g : zH} : zsh (SHL, g) 159 = some (5, 6) := rfl
set_option maxRecDepth 10000 in
theorem sh_160 {g : zH} : zsh (SHL, g) 160 = some (100, 6) := rfl
set_option maxRecDepth 10000 in
theorem sh_161 {g : zH} : zsh (SHL, g) 161 = some (100, 6) := rfl
set_option maxRecDepth 10000 in
theorem sh_162 {g : zH} : zsh (SHL, g) 162 = some (100, 6) := rfl
set_option maxRecDepth 10000 in
theorem sh_163 {g : zH} : zsh (SHL, g) 163 = some (100, 6) := rfl
set_option maxRecDepth 10000 in
theorem sh_164 {g : zH} : zsh (SHL, g) 164 = some (100, 4) := rfl
set_option maxRecDepth 10000 in
theorem sh_165 {g : zH} : zsh (SHL, g) 165 = some (5, 6) := rfl
set_option maxRecDepth 10000 in
theorem sh_166 {g : zH} : zsh (SHL, g) 166 = some (100, 6) := rfl
set_option maxRecDepth 10000 in
theorem sh_167 {g : zH} : zsh (SHL, g) 167 = some (100, 6) := rfl
set_option maxRecDepth 10000 in
theorem sh_168 {g : zH} : zsh (SHL, g) 168 = some (100, 6) := rfl
set_option maxRecDepth 10000 in
theorem sh_169 {g : zH} : zsh (SHL, g) 169 = some (100, 6) := rfl
set_option maxRecDepth 10000 in
theorem sh_170 {g : zH} : zsh (SHL, g) 170 = some (100, 4) := rfl
set_option maxRecDepth 10000 in
theorem sh_171 {g : zH} : zsh (SHL, g) 171 = some (4, 3) := rfl
set_option maxRecDepth 10000 in
theorem sh_172 {g : zH} : zsh (SHL, g) 172 = some (5, 6) := rfl
set_option maxRecDepth 10000 in
theorem sh_173 {g : zH} : zsh (SHL, g) 173 = some (100, 6) := rfl
set_option maxRecDepth 10000 in
theorem sh_174 {g : zH} : zsh (SHL, g) 174 = some (100, 6) := rfl
set_option maxRecDepth 10000 in
theorem sh_175 {g : zH} : zsh (SHL, g) 175 = some (100, 6) := rfl
set_option maxRecDepth 10000 in
theorem sh_176 {g : zH} : zsh (SHL, g) 176 = some (100, 6) := rfl
set_option maxRecDepth 10000 in
theorem sh_177 {g : zH} : zsh (SHL, g) 177 = some (100, 4) := rfl
set_option maxRecDepth 10000 in
theorem sh_178 {g : zH} : zsh (SHL, g) 178 = some (2, 2) := rfl
set_option maxRecDepth 10000 in
theorem sh_179 {g : zH} : zsh (SHL, g) 179 = some (102, 10) := rfl
set_option maxRecDepth 10000 in
theorem sh_180 {g : zH} : zsh (SHL, g) 180 = some (5, 6) := rfl
set_option maxRecDepth 10000 in
theorem sh_181 {g : zH} : zsh (SHL, g) 181 = some (100, 6) := rfl
set_option maxRecDepth 10000 in
theorem sh_182 {g : zH} : zsh (SHL, g) 182 = some (100, 6) := rfl
set_option maxRecDepth 10000 in
theorem sh_183 {g : zH} : zsh (SHL, g) 183 = some (100, 6) := rfl
set_option maxRecDepth 10000 in
theorem sh_184 {g : zH} : zsh (SHL, g) 184 = some (100, 6) := rfl
set_option maxRecDepth 10000 in
theorem sh_185 {g : zH} : zsh (SHL, g) 185 = some (100, 4) := rfl
set_option maxRecDepth 10000 in
theorem sh_186 {g : zH} : zsh (SHL, g) 186 = some (5, 6) := rfl
set_option maxRecDepth 10000 in
theorem sh_187 {g : zH} : zsh (SHL, g) 187 = some (100, 6) := rfl
set_option maxRecDepth 10000 in
theorem sh_188 {g : zH} : zsh (SHL, g) 188 = some (100, 6) := rfl
set_option maxRecDepth 10000 in
theorem sh_189 {g : zH} : zsh (SHL, g) 189 = some (100, 6) := rfl
set_option maxRecDepth 10000 in
theorem sh_190 {g : zH} : zsh (SHL, g) 190 = some (100, 6) := rfl
set_option maxRecDepth 10000 in
theorem sh_191 {g : zH} : zsh (SHL, g) 191 = some (100, 4) := rfl
set_option maxRecDepth 10000 in
theorem sh_192 {g : zH} : zsh (SHL, g) 192 = some (5, 6) := rfl
set_option maxRecDepth 10000 in
theorem sh_193 {g : zH} : zsh (SHL, g) 193 = some (100, 6) := rfl
set_option maxRecDepth 10000 in
theorem sh_194 {g : zH} : zsh (SHL, g) 194 = some (100, 6) := rfl
set_option maxRecDepth 10000 in
theorem sh_195 {g : zH} : zsh (SHL, g) 195 = some (100, 6) := rfl
set_option maxRecDepth 10000 in
theorem sh_196 {g : zH} : zsh (SHL, g) 196 = some (100, 6) := rfl
set_option maxRecDepth 10000 in
theorem sh_197 {g : zH} : zsh (SHL, g) 197 = some (100, 4) := rfl
set_option maxRecDepth 10000 in
theorem sh_198 {g : zH} : zsh (SHL, g) 198 = some (5, 6) := rfl
set_option maxRecDepth 10000 in
theorem sh_199 {g : zH} : zsh (SHL, g) 199 = some (100, 6) := rfl
set_option maxRecDepth 10000 in
theorem sh_200 {g : zH} : zsh (SHL, g) 200 = some (100, 6) := rfl
set_option maxRecDepth 10000 in
theorem sh_201 {g : zH} : zsh (SHL, g) 201 = some (100, 6) := rfl
set_option maxRecDepth 10000 in
theorem sh_202 {g : zH} : zsh (SHL, g) 202 = some (100, 6) := rfl
set_option maxRecDepth 10000 in
theorem sh_203 {g : zH} : zsh (SHL, g) 203 = some (100, 4) := rfl
set_option maxRecDepth 10000 in
theorem sh_204 {g : zH} : zsh (SHL, g) 204 = some (5, 6) := rfl
set_option maxRecDepth 10000 in
theorem sh_205 {g : zH} : zsh (SHL, g) 205 = some (100, 6) := rfl
set_option maxRecDepth 10000 in
theorem sh_206 {g : zH} : zsh (SHL, g) 206 = some (100, 6) := rfl
set_option maxRecDepth 10000 in
theorem sh_207 {g : zH} : zsh (SHL, g) 207 = some (100, 6) := rfl
set_option maxRecDepth 10000 in
theorem sh_208 {g : zH} : zsh (SHL, g) 208 = some (100, 6) := rfl
set_option maxRecDepth 10000 in
theorem sh_209 {g : zH} : zsh (SHL, g) 209 = some (100, 4) := rfl
set_option maxRecDepth 10000 in
theorem sh_210 {g : zH} : zsh (SHL, g) 210 = some (5, 6) := rfl
set_option maxRecDepth 10000 in
theorem sh_211 {g : zH} : zsh (SHL, g) 211 = some (100, 6) := rfl
set_option maxRecDepth 10000 in
theorem sh_212 {g : zH} : zsh (SHL, g) 212 = some (100, 6) := rfl
set_option maxRecDepth 10000 in
theorem sh_213 {g : zH} : zsh (SHL, g) 213 = some (100, 6) := rfl
set_option maxRecDepth 10000 in
theorem sh_214 {g : zH} : zsh (SHL, g) 214 = some (100, 6) := rfl
set_option maxRecDepth 10000 in
theorem sh_215 {g : zH} : zsh (SHL, g) 215 = some (100, 4) := rfl
set_option maxRecDepth 10000 in
theorem sh_216 {g : zH} : zsh (SHL, g) 216 = some (5, 6) := rfl
set_option maxRecDepth 10000 in
theorem sh_217 {g : zH} : zsh (SHL, g) 217 = some (100, 6) := rfl
set_option maxRecDepth 10000 in
theorem sh_218 {g : zH} : zsh (SHL, g) 218 = some (100, 6) := rfl
set_option maxRecDepth 10000 in
theorem sh_219 {g : zH} : zsh (SHL, g) 219 = some (100, 6) := rfl
set_option maxRecDepth 10000 in
theorem sh_220 {g : zH} : zsh (SHL, g) 220 = some (100, 6) := rfl
set_option maxRecDepth 10000 in
theorem sh_221 {g : zH} : zsh (SHL, g) 221 = some (100, 4) := rfl
set_option maxRecDepth 10000 in
theorem sh_222 {g : zH} : zsh (SHL, g) 222 = some (5, 6) := rfl
set_option maxRecDepth 10000 in
theorem sh_223 {g : zH} : zsh (SHL, g) 223 = some (100, 6) := rfl
set_option maxRecDepth 10000 in
theorem sh_224 {g : zH} : zsh (SHL, g) 224 = some (100, 6) := rfl
set_option maxRecDepth 10000 in
theorem sh_225 {g : zH} : zsh (SHL, g) 225 = some (100, 6) := rfl
set_option maxRecDepth 10000 in
theorem sh_226 {g : zH} : zsh (SHL, g) 226 = some (100, 6) := rfl
set_option maxRecDepth 10000 in
theorem sh_227 {g : zH} : zsh (SHL, g) 227 = some (100, 4) := rfl
set_option maxRecDepth 10000 in
theorem sh_228 {g : zH} : zsh (SHL, g) 228 = some (5, 6) := rfl
set_option maxRecDepth 10000 in
theorem sh_229 {g : zH} : zsh (SHL, g) 229 = some (100, 6) := rfl
set_option maxRecDepth 10000 in
theorem sh_230 {g : zH} : zsh (SHL, g) 230 = some (100, 6) := rfl
set_option maxRecDepth 10000 in
theorem sh_231 {g : zH} : zsh (SHL, g) 231 = some (100, 6) := rfl
set_option maxRecDepth 10000 in
theorem sh_232 {g : zH} : zsh (SHL, g) 232 = some (100, 6) := rfl
set_option maxRecDepth 10000 in
theorem sh_233 {g : zH} : zsh (SHL, g) 233 = some (100, 4) := rfl
set_option maxRecDepth 10000 in
theorem sh_234 {g : zH} : zsh (SHL, g) 234 = some (5, 6) := rfl
set_option maxRecDepth 10000 in
theorem sh_235 {g : zH} : zsh (SHL, g) 235 = some (100, 6) := rfl
set_option maxRecDepth 10000 in
theorem sh_236 {g : zH} : zsh (SHL, g) 236 = some (100, 6) := rfl
set_option maxRecDepth 10000 in
theorem sh_237 {g : zH} : zsh (SHL, g) 237 = some (100, 6) := rfl
set_option maxRecDepth 10000 in
theorem sh_238 {g : zH} : zsh (SHL, g) 238 = some (100, 6) := rfl
set_option maxRecDepth 10000 in
theorem sh_239 {g : zH} : zsh (SHL, g) 239 = some (100, 4) := rfl
set_option maxRecDepth 10000 in
theorem sh_240 {g : zH} : zsh (SHL, g) 240 = some (9, 34) := rfl
set_option maxRecDepth 10000 in
theorem sh_241 {g : zH} : zsh (SHL, g) 241 = some (100, 27) := rfl
set_option maxRecDepth 10000 in
theorem sh_242 {g : zH} : zsh (SHL, g) 242 = some (100, 18) := rfl
set_option maxRecDepth 10000 in
theorem sh_243 {g : zH} : zsh (SHL, g) 243 = some (100, 4) := rfl
set_option maxRecDepth 10000 in
theorem sh_244 {g : zH} : zsh (SHL, g) 244 = some (100, 29) := rfl
set_option maxRecDepth 10000 in
theorem sh_245 {g : zH} : zsh (SHL, g) 245 = some (100, 290) := rfl
set_option maxRecDepth 10000 in
theorem sh_246 {g : zH} : zsh (SHL, g) 246 = some (100, 640) := rfl
set_option maxRecDepth 10000 in
theorem sh_247 {g : zH} : zsh (SHL, g) 247 = some (101, 2) := rfl
set_option maxRecDepth 10000 in
theorem sh_248 {g : zH} : zsh (SHL, g) 248 = some (100, 8) := rfl
set_option maxRecDepth 10000 in
theorem sh_249 {g : zH} : zsh (SHL, g) 249 = some (100, 150) := rfl
set_option maxRecDepth 10000 in
theorem sh_250 {g : zH} : zsh (SHL, g) 250 = some (100, 27) := rfl
set_option maxRecDepth 10000 in
theorem sh_251 {g : zH} : zsh (SHL, g) 251 = some (100, 18) := rfl
set_option maxRecDepth 10000 in
theorem sh_252 {g : zH} : zsh (SHL, g) 252 = some (100, 6) := rfl
set_option maxRecDepth 10000 in
theorem sh_253 {g : zH} : zsh (SHL, g) 253 = some (100, 6) := rfl
set_option maxRecDepth 10000 in
theorem sh_254 {g : zH} : zsh (SHL, g) 254 = some (100, 4) := rfl
set_option maxRecDepth 10000 in
theorem sh_255 {g : zH} : zsh (SHL, g) 255 = some (100, 8) := rfl
set_option maxRecDepth 10000 in
theorem sh_256 {g : zH} : zsh (SHL, g) 256 = some (100, 64) := rfl
def STAT : List (Int × Int × Int) := [(2, 0, 3), (1, 0, 2), (4, 4, 5), (4, 5, 6), (4, 6, 7), (4, 7, 8), (4, 8, 9), (4, 9, 10), (4, 10, 11), (4, 11, 12), (4, 12, 13), (14, 4, 15), (14, 5, 16), (14, 6, 17), (14, 7, 18), (14, 8, 19), (14, 9, 20), (14, 10, 21), (14, 11, 22), (14, 12, 23), (24, 0, 25), (24, 1, 26), (24, 2, 27), (24, 3, 28), (24, 4, 29), (1, 3, 24), (30, 0, 31), (32, 0, 33), (32, 1, 34), (32, 2, 35), (32, 3, 36), (32, 4, 37), (38, 0, 39), (38, 1, 40), (38, 2, 41), (38, 3, 42), (38, 4, 43), (44, 0, 45), (44, 1, 46), (44, 2, 47), (44, 3, 48), (44, 4, 49), (50, 0, 51), (50, 1, 52), (50, 2, 53), (50, 3, 54), (50, 4, 55), (56, 0, 57), (56, 1, 58), (56, 2, 59), (56, 3, 60), (56, 4, 61), (62, 0, 63), (62, 1, 64), (62, 2, 65), (62, 3, 66), (62, 4, 67), (68, 0, 69), (68, 1, 70), (68, 2, 71), (68, 3, 72), (68, 4, 73), (74, 0, 75), (74, 1, 76), (74, 2, 77), (74, 3, 78), (74, 4, 79), (80, 0, 81), (80, 1, 82), (80, 2, 83), (80, 3, 84), (80, 4, 85), (86, 0, 87), (86, 1, 88), (86, 2, 89), (86, 3, 90), (86, 4, 91), (1, 4, 30), (1, 5, 92), (93, 0, 94), (93, 1, 95), (1, 6, 93), (96, 0, 97), (96, 1, 98), (1, 7, 96), (99, 0, 100), (99, 1, 101), (1, 8, 99), (92, 0, 102), (103, 0, 104), (103, 1, 105), (103, 2, 106), (103, 3, 107), (103, 4, 108), (102, 0, 103), (109, 0, 110), (111, 0, 112), (111, 1, 113), (111, 2, 114), (111, 3, 115), (111, 4, 116), (110, 0, 111), (117, 0, 118), (117, 1, 119), (117, 2, 120), (117, 3, 121), (117, 4, 122), (110, 1, 117), (123, 0, 124), (123, 1, 125), (123, 2, 126), (123, 3, 127), (123, 4, 128), (110, 2, 123), (129, 0, 130), (129, 1, 131), (129, 2, 132), (129, 3, 133), (129, 4, 134), (110, 3, 129), (135, 0, 136), (135, 1, 137), (135, 2, 138), (135, 3, 139), (135, 4, 140), (110, 4, 135), (141, 0, 142), (141, 1, 143), (141, 2, 144), (141, 3, 145), (141, 4, 146), (110, 5, 141), (147, 0, 148), (147, 1, 149), (147, 2, 150), (147, 3, 151), (147, 4, 152), (110, 6, 147), (153, 0, 154), (153, 1, 155), (153, 2, 156), (153, 3, 157), (153, 4, 158), (110, 7, 153), (159, 0, 160), (159, 1, 161), (159, 2, 162), (159, 3, 163), (159, 4, 164), (110, 8, 159), (165, 0, 166), (165, 1, 167), (165, 2, 168), (165, 3, 169), (165, 4, 170), (110, 9, 165), (102, 1, 109), (92, 1, 171), (172, 0, 173), (172, 1, 174), (172, 2, 175), (172, 3, 176), (172, 4, 177), (171, 0, 172), (178, 0, 179), (180, 0, 181), (180, 1, 182), (180, 2, 183), (180, 3, 184), (180, 4, 185), (179, 0, 180), (186, 0, 187), (186, 1, 188), (186, 2, 189), (186, 3, 190), (186, 4, 191), (179, 1, 186), (192, 0, 193), (192, 1, 194), (192, 2, 195), (192, 3, 196), (192, 4, 197), (179, 2, 192), (198, 0, 199), (198, 1, 200), (198, 2, 201), (198, 3, 202), (198, 4, 203), (179, 3, 198), (204, 0, 205), (204, 1, 206), (204, 2, 207), (204, 3, 208), (204, 4, 209), (179, 4, 204), (210, 0, 211), (210, 1, 212), (210, 2, 213), (210, 3, 214), (210, 4, 215), (179, 5, 210), (216, 0, 217), (216, 1, 218), (216, 2, 219), (216, 3, 220), (216, 4, 221), (179, 6, 216), (222, 0, 223), (222, 1, 224), (222, 2, 225), (222, 3, 226), (222, 4, 227), (179, 7, 222), (228, 0, 229), (228, 1, 230), (228, 2, 231), (228, 3, 232), (228, 4, 233), (179, 8, 228), (234, 0, 235), (234, 1, 236), (234, 2, 237), (234, 3, 238), (234, 4, 239), (179, 9, 234), (171, 1, 178), (240, 2, 241), (240, 4, 242), (240, 6, 243), (240, 7, 244), (240, 8, 245), (240, 10, 246), (240, 11, 247), (240, 12, 248), (240, 15, 249), (240, 23, 250), (240, 25, 251), (240, 26, 252), (240, 27, 253), (240, 29, 254), (240, 30, 255), (240, 33, 256)]
/-- the references that never change -/
def zGd (g : zH) : Prop := ∀ q ∈ STAT, g q.1 q.2.1 = q.2.2
theorem gf_2_0 {g : zH} (hg : zGd g) : g 2 0 = 3 := hg (2, 0, 3) (List.mem_of_getElem? (i := 0) rfl)
theorem gf_1_0 {g : zH} (hg : zGd g) : g 1 0 = 2 := hg (1, 0, 2) (List.mem_of_getElem? (i := 1) rfl)
theorem gf_4_4 {g : zH} (hg : zGd g) : g 4 4 = 5 := hg (4, 4, 5) (List.mem_of_getElem? (i := 2) rfl)
theorem gf_4_5 {g : zH} (hg : zGd g) : g 4 5 = 6 := hg (4, 5, 6) (List.mem_of_getElem? (i := 3) rfl)
theorem gf_4_6 {g : zH} (hg : zGd g) : g 4 6 = 7 := hg (4, 6, 7) (List.mem_of_getElem? (i := 4) rfl)
theorem gf_4_7 {g : zH} (hg : zGd g) : g 4 7 = 8 := hg (4, 7, 8) (List.mem_of_getElem? (i := 5) rfl)
theorem gf_4_8 {g : zH} (hg : zGd g) : g 4 8 = 9 := hg (4, 8, 9) (List.mem_of_getElem? (i := 6) rfl)
theorem gf_4_9 {g : zH} (hg : zGd g) : g 4 9 = 10 := hg (4, 9, 10) (List.mem_of_getElem? (i := 7) rfl)
theorem gf_4_10 {g : zH} (hg : zGd g) : g 4 10 = 11 := hg (4, 10, 11) (List.mem_of_getElem? (i := 8) rfl)
theorem gf_4_11 {g : zH} (hg : zGd g) : g 4 11 = 12 := hg (4, 11, 12) (List.mem_of_getElem? (i := 9) rfl)
theorem gf_4_12 {g : zH} (hg : zGd g) : g 4 12 = 13 := hg (4, 12, 13) (List.mem_of_getElem? (i := 10) rfl)
theorem gf_14_4 {g : zH} (hg : zGd g) : g 14 4 = 15 := hg (14, 4, 15) (List.mem_of_getElem? (i := 11) rfl)
theorem gf_14_5 {g : zH} (hg : zGd g) : g 14 5 = 16 := hg (14, 5, 16) (List.mem_of_getElem? (i := 12) rfl)
theorem gf_14_6 {g : zH} (hg : zGd g) : g 14 6 = 17 := hg (14, 6, 17) (List.mem_of_getElem? (i := 13) rfl)
theorem gf_14_7 {g : zH} (hg : zGd g) : g 14 7 = 18 := hg (14, 7, 18) (List.mem_of_getElem? (i := 14) rfl)
theorem gf_14_8 {g : zH} (hg : zGd g) : g 14 8 = 19 := hg (14, 8, 19) (List.mem_of_getElem? (i := 15) rfl)
theorem gf_14_9 {g : zH} (hg : zGd g) : g 14 9 = 20 := hg (14, 9, 20) (List.mem_of_getElem? (i := 16) rfl)
theorem gf_14_10 {g : zH} (hg : zGd g) : g 14 10 = 21 := hg (14, 10, 21) (List.mem_of_getElem? (i := 17) rfl)
theorem gf_14_11 {g : zH} (hg : zGd g) : g 14 11 = 22 := hg (14, 11, 22) (List.mem_of_getElem? (i := 18) rfl)
theorem gf_14_12 {g : zH} (hg : zGd g) : g 14 12 = 23 := hg (14, 12, 23) (List.mem_of_getElem? (i := 19) rfl)
theorem gf_24_0 {g : zH} (hg : zGd g) : g 24 0 = 25 := hg (24, 0, 25) (List.mem_of_getElem? (i := 20) rfl)
theorem gf_24_1 {g : zH} (hg : zGd g) : g 24 1 = 26 := hg (24, 1, 26) (List.mem_of_getElem? (i := 21) rfl)
theorem gf_24_2 {g : zH} (hg : zGd g) : g 24 2 = 27 := hg (24, 2, 27) (List.mem_of_getElem? (i := 22) rfl)
theorem gf_24_3 {g : zH} (hg : zGd g) : g 24 3 = 28 := hg (24, 3, 28) (List.mem_of_getElem? (i := 23) rfl)
theorem gf_24_4 {g : zH} (hg : zGd g) : g 24 4 = 29 := hg (24, 4, 29) (List.mem_of_getElem? (i := 24) rfl)
theorem gf_1_3 {g : zH} (hg : zGd g) : g 1 3 = 24 := hg (1, 3, 24) (List.mem_of_getElem? (i := 25) rfl)
theorem gf_30_0 {g : zH} (hg : zGd g) : g 30 0 = 31 := hg (30, 0, 31) (List.mem_of_getElem? (i := 26) rfl)
theorem gf_32_0 {g : zH} (hg : zGd g) : g 32 0 = 33 := hg (32, 0, 33) (List.mem_of_getElem? (i := 27) rfl)
theorem gf_32_1 {g : zH} (hg : zGd g) : g 32 1 = 34 := hg (32, 1, 34) (List.mem_of_getElem? (i := 28) rfl)
theorem gf_32_2 {g : zH} (hg : zGd g) : g 32 2 = 35 := hg (32, 2, 35) (List.mem_of_getElem? (i := 29) rfl)
theorem gf_32_3 {g : zH} (hg : zGd g) : g 32 3 = 36 := hg (32, 3, 36) (List.mem_of_getElem? (i := 30) rfl)
theorem gf_32_4 {g : zH} (hg : zGd g) : g 32 4 = 37 := hg (32, 4, 37) (List.mem_of_getElem? (i := 31) rfl)
theorem gf_38_0 {g : zH} (hg : zGd g) : g 38 0 = 39 := hg (38, 0, 39) (List.mem_of_getElem? (i := 32) rfl)
theorem gf_38_1 {g : zH} (hg : zGd g) : g 38 1 = 40 := hg (38, 1, 40) (List.mem_of_getElem? (i := 33) rfl)
theorem gf_38_2 {g : zH} (hg : zGd g) : g 38 2 = 41 := hg (38, 2, 41) (List.mem_of_getElem? (i := 34) rfl)
theorem gf_38_3 {g : zH} (hg : zGd g) : g 38 3 = 42 := hg (38, 3, 42) (List.mem_of_getElem? (i := 35) rfl)
theorem gf_38_4 {g : zH} (hg : zGd g) : g 38 4 = 43 := hg (38, 4, 43) (List.mem_of_getElem? (i := 36) rfl)
theorem gf_44_0 {g : zH} (hg : zGd g) : g 44 0 = 45 := hg (44, 0, 45) (List.mem_of_getElem? (i := 37) rfl)
theorem gf_44_1 {g : zH} (hg : zGd g) : g 44 1 = 46 := hg (44, 1, 46) (List.mem_of_getElem? (i := 38) rfl)
theorem gf_44_2 {g : zH} (hg : zGd g) : g 44 2 = 47 := hg (44, 2, 47) (List.mem_of_getElem? (i := 39) rfl)
theorem gf_44_3 {g : zH} (hg : zGd g) : g 44 3 = 48 := hg (44, 3, 48) (List.mem_of_getElem? (i := 40) rfl)
theorem gf_44_4 {g : zH} (hg : zGd g) : g 44 4 = 49 := hg (44, 4, 49) (List.mem_of_getElem? (i := 41) rfl)
theorem gf_50_0 {g : zH} (hg : zGd g) : g 50 0 = 51 := hg (50, 0, 51) (List.mem_of_getElem? (i := 42) rfl)
theorem gf_50_1 {g : zH} (hg : zGd g) : g 50 1 = 52 := hg (50, 1, 52) (List.mem_of_getElem? (i := 43) rfl)
theorem gf_50_2 {g : zH} (hg : zGd g) : g 50 2 = 53 := hg (50, 2, 53) (List.mem_of_getElem? (i := 44) rfl)
theorem gf_50_3 {g : zH} (hg : zGd g) : g 50 3 = 54 := hg (50, 3, 54) (List.mem_of_getElem? (i := 45) rfl)
theorem gf_50_4 {g : zH} (hg : zGd g) : g 50 4 = 55 := hg (50, 4, 55) (List.mem_of_getElem? (i := 46) rfl)
theorem gf_56_0 {g : zH} (hg : zGd g) : g 56 0 = 57 := hg (56, 0, 57) (List.mem_of_getElem? (i := 47) rfl)
theorem gf_56_1 {g : zH} (hg : zGd g) : g 56 1 = 58 := hg (56, 1, 58) (List.mem_of_getElem? (i := 48) rfl)
theorem gf_56_2 {g : zH} (hg : zGd g) : g 56 2 = 59 := hg (56, 2, 59) (List.mem_of_getElem? (i := 49) rfl)
theorem gf_56_3 {g : zH} (hg : zGd g) : g 56 3 = 60 := hg (56, 3, 60) (List.mem_of_getElem? (i := 50) rfl)
theorem gf_56_4 {g : zH} (hg : zGd g) : g 56 4 = 61 := hg (56, 4, 61) (List.mem_of_getElem? (i := 51) rfl)
theorem gf_62_0 {g : zH} (hg : zGd g) : g 62 0 = 63 := hg (62, 0, 63) (List.mem_of_getElem? (i := 52) rfl)
theorem gf_62_1 {g : zH} (hg : zGd g) : g 62 1 = 64 := hg (62, 1, 64) (List.mem_of_getElem? (i := 53) rfl)
theorem gf_62_2 {g : zH} (hg : zGd g) : g 62 2 = 65 := hg (62, 2, 65) (List.mem_of_getElem? (i := 54) rfl)
theorem gf_62_3 {g : zH} (hg : zGd g) : g 62 3 = 66 := hg (62, 3, 66) (List.mem_of_getElem? (i := 55) rfl)
theorem gf_62_4 {g : zH} (hg : zGd g) : g 62 4 = 67 := hg (62, 4, 67) (List.mem_of_getElem? (i := 56) rfl)
theorem gf_68_0 {g : zH} (hg : zGd g) : g 68 0 = 69 := hg (68, 0, 69) (List.mem_of_getElem? (i := 57) rfl)
theorem gf_68_1 {g : zH} (hg : zGd g) : g 68 1 = 70 := hg (68, 1, 70) (List.mem_of_getElem? (i := 58) rfl)
theorem gf_68_2 {g : zH} (hg : zGd g) : g 68 2 = 71 := hg (68, 2, 71) (List.mem_of_getElem? (i := 59) rfl)
theorem gf_68_3 {g : zH} (hg : zGd g) : g 68 3 = 72 := hg (68, 3, 72) (List.mem_of_getElem? (i := 60) rfl)
theorem gf_68_4 {g : zH} (hg : zGd g) : g 68 4 = 73 := hg (68, 4, 73) (List.mem_of_getElem? (i := 61) rfl)
theorem gf_74_0 {g : zH} (hg : zGd g) : g 74 0 = 75 := hg (74, 0, 75) (List.mem_of_getElem? (i := 62) rfl)
theorem gf_74_1 {g : zH} (hg : zGd g) : g 74 1 = 76 := hg (74, 1, 76) (List.mem_of_getElem? (i := 63) rfl)
theorem gf_74_2 {g : zH} (hg : zGd g) : g 74 2 = 77 := hg (74, 2, 77) (List.mem_of_getElem? (i := 64) rfl)
theorem gf_74_3 {g : zH} (hg : zGd g) : g 74 3 = 78 := hg (74, 3, 78) (List.mem_of_getElem? (i := 65) rfl)
theorem gf_74_4 {g : zH} (hg : zGd g) : g 74 4 = 79 := hg (74, 4, 79) (List.mem_of_getElem? (i := 66) rfl)
theorem gf_80_0 {g : zH} (hg : zGd g) : g 80 0 = 81 := hg (80, 0, 81) (List.mem_of_getElem? (i := 67) rfl)
theorem gf_80_1 {g : zH} (hg : zGd g) : g 80 1 = 82 := hg (80, 1, 82) (List.mem_of_getElem? (i := 68) rfl)
theorem gf_80_2 {g : zH} (hg : zGd g) : g 80 2 = 83 := hg (80, 2, 83) (List.mem_of_getElem? (i := 69) rfl)
theorem gf_80_3 {g : zH} (hg : zGd g) : g 80 3 = 84 := hg (80, 3, 84) (List.mem_of_getElem? (i := 70) rfl)
theorem gf_80_4 {g : zH} (hg : zGd g) : g 80 4 = 85 := hg (80, 4, 85) (List.mem_of_getElem? (i := 71) rfl)
theorem gf_86_0 {g : zH} (hg : zGd g) : g 86 0 = 87 := hg (86, 0, 87) (List.mem_of_getElem? (i := 72) rfl)
theorem gf_86_1 {g : zH} (hg : zGd g) : g 86 1 = 88 := hg (86, 1, 88) (List.mem_of_getElem? (i := 73) rfl)
theorem gf_86_2 {g : zH} (hg : zGd g) : g 86 2 = 89 := hg (86, 2, 89) (List.mem_of_getElem? (i := 74) rfl)
theorem gf_86_3 {g : zH} (hg : zGd g) : g 86 3 = 90 := hg (86, 3, 90) (List.mem_of_getElem? (i := 75) rfl)
theorem gf_86_4 {g : zH} (hg : zGd g) : g 86 4 = 91 := hg (86, 4, 91) (List.mem_of_getElem? (i := 76) rfl)
theorem gf_1_4 {g : zH} (hg : zGd g) : g 1 4 = 30 := hg (1, 4, 30) (List.mem_of_getElem? (i := 77) rfl)
theorem gf_1_5 {g : zH} (hg : zGd g) : g 1 5 = 92 := hg (1, 5, 92) (List.mem_of_getElem? (i := 78) rfl)
theorem gf_93_0 {g : zH} (hg : zGd g) : g 93 0 = 94 := hg (93, 0, 94) (List.mem_of_getElem? (i := 79) rfl)
theorem gf_93_1 {g : zH} (hg : zGd g) : g 93 1 = 95 := hg (93, 1, 95) (List.mem_of_getElem? (i := 80) rfl)
theorem gf_1_6 {g : zH} (hg : zGd g) : g 1 6 = 93 := hg (1, 6, 93) (List.mem_of_getElem? (i := 81) rfl)
theorem gf_96_0 {g : zH} (hg : zGd g) : g 96 0 = 97 := hg (96, 0, 97) (List.mem_of_getElem? (i := 82) rfl)
theorem gf_96_1 {g : zH} (hg : zGd g) : g 96 1 = 98 := hg (96, 1, 98) (List.mem_of_getElem? (i := 83) rfl)
theorem gf_1_7 {g : zH} (hg : zGd g) : g 1 7 = 96 := hg (1, 7, 96) (List.mem_of_getElem? (i := 84) rfl)
theorem gf_99_0 {g : zH} (hg : zGd g) : g 99 0 = 100 := hg (99, 0, 100) (List.mem_of_getElem? (i := 85) rfl)
theorem gf_99_1 {g : zH} (hg : zGd g) : g 99 1 = 101 := hg (99, 1, 101) (List.mem_of_getElem? (i := 86) rfl)
theorem gf_1_8 {g : zH} (hg : zGd g) : g 1 8 = 99 := hg (1, 8, 99) (List.mem_of_getElem? (i := 87) rfl)
theorem gf_92_0 {g : zH} (hg : zGd g) : g 92 0 = 102 := hg (92, 0, 102) (List.mem_of_getElem? (i := 88) rfl)
theorem gf_103_0 {g : zH} (hg : zGd g) : g 103 0 = 104 := hg (103, 0, 104) (List.mem_of_getElem? (i := 89) rfl)
theorem gf_103_1 {g : zH} (hg : zGd g) : g 103 1 = 105 := hg (103, 1, 105) (List.mem_of_getElem? (i := 90) rfl)
theorem gf_103_2 {g : zH} (hg : zGd g) : g 103 2 = 106 := hg (103, 2, 106) (List.mem_of_getElem? (i := 91) rfl)
theorem gf_103_3 {g : zH} (hg : zGd g) : g 103 3 = 107 := hg (103, 3, 107) (List.mem_of_getElem? (i := 92) rfl)
theorem gf_103_4 {g : zH} (hg : zGd g) : g 103 4 = 108 := hg (103, 4, 108) (List.mem_of_getElem? (i := 93) rfl)
theorem gf_102_0 {g : zH} (hg : zGd g) : g 102 0 = 103 := hg (102, 0, 103) (List.mem_of_getElem? (i := 94) rfl)
theorem gf_109_0 {g : zH} (hg : zGd g) : g 109 0 = 110 := hg (109, 0, 110) (List.mem_of_getElem? (i := 95) rfl)
theorem gf_111_0 {g : zH} (hg : zGd g) : g 111 0 = 112 := hg (111, 0, 112) (List.mem_of_getElem? (i := 96) rfl)
theorem gf_111_1 {g : zH} (hg : zGd g) : g 111 1 = 113 := hg (111, 1, 113) (List.mem_of_getElem? (i := 97) rfl)
theorem gf_111_2 {g : zH} (hg : zGd g) : g 111 2 = 114 := hg (111, 2, 114) (List.mem_of_getElem? (i := 98) rfl)
theorem gf_111_3 {g : zH} (hg : zGd g) : g 111 3 = 115 := hg (111, 3, 115) (List.mem_of_getElem? (i := 99) rfl)
theorem gf_111_4 {g : zH} (hg : zGd g) : g 111 4 = 116 := hg (111, 4, 116) (List.mem_of_getElem? (i := 100) rfl)
theorem gf_110_0 {g : zH} (hg : zGd g) : g 110 0 = 111 := hg (110, 0, 111) (List.mem_of_getElem? (i := 101) rfl)
theorem gf_117_0 {g : zH} (hg : zGd g) : g 117 0 = 118 := hg (117, 0, 118) (List.mem_of_getElem? (i := 102) rfl)
theorem gf_117_1 {g : zH} (hg : zGd g) : g 117 1 = 119 := hg (117, 1, 119) (List.mem_of_getElem? (i := 103) rfl)
theorem gf_117_2 {g : zH} (hg : zGd g) : g 117 2 = 120 := hg (117, 2, 120) (List.mem_of_getElem? (i := 104) rfl)
theorem gf_117_3 {g : zH} (hg : zGd g) : g 117 3 = 121 := hg (117, 3, 121) (List.mem_of_getElem? (i := 105) rfl)
theorem gf_117_4 {g : zH} (hg : zGd g) : g 117 4 = 122 := hg (117, 4, 122) (List.mem_of_getElem? (i := 106) rfl)
theorem gf_110_1 {g : zH} (hg : zGd g) : g 110 1 = 117 := hg (110, 1, 117) (List.mem_of_getElem? (i := 107) rfl)
theorem gf_123_0 {g : zH} (hg : zGd g) : g 123 0 = 124 := hg (123, 0, 124) (List.mem_of_getElem? (i := 108) rfl)
theorem gf_123_1 {g : zH} (hg : zGd g) : g 123 1 = 125 := hg (123, 1, 125) (List.mem_of_getElem? (i := 109) rfl)
theorem gf_123_2 {g : zH} (hg : zGd g) : g 123 2 = 126 := hg (123, 2, 126) (List.mem_of_getElem? (i := 110) rfl)
theorem gf_123_3 {g : zH} (hg : zGd g) : g 123 3 = 127 := hg (123, 3, 127) (List.mem_of_getElem? (i := 111) rfl)
theorem gf_123_4 {g : zH} (hg : zGd g) : g 123 4 = 128 := hg (123, 4, 128) (List.mem_of_getElem? (i := 112) rfl)
theorem gf_110_2 {g : zH} (hg : zGd g) : g 110 2 = 123 := hg (110, 2, 123) (List.mem_of_getElem? (i := 113) rfl)
theorem gf_129_0 {g : zH} (hg : zGd g) : g 129 0 = 130 := hg (129, 0, 130) (List.mem_of_getElem? (i := 114) rfl)
theorem gf_129_1 {g : zH} (hg : zGd g) : g 129 1 = 131 := hg (129, 1, 131) (List.mem_of_getElem? (i := 115) rfl)
theorem gf_129_2 {g : zH} (hg : zGd g) : g 129 2 = 132 := hg (129, 2, 132) (List.mem_of_getElem? (i := 116) rfl)
theorem gf_129_3 {g : zH} (hg : zGd g) : g 129 3 = 133 := hg (129, 3, 133) (List.mem_of_getElem? (i := 117) rfl)
theorem gf_129_4 {g : zH} (hg : zGd g) : g 129 4 = 134 := hg (129, 4, 134) (List.mem_of_getElem? (i := 118) rfl)
theorem gf_110_3 {g : zH} (hg : zGd g) : g 110 3 = 129 := hg (110, 3, 129) (List.mem_of_getElem? (i := 119) rfl)
theorem gf_135_0 {g : zH} (hg : zGd g) : g 135 0 = 136 := hg (135, 0, 136) (List.mem_of_getElem? (i := 120) rfl)
theorem gf_135_1 {g : zH} (hg : zGd g) : g 135 1 = 137 := hg (135, 1, 137) (List.mem_of_getElem? (i := 121) rfl)
theorem gf_135_2 {g : zH} (hg : zGd g) : g 135 2 = 138 := hg (135, 2, 138) (List.mem_of_getElem? (i := 122) rfl)
theorem gf_135_3 {g : zH} (hg : zGd g) : g 135 3 = 139 := hg (135, 3, 139) (List.mem_of_getElem? (i := 123) rfl)
theorem gf_135_4 {g : zH} (hg : zGd g) : g 135 4 = 140 := hg (135, 4, 140) (List.mem_of_getElem? (i := 124) rfl)
theorem gf_110_4 {g : zH} (hg : zGd g) : g 110 4 = 135 := hg (110, 4, 135) (List.mem_of_getElem? (i := 125) rfl)
theorem gf_141_0 {g : zH} (hg : zGd g) : g 141 0 = 142 := hg (141, 0, 142) (List.mem_of_getElem? (i := 126) rfl)
theorem gf_141_1 {g : zH} (hg : zGd g) : g 141 1 = 143 := hg (141, 1, 143) (List.mem_of_getElem? (i := 127) rfl)
theorem gf_141_2 {g : zH} (hg : zGd g) : g 141 2 = 144 := hg (141, 2, 144) (List.mem_of_getElem? (i := 128) rfl)
theorem gf_141_3 {g : zH} (hg : zGd g) : g 141 3 = 145 := hg (141, 3, 145) (List.mem_of_getElem? (i := 129) rfl)
theorem gf_141_4 {g : zH} (hg : zGd g) : g 141 4 = 146 := hg (141, 4, 146) (List.mem_of_getElem? (i := 130) rfl)
theorem gf_110_5 {g : zH} (hg : zGd g) : g 110 5 = 141 := hg (110, 5, 141) (List.mem_of_getElem? (i := 131) rfl)
theorem gf_147_0 {g : zH} (hg : zGd g) : g 147 0 = 148 := hg (147, 0, 148) (List.mem_of_getElem? (i := 132) rfl)
theorem gf_147_1 {g : zH} (hg : zGd g) : g 147 1 = 149 := hg (147, 1, 149) (List.mem_of_getElem? (i := 133) rfl)
theorem gf_147_2 {g : zH} (hg : zGd g) : g 147 2 = 150 := hg (147, 2, 150) (List.mem_of_getElem? (i := 134) rfl)
theorem gf_147_3 {g : zH} (hg : zGd g) : g 147 3 = 151 := hg (147, 3, 151) (List.mem_of_getElem? (i := 135) rfl)
theorem gf_147_4 {g : zH} (hg : zGd g) : g 147 4 = 152 := hg (147, 4, 152) (List.mem_of_getElem? (i := 136) rfl)
theorem gf_110_6 {g : zH} (hg : zGd g) : g 110 6 = 147 := hg (110, 6, 147) (List.mem_of_getElem? (i := 137) rfl)
theorem gf_153_0 {g : zH} (hg : zGd g) : g 153 0 = 154 := hg (153, 0, 154) (List.mem_of_getElem? (i := 138) rfl)
theorem gf_153_1 {g : zH} (hg : zGd g) : g 153 1 = 155 := hg (153, 1, 155) (List.mem_of_getElem? (i := 139) rfl)
theorem gf_153_2 {g : zH} (hg : zGd g) : g 153 2 = 156 := hg (153, 2, 156) (List.mem_of_getElem? (i := 140) rfl)
theorem gf_153_3 {g : zH} (hg : zGd g) : g 153 3 = 157 := hg (153, 3, 157) (List.mem_of_getElem? (i := 141) rfl)
theorem gf_153_4 {g : zH} (hg : zGd g) : g 153 4 = 158 := hg (153, 4, 158) (List.mem_of_getElem? (i := 142) rfl)
theorem gf_110_7 {g : zH} (hg : zGd g) : g 110 7 = 153 := hg (110, 7, 153) (List.mem_of_getElem? (i := 143) rfl)
theorem gf_159_0 {g : zH} (hg : zGd g) : g 159 0 = 160 := hg (159, 0, 160) (List.mem_of_getElem? (i := 144) rfl)
theorem gf_159_1 {g : zH} (hg : zGd g) : g 159 1 = 161 := hg (159, 1, 161) (List.mem_of_getElem? (i := 145) rfl)
theorem gf_159_2 {g : zH} (hg : zGd g) : g 159 2 = 162 := hg (159, 2, 162) (List.mem_of_getElem? (i := 146) rfl)
theorem gf_159_3 {g : zH} (hg : zGd g) : g 159 3 = 163 := hg (159, 3, 163) (List.mem_of_getElem? (i := 147) rfl)
theorem gf_159_4 {g : zH} (hg : zGd g) : g 159 4 = 164 := hg (159, 4, 164) (List.mem_of_getElem? (i := 148) rfl)
theorem gf_110_8 {g : zH} (hg : zGd g) : g 110 8 = 159 := hg (110, 8, 159) (List.mem_of_getElem? (i := 149) rfl)
theorem gf_165_0 {g : zH} (hg : zGd g) : g 165 0 = 166 := hg (165, 0, 166) (List.mem_of_getElem? (i := 150) rfl)
theorem gf_165_1 {g : zH} (hg : zGd g) : g 165 1 = 167 := hg (165, 1, 167) (List.mem_of_getElem? (i := 151) rfl)
theorem gf_165_2 {g : zH} (hg : zGd g) : g 165 2 = 168 := hg (165, 2, 168) (List.mem_of_getElem? (i := 152) rfl)
theorem gf_165_3 {g : zH} (hg : zGd g) : g 165 3 = 169 := hg (165, 3, 169) (List.mem_of_getElem? (i := 153) rfl)
theorem gf_165_4 {g : zH} (hg : zGd g) : g 165 4 = 170 := hg (165, 4, 170) (List.mem_of_getElem? (i := 154) rfl)
theorem gf_110_9 {g : zH} (hg : zGd g) : g 110 9 = 165 := hg (110, 9, 165) (List.mem_of_getElem? (i := 155) rfl)
theorem gf_102_1 {g : zH} (hg : zGd g) : g 102 1 = 109 := hg (102, 1, 109) (List.mem_of_getElem? (i := 156) rfl)
theorem gf_92_1 {g : zH} (hg : zGd g) : g 92 1 = 171 := hg (92, 1, 171) (List.mem_of_getElem? (i := 157) rfl)
theorem gf_172_0 {g : zH} (hg : zGd g) : g 172 0 = 173 := hg (172, 0, 173) (List.mem_of_getElem? (i := 158) rfl)
theorem gf_172_1 {g : zH} (hg : zGd g) : g 172 1 = 174 := hg (172, 1, 174) (List.mem_of_getElem? (i := 159) rfl)
theorem gf_172_2 {g : zH} (hg : zGd g) : g 172 2 = 175 := hg (172, 2, 175) (List.mem_of_getElem? (i := 160) rfl)
theorem gf_172_3 {g : zH} (hg : zGd g) : g 172 3 = 176 := hg (172, 3, 176) (List.mem_of_getElem? (i := 161) rfl)
theorem gf_172_4 {g : zH} (hg : zGd g) : g 172 4 = 177 := hg (172, 4, 177) (List.mem_of_getElem? (i := 162) rfl)
theorem gf_171_0 {g : zH} (hg : zGd g) : g 171 0 = 172 := hg (171, 0, 172) (List.mem_of_getElem? (i := 163) rfl)
theorem gf_178_0 {g : zH} (hg : zGd g) : g 178 0 = 179 := hg (178, 0, 179) (List.mem_of_getElem? (i := 164) rfl)
theorem gf_180_0 {g : zH} (hg : zGd g) : g 180 0 = 181 := hg (180, 0, 181) (List.mem_of_getElem? (i := 165) rfl)
theorem gf_180_1 {g : zH} (hg : zGd g) : g 180 1 = 182 := hg (180, 1, 182) (List.mem_of_getElem? (i := 166) rfl)
theorem gf_180_2 {g : zH} (hg : zGd g) : g 180 2 = 183 := hg (180, 2, 183) (List.mem_of_getElem? (i := 167) rfl)
theorem gf_180_3 {g : zH} (hg : zGd g) : g 180 3 = 184 := hg (180, 3, 184) (List.mem_of_getElem? (i := 168) rfl)
theorem gf_180_4 {g : zH} (hg : zGd g) : g 180 4 = 185 := hg (180, 4, 185) (List.mem_of_getElem? (i := 169) rfl)
theorem gf_179_0 {g : zH} (hg : zGd g) : g 179 0 = 180 := hg (179, 0, 180) (List.mem_of_getElem? (i := 170) rfl)
theorem gf_186_0 {g : zH} (hg : zGd g) : g 186 0 = 187 := hg (186, 0, 187) (List.mem_of_getElem? (i := 171) rfl)
theorem gf_186_1 {g : zH} (hg : zGd g) : g 186 1 = 188 := hg (186, 1, 188) (List.mem_of_getElem? (i := 172) rfl)
theorem gf_186_2 {g : zH} (hg : zGd g) : g 186 2 = 189 := hg (186, 2, 189) (List.mem_of_getElem? (i := 173) rfl)
theorem gf_186_3 {g : zH} (hg : zGd g) : g 186 3 = 190 := hg (186, 3, 190) (List.mem_of_getElem? (i := 174) rfl)
theorem gf_186_4 {g : zH} (hg : zGd g) : g 186 4 = 191 := hg (186, 4, 191) (List.mem_of_getElem? (i := 175) rfl)
theorem gf_179_1 {g : zH} (hg : zGd g) : g 179 1 = 186 := hg (179, 1, 186) (List.mem_of_getElem? (i := 176) rfl)
theorem gf_192_0 {g : zH} (hg : zGd g) : g 192 0 = 193 := hg (192, 0, 193) (List.mem_of_getElem? (i := 177) rfl)
theorem gf_192_1 {g : zH} (hg : zGd g) : g 192 1 = 194 := hg (192, 1, 194) (List.mem_of_getElem? (i := 178) rfl)
theorem gf_192_2 {g : zH} (hg : zGd g) : g 192 2 = 195 := hg (192, 2, 195) (List.mem_of_getElem? (i := 179) rfl)
theorem gf_192_3 {g : zH} (hg : zGd g) : g 192 3 = 196 := hg (192, 3, 196) (List.mem_of_getElem? (i := 180) rfl)
theorem gf_192_4 {g : zH} (hg : zGd g) : g 192 4 = 197 := hg (192, 4, 197) (List.mem_of_getElem? (i := 181) rfl)
theorem gf_179_2 {g : zH} (hg : zGd g) : g 179 2 = 192 := hg (179, 2, 192) (List.mem_of_getElem? (i := 182) rfl)
theorem gf_198_0 {g : zH} (hg : zGd g) : g 198 0 = 199 := hg (198, 0, 199) (List.mem_of_getElem? (i := 183) rfl)
theorem gf_198_1 {g : zH} (hg : zGd g) : g 198 1 = 200 := hg (198, 1, 200) (List.mem_of_getElem? (i := 184) rfl)
theorem gf_198_2 {g : zH} (hg : zGd g) : g 198 2 = 201 := hg (198, 2, 201) (List.mem_of_getElem? (i := 185) rfl)
theorem gf_198_3 {g : zH} (hg : zGd g) : g 198 3 = 202 := hg (198, 3, 202) (List.mem_of_getElem? (i := 186) rfl)
theorem gf_198_4 {g : zH} (hg : zGd g) : g 198 4 = 203 := hg (198, 4, 203) (List.mem_of_getElem? (i := 187) rfl)
theorem gf_179_3 {g : zH} (hg : zGd g) : g 179 3 = 198 := hg (179, 3, 198) (List.mem_of_getElem? (i := 188) rfl)
theorem gf_204_0 {g : zH} (hg : zGd g) : g 204 0 = 205 := hg (204, 0, 205) (List.mem_of_getElem? (i := 189) rfl)
theorem gf_204_1 {g : zH} (hg : zGd g) : g 204 1 = 206 := hg (204, 1, 206) (List.mem_of_getElem? (i := 190) rfl)
theorem gf_204_2 {g : zH} (hg : zGd g) : g 204 2 = 207 := hg (204, 2, 207) (List.mem_of_getElem? (i := 191) rfl)
theorem gf_204_3 {g : zH} (hg : zGd g) : g 204 3 = 208 := hg (204, 3, 208) (List.mem_of_getElem? (i := 192) rfl)
theorem gf_204_4 {g : zH} (hg : zGd g) : g 204 4 = 209 := hg (204, 4, 209) (List.mem_of_getElem? (i := 193) rfl)
theorem gf_179_4 {g : zH} (hg : zGd g) : g 179 4 = 204 := hg (179, 4, 204) (List.mem_of_getElem? (i := 194) rfl)
theorem gf_210_0 {g : zH} (hg : zGd g) : g 210 0 = 211 := hg (210, 0, 211) (List.mem_of_getElem? (i := 195) rfl)
theorem gf_210_1 {g : zH} (hg : zGd g) : g 210 1 = 212 := hg (210, 1, 212) (List.mem_of_getElem? (i := 196) rfl)
theorem gf_210_2 {g : zH} (hg : zGd g) : g 210 2 = 213 := hg (210, 2, 213) (List.mem_of_getElem? (i := 197) rfl)
theorem gf_210_3 {g : zH} (hg : zGd g) : g 210 3 = 214 := hg (210, 3, 214) (List.mem_of_getElem? (i := 198) rfl)
theorem gf_210_4 {g : zH} (hg : zGd g) : g 210 4 = 215 := hg (210, 4, 215) (List.mem_of_getElem? (i := 199) rfl)
theorem gf_179_5 {g : zH} (hg : zGd g) : g 179 5 = 210 := hg (179, 5, 210) (List.mem_of_getElem? (i := 200) rfl)
theorem gf_216_0 {g : zH} (hg : zGd g) : g 216 0 = 217 := hg (216, 0, 217) (List.mem_of_getElem? (i := 201) rfl)
theorem gf_216_1 {g : zH} (hg : zGd g) : g 216 1 = 218 := hg (216, 1, 218) (List.mem_of_getElem? (i := 202) rfl)
theorem gf_216_2 {g : zH} (hg : zGd g) : g 216 2 = 219 := hg (216, 2, 219) (List.mem_of_getElem? (i := 203) rfl)
theorem gf_216_3 {g : zH} (hg : zGd g) : g 216 3 = 220 := hg (216, 3, 220) (List.mem_of_getElem? (i := 204) rfl)
theorem gf_216_4 {g : zH} (hg : zGd g) : g 216 4 = 221 := hg (216, 4, 221) (List.mem_of_getElem? (i := 205) rfl)
theorem gf_179_6 {g : zH} (hg : zGd g) : g 179 6 = 216 := hg (179, 6, 216) (List.mem_of_getElem? (i := 206) rfl)
theorem gf_222_0 {g : zH} (hg : zGd g) : g 222 0 = 223 := hg (222, 0, 223) (List.mem_of_getElem? (i := 207) rfl)
theorem gf_222_1 {g : zH} (hg : zGd g) : g 222 1 = 224 := hg (222, 1, 224) (List.mem_of_getElem? (i := 208) rfl)
theorem gf_222_2 {g : zH} (hg : zGd g) : g 222 2 = 225 := hg (222, 2, 225) (List.mem_of_getElem? (i := 209) rfl)
theorem gf_222_3 {g : zH} (hg : zGd g) : g 222 3 = 226 := hg (222, 3, 226) (List.mem_of_getElem? (i := 210) rfl)
theorem gf_222_4 {g : zH} (hg : zGd g) : g 222 4 = 227 := hg (222, 4, 227) (List.mem_of_getElem? (i := 211) rfl)
theorem gf_179_7 {g : zH} (hg : zGd g) : g 179 7 = 222 := hg (179, 7, 222) (List.mem_of_getElem? (i := 212) rfl)
theorem gf_228_0 {g : zH} (hg : zGd g) : g 228 0 = 229 := hg (228, 0, 229) (List.mem_of_getElem? (i := 213) rfl)
theorem gf_228_1 {g : zH} (hg : zGd g) : g 228 1 = 230 := hg (228, 1, 230) (List.mem_of_getElem? (i := 214) rfl)
theorem gf_228_2 {g : zH} (hg : zGd g) : g 228 2 = 231 := hg (228, 2, 231) (List.mem_of_getElem? (i := 215) rfl)
theorem gf_228_3 {g : zH} (hg : zGd g) : g 228 3 = 232 := hg (228, 3, 232) (List.mem_of_getElem? (i := 216) rfl)
theorem gf_228_4 {g : zH} (hg : zGd g) : g 228 4 = 233 := hg (228, 4, 233) (List.mem_of_getElem? (i := 217) rfl)
theorem gf_179_8 {g : zH} (hg : zGd g) : g 179 8 = 228 := hg (179, 8, 228) (List.mem_of_getElem? (i := 218) rfl)
theorem gf_234_0 {g : zH} (hg : zGd g) : g 234 0 = 235 := hg (234, 0, 235) (List.mem_of_getElem? (i := 219) rfl)
theorem gf_234_1 {g : zH} (hg : zGd g) : g 234 1 = 236 := hg (234, 1, 236) (List.mem_of_getElem? (i := 220) rfl)
theorem gf_234_2 {g : zH} (hg : zGd g) : g 234 2 = 237 := hg (234, 2, 237) (List.mem_of_getElem? (i := 221) rfl)
theorem gf_234_3 {g : zH} (hg : zGd g) : g 234 3 = 238 := hg (234, 3, 238) (List.mem_of_getElem? (i := 222) rfl)
theorem gf_234_4 {g : zH} (hg : zGd g) : g 234 4 = 239 := hg (234, 4, 239) (List.mem_of_getElem? (i := 223) rfl)
theorem gf_179_9 {g : zH} (hg : zGd g) : g 179 9 = 234 := hg (179, 9, 234) (List.mem_of_getElem? (i := 224) rfl)
theorem gf_171_1 {g : zH} (hg : zGd g) : g 171 1 = 178 := hg (171, 1, 178) (List.mem_of_getElem? (i := 225) rfl)
theorem gf_240_2 {g : zH} (hg : zGd g) : g 240 2 = 241 := hg (240, 2, 241) (List.mem_of_getElem? (i := 226) rfl)
theorem gf_240_4 {g : zH} (hg : zGd g) : g 240 4 = 242 := hg (240, 4, 242) (List.mem_of_getElem? (i := 227) rfl)
theorem gf_240_6 {g : zH} (hg : zGd g) : g 240 6 = 243 := hg (240, 6, 243) (List.mem_of_getElem? (i := 228) rfl)
theorem gf_240_7 {g : zH} (hg : zGd g) : g 240 7 = 244 := hg (240, 7, 244) (List.mem_of_getElem? (i := 229) rfl)
theorem gf_240_8 {g : zH} (hg : zGd g) : g 240 8 = 245 := hg (240, 8, 245) (List.mem_of_getElem? (i := 230) rfl)
theorem gf_240_10 {g : zH} (hg : zGd g) : g 240 10 = 246 := hg (240, 10, 246) (List.mem_of_getElem? (i := 231) rfl)
theorem gf_240_11 {g : zH} (hg : zGd g) : g 240 11 = 247 := hg (240, 11, 247) (List.mem_of_getElem? (i := 232) rfl)
theorem gf_240_12 {g : zH} (hg : zGd g) : g 240 12 = 248 := hg (240, 12, 248) (List.mem_of_getElem? (i := 233) rfl)
theorem gf_240_15 {g : zH} (hg : zGd g) : g 240 15 = 249 := hg (240, 15, 249) (List.mem_of_getElem? (i := 234) rfl)
theorem gf_240_23 {g : zH} (hg : zGd g) : g 240 23 = 250 := hg (240, 23, 250) (List.mem_of_getElem? (i := 235) rfl)
theorem gf_240_25 {g : zH} (hg : zGd g) : g 240 25 = 251 := hg (240, 25, 251) (List.mem_of_getElem? (i := 236) rfl)
theorem gf_240_26 {g : zH} (hg : zGd g) : g 240 26 = 252 := hg (240, 26, 252) (List.mem_of_getElem? (i := 237) rfl)
theorem gf_240_27 {g : zH} (hg : zGd g) : g 240 27 = 253 := hg (240, 27, 253) (List.mem_of_getElem? (i := 238) rfl)
theorem gf_240_29 {g : zH} (hg : zGd g) : g 240 29 = 254 := hg (240, 29, 254) (List.mem_of_getElem? (i := 239) rfl)
theorem gf_240_30 {g : zH} (hg : zGd g) : g 240 30 = 255 := hg (240, 30, 255) (List.mem_of_getElem? (i := 240) rfl)
theorem gf_240_33 {g : zH} (hg : zGd g) : g 240 33 = 256 := hg (240, 33, 256) (List.mem_of_getElem? (i := 241) rfl)
theorem lss_1_0 {a0 v : Option zV} : [a0].set 0 v = [v] := rfl
theorem lss_2_0 {a0 a1 v : Option zV} : [a0, a1].set 0 v = [v, a1] := rfl
theorem lss_2_1 {a0 a1 v : Option zV} : [a0, a1].set 1 v = [a0, v] := rfl
theorem lss_3_0 {a0 a1 a2 v : Option zV} : [a0, a1, a2].set 0 v = [v, a1, a2] := rfl
theorem lss_3_1 {a0 a1 a2 v : Option zV} : [a0, a1, a2].set 1 v = [a0, v, a2] := rfl
theorem lss_3_2 {a0 a1 a2 v : Option zV} : [a0, a1, a2].set 2 v = [a0, a1, v] := rfl
theorem lss_4_0 {a0 a1 a2 a3 v : Option zV} : [a0, a1, a2, a3].set 0 v = [v, a1, a2, a3] := rfl
theorem lss_4_1 {a0 a1 a2 a3 v : Option zV} : [a0, a1, a2, a3].set 1 v = [a0, v, a2, a3] := rfl
theorem lss_4_2 {a0 a1 a2 a3 v : Option zV} : [a0, a1, a2, a3].set 2 v = [a0, a1, v, a3] := rfl
theorem lss_4_3 {a0 a1 a2 a3 v : Option zV} : [a0, a1, a2, a3].set 3 v = [a0, a1, a2, v] := rfl
theorem lss_5_0 {a0 a1 a2 a3 a4 v : Option zV} : [a0, a1, a2, a3, a4].set 0 v = [v, a1, a2, a3, a4] := rfl
theorem lss_5_1 {a0 a1 a2 a3 a4 v : Option zV} : [a0, a1, a2, a3, a4].set 1 v = [a0, v, a2, a3, a4] := rfl
theorem lss_5_2 {a0 a1 a2 a3 a4 v : Option zV} : [a0, a1, a2, a3, a4].set 2 v = [a0, a1, v, a3, a4] := rfl
theorem lss_5_3 {a0 a1 a2 a3 a4 v : Option zV} : [a0, a1, a2, a3, a4].set 3 v = [a0, a1, a2, v, a4] := rfl
theorem lss_5_4 {a0 a1 a2 a3 a4 v : Option zV} : [a0, a1, a2, a3, a4].set 4 v = [a0, a1, a2, a3, v] := rfl
theorem lss_6_0 {a0 a1 a2 a3 a4 a5 v : Option zV} : [a0, a1, a2, a3, a4, a5].set 0 v = [v, a1, a2, a3, a4, a5] := rfl
theorem lss_6_1 {a0 a1 a2 a3 a4 a5 v : Option zV} : [a0, a1, a2, a3, a4, a5].set 1 v = [a0, v, a2, a3, a4, a5] := rfl
theorem lss_6_2 {a0 a1 a2 a3 a4 a5 v : Option zV} : [a0, a1, a2, a3, a4, a5].set 2 v = [a0, a1, v, a3, a4, a5] := rfl
theorem lss_6_3 {a0 a1 a2 a3 a4 a5 v : Option zV} : [a0, a1, a2, a3, a4, a5].set 3 v = [a0, a1, a2, v, a4, a5] := rfl
theorem lss_6_4 {a0 a1 a2 a3 a4 a5 v : Option zV} : [a0, a1, a2, a3, a4, a5].set 4 v = [a0, a1, a2, a3, v, a5] := rfl
theorem lss_6_5 {a0 a1 a2 a3 a4 a5 v : Option zV} : [a0, a1, a2, a3, a4, a5].set 5 v = [a0, a1, a2, a3, a4, v] := rfl
theorem lss_7_0 {a0 a1 a2 a3 a4 a5 a6 v : Option zV} : [a0, a1, a2, a3, a4, a5, a6].set 0 v = [v, a1, a2, a3, a4, a5, a6] := rfl
theorem lss_7_1 {a0 a1 a2 a3 a4 a5 a6 v : Option zV} : [a0, a1, a2, a3, a4, a5, a6].set 1 v = [a0, v, a2, a3, a4, a5, a6] := rfl
theorem lss_7_2 {a0 a1 a2 a3 a4 a5 a6 v : Option zV} : [a0, a1, a2, a3, a4, a5, a6].set 2 v = [a0, a1, v, a3, a4, a5, a6] := rfl
theorem lss_7_3 {a0 a1 a2 a3 a4 a5 a6 v : Option zV} : [a0, a1, a2, a3, a4, a5, a6].set 3 v = [a0, a1, a2, v, a4, a5, a6] := rfl
theorem lss_7_4 {a0 a1 a2 a3 a4 a5 a6 v : Option zV} : [a0, a1, a2, a3, a4, a5, a6].set 4 v = [a0, a1, a2, a3, v, a5, a6] := rfl
theorem lss_7_5 {a0 a1 a2 a3 a4 a5 a6 v : Option zV} : [a0, a1, a2, a3, a4, a5, a6].set 5 v = [a0, a1, a2, a3, a4, v, a6] := rfl
theorem lss_7_6 {a0 a1 a2 a3 a4 a5 a6 v : Option zV} : [a0, a1, a2, a3, a4, a5, a6].set 6 v = [a0, a1, a2, a3, a4, a5, v] := rfl
theorem lss_8_0 {a0 a1 a2 a3 a4 a5 a6 a7 v : Option zV} : [a0, a1, a2, a3, a4, a5, a6, a7].set 0 v = [v, a1, a2, a3, a4, a5, a6, a7] := rfl
theorem lss_8_1 {a0 a1 a2 a3 a4 a5 a6 a7 v : Option zV} : [a0, a1, a2, a3, a4, a5, a6, a7].set 1 v = [a0, v, a2, a3, a4, a5, a6, a7] := rfl
theorem lss_8_2 {a0 a1 a2 a3 a4 a5 a6 a7 v : Option zV} : [a0, a1, a2, a3, a4, a5, a6, a7].set 2 v = [a0, a1, v, a3, a4, a5, a6, a7] := rfl
theorem lss_8_3 {a0 a1 a2 a3 a4 a5 a6 a7 v : Option zV} : [a0, a1, a2, a3, a4, a5, a6, a7].set 3 v = [a0, a1, a2, v, a4, a5, a6, a7] := rfl
theorem lss_8_4 {a0 a1 a2 a3 a4 a5 a6 a7 v : Option zV} : [a0, a1, a2, a3, a4, a5, a6, a7].set 4 v = [a0, a1, a2, a3, v, a5, a6, a7] := rfl
theorem lss_8_5 {a0 a1 a2 a3 a4 a5 a6 a7 v : Option zV} : [a0, a1, a2, a3, a4, a5, a6, a7].set 5 v = [a0, a1, a2, a3, a4, v, a6, a7] := rfl
theorem lss_8_6 {a0 a1 a2 a3 a4 a5 a6 a7 v : Option zV} : [a0, a1, a2, a3, a4, a5, a6, a7].set 6 v = [a0, a1, a2, a3, a4, a5, v, a7] := rfl
theorem lss_8_7 {a0 a1 a2 a3 a4 a5 a6 a7 v : Option zV} : [a0, a1, a2, a3, a4, a5, a6, a7].set 7 v = [a0, a1, a2, a3, a4, a5, a6, v] := rfl
theorem lss_9_0 {a0 a1 a2 a3 a4 a5 a6 a7 a8 v : Option zV} : [a0, a1, a2, a3, a4, a5, a6, a7, a8].set 0 v = [v, a1, a2, a3, a4, a5, a6, a7, a8] := rfl
theorem lss_9_1 {a0 a1 a2 a3 a4 a5 a6 a7 a8 v : Option zV} : [a0, a1, a2, a3, a4, a5, a6, a7, a8].set 1 v = [a0, v, a2, a3, a4, a5, a6, a7, a8] := rfl
theorem lss_9_2 {a0 a1 a2 a3 a4 a5 a6 a7 a8 v : Option zV} : [a0, a1, a2, a3, a4, a5, a6, a7, a8].set 2 v = [a0, a1, v, a3, a4, a5, a6, a7, a8] := rfl
theorem lss_9_3 {a0 a1 a2 a3 a4 a5 a6 a7 a8 v : Option zV} : [a0, a1, a2, a3, a4, a5, a6, a7, a8].set 3 v = [a0, a1, a2, v, a4, a5, a6, a7, a8] := rfl
theorem lss_9_4 {a0 a1 a2 a3 a4 a5 a6 a7 a8 v : Option zV} : [a0, a1, a2, a3, a4, a5, a6, a7, a8].set 4 v = [a0, a1, a2, a3, v, a5, a6, a7, a8] := rfl
theorem lss_9_5 {a0 a1 a2 a3 a4 a5 a6 a7 a8 v : Option zV} : [a0, a1, a2, a3, a4, a5, a6, a7, a8].set 5 v = [a0, a1, a2, a3, a4, v, a6, a7, a8] := rfl
theorem lss_9_6 {a0 a1 a2 a3 a4 a5 a6 a7 a8 v : Option zV} : [a0, a1, a2, a3, a4, a5, a6, a7, a8].set 6 v = [a0, a1, a2, a3, a4, a5, v, a7, a8] := rfl
theorem lss_9_7 {a0 a1 a2 a3 a4 a5 a6 a7 a8 v : Option zV} : [a0, a1, a2, a3, a4, a5, a6, a7, a8].set 7 v = [a0, a1, a2, a3, a4, a5, a6, v, a8] := rfl
theorem lss_9_8 {a0 a1 a2 a3 a4 a5 a6 a7 a8 v : Option zV} : [a0, a1, a2, a3, a4, a5, a6, a7, a8].set 8 v = [a0, a1, a2, a3, a4, a5, a6, a7, v] := rfl
section Z9
variable {X : State → Nat → Prop} {l : Launch} {M : zMd} {B1 B2 : Nat} {Q : zQt} {pc : Nat} {ls : List (Option zV)} {st : List zV} {sh : zS} {h : zH}
theorem y_iadd {x y : Int} (hd : decode (zb M) pc = .ok (.iadd, 1)) (h1 : -2147483648 ≤ x + y) (h2 : x + y < 2147483648) (k : zW X l M B1 B2 Q (pc + 1) ls (zi (x + y) :: st) sh h) : zW X l M B1 B2 Q pc ls (zi y :: zi x :: st) sh h := z_iadd hd (by rw [w32_i h1 h2]; exact k)
theorem y_isub {x y : Int} (hd : decode (zb M) pc = .ok (.isub, 1)) (h1 : -2147483648 ≤ x - y) (h2 : x - y < 2147483648) (k : zW X l M B1 B2 Q (pc + 1) ls (zi (x - y) :: st) sh h) : zW X l M B1 B2 Q pc ls (zi y :: zi x :: st) sh h := z_isub hd (by rw [w32_i h1 h2]; exact k)
theorem y_imul {x y : Int} (hd : decode (zb M) pc = .ok (.imul, 1)) (h1 : -2147483648 ≤ x * y) (h2 : x * y < 2147483648) (k : zW X l M B1 B2 Q (pc + 1) ls (zi (x * y) :: st) sh h) : zW X l M B1 B2 Q pc ls (zi y :: zi x :: st) sh h := z_imul hd (by rw [w32_i h1 h2]; exact k)
theorem y_iinc {i : Nat} {n x : Int} {ls' : List (Option zV)} (hd : decode (zb M) pc = .ok (.iinc i n, 3)) (hi : i < znl M) (hs : zsafe ls i = true) (hx : ls[i]? = some (some (zi x))) (h1 : -2147483648 ≤ x + n) (h2 : x + n < 2147483648) (hl : ls.set i (some (zi (x + n))) = ls') (k : zW X l M B1 B2 Q (pc + 3) ls' st sh h) : zW X l M B1 B2 Q pc ls st sh h := z_iinc hd hi hs hx (by rw [w32_i h1 h2]; exact hl) k
theorem y_ladd {x y : Int} (hd : decode (zb M) pc = .ok (.ladd, 1)) (h1 : -9223372036854775808 ≤ x + y) (h2 : x + y < 9223372036854775808) (k : zW X l M B1 B2 Q (pc + 1) ls (zl (x + y) :: st) sh h) : zW X l M B1 B2 Q pc ls (zl y :: zl x :: st) sh h := z_ladd hd (by rw [w64_id ⟨h1, h2⟩]; exact k)

theorem y_geti {idx ci k n : Nat} {k' : Int} {fin : Bool} {r v : Int} (hf : zFL (zy M).cls idx ci k .int fin) (hk' : (k : Int) = k') (hd : decode (zb M) pc = .ok (.getfield idx, 3)) (hs : zsh sh r = some (ci, n)) (hk : k < n) (hv : h r k' = v) (K : zW X l M B1 B2 Q (pc + 3) ls (zi v :: st) sh h) : zW X l M B1 B2 Q pc ls (zr r :: st) sh h := by
  subst hk'
  exact z_geti hf hd hs hk hv K
theorem y_getz {idx ci k n : Nat} {k' : Int} {fin : Bool} {r v : Int} (hf : zFL (zy M).cls idx ci k .boolean fin) (hk' : (k : Int) = k') (hd : decode (zb M) pc = .ok (.getfield idx, 3)) (hs : zsh sh r = some (ci, n)) (hk : k < n) (hv : h r k' = v) (K : zW X l M B1 B2 Q (pc + 3) ls (zi v :: st) sh h) : zW X l M B1 B2 Q pc ls (zr r :: st) sh h := by
  subst hk'
  exact z_getz hf hd hs hk hv K
theorem y_getl {idx ci k n : Nat} {k' : Int} {fin : Bool} {r v : Int} (hf : zFL (zy M).cls idx ci k .long fin) (hk' : (k : Int) = k') (hd : decode (zb M) pc = .ok (.getfield idx, 3)) (hs : zsh sh r = some (ci, n)) (hk : k < n) (hv : h r k' = v) (K : zW X l M B1 B2 Q (pc + 3) ls (zl v :: st) sh h) : zW X l M B1 B2 Q pc ls (zr r :: st) sh h := by
  subst hk'
  exact z_getl hf hd hs hk hv K
theorem y_geta {idx ci k n : Nat} {k' : Int} {t : FieldType} {fin : Bool} {r v : Int} (hf : zFL (zy M).cls idx ci k (.array t) fin) (hk' : (k : Int) = k') (hd : decode (zb M) pc = .ok (.getfield idx, 3)) (hs : zsh sh r = some (ci, n)) (hk : k < n) (hv : sh.2 r k' = v) (K : zW X l M B1 B2 Q (pc + 3) ls (zr v :: st) sh h) : zW X l M B1 B2 Q pc ls (zr r :: st) sh h := by
  subst hk'
  exact z_geta hf hd hs hk hv K
theorem y_geto {idx ci k n : Nat} {k' : Int} {t : String} {fin : Bool} {r v : Int} (hf : zFL (zy M).cls idx ci k (.object t) fin) (hk' : (k : Int) = k') (hd : decode (zb M) pc = .ok (.getfield idx, 3)) (hs : zsh sh r = some (ci, n)) (hk : k < n) (hv : sh.2 r k' = v) (K : zW X l M B1 B2 Q (pc + 3) ls (zr v :: st) sh h) : zW X l M B1 B2 Q pc ls (zr r :: st) sh h := by
  subst hk'
  exact z_geto hf hd hs hk hv K
theorem y_puti {idx ci k n : Nat} {k' : Int} {r v : Int} (hf : zFL (zy M).cls idx ci k .int false) (hk' : (k : Int) = k') (hd : decode (zb M) pc = .ok (.putfield idx, 3)) (hs : zsh sh r = some (ci, n)) (hk : k < n)  (K : zW X l M B1 B2 Q (pc + 3) ls st sh (zup h r k' v)) : zW X l M B1 B2 Q pc ls (zi v :: zr r :: st) sh h := by
  subst hk'
  exact z_puti hf hd hs hk  K
theorem y_putz {idx ci k n : Nat} {k' : Int} {r v : Int} (hf : zFL (zy M).cls idx ci k .boolean false) (hk' : (k : Int) = k') (hd : decode (zb M) pc = .ok (.putfield idx, 3)) (hs : zsh sh r = some (ci, n)) (hk : k < n) (hv : v = 0 ∨ v = 1) (K : zW X l M B1 B2 Q (pc + 3) ls st sh (zup h r k' v)) : zW X l M B1 B2 Q pc ls (zi v :: zr r :: st) sh h := by
  subst hk'
  exact z_putz hf hd hs hk hv K
theorem y_putl {idx ci k n : Nat} {k' : Int} {r v : Int} (hf : zFL (zy M).cls idx ci k .long false) (hk' : (k : Int) = k') (hd : decode (zb M) pc = .ok (.putfield idx, 3)) (hs : zsh sh r = some (ci, n)) (hk : k < n) (hv : r32 v) (K : zW X l M B1 B2 Q (pc + 3) ls st sh (zup h r k' v)) : zW X l M B1 B2 Q pc ls (zl v :: zr r :: st) sh h := by
  subst hk'
  exact z_putl hf hd hs hk hv K
theorem y_puto {idx ci k n : Nat} {k' : Int} {r v : Int} {t : String} (hf : zFL (zy M).cls idx ci k (.object t) false) (hk' : (k : Int) = k') (hd : decode (zb M) pc = .ok (.putfield idx, 3)) (hs : zsh sh r = some (ci, n)) (hk : k < n) (K : zW X l M B1 B2 Q (pc + 3) ls st (sh.1, zup sh.2 r k' v) h) : zW X l M B1 B2 Q pc ls (zr v :: zr r :: st) sh h := by
  subst hk'
  exact z_puto hf hd hs hk K
theorem y_putFa {idx ci k n : Nat} {k' r v : Int} {t : FieldType} (hf : zFF (zy M).cls idx ci k (.array t)) (hk' : (k : Int) = k') (hin : (zy M).name = "<init>") (hd : decode (zb M) pc = .ok (.putfield idx, 3)) (hs : zsh sh r = some (ci, n)) (hk : k < n) (K : zW X l M B1 B2 Q (pc + 3) ls st (sh.1, zup sh.2 r k' v) h) : zW X l M B1 B2 Q pc ls (zr v :: zr r :: st) sh h := by
  subst hk'
  exact z_putFa hf hin hd hs hk K
theorem y_putFo {idx ci k n : Nat} {k' r v : Int} {t : String} (hf : zFF (zy M).cls idx ci k (.object t)) (hk' : (k : Int) = k') (hin : (zy M).name = "<init>") (hd : decode (zb M) pc = .ok (.putfield idx, 3)) (hs : zsh sh r = some (ci, n)) (hk : k < n) (K : zW X l M B1 B2 Q (pc + 3) ls st (sh.1, zup sh.2 r k' v) h) : zW X l M B1 B2 Q pc ls (zr v :: zr r :: st) sh h := by
  subst hk'
  exact z_putFo hf hin hd hs hk K
/-- a switch over a table, from lo on: outside of it, or at one of its places -/
theorem y_ts {x dflt lo hi : Int} {offs : Array Int} {len td : Nat} (tgs : List Nat) (hd : decode (zb M) pc = .ok (.tableswitch dflt lo hi offs, len)) (ht : (pc : Int) + dflt = (td : Int)) (htg : ∀ j, j < offs.size → offs[j]?.map (fun o => (pc : Int) + o) = some ((tgs.getD j 0 : Nat) : Int)) (hhi : hi = lo + offs.size - 1) (ko : (x < lo ∨ hi < x) → zW X l M B1 B2 Q td ls st sh h) (ki : ∀ j : Nat, j < offs.size → x = lo + j → zW X l M B1 B2 Q (tgs.getD j 0) ls st sh h) : zW X l M B1 B2 Q pc ls (zi x :: st) sh h := by
  by_cases hx : x < lo ∨ hi < x
  · exact z_tsout hd hx ht (ko hx)
  · have hj : (x - lo).toNat < offs.size := by omega
    have h9 := htg _ hj
    cases ho : offs[(x - lo).toNat]? with
    | none => rw [ho] at h9; cases h9
    | some o =>
      rw [ho] at h9
      exact z_tsin hd (by omega) (by omega) ho (Option.some.inj h9) (ki _ hj (by omega))
theorem y_ls {x dflt : Int} {ps : Array (Int × Int)} {len : Nat} (tg : Int → Nat) (hd : decode (zb M) pc = .ok (.lookupswitch dflt ps, len)) (hp : (ps.toList.zip (ps.toList.drop 1)).all (fun (a, next) => a.1 < next.1) = true) (ht : (pc : Int) + Op.lookupswitch.offset ps.toList dflt x = (tg x : Int)) (k : zW X l M B1 B2 Q (tg x) ls st sh h) : zW X l M B1 B2 Q pc ls (zi x :: st) sh h := z_lsw hd hp rfl ht k
end Z9

