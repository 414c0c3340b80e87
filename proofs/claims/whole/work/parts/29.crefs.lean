/-! The class: its houses and nows; who may go; how a laugh spreads. -/
theorem houseF {g : zH} (hg : zGd g) {t : Int} (ht : t = 4 ∨ t = 14) : zsh (SHL, g) t = some (3, 13) ∧ zsh (SHL, g) (t + 1) = some (100, 9) ∧ zsh (SHL, g) (t + 2) = some (100, 9) ∧ zsh (SHL, g) (t + 3) = some (100, 9) ∧ zsh (SHL, g) (t + 4) = some (100, 6) ∧ zsh (SHL, g) (t + 5) = some (100, 6) ∧ zsh (SHL, g) (t + 6) = some (100, 6) ∧ zsh (SHL, g) (t + 7) = some (100, 6) ∧ zsh (SHL, g) (t + 8) = some (100, 6) ∧ zsh (SHL, g) (t + 9) = some (100, 4) ∧ g t 4 = t + 1 ∧ g t 5 = t + 2 ∧ g t 6 = t + 3 ∧ g t 7 = t + 4 ∧ g t 8 = t + 5 ∧ g t 9 = t + 6 ∧ g t 10 = t + 7 ∧ g t 11 = t + 8 ∧ g t 12 = t + 9 := by
  rcases ht with rfl | rfl
  · exact ⟨sh_4, sh_5, sh_6, sh_7, sh_8, sh_9, sh_10, sh_11, sh_12, sh_13, gf_4_4 hg, gf_4_5 hg, gf_4_6 hg, gf_4_7 hg, gf_4_8 hg, gf_4_9 hg, gf_4_10 hg, gf_4_11 hg, gf_4_12 hg⟩
  · exact ⟨sh_14, sh_15, sh_16, sh_17, sh_18, sh_19, sh_20, sh_21, sh_22, sh_23, gf_14_4 hg, gf_14_5 hg, gf_14_6 hg, gf_14_7 hg, gf_14_8 hg, gf_14_9 hg, gf_14_10 hg, gf_14_11 hg, gf_14_12 hg⟩
def NOWS : List Int := [24, 32, 38, 44, 50, 56, 62, 68, 74, 80, 86, 103, 111, 117, 123, 129, 135, 141, 147, 153, 159, 165, 172, 180, 186, 192, 198, 204, 210, 216, 222, 228, 234]
theorem nowFa {g : zH} (hg : zGd g) {n : Int} (hn : n ∈ NOWS) : zsh (SHL, g) n = some (5, 6) ∧ zsh (SHL, g) (n + 1) = some (100, 6) ∧ zsh (SHL, g) (n + 2) = some (100, 6) ∧ zsh (SHL, g) (n + 3) = some (100, 6) ∧ zsh (SHL, g) (n + 4) = some (100, 6) ∧ zsh (SHL, g) (n + 5) = some (100, 4) ∧ g n 0 = n + 1 ∧ g n 1 = n + 2 ∧ g n 2 = n + 3 ∧ g n 3 = n + 4 ∧ g n 4 = n + 5 := by
  have h9 : n = 24 ∨ n = 32 ∨ n = 38 ∨ n = 44 ∨ n = 50 ∨ n = 56 ∨ n = 62 ∨ n = 68 ∨ n = 74 ∨ n = 80 ∨ n = 86 ∨ n = 103 ∨ n = 111 ∨ n = 117 ∨ n = 123 ∨ n = 129 ∨ n = 135 ∨ n = 141 ∨ n = 147 ∨ n = 153 ∨ n = 159 ∨ n = 165 ∨ n = 172 ∨ n = 180 ∨ n = 186 ∨ n = 192 ∨ n = 198 ∨ n = 204 ∨ n = 210 ∨ n = 216 ∨ n = 222 ∨ n = 228 ∨ n = 234 := by simpa [NOWS] using hn
  rcases h9 with rfl | rfl | rfl | rfl | rfl | rfl | rfl | rfl | rfl | rfl | rfl | rfl | rfl | rfl | rfl | rfl | rfl | rfl | rfl | rfl | rfl | rfl | rfl | rfl | rfl | rfl | rfl | rfl | rfl | rfl | rfl | rfl | rfl
  · exact ⟨sh_24, sh_25, sh_26, sh_27, sh_28, sh_29, gf_24_0 hg, gf_24_1 hg, gf_24_2 hg, gf_24_3 hg, gf_24_4 hg⟩
  · exact ⟨sh_32, sh_33, sh_34, sh_35, sh_36, sh_37, gf_32_0 hg, gf_32_1 hg, gf_32_2 hg, gf_32_3 hg, gf_32_4 hg⟩
  · exact ⟨sh_38, sh_39, sh_40, sh_41, sh_42, sh_43, gf_38_0 hg, gf_38_1 hg, gf_38_2 hg, gf_38_3 hg, gf_38_4 hg⟩
  · exact ⟨sh_44, sh_45, sh_46, sh_47, sh_48, sh_49, gf_44_0 hg, gf_44_1 hg, gf_44_2 hg, gf_44_3 hg, gf_44_4 hg⟩
  · exact ⟨sh_50, sh_51, sh_52, sh_53, sh_54, sh_55, gf_50_0 hg, gf_50_1 hg, gf_50_2 hg, gf_50_3 hg, gf_50_4 hg⟩
  · exact ⟨sh_56, sh_57, sh_58, sh_59, sh_60, sh_61, gf_56_0 hg, gf_56_1 hg, gf_56_2 hg, gf_56_3 hg, gf_56_4 hg⟩
  · exact ⟨sh_62, sh_63, sh_64, sh_65, sh_66, sh_67, gf_62_0 hg, gf_62_1 hg, gf_62_2 hg, gf_62_3 hg, gf_62_4 hg⟩
  · exact ⟨sh_68, sh_69, sh_70, sh_71, sh_72, sh_73, gf_68_0 hg, gf_68_1 hg, gf_68_2 hg, gf_68_3 hg, gf_68_4 hg⟩
  · exact ⟨sh_74, sh_75, sh_76, sh_77, sh_78, sh_79, gf_74_0 hg, gf_74_1 hg, gf_74_2 hg, gf_74_3 hg, gf_74_4 hg⟩
  · exact ⟨sh_80, sh_81, sh_82, sh_83, sh_84, sh_85, gf_80_0 hg, gf_80_1 hg, gf_80_2 hg, gf_80_3 hg, gf_80_4 hg⟩
  · exact ⟨sh_86, sh_87, sh_88, sh_89, sh_90, sh_91, gf_86_0 hg, gf_86_1 hg, gf_86_2 hg, gf_86_3 hg, gf_86_4 hg⟩
  · exact ⟨sh_103, sh_104, sh_105, sh_106, sh_107, sh_108, gf_103_0 hg, gf_103_1 hg, gf_103_2 hg, gf_103_3 hg, gf_103_4 hg⟩
  · exact ⟨sh_111, sh_112, sh_113, sh_114, sh_115, sh_116, gf_111_0 hg, gf_111_1 hg, gf_111_2 hg, gf_111_3 hg, gf_111_4 hg⟩
  · exact ⟨sh_117, sh_118, sh_119, sh_120, sh_121, sh_122, gf_117_0 hg, gf_117_1 hg, gf_117_2 hg, gf_117_3 hg, gf_117_4 hg⟩
  · exact ⟨sh_123, sh_124, sh_125, sh_126, sh_127, sh_128, gf_123_0 hg, gf_123_1 hg, gf_123_2 hg, gf_123_3 hg, gf_123_4 hg⟩
  · exact ⟨sh_129, sh_130, sh_131, sh_132, sh_133, sh_134, gf_129_0 hg, gf_129_1 hg, gf_129_2 hg, gf_129_3 hg, gf_129_4 hg⟩
  · exact ⟨sh_135, sh_136, sh_137, sh_138, sh_139, sh_140, gf_135_0 hg, gf_135_1 hg, gf_135_2 hg, gf_135_3 hg, gf_135_4 hg⟩
  · exact ⟨sh_141, sh_142, sh_143, sh_144, sh_145, sh_146, gf_141_0 hg, gf_141_1 hg, gf_141_2 hg, gf_141_3 hg, gf_141_4 hg⟩
  · exact ⟨sh_147, sh_148, sh_149, sh_150, sh_151, sh_152, gf_147_0 hg, gf_147_1 hg, gf_147_2 hg, gf_147_3 hg, gf_147_4 hg⟩
  · exact ⟨sh_153, sh_154, sh_155, sh_156, sh_157, sh_158, gf_153_0 hg, gf_153_1 hg, gf_153_2 hg, gf_153_3 hg, gf_153_4 hg⟩
  · exact ⟨sh_159, sh_160, sh_161, sh_162, sh_163, sh_164, gf_159_0 hg, gf_159_1 hg, gf_159_2 hg, gf_159_3 hg, gf_159_4 hg⟩
  · exact ⟨sh_165, sh_166, sh_167, sh_168, sh_169, sh_170, gf_165_0 hg, gf_165_1 hg, gf_165_2 hg, gf_165_3 hg, gf_165_4 hg⟩
  · exact ⟨sh_172, sh_173, sh_174, sh_175, sh_176, sh_177, gf_172_0 hg, gf_172_1 hg, gf_172_2 hg, gf_172_3 hg, gf_172_4 hg⟩
  · exact ⟨sh_180, sh_181, sh_182, sh_183, sh_184, sh_185, gf_180_0 hg, gf_180_1 hg, gf_180_2 hg, gf_180_3 hg, gf_180_4 hg⟩
  · exact ⟨sh_186, sh_187, sh_188, sh_189, sh_190, sh_191, gf_186_0 hg, gf_186_1 hg, gf_186_2 hg, gf_186_3 hg, gf_186_4 hg⟩
  · exact ⟨sh_192, sh_193, sh_194, sh_195, sh_196, sh_197, gf_192_0 hg, gf_192_1 hg, gf_192_2 hg, gf_192_3 hg, gf_192_4 hg⟩
  · exact ⟨sh_198, sh_199, sh_200, sh_201, sh_202, sh_203, gf_198_0 hg, gf_198_1 hg, gf_198_2 hg, gf_198_3 hg, gf_198_4 hg⟩
  · exact ⟨sh_204, sh_205, sh_206, sh_207, sh_208, sh_209, gf_204_0 hg, gf_204_1 hg, gf_204_2 hg, gf_204_3 hg, gf_204_4 hg⟩
  · exact ⟨sh_210, sh_211, sh_212, sh_213, sh_214, sh_215, gf_210_0 hg, gf_210_1 hg, gf_210_2 hg, gf_210_3 hg, gf_210_4 hg⟩
  · exact ⟨sh_216, sh_217, sh_218, sh_219, sh_220, sh_221, gf_216_0 hg, gf_216_1 hg, gf_216_2 hg, gf_216_3 hg, gf_216_4 hg⟩
  · exact ⟨sh_222, sh_223, sh_224, sh_225, sh_226, sh_227, gf_222_0 hg, gf_222_1 hg, gf_222_2 hg, gf_222_3 hg, gf_222_4 hg⟩
  · exact ⟨sh_228, sh_229, sh_230, sh_231, sh_232, sh_233, gf_228_0 hg, gf_228_1 hg, gf_228_2 hg, gf_228_3 hg, gf_228_4 hg⟩
  · exact ⟨sh_234, sh_235, sh_236, sh_237, sh_238, sh_239, gf_234_0 hg, gf_234_1 hg, gf_234_2 hg, gf_234_3 hg, gf_234_4 hg⟩
theorem NOWS_pos {n : Int} (hn : n ∈ NOWS) : 24 ≤ n ∧ n ≤ 234 := by
  have h9 : n = 24 ∨ n ∈ NOWS := Or.inr hn
  have : ∀ m ∈ NOWS, 24 ≤ m ∧ m ≤ 234 := by decide
  exact this n hn

