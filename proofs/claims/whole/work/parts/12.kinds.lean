def isDn (a : Nat) : Prop := ob a 1 ∧ sp a 5 = a + 1 ∧ sp a 6 = a + 2 ∧ sp a 7 = a + 3 ∧ sp a 8 = a + 4 ∧ sp a 9 = a + 5 ∧ sp a 10 = a + 6 ∧ sp a 11 = a + 7 ∧ sp a 12 = a + 8 ∧ sp a 13 = a + 9 ∧ ar (a + 1) 3 6 ∧ ar (a + 2) 0 6 ∧ ar (a + 3) 0 6 ∧ ar (a + 4) 3 5 ∧ ar (a + 5) 0 5 ∧ ar (a + 6) 3 5 ∧ ar (a + 7) 0 5 ∧ ar (a + 8) 0 5 ∧ ar (a + 9) 0 5
theorem isDn.o {a : Nat} (h : isDn a) : ob a 1 := h.1
theorem isDn.p5 {a : Nat} (h : isDn a) : sp a 5 = a + 1 := h.2.1
theorem isDn.p6 {a : Nat} (h : isDn a) : sp a 6 = a + 2 := h.2.2.1
theorem isDn.p7 {a : Nat} (h : isDn a) : sp a 7 = a + 3 := h.2.2.2.1
theorem isDn.p8 {a : Nat} (h : isDn a) : sp a 8 = a + 4 := h.2.2.2.2.1
theorem isDn.p9 {a : Nat} (h : isDn a) : sp a 9 = a + 5 := h.2.2.2.2.2.1
theorem isDn.p10 {a : Nat} (h : isDn a) : sp a 10 = a + 6 := h.2.2.2.2.2.2.1
theorem isDn.p11 {a : Nat} (h : isDn a) : sp a 11 = a + 7 := h.2.2.2.2.2.2.2.1
theorem isDn.p12 {a : Nat} (h : isDn a) : sp a 12 = a + 8 := h.2.2.2.2.2.2.2.2.1
theorem isDn.p13 {a : Nat} (h : isDn a) : sp a 13 = a + 9 := h.2.2.2.2.2.2.2.2.2.1
theorem isDn.a1 {a : Nat} (h : isDn a) : ar (a + 1) 3 6 := h.2.2.2.2.2.2.2.2.2.2.1
theorem isDn.a2 {a : Nat} (h : isDn a) : ar (a + 2) 0 6 := h.2.2.2.2.2.2.2.2.2.2.2.1
theorem isDn.a3 {a : Nat} (h : isDn a) : ar (a + 3) 0 6 := h.2.2.2.2.2.2.2.2.2.2.2.2.1
theorem isDn.a4 {a : Nat} (h : isDn a) : ar (a + 4) 3 5 := h.2.2.2.2.2.2.2.2.2.2.2.2.2.1
theorem isDn.a5 {a : Nat} (h : isDn a) : ar (a + 5) 0 5 := h.2.2.2.2.2.2.2.2.2.2.2.2.2.2.1
theorem isDn.a6 {a : Nat} (h : isDn a) : ar (a + 6) 3 5 := h.2.2.2.2.2.2.2.2.2.2.2.2.2.2.2.1
theorem isDn.a7 {a : Nat} (h : isDn a) : ar (a + 7) 0 5 := h.2.2.2.2.2.2.2.2.2.2.2.2.2.2.2.2.1
theorem isDn.a8 {a : Nat} (h : isDn a) : ar (a + 8) 0 5 := h.2.2.2.2.2.2.2.2.2.2.2.2.2.2.2.2.2.1
theorem isDn.a9 {a : Nat} (h : isDn a) : ar (a + 9) 0 5 := h.2.2.2.2.2.2.2.2.2.2.2.2.2.2.2.2.2.2
def isSt (a : Nat) : Prop := ob a 6 ∧ sp a 2 = a + 1 ∧ sp a 3 = a + 2 ∧ sp a 4 = a + 3 ∧ sp a 5 = a + 4 ∧ sp a 6 = a + 5 ∧ sp a 7 = a + 6 ∧ sp a 8 = a + 7 ∧ ar (a + 1) 0 81 ∧ ar (a + 2) 0 5 ∧ ar (a + 3) 0 5 ∧ ar (a + 4) 0 5 ∧ ar (a + 5) 0 5 ∧ ar (a + 6) 0 5 ∧ ar (a + 7) 0 5
theorem isSt.o {a : Nat} (h : isSt a) : ob a 6 := h.1
theorem isSt.p2 {a : Nat} (h : isSt a) : sp a 2 = a + 1 := h.2.1
theorem isSt.p3 {a : Nat} (h : isSt a) : sp a 3 = a + 2 := h.2.2.1
theorem isSt.p4 {a : Nat} (h : isSt a) : sp a 4 = a + 3 := h.2.2.2.1
theorem isSt.p5 {a : Nat} (h : isSt a) : sp a 5 = a + 4 := h.2.2.2.2.1
theorem isSt.p6 {a : Nat} (h : isSt a) : sp a 6 = a + 5 := h.2.2.2.2.2.1
theorem isSt.p7 {a : Nat} (h : isSt a) : sp a 7 = a + 6 := h.2.2.2.2.2.2.1
theorem isSt.p8 {a : Nat} (h : isSt a) : sp a 8 = a + 7 := h.2.2.2.2.2.2.2.1
theorem isSt.a1 {a : Nat} (h : isSt a) : ar (a + 1) 0 81 := h.2.2.2.2.2.2.2.2.1
theorem isSt.a2 {a : Nat} (h : isSt a) : ar (a + 2) 0 5 := h.2.2.2.2.2.2.2.2.2.1
theorem isSt.a3 {a : Nat} (h : isSt a) : ar (a + 3) 0 5 := h.2.2.2.2.2.2.2.2.2.2.1
theorem isSt.a4 {a : Nat} (h : isSt a) : ar (a + 4) 0 5 := h.2.2.2.2.2.2.2.2.2.2.2.1
theorem isSt.a5 {a : Nat} (h : isSt a) : ar (a + 5) 0 5 := h.2.2.2.2.2.2.2.2.2.2.2.2.1
theorem isSt.a6 {a : Nat} (h : isSt a) : ar (a + 6) 0 5 := h.2.2.2.2.2.2.2.2.2.2.2.2.2.1
theorem isSt.a7 {a : Nat} (h : isSt a) : ar (a + 7) 0 5 := h.2.2.2.2.2.2.2.2.2.2.2.2.2.2
def isSe (a : Nat) : Prop := ob a 5 ∧ sp a 2 = a + 1 ∧ sp a 3 = a + 2 ∧ sp a 4 = a + 3 ∧ sp a 5 = a + 4 ∧ ar (a + 1) 0 40 ∧ ar (a + 2) 0 40 ∧ ar (a + 3) 0 40 ∧ ar (a + 4) 2 40
theorem isSe.o {a : Nat} (h : isSe a) : ob a 5 := h.1
theorem isSe.p2 {a : Nat} (h : isSe a) : sp a 2 = a + 1 := h.2.1
theorem isSe.p3 {a : Nat} (h : isSe a) : sp a 3 = a + 2 := h.2.2.1
theorem isSe.p4 {a : Nat} (h : isSe a) : sp a 4 = a + 3 := h.2.2.2.1
theorem isSe.p5 {a : Nat} (h : isSe a) : sp a 5 = a + 4 := h.2.2.2.2.1
theorem isSe.a1 {a : Nat} (h : isSe a) : ar (a + 1) 0 40 := h.2.2.2.2.2.1
theorem isSe.a2 {a : Nat} (h : isSe a) : ar (a + 2) 0 40 := h.2.2.2.2.2.2.1
theorem isSe.a3 {a : Nat} (h : isSe a) : ar (a + 3) 0 40 := h.2.2.2.2.2.2.2.1
theorem isSe.a4 {a : Nat} (h : isSe a) : ar (a + 4) 2 40 := h.2.2.2.2.2.2.2.2
def isWd (w d st : Nat) : Prop := ob w 10 ∧ sp w 0 = d ∧ sp w 1 = st ∧ sp w 2 = st + 8 ∧ isDn d ∧ isSt st ∧ isSe (st + 8) ∧ d + 10 ≤ st ∧ w < st ∧ (w < d ∨ d + 10 ≤ w)
theorem isWd.o {w d st : Nat} (h : isWd w d st) : ob w 10 := h.1
theorem isWd.p0 {w d st : Nat} (h : isWd w d st) : sp w 0 = d := h.2.1
theorem isWd.p1 {w d st : Nat} (h : isWd w d st) : sp w 1 = st := h.2.2.1
theorem isWd.p2 {w d st : Nat} (h : isWd w d st) : sp w 2 = st + 8 := h.2.2.2.1
theorem isWd.dn {w d st : Nat} (h : isWd w d st) : isDn d := h.2.2.2.2.1
theorem isWd.st {w d st : Nat} (h : isWd w d st) : isSt st := h.2.2.2.2.2.1
theorem isWd.se {w d st : Nat} (h : isWd w d st) : isSe (st + 8) := h.2.2.2.2.2.2.1
theorem isWd.sep {w d st : Nat} (h : isWd w d st) : d + 10 ≤ st := h.2.2.2.2.2.2.2.1
theorem isWd.sw {w d st : Nat} (h : isWd w d st) : w < st ∧ (w < d ∨ d + 10 ≤ w) := h.2.2.2.2.2.2.2.2
theorem isDn_8 : isDn 8 := ⟨ob_8, pt_8_5, pt_8_6, pt_8_7, pt_8_8, pt_8_9, pt_8_10, pt_8_11, pt_8_12, pt_8_13, ar_9, ar_10, ar_11, ar_12, ar_13, ar_14, ar_15, ar_16, ar_17⟩
theorem isSt_18 : isSt 18 := ⟨ob_18, pt_18_2, pt_18_3, pt_18_4, pt_18_5, pt_18_6, pt_18_7, pt_18_8, ar_19, ar_20, ar_21, ar_22, ar_23, ar_24, ar_25⟩
theorem isSe_26 : isSe 26 := ⟨ob_26, pt_26_2, pt_26_3, pt_26_4, pt_26_5, ar_27, ar_28, ar_29, ar_30⟩
theorem isSt_32 : isSt 32 := ⟨ob_32, pt_32_2, pt_32_3, pt_32_4, pt_32_5, pt_32_6, pt_32_7, pt_32_8, ar_33, ar_34, ar_35, ar_36, ar_37, ar_38, ar_39⟩
theorem isSe_40 : isSe 40 := ⟨ob_40, pt_40_2, pt_40_3, pt_40_4, pt_40_5, ar_41, ar_42, ar_43, ar_44⟩
theorem isDn_47 : isDn 47 := ⟨ob_47, pt_47_5, pt_47_6, pt_47_7, pt_47_8, pt_47_9, pt_47_10, pt_47_11, pt_47_12, pt_47_13, ar_48, ar_49, ar_50, ar_51, ar_52, ar_53, ar_54, ar_55, ar_56⟩
theorem isSt_57 : isSt 57 := ⟨ob_57, pt_57_2, pt_57_3, pt_57_4, pt_57_5, pt_57_6, pt_57_7, pt_57_8, ar_58, ar_59, ar_60, ar_61, ar_62, ar_63, ar_64⟩
theorem isSe_65 : isSe 65 := ⟨ob_65, pt_65_2, pt_65_3, pt_65_4, pt_65_5, ar_66, ar_67, ar_68, ar_69⟩
theorem isSe_76 : isSe 76 := ⟨ob_76, pt_76_2, pt_76_3, pt_76_4, pt_76_5, ar_77, ar_78, ar_79, ar_80⟩
theorem isSt_99 : isSt 99 := ⟨ob_99, pt_99_2, pt_99_3, pt_99_4, pt_99_5, pt_99_6, pt_99_7, pt_99_8, ar_100, ar_101, ar_102, ar_103, ar_104, ar_105, ar_106⟩
theorem isSt_107 : isSt 107 := ⟨ob_107, pt_107_2, pt_107_3, pt_107_4, pt_107_5, pt_107_6, pt_107_7, pt_107_8, ar_108, ar_109, ar_110, ar_111, ar_112, ar_113, ar_114⟩
theorem isSt_115 : isSt 115 := ⟨ob_115, pt_115_2, pt_115_3, pt_115_4, pt_115_5, pt_115_6, pt_115_7, pt_115_8, ar_116, ar_117, ar_118, ar_119, ar_120, ar_121, ar_122⟩
theorem isSt_123 : isSt 123 := ⟨ob_123, pt_123_2, pt_123_3, pt_123_4, pt_123_5, pt_123_6, pt_123_7, pt_123_8, ar_124, ar_125, ar_126, ar_127, ar_128, ar_129, ar_130⟩
theorem isSt_131 : isSt 131 := ⟨ob_131, pt_131_2, pt_131_3, pt_131_4, pt_131_5, pt_131_6, pt_131_7, pt_131_8, ar_132, ar_133, ar_134, ar_135, ar_136, ar_137, ar_138⟩
theorem isSt_139 : isSt 139 := ⟨ob_139, pt_139_2, pt_139_3, pt_139_4, pt_139_5, pt_139_6, pt_139_7, pt_139_8, ar_140, ar_141, ar_142, ar_143, ar_144, ar_145, ar_146⟩
theorem isSt_147 : isSt 147 := ⟨ob_147, pt_147_2, pt_147_3, pt_147_4, pt_147_5, pt_147_6, pt_147_7, pt_147_8, ar_148, ar_149, ar_150, ar_151, ar_152, ar_153, ar_154⟩
theorem isSt_155 : isSt 155 := ⟨ob_155, pt_155_2, pt_155_3, pt_155_4, pt_155_5, pt_155_6, pt_155_7, pt_155_8, ar_156, ar_157, ar_158, ar_159, ar_160, ar_161, ar_162⟩
theorem isDn_165 : isDn 165 := ⟨ob_165, pt_165_5, pt_165_6, pt_165_7, pt_165_8, pt_165_9, pt_165_10, pt_165_11, pt_165_12, pt_165_13, ar_166, ar_167, ar_168, ar_169, ar_170, ar_171, ar_172, ar_173, ar_174⟩
theorem isSt_175 : isSt 175 := ⟨ob_175, pt_175_2, pt_175_3, pt_175_4, pt_175_5, pt_175_6, pt_175_7, pt_175_8, ar_176, ar_177, ar_178, ar_179, ar_180, ar_181, ar_182⟩
theorem isSe_183 : isSe 183 := ⟨ob_183, pt_183_2, pt_183_3, pt_183_4, pt_183_5, ar_184, ar_185, ar_186, ar_187⟩
theorem isDn_189 : isDn 189 := ⟨ob_189, pt_189_5, pt_189_6, pt_189_7, pt_189_8, pt_189_9, pt_189_10, pt_189_11, pt_189_12, pt_189_13, ar_190, ar_191, ar_192, ar_193, ar_194, ar_195, ar_196, ar_197, ar_198⟩
theorem isSt_199 : isSt 199 := ⟨ob_199, pt_199_2, pt_199_3, pt_199_4, pt_199_5, pt_199_6, pt_199_7, pt_199_8, ar_200, ar_201, ar_202, ar_203, ar_204, ar_205, ar_206⟩
theorem isSe_207 : isSe 207 := ⟨ob_207, pt_207_2, pt_207_3, pt_207_4, pt_207_5, ar_208, ar_209, ar_210, ar_211⟩
theorem isWd_7 : isWd 7 8 18 := ⟨ob_7, pt_7_0, pt_7_1, pt_7_2, isDn_8, isSt_18, isSe_26, by decide, by decide, by decide⟩
theorem isWd_31 : isWd 31 8 32 := ⟨ob_31, pt_31_0, pt_31_1, pt_31_2, isDn_8, isSt_32, isSe_40, by decide, by decide, by decide⟩
theorem isWd_46 : isWd 46 47 57 := ⟨ob_46, pt_46_0, pt_46_1, pt_46_2, isDn_47, isSt_57, isSe_65, by decide, by decide, by decide⟩
theorem isWd_164 : isWd 164 165 175 := ⟨ob_164, pt_164_0, pt_164_1, pt_164_2, isDn_165, isSt_175, isSe_183, by decide, by decide, by decide⟩
theorem isWd_188 : isWd 188 189 199 := ⟨ob_188, pt_188_0, pt_188_1, pt_188_2, isDn_189, isSt_199, isSe_207, by decide, by decide, by decide⟩
