theorem ob_mk {a ci N : Nat} {C : String} {T : u_T} (h : a < NC ∧ sk a = ci ∧ ci < 100 ∧ sn a = N) (hc : cls[ci]? = some (C, T, N)) : ob a ci := ⟨h.1, h.2.1, h.2.2.1, fun q hq => by rw [hc] at hq; cases hq; exact h.2.2.2⟩
theorem ob_0 : ob 0 11 := ob_mk (N := 14) (by decide +kernel) rfl
theorem pt_0_0 : sp 0 0 = 1 := by decide +kernel
theorem pt_0_1 : sp 0 1 = 7 := by decide +kernel
theorem pt_0_2 : sp 0 2 = 31 := by decide +kernel
theorem pt_0_3 : sp 0 3 = 45 := by decide +kernel
theorem pt_0_4 : sp 0 4 = 70 := by decide +kernel
theorem pt_0_5 : sp 0 5 = 76 := by decide +kernel
theorem pt_0_6 : sp 0 6 = 81 := by decide +kernel
theorem pt_0_7 : sp 0 7 = 89 := by decide +kernel
theorem pt_0_8 : sp 0 8 = 92 := by decide +kernel
theorem pt_0_9 : sp 0 9 = 97 := by decide +kernel
theorem pt_0_10 : sp 0 10 = 163 := by decide +kernel
theorem pt_0_11 : sp 0 11 = 212 := by decide +kernel
theorem pt_0_12 : sp 0 12 = 213 := by decide +kernel
theorem ob_1 : ob 1 7 := ob_mk (N := 14) (by decide +kernel) rfl
theorem pt_1_0 : sp 1 0 = 2 := by decide +kernel
theorem pt_1_7 : sp 1 7 = 3 := by decide +kernel
theorem pt_1_8 : sp 1 8 = 4 := by decide +kernel
theorem pt_1_9 : sp 1 9 = 5 := by decide +kernel
theorem pt_1_10 : sp 1 10 = 6 := by decide +kernel
theorem ar_2 : ar 2 1 940 := by unfold ar; decide +kernel
theorem ar_3 : ar 3 3 25 := by unfold ar; decide +kernel
theorem ar_4 : ar 4 0 901 := by unfold ar; decide +kernel
theorem ar_5 : ar 5 0 901 := by unfold ar; decide +kernel
theorem ar_6 : ar 6 3 901 := by unfold ar; decide +kernel
theorem ob_7 : ob 7 10 := ob_mk (N := 4) (by decide +kernel) rfl
theorem pt_7_0 : sp 7 0 = 8 := by decide +kernel
theorem pt_7_1 : sp 7 1 = 18 := by decide +kernel
theorem pt_7_2 : sp 7 2 = 26 := by decide +kernel
theorem ob_8 : ob 8 1 := ob_mk (N := 14) (by decide +kernel) rfl
theorem pt_8_5 : sp 8 5 = 9 := by decide +kernel
theorem pt_8_6 : sp 8 6 = 10 := by decide +kernel
theorem pt_8_7 : sp 8 7 = 11 := by decide +kernel
theorem pt_8_8 : sp 8 8 = 12 := by decide +kernel
theorem pt_8_9 : sp 8 9 = 13 := by decide +kernel
theorem pt_8_10 : sp 8 10 = 14 := by decide +kernel
theorem pt_8_11 : sp 8 11 = 15 := by decide +kernel
theorem pt_8_12 : sp 8 12 = 16 := by decide +kernel
theorem pt_8_13 : sp 8 13 = 17 := by decide +kernel
theorem ar_9 : ar 9 3 6 := by unfold ar; decide +kernel
theorem ar_10 : ar 10 0 6 := by unfold ar; decide +kernel
theorem ar_11 : ar 11 0 6 := by unfold ar; decide +kernel
theorem ar_12 : ar 12 3 5 := by unfold ar; decide +kernel
theorem ar_13 : ar 13 0 5 := by unfold ar; decide +kernel
theorem ar_14 : ar 14 3 5 := by unfold ar; decide +kernel
theorem ar_15 : ar 15 0 5 := by unfold ar; decide +kernel
theorem ar_16 : ar 16 0 5 := by unfold ar; decide +kernel
theorem ar_17 : ar 17 0 5 := by unfold ar; decide +kernel
theorem ob_18 : ob 18 6 := ob_mk (N := 9) (by decide +kernel) rfl
theorem pt_18_2 : sp 18 2 = 19 := by decide +kernel
theorem pt_18_3 : sp 18 3 = 20 := by decide +kernel
theorem pt_18_4 : sp 18 4 = 21 := by decide +kernel
theorem pt_18_5 : sp 18 5 = 22 := by decide +kernel
theorem pt_18_6 : sp 18 6 = 23 := by decide +kernel
theorem pt_18_7 : sp 18 7 = 24 := by decide +kernel
theorem pt_18_8 : sp 18 8 = 25 := by decide +kernel
theorem ar_19 : ar 19 0 81 := by unfold ar; decide +kernel
theorem ar_20 : ar 20 0 5 := by unfold ar; decide +kernel
theorem ar_21 : ar 21 0 5 := by unfold ar; decide +kernel
theorem ar_22 : ar 22 0 5 := by unfold ar; decide +kernel
theorem ar_23 : ar 23 0 5 := by unfold ar; decide +kernel
theorem ar_24 : ar 24 0 5 := by unfold ar; decide +kernel
theorem ar_25 : ar 25 0 5 := by unfold ar; decide +kernel
theorem ob_26 : ob 26 5 := ob_mk (N := 6) (by decide +kernel) rfl
theorem pt_26_2 : sp 26 2 = 27 := by decide +kernel
theorem pt_26_3 : sp 26 3 = 28 := by decide +kernel
theorem pt_26_4 : sp 26 4 = 29 := by decide +kernel
theorem pt_26_5 : sp 26 5 = 30 := by decide +kernel
theorem ar_27 : ar 27 0 40 := by unfold ar; decide +kernel
theorem ar_28 : ar 28 0 40 := by unfold ar; decide +kernel
theorem ar_29 : ar 29 0 40 := by unfold ar; decide +kernel
theorem ar_30 : ar 30 2 40 := by unfold ar; decide +kernel
theorem ob_31 : ob 31 10 := ob_mk (N := 4) (by decide +kernel) rfl
theorem pt_31_0 : sp 31 0 = 8 := by decide +kernel
theorem pt_31_1 : sp 31 1 = 32 := by decide +kernel
theorem pt_31_2 : sp 31 2 = 40 := by decide +kernel
theorem ob_32 : ob 32 6 := ob_mk (N := 9) (by decide +kernel) rfl
theorem pt_32_2 : sp 32 2 = 33 := by decide +kernel
theorem pt_32_3 : sp 32 3 = 34 := by decide +kernel
theorem pt_32_4 : sp 32 4 = 35 := by decide +kernel
theorem pt_32_5 : sp 32 5 = 36 := by decide +kernel
theorem pt_32_6 : sp 32 6 = 37 := by decide +kernel
theorem pt_32_7 : sp 32 7 = 38 := by decide +kernel
theorem pt_32_8 : sp 32 8 = 39 := by decide +kernel
theorem ar_33 : ar 33 0 81 := by unfold ar; decide +kernel
theorem ar_34 : ar 34 0 5 := by unfold ar; decide +kernel
theorem ar_35 : ar 35 0 5 := by unfold ar; decide +kernel
theorem ar_36 : ar 36 0 5 := by unfold ar; decide +kernel
theorem ar_37 : ar 37 0 5 := by unfold ar; decide +kernel
theorem ar_38 : ar 38 0 5 := by unfold ar; decide +kernel
theorem ar_39 : ar 39 0 5 := by unfold ar; decide +kernel
theorem ob_40 : ob 40 5 := ob_mk (N := 6) (by decide +kernel) rfl
theorem pt_40_2 : sp 40 2 = 41 := by decide +kernel
theorem pt_40_3 : sp 40 3 = 42 := by decide +kernel
theorem pt_40_4 : sp 40 4 = 43 := by decide +kernel
theorem pt_40_5 : sp 40 5 = 44 := by decide +kernel
theorem ar_41 : ar 41 0 40 := by unfold ar; decide +kernel
theorem ar_42 : ar 42 0 40 := by unfold ar; decide +kernel
theorem ar_43 : ar 43 0 40 := by unfold ar; decide +kernel
theorem ar_44 : ar 44 2 40 := by unfold ar; decide +kernel
theorem ob_45 : ob 45 2 := ob_mk (N := 4) (by decide +kernel) rfl
theorem pt_45_0 : sp 45 0 = 46 := by decide +kernel
theorem pt_45_1 : sp 45 1 = 1 := by decide +kernel
theorem ob_46 : ob 46 10 := ob_mk (N := 4) (by decide +kernel) rfl
theorem pt_46_0 : sp 46 0 = 47 := by decide +kernel
theorem pt_46_1 : sp 46 1 = 57 := by decide +kernel
theorem pt_46_2 : sp 46 2 = 65 := by decide +kernel
theorem ob_47 : ob 47 1 := ob_mk (N := 14) (by decide +kernel) rfl
theorem pt_47_5 : sp 47 5 = 48 := by decide +kernel
theorem pt_47_6 : sp 47 6 = 49 := by decide +kernel
theorem pt_47_7 : sp 47 7 = 50 := by decide +kernel
theorem pt_47_8 : sp 47 8 = 51 := by decide +kernel
theorem pt_47_9 : sp 47 9 = 52 := by decide +kernel
theorem pt_47_10 : sp 47 10 = 53 := by decide +kernel
theorem pt_47_11 : sp 47 11 = 54 := by decide +kernel
theorem pt_47_12 : sp 47 12 = 55 := by decide +kernel
theorem pt_47_13 : sp 47 13 = 56 := by decide +kernel
theorem ar_48 : ar 48 3 6 := by unfold ar; decide +kernel
theorem ar_49 : ar 49 0 6 := by unfold ar; decide +kernel
theorem ar_50 : ar 50 0 6 := by unfold ar; decide +kernel
theorem ar_51 : ar 51 3 5 := by unfold ar; decide +kernel
theorem ar_52 : ar 52 0 5 := by unfold ar; decide +kernel
theorem ar_53 : ar 53 3 5 := by unfold ar; decide +kernel
theorem ar_54 : ar 54 0 5 := by unfold ar; decide +kernel
theorem ar_55 : ar 55 0 5 := by unfold ar; decide +kernel
theorem ar_56 : ar 56 0 5 := by unfold ar; decide +kernel
theorem ob_57 : ob 57 6 := ob_mk (N := 9) (by decide +kernel) rfl
theorem pt_57_2 : sp 57 2 = 58 := by decide +kernel
theorem pt_57_3 : sp 57 3 = 59 := by decide +kernel
theorem pt_57_4 : sp 57 4 = 60 := by decide +kernel
theorem pt_57_5 : sp 57 5 = 61 := by decide +kernel
theorem pt_57_6 : sp 57 6 = 62 := by decide +kernel
theorem pt_57_7 : sp 57 7 = 63 := by decide +kernel
theorem pt_57_8 : sp 57 8 = 64 := by decide +kernel
theorem ar_58 : ar 58 0 81 := by unfold ar; decide +kernel
theorem ar_59 : ar 59 0 5 := by unfold ar; decide +kernel
theorem ar_60 : ar 60 0 5 := by unfold ar; decide +kernel
theorem ar_61 : ar 61 0 5 := by unfold ar; decide +kernel
theorem ar_62 : ar 62 0 5 := by unfold ar; decide +kernel
theorem ar_63 : ar 63 0 5 := by unfold ar; decide +kernel
theorem ar_64 : ar 64 0 5 := by unfold ar; decide +kernel
theorem ob_65 : ob 65 5 := ob_mk (N := 6) (by decide +kernel) rfl
theorem pt_65_2 : sp 65 2 = 66 := by decide +kernel
theorem pt_65_3 : sp 65 3 = 67 := by decide +kernel
theorem pt_65_4 : sp 65 4 = 68 := by decide +kernel
theorem pt_65_5 : sp 65 5 = 69 := by decide +kernel
theorem ar_66 : ar 66 0 40 := by unfold ar; decide +kernel
theorem ar_67 : ar 67 0 40 := by unfold ar; decide +kernel
theorem ar_68 : ar 68 0 40 := by unfold ar; decide +kernel
theorem ar_69 : ar 69 2 40 := by unfold ar; decide +kernel
theorem ob_70 : ob 70 0 := ob_mk (N := 12) (by decide +kernel) rfl
theorem pt_70_5 : sp 70 5 = 1 := by decide +kernel
theorem pt_70_6 : sp 70 6 = 71 := by decide +kernel
theorem pt_70_7 : sp 70 7 = 72 := by decide +kernel
theorem pt_70_8 : sp 70 8 = 73 := by decide +kernel
theorem pt_70_9 : sp 70 9 = 74 := by decide +kernel
theorem pt_70_10 : sp 70 10 = 75 := by decide +kernel
theorem ar_71 : ar 71 0 40 := by unfold ar; decide +kernel
theorem ar_72 : ar 72 0 40 := by unfold ar; decide +kernel
theorem ar_73 : ar 73 0 40 := by unfold ar; decide +kernel
theorem ar_74 : ar 74 0 40 := by unfold ar; decide +kernel
theorem ar_75 : ar 75 0 40 := by unfold ar; decide +kernel
theorem ob_76 : ob 76 5 := ob_mk (N := 6) (by decide +kernel) rfl
theorem pt_76_2 : sp 76 2 = 77 := by decide +kernel
theorem pt_76_3 : sp 76 3 = 78 := by decide +kernel
theorem pt_76_4 : sp 76 4 = 79 := by decide +kernel
theorem pt_76_5 : sp 76 5 = 80 := by decide +kernel
theorem ar_77 : ar 77 0 40 := by unfold ar; decide +kernel
theorem ar_78 : ar 78 0 40 := by unfold ar; decide +kernel
theorem ar_79 : ar 79 0 40 := by unfold ar; decide +kernel
theorem ar_80 : ar 80 2 40 := by unfold ar; decide +kernel
theorem ob_81 : ob 81 4 := ob_mk (N := 9) (by decide +kernel) rfl
theorem pt_81_0 : sp 81 0 = 82 := by decide +kernel
theorem pt_81_1 : sp 81 1 = 83 := by decide +kernel
theorem pt_81_3 : sp 81 3 = 84 := by decide +kernel
theorem pt_81_4 : sp 81 4 = 85 := by decide +kernel
theorem pt_81_5 : sp 81 5 = 86 := by decide +kernel
theorem pt_81_6 : sp 81 6 = 87 := by decide +kernel
theorem pt_81_7 : sp 81 7 = 88 := by decide +kernel
theorem ar_82 : ar 82 0 324 := by unfold ar; decide +kernel
theorem ar_83 : ar 83 0 324 := by unfold ar; decide +kernel
theorem ar_84 : ar 84 2 81 := by unfold ar; decide +kernel
theorem ar_85 : ar 85 0 324 := by unfold ar; decide +kernel
theorem ar_86 : ar 86 0 324 := by unfold ar; decide +kernel
theorem ar_87 : ar 87 0 324 := by unfold ar; decide +kernel
theorem ar_88 : ar 88 0 324 := by unfold ar; decide +kernel
theorem ob_89 : ob 89 9 := ob_mk (N := 3) (by decide +kernel) rfl
theorem pt_89_0 : sp 89 0 = 90 := by decide +kernel
theorem pt_89_2 : sp 89 2 = 91 := by decide +kernel
theorem ar_90 : ar 90 0 3 := by unfold ar; decide +kernel
theorem ar_91 : ar 91 0 3 := by unfold ar; decide +kernel
theorem ob_92 : ob 92 8 := ob_mk (N := 5) (by decide +kernel) rfl
theorem pt_92_0 : sp 92 0 = 93 := by decide +kernel
theorem pt_92_2 : sp 92 2 = 94 := by decide +kernel
theorem pt_92_3 : sp 92 3 = 95 := by decide +kernel
theorem pt_92_4 : sp 92 4 = 96 := by decide +kernel
theorem ar_93 : ar 93 0 6 := by unfold ar; decide +kernel
theorem ar_94 : ar 94 0 6 := by unfold ar; decide +kernel
theorem ar_95 : ar 95 0 6 := by unfold ar; decide +kernel
theorem ar_96 : ar 96 0 6 := by unfold ar; decide +kernel
theorem ob_97 : ob 97 3 := ob_mk (N := 3) (by decide +kernel) rfl
theorem pt_97_0 : sp 97 0 = 98 := by decide +kernel
theorem ar_98 : ar 98 4 8 := by unfold ar; decide +kernel
theorem pt_98_0 : sp 98 0 = 99 := by decide +kernel
theorem pt_98_1 : sp 98 1 = 107 := by decide +kernel
theorem pt_98_2 : sp 98 2 = 115 := by decide +kernel
theorem pt_98_3 : sp 98 3 = 123 := by decide +kernel
theorem pt_98_4 : sp 98 4 = 131 := by decide +kernel
theorem pt_98_5 : sp 98 5 = 139 := by decide +kernel
theorem pt_98_6 : sp 98 6 = 147 := by decide +kernel
theorem pt_98_7 : sp 98 7 = 155 := by decide +kernel
theorem ob_99 : ob 99 6 := ob_mk (N := 9) (by decide +kernel) rfl
theorem pt_99_2 : sp 99 2 = 100 := by decide +kernel
theorem pt_99_3 : sp 99 3 = 101 := by decide +kernel
theorem pt_99_4 : sp 99 4 = 102 := by decide +kernel
theorem pt_99_5 : sp 99 5 = 103 := by decide +kernel
theorem pt_99_6 : sp 99 6 = 104 := by decide +kernel
theorem pt_99_7 : sp 99 7 = 105 := by decide +kernel
theorem pt_99_8 : sp 99 8 = 106 := by decide +kernel
theorem ar_100 : ar 100 0 81 := by unfold ar; decide +kernel
theorem ar_101 : ar 101 0 5 := by unfold ar; decide +kernel
theorem ar_102 : ar 102 0 5 := by unfold ar; decide +kernel
theorem ar_103 : ar 103 0 5 := by unfold ar; decide +kernel
theorem ar_104 : ar 104 0 5 := by unfold ar; decide +kernel
theorem ar_105 : ar 105 0 5 := by unfold ar; decide +kernel
theorem ar_106 : ar 106 0 5 := by unfold ar; decide +kernel
theorem ob_107 : ob 107 6 := ob_mk (N := 9) (by decide +kernel) rfl
theorem pt_107_2 : sp 107 2 = 108 := by decide +kernel
theorem pt_107_3 : sp 107 3 = 109 := by decide +kernel
theorem pt_107_4 : sp 107 4 = 110 := by decide +kernel
theorem pt_107_5 : sp 107 5 = 111 := by decide +kernel
theorem pt_107_6 : sp 107 6 = 112 := by decide +kernel
theorem pt_107_7 : sp 107 7 = 113 := by decide +kernel
theorem pt_107_8 : sp 107 8 = 114 := by decide +kernel
theorem ar_108 : ar 108 0 81 := by unfold ar; decide +kernel
theorem ar_109 : ar 109 0 5 := by unfold ar; decide +kernel
theorem ar_110 : ar 110 0 5 := by unfold ar; decide +kernel
theorem ar_111 : ar 111 0 5 := by unfold ar; decide +kernel
theorem ar_112 : ar 112 0 5 := by unfold ar; decide +kernel
theorem ar_113 : ar 113 0 5 := by unfold ar; decide +kernel
theorem ar_114 : ar 114 0 5 := by unfold ar; decide +kernel
theorem ob_115 : ob 115 6 := ob_mk (N := 9) (by decide +kernel) rfl
theorem pt_115_2 : sp 115 2 = 116 := by decide +kernel
theorem pt_115_3 : sp 115 3 = 117 := by decide +kernel
theorem pt_115_4 : sp 115 4 = 118 := by decide +kernel
theorem pt_115_5 : sp 115 5 = 119 := by decide +kernel
theorem pt_115_6 : sp 115 6 = 120 := by decide +kernel
theorem pt_115_7 : sp 115 7 = 121 := by decide +kernel
theorem pt_115_8 : sp 115 8 = 122 := by decide +kernel
theorem ar_116 : ar 116 0 81 := by unfold ar; decide +kernel
theorem ar_117 : ar 117 0 5 := by unfold ar; decide +kernel
theorem ar_118 : ar 118 0 5 := by unfold ar; decide +kernel
theorem ar_119 : ar 119 0 5 := by unfold ar; decide +kernel
theorem ar_120 : ar 120 0 5 := by unfold ar; decide +kernel
theorem ar_121 : ar 121 0 5 := by unfold ar; decide +kernel
theorem ar_122 : ar 122 0 5 := by unfold ar; decide +kernel
theorem ob_123 : ob 123 6 := ob_mk (N := 9) (by decide +kernel) rfl
theorem pt_123_2 : sp 123 2 = 124 := by decide +kernel
theorem pt_123_3 : sp 123 3 = 125 := by decide +kernel
theorem pt_123_4 : sp 123 4 = 126 := by decide +kernel
theorem pt_123_5 : sp 123 5 = 127 := by decide +kernel
theorem pt_123_6 : sp 123 6 = 128 := by decide +kernel
theorem pt_123_7 : sp 123 7 = 129 := by decide +kernel
theorem pt_123_8 : sp 123 8 = 130 := by decide +kernel
theorem ar_124 : ar 124 0 81 := by unfold ar; decide +kernel
theorem ar_125 : ar 125 0 5 := by unfold ar; decide +kernel
theorem ar_126 : ar 126 0 5 := by unfold ar; decide +kernel
theorem ar_127 : ar 127 0 5 := by unfold ar; decide +kernel
theorem ar_128 : ar 128 0 5 := by unfold ar; decide +kernel
theorem ar_129 : ar 129 0 5 := by unfold ar; decide +kernel
theorem ar_130 : ar 130 0 5 := by unfold ar; decide +kernel
theorem ob_131 : ob 131 6 := ob_mk (N := 9) (by decide +kernel) rfl
theorem pt_131_2 : sp 131 2 = 132 := by decide +kernel
theorem pt_131_3 : sp 131 3 = 133 := by decide +kernel
theorem pt_131_4 : sp 131 4 = 134 := by decide +kernel
theorem pt_131_5 : sp 131 5 = 135 := by decide +kernel
theorem pt_131_6 : sp 131 6 = 136 := by decide +kernel
theorem pt_131_7 : sp 131 7 = 137 := by decide +kernel
theorem pt_131_8 : sp 131 8 = 138 := by decide +kernel
theorem ar_132 : ar 132 0 81 := by unfold ar; decide +kernel
theorem ar_133 : ar 133 0 5 := by unfold ar; decide +kernel
theorem ar_134 : ar 134 0 5 := by unfold ar; decide +kernel
theorem ar_135 : ar 135 0 5 := by unfold ar; decide +kernel
theorem ar_136 : ar 136 0 5 := by unfold ar; decide +kernel
theorem ar_137 : ar 137 0 5 := by unfold ar; decide +kernel
theorem ar_138 : ar 138 0 5 := by unfold ar; decide +kernel
theorem ob_139 : ob 139 6 := ob_mk (N := 9) (by decide +kernel) rfl
theorem pt_139_2 : sp 139 2 = 140 := by decide +kernel
theorem pt_139_3 : sp 139 3 = 141 := by decide +kernel
theorem pt_139_4 : sp 139 4 = 142 := by decide +kernel
theorem pt_139_5 : sp 139 5 = 143 := by decide +kernel
theorem pt_139_6 : sp 139 6 = 144 := by decide +kernel
theorem pt_139_7 : sp 139 7 = 145 := by decide +kernel
theorem pt_139_8 : sp 139 8 = 146 := by decide +kernel
theorem ar_140 : ar 140 0 81 := by unfold ar; decide +kernel
theorem ar_141 : ar 141 0 5 := by unfold ar; decide +kernel
theorem ar_142 : ar 142 0 5 := by unfold ar; decide +kernel
theorem ar_143 : ar 143 0 5 := by unfold ar; decide +kernel
theorem ar_144 : ar 144 0 5 := by unfold ar; decide +kernel
theorem ar_145 : ar 145 0 5 := by unfold ar; decide +kernel
theorem ar_146 : ar 146 0 5 := by unfold ar; decide +kernel
theorem ob_147 : ob 147 6 := ob_mk (N := 9) (by decide +kernel) rfl
theorem pt_147_2 : sp 147 2 = 148 := by decide +kernel
theorem pt_147_3 : sp 147 3 = 149 := by decide +kernel
theorem pt_147_4 : sp 147 4 = 150 := by decide +kernel
theorem pt_147_5 : sp 147 5 = 151 := by decide +kernel
theorem pt_147_6 : sp 147 6 = 152 := by decide +kernel
theorem pt_147_7 : sp 147 7 = 153 := by decide +kernel
theorem pt_147_8 : sp 147 8 = 154 := by decide +kernel
theorem ar_148 : ar 148 0 81 := by unfold ar; decide +kernel
theorem ar_149 : ar 149 0 5 := by unfold ar; decide +kernel
theorem ar_150 : ar 150 0 5 := by unfold ar; decide +kernel
theorem ar_151 : ar 151 0 5 := by unfold ar; decide +kernel
theorem ar_152 : ar 152 0 5 := by unfold ar; decide +kernel
theorem ar_153 : ar 153 0 5 := by unfold ar; decide +kernel
theorem ar_154 : ar 154 0 5 := by unfold ar; decide +kernel
theorem ob_155 : ob 155 6 := ob_mk (N := 9) (by decide +kernel) rfl
theorem pt_155_2 : sp 155 2 = 156 := by decide +kernel
theorem pt_155_3 : sp 155 3 = 157 := by decide +kernel
theorem pt_155_4 : sp 155 4 = 158 := by decide +kernel
theorem pt_155_5 : sp 155 5 = 159 := by decide +kernel
theorem pt_155_6 : sp 155 6 = 160 := by decide +kernel
theorem pt_155_7 : sp 155 7 = 161 := by decide +kernel
theorem pt_155_8 : sp 155 8 = 162 := by decide +kernel
theorem ar_156 : ar 156 0 81 := by unfold ar; decide +kernel
theorem ar_157 : ar 157 0 5 := by unfold ar; decide +kernel
theorem ar_158 : ar 158 0 5 := by unfold ar; decide +kernel
theorem ar_159 : ar 159 0 5 := by unfold ar; decide +kernel
theorem ar_160 : ar 160 0 5 := by unfold ar; decide +kernel
theorem ar_161 : ar 161 0 5 := by unfold ar; decide +kernel
theorem ar_162 : ar 162 0 5 := by unfold ar; decide +kernel
theorem ar_163 : ar 163 5 2 := by unfold ar; decide +kernel
theorem pt_163_0 : sp 163 0 = 164 := by decide +kernel
theorem pt_163_1 : sp 163 1 = 188 := by decide +kernel
theorem ob_164 : ob 164 10 := ob_mk (N := 4) (by decide +kernel) rfl
theorem pt_164_0 : sp 164 0 = 165 := by decide +kernel
theorem pt_164_1 : sp 164 1 = 175 := by decide +kernel
theorem pt_164_2 : sp 164 2 = 183 := by decide +kernel
theorem ob_165 : ob 165 1 := ob_mk (N := 14) (by decide +kernel) rfl
theorem pt_165_5 : sp 165 5 = 166 := by decide +kernel
theorem pt_165_6 : sp 165 6 = 167 := by decide +kernel
theorem pt_165_7 : sp 165 7 = 168 := by decide +kernel
theorem pt_165_8 : sp 165 8 = 169 := by decide +kernel
theorem pt_165_9 : sp 165 9 = 170 := by decide +kernel
theorem pt_165_10 : sp 165 10 = 171 := by decide +kernel
theorem pt_165_11 : sp 165 11 = 172 := by decide +kernel
theorem pt_165_12 : sp 165 12 = 173 := by decide +kernel
theorem pt_165_13 : sp 165 13 = 174 := by decide +kernel
theorem ar_166 : ar 166 3 6 := by unfold ar; decide +kernel
theorem ar_167 : ar 167 0 6 := by unfold ar; decide +kernel
theorem ar_168 : ar 168 0 6 := by unfold ar; decide +kernel
theorem ar_169 : ar 169 3 5 := by unfold ar; decide +kernel
theorem ar_170 : ar 170 0 5 := by unfold ar; decide +kernel
theorem ar_171 : ar 171 3 5 := by unfold ar; decide +kernel
theorem ar_172 : ar 172 0 5 := by unfold ar; decide +kernel
theorem ar_173 : ar 173 0 5 := by unfold ar; decide +kernel
theorem ar_174 : ar 174 0 5 := by unfold ar; decide +kernel
theorem ob_175 : ob 175 6 := ob_mk (N := 9) (by decide +kernel) rfl
theorem pt_175_2 : sp 175 2 = 176 := by decide +kernel
theorem pt_175_3 : sp 175 3 = 177 := by decide +kernel
theorem pt_175_4 : sp 175 4 = 178 := by decide +kernel
theorem pt_175_5 : sp 175 5 = 179 := by decide +kernel
theorem pt_175_6 : sp 175 6 = 180 := by decide +kernel
theorem pt_175_7 : sp 175 7 = 181 := by decide +kernel
theorem pt_175_8 : sp 175 8 = 182 := by decide +kernel
theorem ar_176 : ar 176 0 81 := by unfold ar; decide +kernel
theorem ar_177 : ar 177 0 5 := by unfold ar; decide +kernel
theorem ar_178 : ar 178 0 5 := by unfold ar; decide +kernel
theorem ar_179 : ar 179 0 5 := by unfold ar; decide +kernel
theorem ar_180 : ar 180 0 5 := by unfold ar; decide +kernel
theorem ar_181 : ar 181 0 5 := by unfold ar; decide +kernel
theorem ar_182 : ar 182 0 5 := by unfold ar; decide +kernel
theorem ob_183 : ob 183 5 := ob_mk (N := 6) (by decide +kernel) rfl
theorem pt_183_2 : sp 183 2 = 184 := by decide +kernel
theorem pt_183_3 : sp 183 3 = 185 := by decide +kernel
theorem pt_183_4 : sp 183 4 = 186 := by decide +kernel
theorem pt_183_5 : sp 183 5 = 187 := by decide +kernel
theorem ar_184 : ar 184 0 40 := by unfold ar; decide +kernel
theorem ar_185 : ar 185 0 40 := by unfold ar; decide +kernel
theorem ar_186 : ar 186 0 40 := by unfold ar; decide +kernel
theorem ar_187 : ar 187 2 40 := by unfold ar; decide +kernel
theorem ob_188 : ob 188 10 := ob_mk (N := 4) (by decide +kernel) rfl
theorem pt_188_0 : sp 188 0 = 189 := by decide +kernel
theorem pt_188_1 : sp 188 1 = 199 := by decide +kernel
theorem pt_188_2 : sp 188 2 = 207 := by decide +kernel
theorem ob_189 : ob 189 1 := ob_mk (N := 14) (by decide +kernel) rfl
theorem pt_189_5 : sp 189 5 = 190 := by decide +kernel
theorem pt_189_6 : sp 189 6 = 191 := by decide +kernel
theorem pt_189_7 : sp 189 7 = 192 := by decide +kernel
theorem pt_189_8 : sp 189 8 = 193 := by decide +kernel
theorem pt_189_9 : sp 189 9 = 194 := by decide +kernel
theorem pt_189_10 : sp 189 10 = 195 := by decide +kernel
theorem pt_189_11 : sp 189 11 = 196 := by decide +kernel
theorem pt_189_12 : sp 189 12 = 197 := by decide +kernel
theorem pt_189_13 : sp 189 13 = 198 := by decide +kernel
theorem ar_190 : ar 190 3 6 := by unfold ar; decide +kernel
theorem ar_191 : ar 191 0 6 := by unfold ar; decide +kernel
theorem ar_192 : ar 192 0 6 := by unfold ar; decide +kernel
theorem ar_193 : ar 193 3 5 := by unfold ar; decide +kernel
theorem ar_194 : ar 194 0 5 := by unfold ar; decide +kernel
theorem ar_195 : ar 195 3 5 := by unfold ar; decide +kernel
theorem ar_196 : ar 196 0 5 := by unfold ar; decide +kernel
theorem ar_197 : ar 197 0 5 := by unfold ar; decide +kernel
theorem ar_198 : ar 198 0 5 := by unfold ar; decide +kernel
theorem ob_199 : ob 199 6 := ob_mk (N := 9) (by decide +kernel) rfl
theorem pt_199_2 : sp 199 2 = 200 := by decide +kernel
theorem pt_199_3 : sp 199 3 = 201 := by decide +kernel
theorem pt_199_4 : sp 199 4 = 202 := by decide +kernel
theorem pt_199_5 : sp 199 5 = 203 := by decide +kernel
theorem pt_199_6 : sp 199 6 = 204 := by decide +kernel
theorem pt_199_7 : sp 199 7 = 205 := by decide +kernel
theorem pt_199_8 : sp 199 8 = 206 := by decide +kernel
theorem ar_200 : ar 200 0 81 := by unfold ar; decide +kernel
theorem ar_201 : ar 201 0 5 := by unfold ar; decide +kernel
theorem ar_202 : ar 202 0 5 := by unfold ar; decide +kernel
theorem ar_203 : ar 203 0 5 := by unfold ar; decide +kernel
theorem ar_204 : ar 204 0 5 := by unfold ar; decide +kernel
theorem ar_205 : ar 205 0 5 := by unfold ar; decide +kernel
theorem ar_206 : ar 206 0 5 := by unfold ar; decide +kernel
theorem ob_207 : ob 207 5 := ob_mk (N := 6) (by decide +kernel) rfl
theorem pt_207_2 : sp 207 2 = 208 := by decide +kernel
theorem pt_207_3 : sp 207 3 = 209 := by decide +kernel
theorem pt_207_4 : sp 207 4 = 210 := by decide +kernel
theorem pt_207_5 : sp 207 5 = 211 := by decide +kernel
theorem ar_208 : ar 208 0 40 := by unfold ar; decide +kernel
theorem ar_209 : ar 209 0 40 := by unfold ar; decide +kernel
theorem ar_210 : ar 210 0 40 := by unfold ar; decide +kernel
theorem ar_211 : ar 211 2 40 := by unfold ar; decide +kernel
theorem ar_212 : ar 212 2 2 := by unfold ar; decide +kernel
theorem ar_213 : ar 213 1 25 := by unfold ar; decide +kernel
theorem ob_214 : ob 214 12 := ob_mk (N := 48) (by decide +kernel) rfl
theorem pt_214_1 : sp 214 1 = 215 := by decide +kernel
theorem pt_214_14 : sp 214 14 = 216 := by decide +kernel
theorem pt_214_15 : sp 214 15 = 217 := by decide +kernel
theorem pt_214_16 : sp 214 16 = 218 := by decide +kernel
theorem pt_214_17 : sp 214 17 = 219 := by decide +kernel
theorem pt_214_18 : sp 214 18 = 220 := by decide +kernel
theorem pt_214_19 : sp 214 19 = 221 := by decide +kernel
theorem pt_214_20 : sp 214 20 = 222 := by decide +kernel
theorem pt_214_21 : sp 214 21 = 223 := by decide +kernel
theorem pt_214_22 : sp 214 22 = 224 := by decide +kernel
theorem pt_214_26 : sp 214 26 = 225 := by decide +kernel
theorem pt_214_27 : sp 214 27 = 226 := by decide +kernel
theorem pt_214_28 : sp 214 28 = 227 := by decide +kernel
theorem pt_214_30 : sp 214 30 = 228 := by decide +kernel
theorem pt_214_32 : sp 214 32 = 229 := by decide +kernel
theorem pt_214_33 : sp 214 33 = 230 := by decide +kernel
theorem pt_214_36 : sp 214 36 = 231 := by decide +kernel
theorem pt_214_39 : sp 214 39 = 232 := by decide +kernel
theorem pt_214_40 : sp 214 40 = 233 := by decide +kernel
theorem pt_214_43 : sp 214 43 = 234 := by decide +kernel
theorem ar_215 : ar 215 0 940 := by unfold ar; decide +kernel
theorem ar_216 : ar 216 0 474 := by unfold ar; decide +kernel
theorem ar_217 : ar 217 0 123 := by unfold ar; decide +kernel
theorem ar_218 : ar 218 0 948 := by unfold ar; decide +kernel
theorem ar_219 : ar 219 0 872 := by unfold ar; decide +kernel
theorem ar_220 : ar 220 0 109 := by unfold ar; decide +kernel
theorem ar_221 : ar 221 3 16 := by unfold ar; decide +kernel
theorem ar_222 : ar 222 3 16 := by unfold ar; decide +kernel
theorem ar_223 : ar 223 3 32 := by unfold ar; decide +kernel
theorem ar_224 : ar 224 2 2 := by unfold ar; decide +kernel
theorem ar_225 : ar 225 0 324 := by unfold ar; decide +kernel
theorem ar_226 : ar 226 0 324 := by unfold ar; decide +kernel
theorem ar_227 : ar 227 0 324 := by unfold ar; decide +kernel
theorem ar_228 : ar 228 0 3 := by unfold ar; decide +kernel
theorem ar_229 : ar 229 0 3 := by unfold ar; decide +kernel
theorem ar_230 : ar 230 0 6 := by unfold ar; decide +kernel
theorem ar_231 : ar 231 0 64 := by unfold ar; decide +kernel
theorem ar_232 : ar 232 0 160 := by unfold ar; decide +kernel
theorem ar_233 : ar 233 0 4 := by unfold ar; decide +kernel
theorem ar_234 : ar 234 0 240 := by unfold ar; decide +kernel
theorem ar_235 : ar 235 3 1 := by unfold ar; decide +kernel
theorem go_drop {g d : Nat} {Y : MD} {Q : Int → Mem → Prop} {pc : Nat} {L S : List AV} {m : Mem} {j : Nat} {L' : List AV} (hl : L.set j un = L') (k : Go g d Y Q pc L' S m) : Go g d Y Q pc L S m := by
  subst hl
  intro l D cA ad A p e R s mth args below meth c Z hC hE ls H locs cells slots hR hL hc hs
  refine k l D cA ad A p e R s mth args below meth c Z hC hE ls H locs cells slots hR ⟨hL.1, hL.2.1, fun q hq => hL.2.2 q ?_⟩ hc hs
  obtain ⟨w, h1, h2, h3⟩ := lvL_mem hq
  rw [List.getElem?_set] at h1
  by_cases hj : j = q.1
  · rw [if_pos hj] at h1
    split at h1
    · cases h1; cases h2
    · cases h1
  · rw [if_neg hj] at h1
    have := lvL_mk (ad := ad) h1 h2
    rw [← h3] at this
    exact this

theorem go_callV_i {g d : Nat} {Y : MD} {Q : Int → Mem → Prop} {pc : Nat} {L S : List AV} {m : Mem} {d' idx n b ci : Nat} {Y' : MD} {as : List AV} {Q' : Int → Mem → Prop} {S0 : List AV} (hE : Ev 0 d' Y' (vr b :: as) m Q') (hrt : Y'.2.2.2 = some .int) (hd : decode Y.2.1 pc = .ok (.invokevirtual idx, 3)) (hcv : CV Y.1.cls idx Y' n) (hn : as.length = n) (hst : S0 = as.reverse ++ vr b :: S) (ho : ob b ci) (hci : (cls[ci]?).map (fun q => q.1) = some Y'.1.cls) (hdp : d' + 1 ≤ d) (hrm : scat S ≤ 8) (k : ∀ r m', Q' r m' → InR r → Go g d Y Q (pc + 3) L (vi r :: S) m') : Go g d Y Q pc L S0 m :=
  go_callV hE hd hcv hn hst ho hci hdp hrm (Nat.zero_le _) (fun r m' h1 h2 => by
    rw [hrt] at h2 ⊢
    exact k r m' h1 h2)
theorem go_callVp_i {g d : Nat} {Y : MD} {Q : Int → Mem → Prop} {pc : Nat} {L S : List AV} {m : Mem} {d' idx n b ci : Nat} {Y' : MD} {as : List AV} {P : Int → Prop} {S0 : List AV} (hE : Ev 0 d' Y' (vr b :: as) m (fun r m' => m' = m ∧ P r)) (hrt : Y'.2.2.2 = some .int) (hd : decode Y.2.1 pc = .ok (.invokevirtual idx, 3)) (hcv : CV Y.1.cls idx Y' n) (hn : as.length = n) (hst : S0 = as.reverse ++ vr b :: S) (ho : ob b ci) (hci : (cls[ci]?).map (fun q => q.1) = some Y'.1.cls) (hdp : d' + 1 ≤ d) (hrm : scat S ≤ 8) (k : ∀ r, P r → InR r → Go g d Y Q (pc + 3) L (vi r :: S) m) : Go g d Y Q pc L S0 m :=
  go_callV hE hd hcv hn hst ho hci hdp hrm (Nat.zero_le _) (fun r m' h1 h2 => by
    rw [hrt] at h2 ⊢
    obtain ⟨rfl, h1⟩ := h1; exact k r h1 h2)
theorem go_callV_z {g d : Nat} {Y : MD} {Q : Int → Mem → Prop} {pc : Nat} {L S : List AV} {m : Mem} {d' idx n b ci : Nat} {Y' : MD} {as : List AV} {Q' : Int → Mem → Prop} {S0 : List AV} (hE : Ev 0 d' Y' (vr b :: as) m Q') (hrt : Y'.2.2.2 = some .boolean) (hd : decode Y.2.1 pc = .ok (.invokevirtual idx, 3)) (hcv : CV Y.1.cls idx Y' n) (hn : as.length = n) (hst : S0 = as.reverse ++ vr b :: S) (ho : ob b ci) (hci : (cls[ci]?).map (fun q => q.1) = some Y'.1.cls) (hdp : d' + 1 ≤ d) (hrm : scat S ≤ 8) (k : ∀ r m', Q' r m' → (r = 0 ∨ r = 1) → Go g d Y Q (pc + 3) L (vi r :: S) m') : Go g d Y Q pc L S0 m :=
  go_callV hE hd hcv hn hst ho hci hdp hrm (Nat.zero_le _) (fun r m' h1 h2 => by
    rw [hrt] at h2 ⊢
    exact k r m' h1 h2)
theorem go_callVp_z {g d : Nat} {Y : MD} {Q : Int → Mem → Prop} {pc : Nat} {L S : List AV} {m : Mem} {d' idx n b ci : Nat} {Y' : MD} {as : List AV} {P : Int → Prop} {S0 : List AV} (hE : Ev 0 d' Y' (vr b :: as) m (fun r m' => m' = m ∧ P r)) (hrt : Y'.2.2.2 = some .boolean) (hd : decode Y.2.1 pc = .ok (.invokevirtual idx, 3)) (hcv : CV Y.1.cls idx Y' n) (hn : as.length = n) (hst : S0 = as.reverse ++ vr b :: S) (ho : ob b ci) (hci : (cls[ci]?).map (fun q => q.1) = some Y'.1.cls) (hdp : d' + 1 ≤ d) (hrm : scat S ≤ 8) (k : ∀ r, P r → (r = 0 ∨ r = 1) → Go g d Y Q (pc + 3) L (vi r :: S) m) : Go g d Y Q pc L S0 m :=
  go_callV hE hd hcv hn hst ho hci hdp hrm (Nat.zero_le _) (fun r m' h1 h2 => by
    rw [hrt] at h2 ⊢
    obtain ⟨rfl, h1⟩ := h1; exact k r h1 h2)
theorem go_callV_l {g d : Nat} {Y : MD} {Q : Int → Mem → Prop} {pc : Nat} {L S : List AV} {m : Mem} {d' idx n b ci : Nat} {Y' : MD} {as : List AV} {Q' : Int → Mem → Prop} {S0 : List AV} (hE : Ev 0 d' Y' (vr b :: as) m Q') (hrt : Y'.2.2.2 = some .long) (hd : decode Y.2.1 pc = .ok (.invokevirtual idx, 3)) (hcv : CV Y.1.cls idx Y' n) (hn : as.length = n) (hst : S0 = as.reverse ++ vr b :: S) (ho : ob b ci) (hci : (cls[ci]?).map (fun q => q.1) = some Y'.1.cls) (hdp : d' + 1 ≤ d) (hrm : scat S ≤ 8) (k : ∀ r m', Q' r m' → InL r → Go g d Y Q (pc + 3) L (vl r :: S) m') : Go g d Y Q pc L S0 m :=
  go_callV hE hd hcv hn hst ho hci hdp hrm (Nat.zero_le _) (fun r m' h1 h2 => by
    rw [hrt] at h2 ⊢
    exact k r m' h1 h2)
theorem go_callVp_l {g d : Nat} {Y : MD} {Q : Int → Mem → Prop} {pc : Nat} {L S : List AV} {m : Mem} {d' idx n b ci : Nat} {Y' : MD} {as : List AV} {P : Int → Prop} {S0 : List AV} (hE : Ev 0 d' Y' (vr b :: as) m (fun r m' => m' = m ∧ P r)) (hrt : Y'.2.2.2 = some .long) (hd : decode Y.2.1 pc = .ok (.invokevirtual idx, 3)) (hcv : CV Y.1.cls idx Y' n) (hn : as.length = n) (hst : S0 = as.reverse ++ vr b :: S) (ho : ob b ci) (hci : (cls[ci]?).map (fun q => q.1) = some Y'.1.cls) (hdp : d' + 1 ≤ d) (hrm : scat S ≤ 8) (k : ∀ r, P r → InL r → Go g d Y Q (pc + 3) L (vl r :: S) m) : Go g d Y Q pc L S0 m :=
  go_callV hE hd hcv hn hst ho hci hdp hrm (Nat.zero_le _) (fun r m' h1 h2 => by
    rw [hrt] at h2 ⊢
    obtain ⟨rfl, h1⟩ := h1; exact k r h1 h2)
theorem go_callV_v {g d : Nat} {Y : MD} {Q : Int → Mem → Prop} {pc : Nat} {L S : List AV} {m : Mem} {d' idx n b ci : Nat} {Y' : MD} {as : List AV} {Q' : Int → Mem → Prop} {S0 : List AV} (hE : Ev 0 d' Y' (vr b :: as) m Q') (hrt : Y'.2.2.2 = none) (hd : decode Y.2.1 pc = .ok (.invokevirtual idx, 3)) (hcv : CV Y.1.cls idx Y' n) (hn : as.length = n) (hst : S0 = as.reverse ++ vr b :: S) (ho : ob b ci) (hci : (cls[ci]?).map (fun q => q.1) = some Y'.1.cls) (hdp : d' + 1 ≤ d) (hrm : scat S ≤ 8) (k : ∀ m', Q' 0 m' → Go g d Y Q (pc + 3) L (S) m') : Go g d Y Q pc L S0 m :=
  go_callV hE hd hcv hn hst ho hci hdp hrm (Nat.zero_le _) (fun r m' h1 h2 => by
    rw [hrt] at h2 ⊢
    have h2 : r = 0 := h2
    subst h2; exact k m' h1)
theorem go_callS_i {g d : Nat} {Y : MD} {Q : Int → Mem → Prop} {pc : Nat} {L S : List AV} {m : Mem} {d' idx n : Nat} {Y' : MD} {as : List AV} {Q' : Int → Mem → Prop} {S0 : List AV} (hE : Ev 0 d' Y' as m Q') (hrt : Y'.2.2.2 = some .int) (hd : decode Y.2.1 pc = .ok (.invokestatic idx, 3)) (hcv : CS Y.1.cls idx Y' n) (hn : as.length = n) (hst : S0 = as.reverse ++ S) (hdp : d' + 1 ≤ d) (hrm : scat S ≤ 8) (k : ∀ r m', Q' r m' → InR r → Go g d Y Q (pc + 3) L (vi r :: S) m') : Go g d Y Q pc L S0 m :=
  go_callS hE hd hcv hn hst hdp hrm (Nat.zero_le _) (fun r m' h1 h2 => by
    rw [hrt] at h2 ⊢
    exact k r m' h1 h2)
theorem go_callSp_i {g d : Nat} {Y : MD} {Q : Int → Mem → Prop} {pc : Nat} {L S : List AV} {m : Mem} {d' idx n : Nat} {Y' : MD} {as : List AV} {P : Int → Prop} {S0 : List AV} (hE : Ev 0 d' Y' as m (fun r m' => m' = m ∧ P r)) (hrt : Y'.2.2.2 = some .int) (hd : decode Y.2.1 pc = .ok (.invokestatic idx, 3)) (hcv : CS Y.1.cls idx Y' n) (hn : as.length = n) (hst : S0 = as.reverse ++ S) (hdp : d' + 1 ≤ d) (hrm : scat S ≤ 8) (k : ∀ r, P r → InR r → Go g d Y Q (pc + 3) L (vi r :: S) m) : Go g d Y Q pc L S0 m :=
  go_callS hE hd hcv hn hst hdp hrm (Nat.zero_le _) (fun r m' h1 h2 => by
    rw [hrt] at h2 ⊢
    obtain ⟨rfl, h1⟩ := h1; exact k r h1 h2)
theorem go_callS_z {g d : Nat} {Y : MD} {Q : Int → Mem → Prop} {pc : Nat} {L S : List AV} {m : Mem} {d' idx n : Nat} {Y' : MD} {as : List AV} {Q' : Int → Mem → Prop} {S0 : List AV} (hE : Ev 0 d' Y' as m Q') (hrt : Y'.2.2.2 = some .boolean) (hd : decode Y.2.1 pc = .ok (.invokestatic idx, 3)) (hcv : CS Y.1.cls idx Y' n) (hn : as.length = n) (hst : S0 = as.reverse ++ S) (hdp : d' + 1 ≤ d) (hrm : scat S ≤ 8) (k : ∀ r m', Q' r m' → (r = 0 ∨ r = 1) → Go g d Y Q (pc + 3) L (vi r :: S) m') : Go g d Y Q pc L S0 m :=
  go_callS hE hd hcv hn hst hdp hrm (Nat.zero_le _) (fun r m' h1 h2 => by
    rw [hrt] at h2 ⊢
    exact k r m' h1 h2)
theorem go_callSp_z {g d : Nat} {Y : MD} {Q : Int → Mem → Prop} {pc : Nat} {L S : List AV} {m : Mem} {d' idx n : Nat} {Y' : MD} {as : List AV} {P : Int → Prop} {S0 : List AV} (hE : Ev 0 d' Y' as m (fun r m' => m' = m ∧ P r)) (hrt : Y'.2.2.2 = some .boolean) (hd : decode Y.2.1 pc = .ok (.invokestatic idx, 3)) (hcv : CS Y.1.cls idx Y' n) (hn : as.length = n) (hst : S0 = as.reverse ++ S) (hdp : d' + 1 ≤ d) (hrm : scat S ≤ 8) (k : ∀ r, P r → (r = 0 ∨ r = 1) → Go g d Y Q (pc + 3) L (vi r :: S) m) : Go g d Y Q pc L S0 m :=
  go_callS hE hd hcv hn hst hdp hrm (Nat.zero_le _) (fun r m' h1 h2 => by
    rw [hrt] at h2 ⊢
    obtain ⟨rfl, h1⟩ := h1; exact k r h1 h2)
theorem go_callS_l {g d : Nat} {Y : MD} {Q : Int → Mem → Prop} {pc : Nat} {L S : List AV} {m : Mem} {d' idx n : Nat} {Y' : MD} {as : List AV} {Q' : Int → Mem → Prop} {S0 : List AV} (hE : Ev 0 d' Y' as m Q') (hrt : Y'.2.2.2 = some .long) (hd : decode Y.2.1 pc = .ok (.invokestatic idx, 3)) (hcv : CS Y.1.cls idx Y' n) (hn : as.length = n) (hst : S0 = as.reverse ++ S) (hdp : d' + 1 ≤ d) (hrm : scat S ≤ 8) (k : ∀ r m', Q' r m' → InL r → Go g d Y Q (pc + 3) L (vl r :: S) m') : Go g d Y Q pc L S0 m :=
  go_callS hE hd hcv hn hst hdp hrm (Nat.zero_le _) (fun r m' h1 h2 => by
    rw [hrt] at h2 ⊢
    exact k r m' h1 h2)
theorem go_callSp_l {g d : Nat} {Y : MD} {Q : Int → Mem → Prop} {pc : Nat} {L S : List AV} {m : Mem} {d' idx n : Nat} {Y' : MD} {as : List AV} {P : Int → Prop} {S0 : List AV} (hE : Ev 0 d' Y' as m (fun r m' => m' = m ∧ P r)) (hrt : Y'.2.2.2 = some .long) (hd : decode Y.2.1 pc = .ok (.invokestatic idx, 3)) (hcv : CS Y.1.cls idx Y' n) (hn : as.length = n) (hst : S0 = as.reverse ++ S) (hdp : d' + 1 ≤ d) (hrm : scat S ≤ 8) (k : ∀ r, P r → InL r → Go g d Y Q (pc + 3) L (vl r :: S) m) : Go g d Y Q pc L S0 m :=
  go_callS hE hd hcv hn hst hdp hrm (Nat.zero_le _) (fun r m' h1 h2 => by
    rw [hrt] at h2 ⊢
    obtain ⟨rfl, h1⟩ := h1; exact k r h1 h2)
theorem go_callS_v {g d : Nat} {Y : MD} {Q : Int → Mem → Prop} {pc : Nat} {L S : List AV} {m : Mem} {d' idx n : Nat} {Y' : MD} {as : List AV} {Q' : Int → Mem → Prop} {S0 : List AV} (hE : Ev 0 d' Y' as m Q') (hrt : Y'.2.2.2 = none) (hd : decode Y.2.1 pc = .ok (.invokestatic idx, 3)) (hcv : CS Y.1.cls idx Y' n) (hn : as.length = n) (hst : S0 = as.reverse ++ S) (hdp : d' + 1 ≤ d) (hrm : scat S ≤ 8) (k : ∀ m', Q' 0 m' → Go g d Y Q (pc + 3) L (S) m') : Go g d Y Q pc L S0 m :=
  go_callS hE hd hcv hn hst hdp hrm (Nat.zero_le _) (fun r m' h1 h2 => by
    rw [hrt] at h2 ⊢
    have h2 : r = 0 := h2
    subst h2; exact k m' h1)

theorem okI {v : Int} (h : InR v) : rOk (some .int) v := h
theorem okZ {v : Int} (h : v = 0 ∨ v = 1) : rOk (some .boolean) v := h
theorem okL {v : Int} (h : InL v) : rOk (some .long) v := h

