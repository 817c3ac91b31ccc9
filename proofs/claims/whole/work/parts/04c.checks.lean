-- the law's rows are its code's (printed by wip/whole/gen/emit.py)
def rvCkR (i lo n : Nat) : Bool := (List.range n).all (fun k => rvCk i (lo + k) ((rvCode i).getD (lo + k) (0, 0, 0, 0, 0, [])))
set_option maxRecDepth 100000 in
theorem rvCkL_0 : rvCkR 191 0 64 = true := by decide +kernel
set_option maxRecDepth 100000 in
theorem rvCkL_64 : rvCkR 191 64 64 = true := by decide +kernel
set_option maxRecDepth 100000 in
theorem rvCkL_128 : rvCkR 191 128 64 = true := by decide +kernel
set_option maxRecDepth 100000 in
theorem rvCkL_192 : rvCkR 191 192 64 = true := by decide +kernel
set_option maxRecDepth 100000 in
theorem rvCkL_256 : rvCkR 191 256 64 = true := by decide +kernel
set_option maxRecDepth 100000 in
theorem rvCkL_320 : rvCkR 191 320 64 = true := by decide +kernel
set_option maxRecDepth 100000 in
theorem rvCkL_384 : rvCkR 191 384 64 = true := by decide +kernel
set_option maxRecDepth 100000 in
theorem rvCkL_448 : rvCkR 191 448 64 = true := by decide +kernel
set_option maxRecDepth 100000 in
theorem rvCkL_512 : rvCkR 191 512 64 = true := by decide +kernel
set_option maxRecDepth 100000 in
theorem rvCkL_576 : rvCkR 191 576 64 = true := by decide +kernel
set_option maxRecDepth 100000 in
theorem rvCkL_640 : rvCkR 191 640 64 = true := by decide +kernel
set_option maxRecDepth 100000 in
theorem rvCkL_704 : rvCkR 191 704 64 = true := by decide +kernel
set_option maxRecDepth 100000 in
theorem rvCkL_768 : rvCkR 191 768 64 = true := by decide +kernel
set_option maxRecDepth 100000 in
theorem rvCkL_832 : rvCkR 191 832 64 = true := by decide +kernel
set_option maxRecDepth 100000 in
theorem rvCkL_896 : rvCkR 191 896 64 = true := by decide +kernel
set_option maxRecDepth 100000 in
theorem rvCkL_960 : rvCkR 191 960 64 = true := by decide +kernel
set_option maxRecDepth 100000 in
theorem rvCkL_1024 : rvCkR 191 1024 64 = true := by decide +kernel
set_option maxRecDepth 100000 in
theorem rvCkL_1088 : rvCkR 191 1088 64 = true := by decide +kernel
set_option maxRecDepth 100000 in
theorem rvCkL_1152 : rvCkR 191 1152 64 = true := by decide +kernel
set_option maxRecDepth 100000 in
theorem rvCkL_1216 : rvCkR 191 1216 63 = true := by decide +kernel
theorem rvCkR_at {i lo n k : Nat} (h : rvCkR i lo n = true) (h1 : lo ≤ k) (h2 : k < lo + n) : rvCk i k ((rvCode i).getD k (0, 0, 0, 0, 0, [])) = true := by
  have h3 := List.all_eq_true.mp h (k - lo) (List.mem_range.mpr (by omega))
  rwa [show lo + (k - lo) = k by omega] at h3
theorem rvCkL_at {k : Nat} (hk : k < 1279) : rvCk 191 k ((rvCode 191).getD k (0, 0, 0, 0, 0, [])) = true := by
  by_cases h0 : k < 64
  · exact rvCkR_at rvCkL_0 (by omega) (by omega)
  by_cases h64 : k < 128
  · exact rvCkR_at rvCkL_64 (by omega) (by omega)
  by_cases h128 : k < 192
  · exact rvCkR_at rvCkL_128 (by omega) (by omega)
  by_cases h192 : k < 256
  · exact rvCkR_at rvCkL_192 (by omega) (by omega)
  by_cases h256 : k < 320
  · exact rvCkR_at rvCkL_256 (by omega) (by omega)
  by_cases h320 : k < 384
  · exact rvCkR_at rvCkL_320 (by omega) (by omega)
  by_cases h384 : k < 448
  · exact rvCkR_at rvCkL_384 (by omega) (by omega)
  by_cases h448 : k < 512
  · exact rvCkR_at rvCkL_448 (by omega) (by omega)
  by_cases h512 : k < 576
  · exact rvCkR_at rvCkL_512 (by omega) (by omega)
  by_cases h576 : k < 640
  · exact rvCkR_at rvCkL_576 (by omega) (by omega)
  by_cases h640 : k < 704
  · exact rvCkR_at rvCkL_640 (by omega) (by omega)
  by_cases h704 : k < 768
  · exact rvCkR_at rvCkL_704 (by omega) (by omega)
  by_cases h768 : k < 832
  · exact rvCkR_at rvCkL_768 (by omega) (by omega)
  by_cases h832 : k < 896
  · exact rvCkR_at rvCkL_832 (by omega) (by omega)
  by_cases h896 : k < 960
  · exact rvCkR_at rvCkL_896 (by omega) (by omega)
  by_cases h960 : k < 1024
  · exact rvCkR_at rvCkL_960 (by omega) (by omega)
  by_cases h1024 : k < 1088
  · exact rvCkR_at rvCkL_1024 (by omega) (by omega)
  by_cases h1088 : k < 1152
  · exact rvCkR_at rvCkL_1088 (by omega) (by omega)
  by_cases h1152 : k < 1216
  · exact rvCkR_at rvCkL_1152 (by omega) (by omega)
  by_cases h1216 : k < 1279
  · exact rvCkR_at rvCkL_1216 (by omega) (by omega)
  omega
theorem rvCk_all : ∀ i, i < 191 → rvCkM i = true
  | 0, _ => rvCk_0
  | 1, _ => rvCk_1
  | 2, _ => rvCk_2
  | 3, _ => rvCk_3
  | 4, _ => rvCk_4
  | 5, _ => rvCk_5
  | 6, _ => rvCk_6
  | 7, _ => rvCk_7
  | 8, _ => rvCk_8
  | 9, _ => rvCk_9
  | 10, _ => rvCk_10
  | 11, _ => rvCk_11
  | 12, _ => rvCk_12
  | 13, _ => rvCk_13
  | 14, _ => rvCk_14
  | 15, _ => rvCk_15
  | 16, _ => rvCk_16
  | 17, _ => rvCk_17
  | 18, _ => rvCk_18
  | 19, _ => rvCk_19
  | 20, _ => rvCk_20
  | 21, _ => rvCk_21
  | 22, _ => rvCk_22
  | 23, _ => rvCk_23
  | 24, _ => rvCk_24
  | 25, _ => rvCk_25
  | 26, _ => rvCk_26
  | 27, _ => rvCk_27
  | 28, _ => rvCk_28
  | 29, _ => rvCk_29
  | 30, _ => rvCk_30
  | 31, _ => rvCk_31
  | 32, _ => rvCk_32
  | 33, _ => rvCk_33
  | 34, _ => rvCk_34
  | 35, _ => rvCk_35
  | 36, _ => rvCk_36
  | 37, _ => rvCk_37
  | 38, _ => rvCk_38
  | 39, _ => rvCk_39
  | 40, _ => rvCk_40
  | 41, _ => rvCk_41
  | 42, _ => rvCk_42
  | 43, _ => rvCk_43
  | 44, _ => rvCk_44
  | 45, _ => rvCk_45
  | 46, _ => rvCk_46
  | 47, _ => rvCk_47
  | 48, _ => rvCk_48
  | 49, _ => rvCk_49
  | 50, _ => rvCk_50
  | 51, _ => rvCk_51
  | 52, _ => rvCk_52
  | 53, _ => rvCk_53
  | 54, _ => rvCk_54
  | 55, _ => rvCk_55
  | 56, _ => rvCk_56
  | 57, _ => rvCk_57
  | 58, _ => rvCk_58
  | 59, _ => rvCk_59
  | 60, _ => rvCk_60
  | 61, _ => rvCk_61
  | 62, _ => rvCk_62
  | 63, _ => rvCk_63
  | 64, _ => rvCk_64
  | 65, _ => rvCk_65
  | 66, _ => rvCk_66
  | 67, _ => rvCk_67
  | 68, _ => rvCk_68
  | 69, _ => rvCk_69
  | 70, _ => rvCk_70
  | 71, _ => rvCk_71
  | 72, _ => rvCk_72
  | 73, _ => rvCk_73
  | 74, _ => rvCk_74
  | 75, _ => rvCk_75
  | 76, _ => rvCk_76
  | 77, _ => rvCk_77
  | 78, _ => rvCk_78
  | 79, _ => rvCk_79
  | 80, _ => rvCk_80
  | 81, _ => rvCk_81
  | 82, _ => rvCk_82
  | 83, _ => rvCk_83
  | 84, _ => rvCk_84
  | 85, _ => rvCk_85
  | 86, _ => rvCk_86
  | 87, _ => rvCk_87
  | 88, _ => rvCk_88
  | 89, _ => rvCk_89
  | 90, _ => rvCk_90
  | 91, _ => rvCk_91
  | 92, _ => rvCk_92
  | 93, _ => rvCk_93
  | 94, _ => rvCk_94
  | 95, _ => rvCk_95
  | 96, _ => rvCk_96
  | 97, _ => rvCk_97
  | 98, _ => rvCk_98
  | 99, _ => rvCk_99
  | 100, _ => rvCk_100
  | 101, _ => rvCk_101
  | 102, _ => rvCk_102
  | 103, _ => rvCk_103
  | 104, _ => rvCk_104
  | 105, _ => rvCk_105
  | 106, _ => rvCk_106
  | 107, _ => rvCk_107
  | 108, _ => rvCk_108
  | 109, _ => rvCk_109
  | 110, _ => rvCk_110
  | 111, _ => rvCk_111
  | 112, _ => rvCk_112
  | 113, _ => rvCk_113
  | 114, _ => rvCk_114
  | 115, _ => rvCk_115
  | 116, _ => rvCk_116
  | 117, _ => rvCk_117
  | 118, _ => rvCk_118
  | 119, _ => rvCk_119
  | 120, _ => rvCk_120
  | 121, _ => rvCk_121
  | 122, _ => rvCk_122
  | 123, _ => rvCk_123
  | 124, _ => rvCk_124
  | 125, _ => rvCk_125
  | 126, _ => rvCk_126
  | 127, _ => rvCk_127
  | 128, _ => rvCk_128
  | 129, _ => rvCk_129
  | 130, _ => rvCk_130
  | 131, _ => rvCk_131
  | 132, _ => rvCk_132
  | 133, _ => rvCk_133
  | 134, _ => rvCk_134
  | 135, _ => rvCk_135
  | 136, _ => rvCk_136
  | 137, _ => rvCk_137
  | 138, _ => rvCk_138
  | 139, _ => rvCk_139
  | 140, _ => rvCk_140
  | 141, _ => rvCk_141
  | 142, _ => rvCk_142
  | 143, _ => rvCk_143
  | 144, _ => rvCk_144
  | 145, _ => rvCk_145
  | 146, _ => rvCk_146
  | 147, _ => rvCk_147
  | 148, _ => rvCk_148
  | 149, _ => rvCk_149
  | 150, _ => rvCk_150
  | 151, _ => rvCk_151
  | 152, _ => rvCk_152
  | 153, _ => rvCk_153
  | 154, _ => rvCk_154
  | 155, _ => rvCk_155
  | 156, _ => rvCk_156
  | 157, _ => rvCk_157
  | 158, _ => rvCk_158
  | 159, _ => rvCk_159
  | 160, _ => rvCk_160
  | 161, _ => rvCk_161
  | 162, _ => rvCk_162
  | 163, _ => rvCk_163
  | 164, _ => rvCk_164
  | 165, _ => rvCk_165
  | 166, _ => rvCk_166
  | 167, _ => rvCk_167
  | 168, _ => rvCk_168
  | 169, _ => rvCk_169
  | 170, _ => rvCk_170
  | 171, _ => rvCk_171
  | 172, _ => rvCk_172
  | 173, _ => rvCk_173
  | 174, _ => rvCk_174
  | 175, _ => rvCk_175
  | 176, _ => rvCk_176
  | 177, _ => rvCk_177
  | 178, _ => rvCk_178
  | 179, _ => rvCk_179
  | 180, _ => rvCk_180
  | 181, _ => rvCk_181
  | 182, _ => rvCk_182
  | 183, _ => rvCk_183
  | 184, _ => rvCk_184
  | 185, _ => rvCk_185
  | 186, _ => rvCk_186
  | 187, _ => rvCk_187
  | 188, _ => rvCk_188
  | 189, _ => rvCk_189
  | 190, _ => rvCk_190
  | n + 191, h => absurd h (by omega)
theorem rvLawLen : (rvCode 191).length = 1279 := by decide +kernel
theorem rvCk_at {i n : Nat} (hi : i < 192) (hn : n < (rvCode i).length) : rvCk i n ((rvCode i).getD n (0, 0, 0, 0, 0, [])) = true := by
  by_cases h : i < 191
  · have h1 := rvCk_all i h
    unfold rvCkM at h1
    exact List.all_eq_true.mp h1 n (List.mem_range.mpr hn)
  · obtain rfl : i = 191 := by omega
    rw [rvLawLen] at hn
    exact rvCkL_at hn
