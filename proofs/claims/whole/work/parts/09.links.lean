theorem sm_npi : ∀ N, N < 202 → (parseMethodDescriptor (sm_mi N).1.desc).map (fun d => d.parameters.length) = some (sm_np.getD N 0)
  | 0, _ => mp_0
  | 1, _ => mp_1
  | 2, _ => mp_2
  | 3, _ => mp_3
  | 4, _ => mp_4
  | 5, _ => mp_5
  | 6, _ => mp_6
  | 7, _ => mp_7
  | 8, _ => mp_8
  | 9, _ => mp_9
  | 10, _ => mp_10
  | 11, _ => mp_11
  | 12, _ => mp_12
  | 13, _ => mp_13
  | 14, _ => mp_14
  | 15, _ => mp_15
  | 16, _ => mp_16
  | 17, _ => mp_17
  | 18, _ => mp_18
  | 19, _ => mp_19
  | 20, _ => mp_20
  | 21, _ => mp_21
  | 22, _ => mp_22
  | 23, _ => mp_23
  | 24, _ => mp_24
  | 25, _ => mp_25
  | 26, _ => mp_26
  | 27, _ => mp_27
  | 28, _ => mp_28
  | 29, _ => mp_29
  | 30, _ => mp_30
  | 31, _ => mp_31
  | 32, _ => mp_32
  | 33, _ => mp_33
  | 34, _ => mp_34
  | 35, _ => mp_35
  | 36, _ => mp_36
  | 37, _ => mp_37
  | 38, _ => mp_38
  | 39, _ => mp_39
  | 40, _ => mp_40
  | 41, _ => mp_41
  | 42, _ => mp_42
  | 43, _ => mp_43
  | 44, _ => mp_44
  | 45, _ => mp_45
  | 46, _ => mp_46
  | 47, _ => mp_47
  | 48, _ => mp_48
  | 49, _ => mp_49
  | 50, _ => mp_50
  | 51, _ => mp_51
  | 52, _ => mp_52
  | 53, _ => mp_53
  | 54, _ => mp_54
  | 55, _ => mp_55
  | 56, _ => mp_56
  | 57, _ => mp_57
  | 58, _ => mp_58
  | 59, _ => mp_59
  | 60, _ => mp_60
  | 61, _ => mp_61
  | 62, _ => mp_62
  | 63, _ => mp_63
  | 64, _ => mp_64
  | 65, _ => mp_65
  | 66, _ => mp_66
  | 67, _ => mp_67
  | 68, _ => mp_68
  | 69, _ => mp_69
  | 70, _ => mp_70
  | 71, _ => mp_71
  | 72, _ => mp_72
  | 73, _ => mp_73
  | 74, _ => mp_74
  | 75, _ => mp_75
  | 76, _ => mp_76
  | 77, _ => mp_77
  | 78, _ => mp_78
  | 79, _ => mp_79
  | 80, _ => mp_80
  | 81, _ => mp_81
  | 82, _ => mp_82
  | 83, _ => mp_83
  | 84, _ => mp_84
  | 85, _ => mp_85
  | 86, _ => mp_86
  | 87, _ => mp_87
  | 88, _ => mp_88
  | 89, _ => mp_89
  | 90, _ => mp_90
  | 91, _ => mp_91
  | 92, _ => mp_92
  | 93, _ => mp_93
  | 94, _ => mp_94
  | 95, _ => mp_95
  | 96, _ => mp_96
  | 97, _ => mp_97
  | 98, _ => mp_98
  | 99, _ => mp_99
  | 100, _ => mp_100
  | 101, _ => mp_101
  | 102, _ => mp_102
  | 103, _ => mp_103
  | 104, _ => mp_104
  | 105, _ => mp_105
  | 106, _ => mp_106
  | 107, _ => mp_107
  | 108, _ => mp_108
  | 109, _ => mp_109
  | 110, _ => mp_110
  | 111, _ => mp_111
  | 112, _ => mp_112
  | 113, _ => mp_113
  | 114, _ => mp_114
  | 115, _ => mp_115
  | 116, _ => mp_116
  | 117, _ => mp_117
  | 118, _ => mp_118
  | 119, _ => mp_119
  | 120, _ => mp_120
  | 121, _ => mp_121
  | 122, _ => mp_122
  | 123, _ => mp_123
  | 124, _ => mp_124
  | 125, _ => mp_125
  | 126, _ => mp_126
  | 127, _ => mp_127
  | 128, _ => mp_128
  | 129, _ => mp_129
  | 130, _ => mp_130
  | 131, _ => mp_131
  | 132, _ => mp_132
  | 133, _ => mp_133
  | 134, _ => mp_134
  | 135, _ => mp_135
  | 136, _ => mp_136
  | 137, _ => mp_137
  | 138, _ => mp_138
  | 139, _ => mp_139
  | 140, _ => mp_140
  | 141, _ => mp_141
  | 142, _ => mp_142
  | 143, _ => mp_143
  | 144, _ => mp_144
  | 145, _ => mp_145
  | 146, _ => mp_146
  | 147, _ => mp_147
  | 148, _ => mp_148
  | 149, _ => mp_149
  | 150, _ => mp_150
  | 151, _ => mp_151
  | 152, _ => mp_152
  | 153, _ => mp_153
  | 154, _ => mp_154
  | 155, _ => mp_155
  | 156, _ => mp_156
  | 157, _ => mp_157
  | 158, _ => mp_158
  | 159, _ => mp_159
  | 160, _ => mp_160
  | 161, _ => mp_161
  | 162, _ => mp_162
  | 163, _ => mp_163
  | 164, _ => mp_164
  | 165, _ => mp_165
  | 166, _ => mp_166
  | 167, _ => mp_167
  | 168, _ => mp_168
  | 169, _ => mp_169
  | 170, _ => mp_170
  | 171, _ => mp_171
  | 172, _ => mp_172
  | 173, _ => mp_173
  | 174, _ => mp_174
  | 175, _ => mp_175
  | 176, _ => mp_176
  | 177, _ => mp_177
  | 178, _ => mp_178
  | 179, _ => mp_179
  | 180, _ => mp_180
  | 181, _ => mp_181
  | 182, _ => mp_182
  | 183, _ => mp_183
  | 184, _ => mp_184
  | 185, _ => mp_185
  | 186, _ => mp_186
  | 187, _ => mp_187
  | 188, _ => mp_188
  | 189, _ => mp_189
  | 190, _ => mp_190
  | 191, _ => mp_191
  | 192, _ => mp_192
  | 193, _ => mp_193
  | 194, _ => mp_194
  | 195, _ => mp_195
  | 196, _ => mp_196
  | 197, _ => mp_197
  | 198, _ => mp_198
  | 199, _ => mp_199
  | 200, _ => mp_200
  | 201, _ => mp_201
  | n + 202, h => absurd h (by omega)
set_option maxRecDepth 20000 in
theorem mk_0 : Cond.methodLink (sm_cn.getD 0 "") 22 (sm_mi 2).1 ∈ lw_tbl := sm_m5 71 rfl
set_option maxRecDepth 20000 in
theorem mk_1 : Cond.methodLink (sm_cn.getD 0 "") 32 (sm_mi 4).1 ∈ lw_tbl := sm_m3 48 rfl
set_option maxRecDepth 20000 in
theorem mk_2 : Cond.methodLink (sm_cn.getD 0 "") 38 (sm_mi 5).1 ∈ lw_tbl := sm_m3 52 rfl
set_option maxRecDepth 20000 in
theorem mk_3 : Cond.methodLink (sm_cn.getD 0 "") 41 (sm_mi 11).1 ∈ lw_tbl := sm_m5 166 rfl
set_option maxRecDepth 20000 in
theorem mk_4 : Cond.methodLink (sm_cn.getD 0 "") 45 (sm_mi 199).1 ∈ lw_tbl := sm_m5 170 rfl
set_option maxRecDepth 20000 in
theorem mk_5 : Cond.methodLink (sm_cn.getD 1 "") 29 (sm_mi 14).1 ∈ lw_tbl := sm_m4 4 rfl
set_option maxRecDepth 20000 in
theorem mk_6 : Cond.methodLinkNest (sm_cn.getD 2 "") 24 (sm_mi 12).1 "ShuffleMill" ∈ lw_tbl := sm_m1 67 rfl
set_option maxRecDepth 20000 in
theorem mk_7 : Cond.methodLink (sm_cn.getD 2 "") 35 (sm_mi 198).1 ∈ lw_tbl := sm_m5 134 rfl
set_option maxRecDepth 20000 in
theorem mk_8 : Cond.methodLink (sm_cn.getD 3 "") 27 (sm_mi 0).1 ∈ lw_tbl := sm_m1 43 rfl
set_option maxRecDepth 20000 in
theorem mk_9 : Cond.methodLink (sm_cn.getD 3 "") 30 (sm_mi 22).1 ∈ lw_tbl := sm_m1 60 rfl
set_option maxRecDepth 20000 in
theorem mk_10 : Cond.methodLink (sm_cn.getD 3 "") 31 (sm_mi 24).1 ∈ lw_tbl := sm_m4 65 rfl
set_option maxRecDepth 20000 in
theorem mk_11 : Cond.methodLink (sm_cn.getD 3 "") 39 (sm_mi 36).1 ∈ lw_tbl := sm_m4 61 rfl
set_option maxRecDepth 20000 in
theorem mk_12 : Cond.methodLink (sm_cn.getD 3 "") 43 (sm_mi 42).1 ∈ lw_tbl := sm_m4 69 rfl
set_option maxRecDepth 20000 in
theorem mk_13 : Cond.methodLink (sm_cn.getD 3 "") 46 (sm_mi 41).1 ∈ lw_tbl := sm_m4 89 rfl
set_option maxRecDepth 20000 in
theorem mk_14 : Cond.methodLink (sm_cn.getD 3 "") 50 (sm_mi 30).1 ∈ lw_tbl := sm_m4 81 rfl
set_option maxRecDepth 20000 in
theorem mk_15 : Cond.methodLink (sm_cn.getD 3 "") 53 (sm_mi 44).1 ∈ lw_tbl := sm_m4 73 rfl
set_option maxRecDepth 20000 in
theorem mk_16 : Cond.methodLink (sm_cn.getD 3 "") 56 (sm_mi 43).1 ∈ lw_tbl := sm_m4 77 rfl
set_option maxRecDepth 20000 in
theorem mk_17 : Cond.methodLink (sm_cn.getD 3 "") 59 (sm_mi 27).1 ∈ lw_tbl := sm_m4 85 rfl
set_option maxRecDepth 20000 in
theorem mk_18 : Cond.methodLink (sm_cn.getD 3 "") 62 (sm_mi 28).1 ∈ lw_tbl := sm_m4 160 rfl
set_option maxRecDepth 20000 in
theorem mk_19 : Cond.methodLink (sm_cn.getD 3 "") 65 (sm_mi 34).1 ∈ lw_tbl := sm_m4 164 rfl
set_option maxRecDepth 20000 in
theorem mk_20 : Cond.methodLink (sm_cn.getD 3 "") 69 (sm_mi 1).1 ∈ lw_tbl := sm_m4 165 rfl
set_option maxRecDepth 20000 in
theorem mk_21 : Cond.methodLink (sm_cn.getD 3 "") 72 (sm_mi 29).1 ∈ lw_tbl := sm_m4 166 rfl
set_option maxRecDepth 20000 in
theorem mk_22 : Cond.methodLink (sm_cn.getD 3 "") 75 (sm_mi 3).1 ∈ lw_tbl := sm_m5 66 rfl
set_option maxRecDepth 20000 in
theorem mk_23 : Cond.methodLink (sm_cn.getD 3 "") 78 (sm_mi 7).1 ∈ lw_tbl := sm_m5 67 rfl
set_option maxRecDepth 20000 in
theorem mk_24 : Cond.methodLink (sm_cn.getD 4 "") 20 (sm_mi 0).1 ∈ lw_tbl := sm_m2 110 rfl
set_option maxRecDepth 20000 in
theorem mk_25 : Cond.methodLink (sm_cn.getD 4 "") 38 (sm_mi 201).1 ∈ lw_tbl := sm_m5 187 rfl
set_option maxRecDepth 20000 in
theorem mk_26 : Cond.methodLink (sm_cn.getD 4 "") 44 (sm_mi 3).1 ∈ lw_tbl := sm_m5 190 rfl
set_option maxRecDepth 20000 in
theorem mk_27 : Cond.methodLink (sm_cn.getD 4 "") 50 (sm_mi 4).1 ∈ lw_tbl := sm_m5 191 rfl
set_option maxRecDepth 20000 in
theorem mk_28 : Cond.methodLink (sm_cn.getD 4 "") 63 (sm_mi 15).1 ∈ lw_tbl := sm_m5 192 rfl
set_option maxRecDepth 20000 in
theorem mk_29 : Cond.methodLink (sm_cn.getD 4 "") 69 (sm_mi 17).1 ∈ lw_tbl := sm_m5 193 rfl
set_option maxRecDepth 20000 in
theorem mk_30 : Cond.methodLink (sm_cn.getD 4 "") 73 (sm_mi 18).1 ∈ lw_tbl := sm_m5 197 rfl
set_option maxRecDepth 20000 in
theorem mk_31 : Cond.methodLink (sm_cn.getD 4 "") 76 (sm_mi 52).1 ∈ lw_tbl := sm_m5 201 rfl
set_option maxRecDepth 20000 in
theorem mk_32 : Cond.methodLink (sm_cn.getD 4 "") 80 (sm_mi 61).1 ∈ lw_tbl := sm_m5 205 rfl
set_option maxRecDepth 20000 in
theorem mk_33 : Cond.methodLink (sm_cn.getD 4 "") 84 (sm_mi 59).1 ∈ lw_tbl := sm_m5 209 rfl
set_option maxRecDepth 20000 in
theorem mk_34 : Cond.methodLink (sm_cn.getD 4 "") 87 (sm_mi 55).1 ∈ lw_tbl := sm_m5 214 rfl
set_option maxRecDepth 20000 in
theorem mk_35 : Cond.methodLink (sm_cn.getD 4 "") 91 (sm_mi 56).1 ∈ lw_tbl := sm_m5 219 rfl
set_option maxRecDepth 20000 in
theorem mk_36 : Cond.methodLink (sm_cn.getD 4 "") 94 (sm_mi 53).1 ∈ lw_tbl := sm_m5 227 rfl
set_option maxRecDepth 20000 in
theorem mk_37 : Cond.methodLink (sm_cn.getD 4 "") 98 (sm_mi 60).1 ∈ lw_tbl := sm_m5 223 rfl
set_option maxRecDepth 20000 in
theorem mk_38 : Cond.methodLink (sm_cn.getD 4 "") 102 (sm_mi 57).1 ∈ lw_tbl := sm_m5 236 rfl
set_option maxRecDepth 20000 in
theorem mk_39 : Cond.methodLink (sm_cn.getD 4 "") 105 (sm_mi 54).1 ∈ lw_tbl := sm_m5 231 rfl
set_option maxRecDepth 20000 in
theorem mk_40 : Cond.methodLink (sm_cn.getD 4 "") 110 (sm_mi 5).1 ∈ lw_tbl := sm_m5 235 rfl
set_option maxRecDepth 20000 in
theorem mk_41 : Cond.methodLink (sm_cn.getD 4 "") 113 (sm_mi 58).1 ∈ lw_tbl := sm_m6 0 rfl
set_option maxRecDepth 20000 in
theorem mk_42 : Cond.methodLink (sm_cn.getD 4 "") 116 (sm_mi 6).1 ∈ lw_tbl := sm_m5 213 rfl
set_option maxRecDepth 20000 in
theorem mk_43 : Cond.methodLink (sm_cn.getD 5 "") 50 (sm_mi 66).1 ∈ lw_tbl := sm_m5 48 rfl
set_option maxRecDepth 20000 in
theorem mk_44 : Cond.methodLink (sm_cn.getD 5 "") 54 (sm_mi 6).1 ∈ lw_tbl := sm_m5 52 rfl
set_option maxRecDepth 20000 in
theorem mk_45 : Cond.methodLinkNest (sm_cn.getD 6 "") 28 (sm_mi 62).1 "ShuffleMill" ∈ lw_tbl := sm_m1 124 rfl
set_option maxRecDepth 20000 in
theorem mk_46 : Cond.methodLink (sm_cn.getD 6 "") 29 (sm_mi 71).1 ∈ lw_tbl := sm_m4 113 rfl
set_option maxRecDepth 20000 in
theorem mk_47 : Cond.methodLink (sm_cn.getD 6 "") 44 (sm_mi 64).1 ∈ lw_tbl := sm_m5 19 rfl
set_option maxRecDepth 20000 in
theorem mk_48 : Cond.methodLink (sm_cn.getD 7 "") 11 (sm_mi 0).1 ∈ lw_tbl := sm_m2 77 rfl
set_option maxRecDepth 20000 in
theorem mk_49 : Cond.methodLink (sm_cn.getD 7 "") 41 (sm_mi 200).1 ∈ lw_tbl := sm_m2 78 rfl
set_option maxRecDepth 20000 in
theorem mk_50 : Cond.methodLink (sm_cn.getD 7 "") 47 (sm_mi 3).1 ∈ lw_tbl := sm_m4 139 rfl
set_option maxRecDepth 20000 in
theorem mk_51 : Cond.methodLink (sm_cn.getD 7 "") 50 (sm_mi 81).1 ∈ lw_tbl := sm_m3 38 rfl
set_option maxRecDepth 20000 in
theorem mk_52 : Cond.methodLink (sm_cn.getD 7 "") 54 (sm_mi 83).1 ∈ lw_tbl := sm_m3 39 rfl
set_option maxRecDepth 20000 in
theorem mk_53 : Cond.methodLink (sm_cn.getD 7 "") 58 (sm_mi 1).1 ∈ lw_tbl := sm_m6 25 rfl
set_option maxRecDepth 20000 in
theorem mk_54 : Cond.methodLink (sm_cn.getD 7 "") 62 (sm_mi 7).1 ∈ lw_tbl := sm_m6 26 rfl
set_option maxRecDepth 20000 in
theorem mk_55 : Cond.methodLink (sm_cn.getD 7 "") 66 (sm_mi 9).1 ∈ lw_tbl := sm_m3 43 rfl
set_option maxRecDepth 20000 in
theorem mk_56 : Cond.methodLink (sm_cn.getD 7 "") 75 (sm_mi 4).1 ∈ lw_tbl := sm_m5 129 rfl
set_option maxRecDepth 20000 in
theorem mk_57 : Cond.methodLink (sm_cn.getD 7 "") 79 (sm_mi 32).1 ∈ lw_tbl := sm_m5 130 rfl
set_option maxRecDepth 20000 in
theorem mk_58 : Cond.methodLink (sm_cn.getD 7 "") 97 (sm_mi 65).1 ∈ lw_tbl := sm_m5 137 rfl
set_option maxRecDepth 20000 in
theorem mk_59 : Cond.methodLink (sm_cn.getD 7 "") 101 (sm_mi 5).1 ∈ lw_tbl := sm_m5 138 rfl
set_option maxRecDepth 20000 in
theorem mk_60 : Cond.methodLink (sm_cn.getD 8 "") 11 (sm_mi 77).1 ∈ lw_tbl := sm_m2 72 rfl
set_option maxRecDepth 20000 in
theorem mk_61 : Cond.methodLinkNest (sm_cn.getD 8 "") 20 (sm_mi 49).1 "ShuffleMill" ∈ lw_tbl := sm_m2 105 rfl
set_option maxRecDepth 20000 in
theorem mk_62 : Cond.methodLinkNest (sm_cn.getD 8 "") 27 (sm_mi 62).1 "ShuffleMill" ∈ lw_tbl := sm_m2 143 rfl
set_option maxRecDepth 20000 in
theorem mk_63 : Cond.methodLink (sm_cn.getD 8 "") 34 (sm_mi 0).1 ∈ lw_tbl := sm_m2 145 rfl
set_option maxRecDepth 20000 in
theorem mk_64 : Cond.methodLink (sm_cn.getD 8 "") 69 (sm_mi 90).1 ∈ lw_tbl := sm_m4 126 rfl
set_option maxRecDepth 20000 in
theorem mk_65 : Cond.methodLink (sm_cn.getD 8 "") 72 (sm_mi 80).1 ∈ lw_tbl := sm_m4 135 rfl
set_option maxRecDepth 20000 in
theorem mk_66 : Cond.methodLink (sm_cn.getD 8 "") 75 (sm_mi 91).1 ∈ lw_tbl := sm_m4 130 rfl
set_option maxRecDepth 20000 in
theorem mk_67 : Cond.methodLink (sm_cn.getD 8 "") 78 (sm_mi 3).1 ∈ lw_tbl := sm_m4 134 rfl
set_option maxRecDepth 20000 in
theorem mk_68 : Cond.methodLink (sm_cn.getD 8 "") 88 (sm_mi 76).1 ∈ lw_tbl := sm_m5 81 rfl
set_option maxRecDepth 20000 in
theorem mk_69 : Cond.methodLink (sm_cn.getD 8 "") 94 (sm_mi 73).1 ∈ lw_tbl := sm_m5 82 rfl
set_option maxRecDepth 20000 in
theorem mk_70 : Cond.methodLink (sm_cn.getD 8 "") 98 (sm_mi 74).1 ∈ lw_tbl := sm_m5 83 rfl
set_option maxRecDepth 20000 in
theorem mk_71 : Cond.methodLink (sm_cn.getD 8 "") 102 (sm_mi 93).1 ∈ lw_tbl := sm_m5 84 rfl
set_option maxRecDepth 20000 in
theorem mk_72 : Cond.methodLink (sm_cn.getD 8 "") 106 (sm_mi 99).1 ∈ lw_tbl := sm_m5 145 rfl
set_option maxRecDepth 20000 in
theorem mk_73 : Cond.methodLink (sm_cn.getD 8 "") 109 (sm_mi 100).1 ∈ lw_tbl := sm_m5 149 rfl
set_option maxRecDepth 20000 in
theorem mk_74 : Cond.methodLink (sm_cn.getD 8 "") 112 (sm_mi 103).1 ∈ lw_tbl := sm_m6 9 rfl
set_option maxRecDepth 20000 in
theorem mk_75 : Cond.methodLink (sm_cn.getD 8 "") 115 (sm_mi 104).1 ∈ lw_tbl := sm_m6 13 rfl
set_option maxRecDepth 20000 in
theorem mk_76 : Cond.methodLink (sm_cn.getD 8 "") 121 (sm_mi 94).1 ∈ lw_tbl := sm_m5 88 rfl
set_option maxRecDepth 20000 in
theorem mk_77 : Cond.methodLink (sm_cn.getD 8 "") 124 (sm_mi 96).1 ∈ lw_tbl := sm_m5 117 rfl
set_option maxRecDepth 20000 in
theorem mk_78 : Cond.methodLink (sm_cn.getD 8 "") 127 (sm_mi 98).1 ∈ lw_tbl := sm_m5 139 rfl
set_option maxRecDepth 20000 in
theorem mk_79 : Cond.methodLink (sm_cn.getD 8 "") 133 (sm_mi 78).1 ∈ lw_tbl := sm_m5 93 rfl
set_option maxRecDepth 20000 in
theorem mk_80 : Cond.methodLink (sm_cn.getD 8 "") 136 (sm_mi 39).1 ∈ lw_tbl := sm_m5 92 rfl
set_option maxRecDepth 20000 in
theorem mk_81 : Cond.methodLink (sm_cn.getD 8 "") 145 (sm_mi 81).1 ∈ lw_tbl := sm_m5 94 rfl
set_option maxRecDepth 20000 in
theorem mk_82 : Cond.methodLink (sm_cn.getD 8 "") 148 (sm_mi 106).1 ∈ lw_tbl := sm_m5 95 rfl
set_option maxRecDepth 20000 in
theorem mk_83 : Cond.methodLink (sm_cn.getD 8 "") 152 (sm_mi 95).1 ∈ lw_tbl := sm_m5 105 rfl
set_option maxRecDepth 20000 in
theorem mk_84 : Cond.methodLink (sm_cn.getD 8 "") 162 (sm_mi 79).1 ∈ lw_tbl := sm_m5 109 rfl
set_option maxRecDepth 20000 in
theorem mk_85 : Cond.methodLink (sm_cn.getD 8 "") 169 (sm_mi 199).1 ∈ lw_tbl := sm_m5 113 rfl
set_option maxRecDepth 20000 in
theorem mk_86 : Cond.methodLink (sm_cn.getD 8 "") 178 (sm_mi 66).1 ∈ lw_tbl := sm_m5 116 rfl
set_option maxRecDepth 20000 in
theorem mk_87 : Cond.methodLink (sm_cn.getD 8 "") 185 (sm_mi 63).1 ∈ lw_tbl := sm_m5 99 rfl
set_option maxRecDepth 20000 in
theorem mk_88 : Cond.methodLink (sm_cn.getD 8 "") 189 (sm_mi 72).1 ∈ lw_tbl := sm_m5 104 rfl
set_option maxRecDepth 20000 in
theorem mk_89 : Cond.methodLink (sm_cn.getD 8 "") 196 (sm_mi 97).1 ∈ lw_tbl := sm_m5 121 rfl
set_option maxRecDepth 20000 in
theorem mk_90 : Cond.methodLink (sm_cn.getD 8 "") 200 (sm_mi 85).1 ∈ lw_tbl := sm_m5 125 rfl
set_option maxRecDepth 20000 in
theorem mk_91 : Cond.methodLink (sm_cn.getD 8 "") 204 (sm_mi 67).1 ∈ lw_tbl := sm_m5 143 rfl
set_option maxRecDepth 20000 in
theorem mk_92 : Cond.methodLink (sm_cn.getD 8 "") 208 (sm_mi 68).1 ∈ lw_tbl := sm_m5 144 rfl
set_option maxRecDepth 20000 in
theorem mk_93 : Cond.methodLink (sm_cn.getD 8 "") 215 (sm_mi 45).1 ∈ lw_tbl := sm_m5 153 rfl
set_option maxRecDepth 20000 in
theorem mk_94 : Cond.methodLink (sm_cn.getD 8 "") 219 (sm_mi 102).1 ∈ lw_tbl := sm_m5 154 rfl
set_option maxRecDepth 20000 in
theorem mk_95 : Cond.methodLink (sm_cn.getD 8 "") 222 (sm_mi 46).1 ∈ lw_tbl := sm_m5 175 rfl
set_option maxRecDepth 20000 in
theorem mk_96 : Cond.methodLink (sm_cn.getD 8 "") 226 (sm_mi 47).1 ∈ lw_tbl := sm_m5 179 rfl
set_option maxRecDepth 20000 in
theorem mk_97 : Cond.methodLink (sm_cn.getD 8 "") 230 (sm_mi 23).1 ∈ lw_tbl := sm_m5 172 rfl
set_option maxRecDepth 20000 in
theorem mk_98 : Cond.methodLink (sm_cn.getD 8 "") 236 (sm_mi 51).1 ∈ lw_tbl := sm_m5 183 rfl
set_option maxRecDepth 20000 in
theorem mk_99 : Cond.methodLink (sm_cn.getD 8 "") 240 (sm_mi 50).1 ∈ lw_tbl := sm_m6 4 rfl
set_option maxRecDepth 20000 in
theorem mk_100 : Cond.methodLink (sm_cn.getD 8 "") 243 (sm_mi 7).1 ∈ lw_tbl := sm_m5 171 rfl
set_option maxRecDepth 20000 in
theorem mk_101 : Cond.methodLink (sm_cn.getD 8 "") 247 (sm_mi 2).1 ∈ lw_tbl := sm_m6 8 rfl
set_option maxRecDepth 20000 in
theorem mk_102 : Cond.methodLink (sm_cn.getD 8 "") 250 (sm_mi 101).1 ∈ lw_tbl := sm_m5 158 rfl
set_option maxRecDepth 20000 in
theorem mk_103 : Cond.methodLink (sm_cn.getD 8 "") 253 (sm_mi 10).1 ∈ lw_tbl := sm_m5 162 rfl
set_option maxRecDepth 20000 in
theorem mk_104 : Cond.methodLink (sm_cn.getD 8 "") 256 (sm_mi 15).1 ∈ lw_tbl := sm_m5 173 rfl
set_option maxRecDepth 20000 in
theorem mk_105 : Cond.methodLink (sm_cn.getD 8 "") 261 (sm_mi 1).1 ∈ lw_tbl := sm_m5 174 rfl
set_option maxRecDepth 20000 in
theorem mk_106 : Cond.methodLink (sm_cn.getD 8 "") 262 (sm_mi 105).1 ∈ lw_tbl := sm_m6 17 rfl
set_option maxRecDepth 20000 in
theorem mk_107 : Cond.methodLink (sm_cn.getD 8 "") 265 (sm_mi 8).1 ∈ lw_tbl := sm_m6 27 rfl
set_option maxRecDepth 20000 in
theorem mk_108 : Cond.methodLink (sm_cn.getD 8 "") 268 (sm_mi 84).1 ∈ lw_tbl := sm_m6 21 rfl
set_option maxRecDepth 20000 in
theorem mk_109 : Cond.methodLink (sm_cn.getD 8 "") 271 (sm_mi 82).1 ∈ lw_tbl := sm_m5 100 rfl
set_option maxRecDepth 20000 in
theorem mk_110 : Cond.methodLinkNest (sm_cn.getD 10 "") 11 (sm_mi 62).1 "ShuffleMill" ∈ lw_tbl := sm_m2 1 rfl
set_option maxRecDepth 20000 in
theorem mk_111 : Cond.methodLink (sm_cn.getD 10 "") 20 (sm_mi 0).1 ∈ lw_tbl := sm_m2 3 rfl
set_option maxRecDepth 20000 in
theorem mk_112 : Cond.methodLink (sm_cn.getD 10 "") 56 (sm_mi 37).1 ∈ lw_tbl := sm_m4 230 rfl
set_option maxRecDepth 20000 in
theorem mk_113 : Cond.methodLink (sm_cn.getD 10 "") 65 (sm_mi 126).1 ∈ lw_tbl := sm_m4 148 rfl
set_option maxRecDepth 20000 in
theorem mk_114 : Cond.methodLink (sm_cn.getD 10 "") 68 (sm_mi 121).1 ∈ lw_tbl := sm_m4 144 rfl
set_option maxRecDepth 20000 in
theorem mk_115 : Cond.methodLink (sm_cn.getD 10 "") 71 (sm_mi 110).1 ∈ lw_tbl := sm_m4 172 rfl
set_option maxRecDepth 20000 in
theorem mk_116 : Cond.methodLink (sm_cn.getD 10 "") 76 (sm_mi 113).1 ∈ lw_tbl := sm_m4 173 rfl
set_option maxRecDepth 20000 in
theorem mk_117 : Cond.methodLink (sm_cn.getD 10 "") 80 (sm_mi 38).1 ∈ lw_tbl := sm_m4 174 rfl
set_option maxRecDepth 20000 in
theorem mk_118 : Cond.methodLink (sm_cn.getD 10 "") 83 (sm_mi 114).1 ∈ lw_tbl := sm_m4 178 rfl
set_option maxRecDepth 20000 in
theorem mk_119 : Cond.methodLink (sm_cn.getD 10 "") 86 (sm_mi 115).1 ∈ lw_tbl := sm_m4 179 rfl
set_option maxRecDepth 20000 in
theorem mk_120 : Cond.methodLink (sm_cn.getD 10 "") 89 (sm_mi 116).1 ∈ lw_tbl := sm_m4 180 rfl
set_option maxRecDepth 20000 in
theorem mk_121 : Cond.methodLink (sm_cn.getD 10 "") 92 (sm_mi 123).1 ∈ lw_tbl := sm_m4 184 rfl
set_option maxRecDepth 20000 in
theorem mk_122 : Cond.methodLink (sm_cn.getD 10 "") 108 (sm_mi 109).1 ∈ lw_tbl := sm_m5 28 rfl
set_option maxRecDepth 20000 in
theorem mk_123 : Cond.methodLink (sm_cn.getD 10 "") 116 (sm_mi 30).1 ∈ lw_tbl := sm_m5 61 rfl
set_option maxRecDepth 20000 in
theorem mk_124 : Cond.methodLink (sm_cn.getD 10 "") 121 (sm_mi 48).1 ∈ lw_tbl := sm_m5 62 rfl
set_option maxRecDepth 20000 in
theorem mk_125 : Cond.methodLink (sm_cn.getD 10 "") 125 (sm_mi 1).1 ∈ lw_tbl := sm_m5 76 rfl
set_option maxRecDepth 20000 in
theorem mk_126 : Cond.methodLink (sm_cn.getD 10 "") 126 (sm_mi 39).1 ∈ lw_tbl := sm_m4 152 rfl
set_option maxRecDepth 20000 in
theorem mk_127 : Cond.methodLink (sm_cn.getD 10 "") 130 (sm_mi 45).1 ∈ lw_tbl := sm_m4 156 rfl
set_option maxRecDepth 20000 in
theorem mk_128 : Cond.methodLink (sm_cn.getD 10 "") 146 (sm_mi 3).1 ∈ lw_tbl := sm_m4 170 rfl
set_option maxRecDepth 20000 in
theorem mk_129 : Cond.methodLink (sm_cn.getD 10 "") 149 (sm_mi 200).1 ∈ lw_tbl := sm_m4 171 rfl
set_option maxRecDepth 20000 in
theorem mk_130 : Cond.methodLink (sm_cn.getD 10 "") 155 (sm_mi 76).1 ∈ lw_tbl := sm_m4 213 rfl
set_option maxRecDepth 20000 in
theorem mk_131 : Cond.methodLink (sm_cn.getD 10 "") 161 (sm_mi 122).1 ∈ lw_tbl := sm_m4 217 rfl
set_option maxRecDepth 20000 in
theorem mk_132 : Cond.methodLink (sm_cn.getD 10 "") 164 (sm_mi 73).1 ∈ lw_tbl := sm_m4 218 rfl
set_option maxRecDepth 20000 in
theorem mk_133 : Cond.methodLink (sm_cn.getD 10 "") 167 (sm_mi 74).1 ∈ lw_tbl := sm_m4 222 rfl
set_option maxRecDepth 20000 in
theorem mk_134 : Cond.methodLink (sm_cn.getD 10 "") 171 (sm_mi 119).1 ∈ lw_tbl := sm_m4 226 rfl
set_option maxRecDepth 20000 in
theorem mk_135 : Cond.methodLink (sm_cn.getD 10 "") 175 (sm_mi 128).1 ∈ lw_tbl := sm_m4 231 rfl
set_option maxRecDepth 20000 in
theorem mk_136 : Cond.methodLink (sm_cn.getD 10 "") 179 (sm_mi 31).1 ∈ lw_tbl := sm_m5 3 rfl
set_option maxRecDepth 20000 in
theorem mk_137 : Cond.methodLink (sm_cn.getD 10 "") 182 (sm_mi 132).1 ∈ lw_tbl := sm_m5 53 rfl
set_option maxRecDepth 20000 in
theorem mk_138 : Cond.methodLink (sm_cn.getD 10 "") 190 (sm_mi 129).1 ∈ lw_tbl := sm_m4 235 rfl
set_option maxRecDepth 20000 in
theorem mk_139 : Cond.methodLink (sm_cn.getD 10 "") 194 (sm_mi 131).1 ∈ lw_tbl := sm_m5 24 rfl
set_option maxRecDepth 20000 in
theorem mk_140 : Cond.methodLink (sm_cn.getD 10 "") 197 (sm_mi 124).1 ∈ lw_tbl := sm_m5 32 rfl
set_option maxRecDepth 20000 in
theorem mk_141 : Cond.methodLink (sm_cn.getD 10 "") 200 (sm_mi 133).1 ∈ lw_tbl := sm_m5 36 rfl
set_option maxRecDepth 20000 in
theorem mk_142 : Cond.methodLink (sm_cn.getD 10 "") 203 (sm_mi 130).1 ∈ lw_tbl := sm_m4 239 rfl
set_option maxRecDepth 20000 in
theorem mk_143 : Cond.methodLink (sm_cn.getD 10 "") 206 (sm_mi 63).1 ∈ lw_tbl := sm_m5 7 rfl
set_option maxRecDepth 20000 in
theorem mk_144 : Cond.methodLink (sm_cn.getD 10 "") 211 (sm_mi 65).1 ∈ lw_tbl := sm_m5 11 rfl
set_option maxRecDepth 20000 in
theorem mk_145 : Cond.methodLink (sm_cn.getD 10 "") 215 (sm_mi 72).1 ∈ lw_tbl := sm_m5 15 rfl
set_option maxRecDepth 20000 in
theorem mk_146 : Cond.methodLink (sm_cn.getD 10 "") 220 (sm_mi 125).1 ∈ lw_tbl := sm_m5 57 rfl
set_option maxRecDepth 20000 in
theorem mk_147 : Cond.methodLink (sm_cn.getD 10 "") 225 (sm_mi 67).1 ∈ lw_tbl := sm_m5 40 rfl
set_option maxRecDepth 20000 in
theorem mk_148 : Cond.methodLink (sm_cn.getD 10 "") 229 (sm_mi 68).1 ∈ lw_tbl := sm_m5 44 rfl
set_option maxRecDepth 20000 in
theorem mk_149 : Cond.methodLink (sm_cn.getD 11 "") 9 (sm_mi 33).1 ∈ lw_tbl := sm_m1 34 rfl
set_option maxRecDepth 20000 in
theorem mk_150 : Cond.methodLinkNest (sm_cn.getD 11 "") 18 (sm_mi 12).1 "ShuffleMill" ∈ lw_tbl := sm_m1 114 rfl
set_option maxRecDepth 20000 in
theorem mk_151 : Cond.methodLink (sm_cn.getD 11 "") 25 (sm_mi 69).1 ∈ lw_tbl := sm_m1 117 rfl
set_option maxRecDepth 20000 in
theorem mk_152 : Cond.methodLinkNest (sm_cn.getD 11 "") 32 (sm_mi 107).1 "ShuffleMill" ∈ lw_tbl := sm_m1 206 rfl
set_option maxRecDepth 20000 in
theorem mk_153 : Cond.methodLink (sm_cn.getD 11 "") 45 (sm_mi 118).1 ∈ lw_tbl := sm_m1 236 rfl
set_option maxRecDepth 20000 in
theorem mk_154 : Cond.methodLink (sm_cn.getD 11 "") 52 (sm_mi 87).1 ∈ lw_tbl := sm_m2 66 rfl
set_option maxRecDepth 20000 in
theorem mk_155 : Cond.methodLink (sm_cn.getD 11 "") 55 (sm_mi 155).1 ∈ lw_tbl := sm_m3 65 rfl
set_option maxRecDepth 20000 in
theorem mk_156 : Cond.methodLink (sm_cn.getD 11 "") 59 (sm_mi 152).1 ∈ lw_tbl := sm_m3 140 rfl
set_option maxRecDepth 20000 in
theorem mk_157 : Cond.methodLink (sm_cn.getD 11 "") 62 (sm_mi 34).1 ∈ lw_tbl := sm_m3 160 rfl
set_option maxRecDepth 20000 in
theorem mk_158 : Cond.methodLink (sm_cn.getD 11 "") 66 (sm_mi 6).1 ∈ lw_tbl := sm_m3 164 rfl
set_option maxRecDepth 20000 in
theorem mk_159 : Cond.methodLink (sm_cn.getD 11 "") 79 (sm_mi 1).1 ∈ lw_tbl := sm_m3 169 rfl
set_option maxRecDepth 20000 in
theorem mk_160 : Cond.methodLink (sm_cn.getD 11 "") 83 (sm_mi 3).1 ∈ lw_tbl := sm_m3 180 rfl
set_option maxRecDepth 20000 in
theorem mk_161 : Cond.methodLink (sm_cn.getD 11 "") 91 (sm_mi 13).1 ∈ lw_tbl := sm_m3 208 rfl
set_option maxRecDepth 20000 in
theorem mk_162 : Cond.methodLink (sm_cn.getD 11 "") 99 (sm_mi 14).1 ∈ lw_tbl := sm_m3 213 rfl
set_option maxRecDepth 20000 in
theorem mk_163 : Cond.methodLink (sm_cn.getD 11 "") 106 (sm_mi 19).1 ∈ lw_tbl := sm_m3 218 rfl
set_option maxRecDepth 20000 in
theorem mk_164 : Cond.methodLink (sm_cn.getD 11 "") 111 (sm_mi 15).1 ∈ lw_tbl := sm_m3 223 rfl
set_option maxRecDepth 20000 in
theorem mk_165 : Cond.methodLink (sm_cn.getD 11 "") 112 (sm_mi 156).1 ∈ lw_tbl := sm_m3 234 rfl
set_option maxRecDepth 20000 in
theorem mk_166 : Cond.methodLink (sm_cn.getD 11 "") 119 (sm_mi 21).1 ∈ lw_tbl := sm_m4 0 rfl
set_option maxRecDepth 20000 in
theorem mk_167 : Cond.methodLink (sm_cn.getD 11 "") 125 (sm_mi 35).1 ∈ lw_tbl := sm_m4 6 rfl
set_option maxRecDepth 20000 in
theorem mk_168 : Cond.methodLink (sm_cn.getD 11 "") 129 (sm_mi 23).1 ∈ lw_tbl := sm_m4 10 rfl
set_option maxRecDepth 20000 in
theorem mk_169 : Cond.methodLink (sm_cn.getD 11 "") 135 (sm_mi 20).1 ∈ lw_tbl := sm_m4 14 rfl
set_option maxRecDepth 20000 in
theorem mk_170 : Cond.methodLink (sm_cn.getD 11 "") 139 (sm_mi 16).1 ∈ lw_tbl := sm_m4 21 rfl
set_option maxRecDepth 20000 in
theorem mk_171 : Cond.methodLink (sm_cn.getD 11 "") 140 (sm_mi 154).1 ∈ lw_tbl := sm_m3 68 rfl
set_option maxRecDepth 20000 in
theorem mk_172 : Cond.methodLink (sm_cn.getD 11 "") 149 (sm_mi 25).1 ∈ lw_tbl := sm_m4 34 rfl
set_option maxRecDepth 20000 in
theorem mk_173 : Cond.methodLink (sm_cn.getD 11 "") 153 (sm_mi 26).1 ∈ lw_tbl := sm_m4 45 rfl
set_option maxRecDepth 20000 in
theorem mk_174 : Cond.methodLink (sm_cn.getD 11 "") 156 (sm_mi 40).1 ∈ lw_tbl := sm_m4 57 rfl
set_option maxRecDepth 20000 in
theorem mk_175 : Cond.methodLink (sm_cn.getD 11 "") 164 (sm_mi 70).1 ∈ lw_tbl := sm_m4 109 rfl
set_option maxRecDepth 20000 in
theorem mk_176 : Cond.methodLink (sm_cn.getD 11 "") 167 (sm_mi 108).1 ∈ lw_tbl := sm_m4 118 rfl
set_option maxRecDepth 20000 in
theorem mk_177 : Cond.methodLink (sm_cn.getD 11 "") 168 (sm_mi 89).1 ∈ lw_tbl := sm_m4 122 rfl
set_option maxRecDepth 20000 in
theorem mk_178 : Cond.methodLink (sm_cn.getD 11 "") 169 (sm_mi 122).1 ∈ lw_tbl := sm_m4 140 rfl
set_option maxRecDepth 20000 in
theorem mk_179 : Cond.methodLink (sm_cn.getD 11 "") 180 (sm_mi 37).1 ∈ lw_tbl := sm_m4 188 rfl
set_option maxRecDepth 20000 in
theorem mk_180 : Cond.methodLink (sm_cn.getD 11 "") 183 (sm_mi 157).1 ∈ lw_tbl := sm_m4 199 rfl
set_option maxRecDepth 20000 in
theorem mk_181 : Cond.methodLink (sm_cn.getD 11 "") 188 (sm_mi 153).1 ∈ lw_tbl := sm_m4 204 rfl
set_option maxRecDepth 20000 in
theorem mk_182 : Cond.methodLink (sm_cn.getD 11 "") 191 (sm_mi 127).1 ∈ lw_tbl := sm_m4 209 rfl
set_option maxRecDepth 20000 in
theorem mk_183 : Cond.methodLink (sm_cn.getD 11 "") 194 (sm_mi 92).1 ∈ lw_tbl := sm_m5 77 rfl
set_option maxRecDepth 20000 in
theorem mk_184 : Cond.methodLink (sm_cn.getD 11 "") 195 (sm_mi 75).1 ∈ lw_tbl := sm_m6 38 rfl
set_option maxRecDepth 20000 in
theorem mk_185 : Cond.methodLink (sm_cn.getD 11 "") 198 (sm_mi 121).1 ∈ lw_tbl := sm_m6 42 rfl
set_option maxRecDepth 20000 in
theorem mk_186 : Cond.methodLink (sm_cn.getD 11 "") 201 (sm_mi 90).1 ∈ lw_tbl := sm_m6 43 rfl
set_option maxRecDepth 20000 in
theorem mk_187 : Cond.methodLink (sm_cn.getD 11 "") 202 (sm_mi 71).1 ∈ lw_tbl := sm_m6 51 rfl
set_option maxRecDepth 20000 in
theorem mk_188 : Cond.methodLink (sm_cn.getD 11 "") 207 (sm_mi 119).1 ∈ lw_tbl := sm_m6 60 rfl
set_option maxRecDepth 20000 in
theorem mk_189 : Cond.methodLink (sm_cn.getD 11 "") 210 (sm_mi 120).1 ∈ lw_tbl := sm_m6 61 rfl
set_option maxRecDepth 20000 in
theorem mk_190 : Cond.methodLink (sm_cn.getD 11 "") 218 (sm_mi 5).1 ∈ lw_tbl := sm_m6 73 rfl
set_option maxRecDepth 20000 in
theorem mk_191 : Cond.methodLink (sm_cn.getD 11 "") 222 (sm_mi 4).1 ∈ lw_tbl := sm_m6 74 rfl
set_option maxRecDepth 20000 in
theorem mk_192 : Cond.methodLink (sm_cn.getD 11 "") 225 (sm_mi 36).1 ∈ lw_tbl := sm_m6 89 rfl
set_option maxRecDepth 20000 in
theorem mk_193 : Cond.methodLink (sm_cn.getD 11 "") 228 (sm_mi 150).1 ∈ lw_tbl := sm_m6 90 rfl
set_option maxRecDepth 20000 in
theorem mk_194 : Cond.methodLink (sm_cn.getD 11 "") 232 (sm_mi 117).1 ∈ lw_tbl := sm_m2 230 rfl
set_option maxRecDepth 20000 in
theorem mk_195 : Cond.methodLink (sm_cn.getD 11 "") 235 (sm_mi 112).1 ∈ lw_tbl := sm_m2 234 rfl
set_option maxRecDepth 20000 in
theorem mk_196 : Cond.methodLink (sm_cn.getD 11 "") 238 (sm_mi 110).1 ∈ lw_tbl := sm_m2 238 rfl
set_option maxRecDepth 20000 in
theorem mk_197 : Cond.methodLink (sm_cn.getD 11 "") 239 (sm_mi 113).1 ∈ lw_tbl := sm_m3 2 rfl
set_option maxRecDepth 20000 in
theorem mk_198 : Cond.methodLink (sm_cn.getD 11 "") 242 (sm_mi 151).1 ∈ lw_tbl := sm_m3 6 rfl
set_option maxRecDepth 20000 in
theorem mk_199 : Cond.methodLink (sm_cn.getD 11 "") 245 (sm_mi 88).1 ∈ lw_tbl := sm_m3 14 rfl
set_option maxRecDepth 20000 in
theorem mk_200 : Cond.methodLink (sm_cn.getD 11 "") 249 (sm_mi 86).1 ∈ lw_tbl := sm_m3 34 rfl
set_option maxRecDepth 20000 in
theorem mk_201 : Cond.methodLink (sm_cn.getD 11 "") 256 (sm_mi 24).1 ∈ lw_tbl := sm_m6 95 rfl
set_option maxRecDepth 20000 in
theorem mk_202 : Cond.methodLink (sm_cn.getD 11 "") 259 (sm_mi 115).1 ∈ lw_tbl := sm_m3 10 rfl
set_option maxRecDepth 20000 in
theorem mk_203 : Cond.methodLink (sm_cn.getD 11 "") 262 (sm_mi 78).1 ∈ lw_tbl := sm_m3 18 rfl
set_option maxRecDepth 20000 in
theorem mk_204 : Cond.methodLink (sm_cn.getD 11 "") 265 (sm_mi 111).1 ∈ lw_tbl := sm_m3 22 rfl
set_option maxRecDepth 20000 in
theorem mk_205 : Cond.methodLink (sm_cn.getD 11 "") 268 (sm_mi 114).1 ∈ lw_tbl := sm_m3 26 rfl
set_option maxRecDepth 20000 in
theorem mk_206 : Cond.methodLink (sm_cn.getD 11 "") 271 (sm_mi 81).1 ∈ lw_tbl := sm_m3 30 rfl
set_option maxRecDepth 20000 in
theorem mk_207 : Cond.methodLink (sm_cn.getD 12 "") 94 (sm_mi 160).1 ∈ lw_tbl := sm_m7 29 rfl
set_option maxRecDepth 20000 in
theorem mk_208 : Cond.methodLink (sm_cn.getD 12 "") 98 (sm_mi 161).1 ∈ lw_tbl := sm_m7 33 rfl
set_option maxRecDepth 20000 in
theorem mk_209 : Cond.methodLink (sm_cn.getD 12 "") 102 (sm_mi 163).1 ∈ lw_tbl := sm_m7 36 rfl
set_option maxRecDepth 20000 in
theorem mk_210 : Cond.methodLink (sm_cn.getD 12 "") 109 (sm_mi 199).1 ∈ lw_tbl := sm_m7 24 rfl
set_option maxRecDepth 20000 in
theorem mk_211 : Cond.methodLink (sm_cn.getD 12 "") 115 (sm_mi 162).1 ∈ lw_tbl := sm_m7 25 rfl
set_option maxRecDepth 20000 in
theorem mk_212 : Cond.methodLink (sm_cn.getD 12 "") 119 (sm_mi 198).1 ∈ lw_tbl := sm_m7 40 rfl
set_option maxRecDepth 20000 in
theorem mk_213 : Cond.methodLink (sm_cn.getD 12 "") 132 (sm_mi 165).1 ∈ lw_tbl := sm_m7 0 rfl
set_option maxRecDepth 20000 in
theorem mk_214 : Cond.methodLink (sm_cn.getD 12 "") 136 (sm_mi 167).1 ∈ lw_tbl := sm_m6 207 rfl
set_option maxRecDepth 20000 in
theorem mk_215 : Cond.methodLink (sm_cn.getD 12 "") 150 (sm_mi 166).1 ∈ lw_tbl := sm_m6 236 rfl
set_option maxRecDepth 20000 in
theorem mk_216 : Cond.methodLink (sm_cn.getD 12 "") 157 (sm_mi 164).1 ∈ lw_tbl := sm_m7 20 rfl
set_option maxRecDepth 20000 in
theorem mk_217 : Cond.methodLink (sm_cn.getD 13 "") 7 (sm_mi 135).1 ∈ lw_tbl := sm_m3 61 rfl
set_option maxRecDepth 20000 in
theorem mk_218 : Cond.methodLink (sm_cn.getD 13 "") 17 (sm_mi 136).1 ∈ lw_tbl := sm_m3 176 rfl
set_option maxRecDepth 20000 in
theorem mk_219 : Cond.methodLink (sm_cn.getD 13 "") 21 (sm_mi 137).1 ∈ lw_tbl := sm_m3 188 rfl
set_option maxRecDepth 20000 in
theorem mk_220 : Cond.methodLink (sm_cn.getD 13 "") 27 (sm_mi 138).1 ∈ lw_tbl := sm_m3 230 rfl
set_option maxRecDepth 20000 in
theorem mk_221 : Cond.methodLink (sm_cn.getD 13 "") 31 (sm_mi 139).1 ∈ lw_tbl := sm_m4 28 rfl
set_option maxRecDepth 20000 in
theorem mk_222 : Cond.methodLink (sm_cn.getD 13 "") 35 (sm_mi 140).1 ∈ lw_tbl := sm_m4 41 rfl
set_option maxRecDepth 20000 in
theorem mk_223 : Cond.methodLink (sm_cn.getD 13 "") 39 (sm_mi 141).1 ∈ lw_tbl := sm_m4 53 rfl
set_option maxRecDepth 20000 in
theorem mk_224 : Cond.methodLink (sm_cn.getD 13 "") 45 (sm_mi 142).1 ∈ lw_tbl := sm_m4 195 rfl
set_option maxRecDepth 20000 in
theorem mk_225 : Cond.methodLink (sm_cn.getD 13 "") 49 (sm_mi 143).1 ∈ lw_tbl := sm_m6 34 rfl
set_option maxRecDepth 20000 in
theorem mk_226 : Cond.methodLink (sm_cn.getD 13 "") 53 (sm_mi 144).1 ∈ lw_tbl := sm_m6 47 rfl
set_option maxRecDepth 20000 in
theorem mk_227 : Cond.methodLink (sm_cn.getD 13 "") 56 (sm_mi 145).1 ∈ lw_tbl := sm_m6 55 rfl
set_option maxRecDepth 20000 in
theorem mk_228 : Cond.methodLink (sm_cn.getD 13 "") 59 (sm_mi 146).1 ∈ lw_tbl := sm_m6 68 rfl
set_option maxRecDepth 20000 in
theorem mk_229 : Cond.methodLink (sm_cn.getD 13 "") 63 (sm_mi 147).1 ∈ lw_tbl := sm_m6 78 rfl
set_option maxRecDepth 20000 in
theorem mk_230 : Cond.methodLink (sm_cn.getD 13 "") 66 (sm_mi 148).1 ∈ lw_tbl := sm_m6 85 rfl
set_option maxRecDepth 20000 in
theorem mk_231 : Cond.methodLink (sm_cn.getD 13 "") 69 (sm_mi 134).1 ∈ lw_tbl := sm_m1 26 rfl
set_option maxRecDepth 20000 in
theorem mk_232 : Cond.methodLink (sm_cn.getD 13 "") 72 (sm_mi 158).1 ∈ lw_tbl := sm_m6 98 rfl
set_option maxRecDepth 20000 in
theorem mk_233 : Cond.methodLink (sm_cn.getD 13 "") 75 (sm_mi 183).1 ∈ lw_tbl := sm_m3 56 rfl
set_option maxRecDepth 20000 in
theorem mk_234 : Cond.methodLink (sm_cn.getD 13 "") 80 (sm_mi 168).1 ∈ lw_tbl := sm_m6 203 rfl
set_option maxRecDepth 20000 in
theorem mk_235 : Cond.methodLink (sm_cn.getD 13 "") 81 (sm_mi 159).1 ∈ lw_tbl := sm_m6 199 rfl
set_option maxRecDepth 20000 in
theorem mk_236 : Cond.methodLink (sm_cn.getD 13 "") 84 (sm_mi 184).1 ∈ lw_tbl := sm_m3 173 rfl
set_option maxRecDepth 20000 in
theorem mk_237 : Cond.methodLink (sm_cn.getD 13 "") 87 (sm_mi 169).1 ∈ lw_tbl := sm_m6 210 rfl
set_option maxRecDepth 20000 in
theorem mk_238 : Cond.methodLink (sm_cn.getD 13 "") 88 (sm_mi 185).1 ∈ lw_tbl := sm_m3 184 rfl
set_option maxRecDepth 20000 in
theorem mk_239 : Cond.methodLink (sm_cn.getD 13 "") 91 (sm_mi 170).1 ∈ lw_tbl := sm_m6 214 rfl
set_option maxRecDepth 20000 in
theorem mk_240 : Cond.methodLink (sm_cn.getD 13 "") 92 (sm_mi 186).1 ∈ lw_tbl := sm_m3 227 rfl
set_option maxRecDepth 20000 in
theorem mk_241 : Cond.methodLink (sm_cn.getD 13 "") 95 (sm_mi 171).1 ∈ lw_tbl := sm_m6 220 rfl
set_option maxRecDepth 20000 in
theorem mk_242 : Cond.methodLink (sm_cn.getD 13 "") 96 (sm_mi 187).1 ∈ lw_tbl := sm_m4 25 rfl
set_option maxRecDepth 20000 in
theorem mk_243 : Cond.methodLink (sm_cn.getD 13 "") 99 (sm_mi 172).1 ∈ lw_tbl := sm_m6 224 rfl
set_option maxRecDepth 20000 in
theorem mk_244 : Cond.methodLink (sm_cn.getD 13 "") 100 (sm_mi 188).1 ∈ lw_tbl := sm_m4 38 rfl
set_option maxRecDepth 20000 in
theorem mk_245 : Cond.methodLink (sm_cn.getD 13 "") 102 (sm_mi 173).1 ∈ lw_tbl := sm_m6 228 rfl
set_option maxRecDepth 20000 in
theorem mk_246 : Cond.methodLink (sm_cn.getD 13 "") 103 (sm_mi 189).1 ∈ lw_tbl := sm_m4 49 rfl
set_option maxRecDepth 20000 in
theorem mk_247 : Cond.methodLink (sm_cn.getD 13 "") 106 (sm_mi 174).1 ∈ lw_tbl := sm_m6 232 rfl
set_option maxRecDepth 20000 in
theorem mk_248 : Cond.methodLink (sm_cn.getD 13 "") 107 (sm_mi 190).1 ∈ lw_tbl := sm_m4 192 rfl
set_option maxRecDepth 20000 in
theorem mk_249 : Cond.methodLink (sm_cn.getD 13 "") 110 (sm_mi 175).1 ∈ lw_tbl := sm_m7 4 rfl
set_option maxRecDepth 20000 in
theorem mk_250 : Cond.methodLink (sm_cn.getD 13 "") 111 (sm_mi 191).1 ∈ lw_tbl := sm_m6 31 rfl
set_option maxRecDepth 20000 in
theorem mk_251 : Cond.methodLink (sm_cn.getD 13 "") 114 (sm_mi 176).1 ∈ lw_tbl := sm_m7 8 rfl
set_option maxRecDepth 20000 in
theorem mk_252 : Cond.methodLink (sm_cn.getD 13 "") 115 (sm_mi 192).1 ∈ lw_tbl := sm_m6 44 rfl
set_option maxRecDepth 20000 in
theorem mk_253 : Cond.methodLink (sm_cn.getD 13 "") 117 (sm_mi 177).1 ∈ lw_tbl := sm_m7 12 rfl
set_option maxRecDepth 20000 in
theorem mk_254 : Cond.methodLink (sm_cn.getD 13 "") 118 (sm_mi 193).1 ∈ lw_tbl := sm_m6 52 rfl
set_option maxRecDepth 20000 in
theorem mk_255 : Cond.methodLink (sm_cn.getD 13 "") 120 (sm_mi 178).1 ∈ lw_tbl := sm_m7 16 rfl
set_option maxRecDepth 20000 in
theorem mk_256 : Cond.methodLink (sm_cn.getD 13 "") 121 (sm_mi 194).1 ∈ lw_tbl := sm_m6 65 rfl
set_option maxRecDepth 20000 in
theorem mk_257 : Cond.methodLink (sm_cn.getD 13 "") 124 (sm_mi 179).1 ∈ lw_tbl := sm_m7 42 rfl
set_option maxRecDepth 20000 in
theorem mk_258 : Cond.methodLink (sm_cn.getD 13 "") 125 (sm_mi 195).1 ∈ lw_tbl := sm_m6 75 rfl
set_option maxRecDepth 20000 in
theorem mk_259 : Cond.methodLink (sm_cn.getD 13 "") 127 (sm_mi 180).1 ∈ lw_tbl := sm_m7 46 rfl
set_option maxRecDepth 20000 in
theorem mk_260 : Cond.methodLink (sm_cn.getD 13 "") 128 (sm_mi 196).1 ∈ lw_tbl := sm_m6 82 rfl
set_option maxRecDepth 20000 in
theorem mk_261 : Cond.methodLink (sm_cn.getD 13 "") 130 (sm_mi 181).1 ∈ lw_tbl := sm_m7 50 rfl
set_option maxRecDepth 20000 in
theorem mk_262 : Cond.methodLink (sm_cn.getD 13 "") 131 (sm_mi 149).1 ∈ lw_tbl := sm_m2 226 rfl
set_option maxRecDepth 20000 in
theorem mk_263 : Cond.methodLink (sm_cn.getD 13 "") 134 (sm_mi 182).1 ∈ lw_tbl := sm_m7 54 rfl
def cc_lk (q : Nat × Nat × Nat × Nat × Nat × Nat × Nat × Nat × Nat × Nat × Nat) : Prop := match q with
  | (oc, idx, N, _, kd, _, _, _, _, _, _) => (kd = 5 → Cond.methodLinkNest (sm_cn.getD oc "") idx (sm_mi N).1 "ShuffleMill" ∈ lw_tbl) ∧ (kd ≠ 5 → Cond.methodLink (sm_cn.getD oc "") idx (sm_mi N).1 ∈ lw_tbl)
theorem sm_lki : ∀ j, j < 264 → ∀ q, sm_cc[j]? = some q → cc_lk q
  | 0, _, _, hq => by cases hq; exact ⟨fun h => absurd h (by decide), fun _ => mk_0⟩
  | 1, _, _, hq => by cases hq; exact ⟨fun h => absurd h (by decide), fun _ => mk_1⟩
  | 2, _, _, hq => by cases hq; exact ⟨fun h => absurd h (by decide), fun _ => mk_2⟩
  | 3, _, _, hq => by cases hq; exact ⟨fun h => absurd h (by decide), fun _ => mk_3⟩
  | 4, _, _, hq => by cases hq; exact ⟨fun h => absurd h (by decide), fun _ => mk_4⟩
  | 5, _, _, hq => by cases hq; exact ⟨fun h => absurd h (by decide), fun _ => mk_5⟩
  | 6, _, _, hq => by cases hq; exact ⟨fun _ => mk_6, fun h => absurd rfl h⟩
  | 7, _, _, hq => by cases hq; exact ⟨fun h => absurd h (by decide), fun _ => mk_7⟩
  | 8, _, _, hq => by cases hq; exact ⟨fun h => absurd h (by decide), fun _ => mk_8⟩
  | 9, _, _, hq => by cases hq; exact ⟨fun h => absurd h (by decide), fun _ => mk_9⟩
  | 10, _, _, hq => by cases hq; exact ⟨fun h => absurd h (by decide), fun _ => mk_10⟩
  | 11, _, _, hq => by cases hq; exact ⟨fun h => absurd h (by decide), fun _ => mk_11⟩
  | 12, _, _, hq => by cases hq; exact ⟨fun h => absurd h (by decide), fun _ => mk_12⟩
  | 13, _, _, hq => by cases hq; exact ⟨fun h => absurd h (by decide), fun _ => mk_13⟩
  | 14, _, _, hq => by cases hq; exact ⟨fun h => absurd h (by decide), fun _ => mk_14⟩
  | 15, _, _, hq => by cases hq; exact ⟨fun h => absurd h (by decide), fun _ => mk_15⟩
  | 16, _, _, hq => by cases hq; exact ⟨fun h => absurd h (by decide), fun _ => mk_16⟩
  | 17, _, _, hq => by cases hq; exact ⟨fun h => absurd h (by decide), fun _ => mk_17⟩
  | 18, _, _, hq => by cases hq; exact ⟨fun h => absurd h (by decide), fun _ => mk_18⟩
  | 19, _, _, hq => by cases hq; exact ⟨fun h => absurd h (by decide), fun _ => mk_19⟩
  | 20, _, _, hq => by cases hq; exact ⟨fun h => absurd h (by decide), fun _ => mk_20⟩
  | 21, _, _, hq => by cases hq; exact ⟨fun h => absurd h (by decide), fun _ => mk_21⟩
  | 22, _, _, hq => by cases hq; exact ⟨fun h => absurd h (by decide), fun _ => mk_22⟩
  | 23, _, _, hq => by cases hq; exact ⟨fun h => absurd h (by decide), fun _ => mk_23⟩
  | 24, _, _, hq => by cases hq; exact ⟨fun h => absurd h (by decide), fun _ => mk_24⟩
  | 25, _, _, hq => by cases hq; exact ⟨fun h => absurd h (by decide), fun _ => mk_25⟩
  | 26, _, _, hq => by cases hq; exact ⟨fun h => absurd h (by decide), fun _ => mk_26⟩
  | 27, _, _, hq => by cases hq; exact ⟨fun h => absurd h (by decide), fun _ => mk_27⟩
  | 28, _, _, hq => by cases hq; exact ⟨fun h => absurd h (by decide), fun _ => mk_28⟩
  | 29, _, _, hq => by cases hq; exact ⟨fun h => absurd h (by decide), fun _ => mk_29⟩
  | 30, _, _, hq => by cases hq; exact ⟨fun h => absurd h (by decide), fun _ => mk_30⟩
  | 31, _, _, hq => by cases hq; exact ⟨fun h => absurd h (by decide), fun _ => mk_31⟩
  | 32, _, _, hq => by cases hq; exact ⟨fun h => absurd h (by decide), fun _ => mk_32⟩
  | 33, _, _, hq => by cases hq; exact ⟨fun h => absurd h (by decide), fun _ => mk_33⟩
  | 34, _, _, hq => by cases hq; exact ⟨fun h => absurd h (by decide), fun _ => mk_34⟩
  | 35, _, _, hq => by cases hq; exact ⟨fun h => absurd h (by decide), fun _ => mk_35⟩
  | 36, _, _, hq => by cases hq; exact ⟨fun h => absurd h (by decide), fun _ => mk_36⟩
  | 37, _, _, hq => by cases hq; exact ⟨fun h => absurd h (by decide), fun _ => mk_37⟩
  | 38, _, _, hq => by cases hq; exact ⟨fun h => absurd h (by decide), fun _ => mk_38⟩
  | 39, _, _, hq => by cases hq; exact ⟨fun h => absurd h (by decide), fun _ => mk_39⟩
  | 40, _, _, hq => by cases hq; exact ⟨fun h => absurd h (by decide), fun _ => mk_40⟩
  | 41, _, _, hq => by cases hq; exact ⟨fun h => absurd h (by decide), fun _ => mk_41⟩
  | 42, _, _, hq => by cases hq; exact ⟨fun h => absurd h (by decide), fun _ => mk_42⟩
  | 43, _, _, hq => by cases hq; exact ⟨fun h => absurd h (by decide), fun _ => mk_43⟩
  | 44, _, _, hq => by cases hq; exact ⟨fun h => absurd h (by decide), fun _ => mk_44⟩
  | 45, _, _, hq => by cases hq; exact ⟨fun _ => mk_45, fun h => absurd rfl h⟩
  | 46, _, _, hq => by cases hq; exact ⟨fun h => absurd h (by decide), fun _ => mk_46⟩
  | 47, _, _, hq => by cases hq; exact ⟨fun h => absurd h (by decide), fun _ => mk_47⟩
  | 48, _, _, hq => by cases hq; exact ⟨fun h => absurd h (by decide), fun _ => mk_48⟩
  | 49, _, _, hq => by cases hq; exact ⟨fun h => absurd h (by decide), fun _ => mk_49⟩
  | 50, _, _, hq => by cases hq; exact ⟨fun h => absurd h (by decide), fun _ => mk_50⟩
  | 51, _, _, hq => by cases hq; exact ⟨fun h => absurd h (by decide), fun _ => mk_51⟩
  | 52, _, _, hq => by cases hq; exact ⟨fun h => absurd h (by decide), fun _ => mk_52⟩
  | 53, _, _, hq => by cases hq; exact ⟨fun h => absurd h (by decide), fun _ => mk_53⟩
  | 54, _, _, hq => by cases hq; exact ⟨fun h => absurd h (by decide), fun _ => mk_54⟩
  | 55, _, _, hq => by cases hq; exact ⟨fun h => absurd h (by decide), fun _ => mk_55⟩
  | 56, _, _, hq => by cases hq; exact ⟨fun h => absurd h (by decide), fun _ => mk_56⟩
  | 57, _, _, hq => by cases hq; exact ⟨fun h => absurd h (by decide), fun _ => mk_57⟩
  | 58, _, _, hq => by cases hq; exact ⟨fun h => absurd h (by decide), fun _ => mk_58⟩
  | 59, _, _, hq => by cases hq; exact ⟨fun h => absurd h (by decide), fun _ => mk_59⟩
  | 60, _, _, hq => by cases hq; exact ⟨fun h => absurd h (by decide), fun _ => mk_60⟩
  | 61, _, _, hq => by cases hq; exact ⟨fun _ => mk_61, fun h => absurd rfl h⟩
  | 62, _, _, hq => by cases hq; exact ⟨fun _ => mk_62, fun h => absurd rfl h⟩
  | 63, _, _, hq => by cases hq; exact ⟨fun h => absurd h (by decide), fun _ => mk_63⟩
  | 64, _, _, hq => by cases hq; exact ⟨fun h => absurd h (by decide), fun _ => mk_64⟩
  | 65, _, _, hq => by cases hq; exact ⟨fun h => absurd h (by decide), fun _ => mk_65⟩
  | 66, _, _, hq => by cases hq; exact ⟨fun h => absurd h (by decide), fun _ => mk_66⟩
  | 67, _, _, hq => by cases hq; exact ⟨fun h => absurd h (by decide), fun _ => mk_67⟩
  | 68, _, _, hq => by cases hq; exact ⟨fun h => absurd h (by decide), fun _ => mk_68⟩
  | 69, _, _, hq => by cases hq; exact ⟨fun h => absurd h (by decide), fun _ => mk_69⟩
  | 70, _, _, hq => by cases hq; exact ⟨fun h => absurd h (by decide), fun _ => mk_70⟩
  | 71, _, _, hq => by cases hq; exact ⟨fun h => absurd h (by decide), fun _ => mk_71⟩
  | 72, _, _, hq => by cases hq; exact ⟨fun h => absurd h (by decide), fun _ => mk_72⟩
  | 73, _, _, hq => by cases hq; exact ⟨fun h => absurd h (by decide), fun _ => mk_73⟩
  | 74, _, _, hq => by cases hq; exact ⟨fun h => absurd h (by decide), fun _ => mk_74⟩
  | 75, _, _, hq => by cases hq; exact ⟨fun h => absurd h (by decide), fun _ => mk_75⟩
  | 76, _, _, hq => by cases hq; exact ⟨fun h => absurd h (by decide), fun _ => mk_76⟩
  | 77, _, _, hq => by cases hq; exact ⟨fun h => absurd h (by decide), fun _ => mk_77⟩
  | 78, _, _, hq => by cases hq; exact ⟨fun h => absurd h (by decide), fun _ => mk_78⟩
  | 79, _, _, hq => by cases hq; exact ⟨fun h => absurd h (by decide), fun _ => mk_79⟩
  | 80, _, _, hq => by cases hq; exact ⟨fun h => absurd h (by decide), fun _ => mk_80⟩
  | 81, _, _, hq => by cases hq; exact ⟨fun h => absurd h (by decide), fun _ => mk_81⟩
  | 82, _, _, hq => by cases hq; exact ⟨fun h => absurd h (by decide), fun _ => mk_82⟩
  | 83, _, _, hq => by cases hq; exact ⟨fun h => absurd h (by decide), fun _ => mk_83⟩
  | 84, _, _, hq => by cases hq; exact ⟨fun h => absurd h (by decide), fun _ => mk_84⟩
  | 85, _, _, hq => by cases hq; exact ⟨fun h => absurd h (by decide), fun _ => mk_85⟩
  | 86, _, _, hq => by cases hq; exact ⟨fun h => absurd h (by decide), fun _ => mk_86⟩
  | 87, _, _, hq => by cases hq; exact ⟨fun h => absurd h (by decide), fun _ => mk_87⟩
  | 88, _, _, hq => by cases hq; exact ⟨fun h => absurd h (by decide), fun _ => mk_88⟩
  | 89, _, _, hq => by cases hq; exact ⟨fun h => absurd h (by decide), fun _ => mk_89⟩
  | 90, _, _, hq => by cases hq; exact ⟨fun h => absurd h (by decide), fun _ => mk_90⟩
  | 91, _, _, hq => by cases hq; exact ⟨fun h => absurd h (by decide), fun _ => mk_91⟩
  | 92, _, _, hq => by cases hq; exact ⟨fun h => absurd h (by decide), fun _ => mk_92⟩
  | 93, _, _, hq => by cases hq; exact ⟨fun h => absurd h (by decide), fun _ => mk_93⟩
  | 94, _, _, hq => by cases hq; exact ⟨fun h => absurd h (by decide), fun _ => mk_94⟩
  | 95, _, _, hq => by cases hq; exact ⟨fun h => absurd h (by decide), fun _ => mk_95⟩
  | 96, _, _, hq => by cases hq; exact ⟨fun h => absurd h (by decide), fun _ => mk_96⟩
  | 97, _, _, hq => by cases hq; exact ⟨fun h => absurd h (by decide), fun _ => mk_97⟩
  | 98, _, _, hq => by cases hq; exact ⟨fun h => absurd h (by decide), fun _ => mk_98⟩
  | 99, _, _, hq => by cases hq; exact ⟨fun h => absurd h (by decide), fun _ => mk_99⟩
  | 100, _, _, hq => by cases hq; exact ⟨fun h => absurd h (by decide), fun _ => mk_100⟩
  | 101, _, _, hq => by cases hq; exact ⟨fun h => absurd h (by decide), fun _ => mk_101⟩
  | 102, _, _, hq => by cases hq; exact ⟨fun h => absurd h (by decide), fun _ => mk_102⟩
  | 103, _, _, hq => by cases hq; exact ⟨fun h => absurd h (by decide), fun _ => mk_103⟩
  | 104, _, _, hq => by cases hq; exact ⟨fun h => absurd h (by decide), fun _ => mk_104⟩
  | 105, _, _, hq => by cases hq; exact ⟨fun h => absurd h (by decide), fun _ => mk_105⟩
  | 106, _, _, hq => by cases hq; exact ⟨fun h => absurd h (by decide), fun _ => mk_106⟩
  | 107, _, _, hq => by cases hq; exact ⟨fun h => absurd h (by decide), fun _ => mk_107⟩
  | 108, _, _, hq => by cases hq; exact ⟨fun h => absurd h (by decide), fun _ => mk_108⟩
  | 109, _, _, hq => by cases hq; exact ⟨fun h => absurd h (by decide), fun _ => mk_109⟩
  | 110, _, _, hq => by cases hq; exact ⟨fun _ => mk_110, fun h => absurd rfl h⟩
  | 111, _, _, hq => by cases hq; exact ⟨fun h => absurd h (by decide), fun _ => mk_111⟩
  | 112, _, _, hq => by cases hq; exact ⟨fun h => absurd h (by decide), fun _ => mk_112⟩
  | 113, _, _, hq => by cases hq; exact ⟨fun h => absurd h (by decide), fun _ => mk_113⟩
  | 114, _, _, hq => by cases hq; exact ⟨fun h => absurd h (by decide), fun _ => mk_114⟩
  | 115, _, _, hq => by cases hq; exact ⟨fun h => absurd h (by decide), fun _ => mk_115⟩
  | 116, _, _, hq => by cases hq; exact ⟨fun h => absurd h (by decide), fun _ => mk_116⟩
  | 117, _, _, hq => by cases hq; exact ⟨fun h => absurd h (by decide), fun _ => mk_117⟩
  | 118, _, _, hq => by cases hq; exact ⟨fun h => absurd h (by decide), fun _ => mk_118⟩
  | 119, _, _, hq => by cases hq; exact ⟨fun h => absurd h (by decide), fun _ => mk_119⟩
  | 120, _, _, hq => by cases hq; exact ⟨fun h => absurd h (by decide), fun _ => mk_120⟩
  | 121, _, _, hq => by cases hq; exact ⟨fun h => absurd h (by decide), fun _ => mk_121⟩
  | 122, _, _, hq => by cases hq; exact ⟨fun h => absurd h (by decide), fun _ => mk_122⟩
  | 123, _, _, hq => by cases hq; exact ⟨fun h => absurd h (by decide), fun _ => mk_123⟩
  | 124, _, _, hq => by cases hq; exact ⟨fun h => absurd h (by decide), fun _ => mk_124⟩
  | 125, _, _, hq => by cases hq; exact ⟨fun h => absurd h (by decide), fun _ => mk_125⟩
  | 126, _, _, hq => by cases hq; exact ⟨fun h => absurd h (by decide), fun _ => mk_126⟩
  | 127, _, _, hq => by cases hq; exact ⟨fun h => absurd h (by decide), fun _ => mk_127⟩
  | 128, _, _, hq => by cases hq; exact ⟨fun h => absurd h (by decide), fun _ => mk_128⟩
  | 129, _, _, hq => by cases hq; exact ⟨fun h => absurd h (by decide), fun _ => mk_129⟩
  | 130, _, _, hq => by cases hq; exact ⟨fun h => absurd h (by decide), fun _ => mk_130⟩
  | 131, _, _, hq => by cases hq; exact ⟨fun h => absurd h (by decide), fun _ => mk_131⟩
  | 132, _, _, hq => by cases hq; exact ⟨fun h => absurd h (by decide), fun _ => mk_132⟩
  | 133, _, _, hq => by cases hq; exact ⟨fun h => absurd h (by decide), fun _ => mk_133⟩
  | 134, _, _, hq => by cases hq; exact ⟨fun h => absurd h (by decide), fun _ => mk_134⟩
  | 135, _, _, hq => by cases hq; exact ⟨fun h => absurd h (by decide), fun _ => mk_135⟩
  | 136, _, _, hq => by cases hq; exact ⟨fun h => absurd h (by decide), fun _ => mk_136⟩
  | 137, _, _, hq => by cases hq; exact ⟨fun h => absurd h (by decide), fun _ => mk_137⟩
  | 138, _, _, hq => by cases hq; exact ⟨fun h => absurd h (by decide), fun _ => mk_138⟩
  | 139, _, _, hq => by cases hq; exact ⟨fun h => absurd h (by decide), fun _ => mk_139⟩
  | 140, _, _, hq => by cases hq; exact ⟨fun h => absurd h (by decide), fun _ => mk_140⟩
  | 141, _, _, hq => by cases hq; exact ⟨fun h => absurd h (by decide), fun _ => mk_141⟩
  | 142, _, _, hq => by cases hq; exact ⟨fun h => absurd h (by decide), fun _ => mk_142⟩
  | 143, _, _, hq => by cases hq; exact ⟨fun h => absurd h (by decide), fun _ => mk_143⟩
  | 144, _, _, hq => by cases hq; exact ⟨fun h => absurd h (by decide), fun _ => mk_144⟩
  | 145, _, _, hq => by cases hq; exact ⟨fun h => absurd h (by decide), fun _ => mk_145⟩
  | 146, _, _, hq => by cases hq; exact ⟨fun h => absurd h (by decide), fun _ => mk_146⟩
  | 147, _, _, hq => by cases hq; exact ⟨fun h => absurd h (by decide), fun _ => mk_147⟩
  | 148, _, _, hq => by cases hq; exact ⟨fun h => absurd h (by decide), fun _ => mk_148⟩
  | 149, _, _, hq => by cases hq; exact ⟨fun h => absurd h (by decide), fun _ => mk_149⟩
  | 150, _, _, hq => by cases hq; exact ⟨fun _ => mk_150, fun h => absurd rfl h⟩
  | 151, _, _, hq => by cases hq; exact ⟨fun h => absurd h (by decide), fun _ => mk_151⟩
  | 152, _, _, hq => by cases hq; exact ⟨fun _ => mk_152, fun h => absurd rfl h⟩
  | 153, _, _, hq => by cases hq; exact ⟨fun h => absurd h (by decide), fun _ => mk_153⟩
  | 154, _, _, hq => by cases hq; exact ⟨fun h => absurd h (by decide), fun _ => mk_154⟩
  | 155, _, _, hq => by cases hq; exact ⟨fun h => absurd h (by decide), fun _ => mk_155⟩
  | 156, _, _, hq => by cases hq; exact ⟨fun h => absurd h (by decide), fun _ => mk_156⟩
  | 157, _, _, hq => by cases hq; exact ⟨fun h => absurd h (by decide), fun _ => mk_157⟩
  | 158, _, _, hq => by cases hq; exact ⟨fun h => absurd h (by decide), fun _ => mk_158⟩
  | 159, _, _, hq => by cases hq; exact ⟨fun h => absurd h (by decide), fun _ => mk_159⟩
  | 160, _, _, hq => by cases hq; exact ⟨fun h => absurd h (by decide), fun _ => mk_160⟩
  | 161, _, _, hq => by cases hq; exact ⟨fun h => absurd h (by decide), fun _ => mk_161⟩
  | 162, _, _, hq => by cases hq; exact ⟨fun h => absurd h (by decide), fun _ => mk_162⟩
  | 163, _, _, hq => by cases hq; exact ⟨fun h => absurd h (by decide), fun _ => mk_163⟩
  | 164, _, _, hq => by cases hq; exact ⟨fun h => absurd h (by decide), fun _ => mk_164⟩
  | 165, _, _, hq => by cases hq; exact ⟨fun h => absurd h (by decide), fun _ => mk_165⟩
  | 166, _, _, hq => by cases hq; exact ⟨fun h => absurd h (by decide), fun _ => mk_166⟩
  | 167, _, _, hq => by cases hq; exact ⟨fun h => absurd h (by decide), fun _ => mk_167⟩
  | 168, _, _, hq => by cases hq; exact ⟨fun h => absurd h (by decide), fun _ => mk_168⟩
  | 169, _, _, hq => by cases hq; exact ⟨fun h => absurd h (by decide), fun _ => mk_169⟩
  | 170, _, _, hq => by cases hq; exact ⟨fun h => absurd h (by decide), fun _ => mk_170⟩
  | 171, _, _, hq => by cases hq; exact ⟨fun h => absurd h (by decide), fun _ => mk_171⟩
  | 172, _, _, hq => by cases hq; exact ⟨fun h => absurd h (by decide), fun _ => mk_172⟩
  | 173, _, _, hq => by cases hq; exact ⟨fun h => absurd h (by decide), fun _ => mk_173⟩
  | 174, _, _, hq => by cases hq; exact ⟨fun h => absurd h (by decide), fun _ => mk_174⟩
  | 175, _, _, hq => by cases hq; exact ⟨fun h => absurd h (by decide), fun _ => mk_175⟩
  | 176, _, _, hq => by cases hq; exact ⟨fun h => absurd h (by decide), fun _ => mk_176⟩
  | 177, _, _, hq => by cases hq; exact ⟨fun h => absurd h (by decide), fun _ => mk_177⟩
  | 178, _, _, hq => by cases hq; exact ⟨fun h => absurd h (by decide), fun _ => mk_178⟩
  | 179, _, _, hq => by cases hq; exact ⟨fun h => absurd h (by decide), fun _ => mk_179⟩
  | 180, _, _, hq => by cases hq; exact ⟨fun h => absurd h (by decide), fun _ => mk_180⟩
  | 181, _, _, hq => by cases hq; exact ⟨fun h => absurd h (by decide), fun _ => mk_181⟩
  | 182, _, _, hq => by cases hq; exact ⟨fun h => absurd h (by decide), fun _ => mk_182⟩
  | 183, _, _, hq => by cases hq; exact ⟨fun h => absurd h (by decide), fun _ => mk_183⟩
  | 184, _, _, hq => by cases hq; exact ⟨fun h => absurd h (by decide), fun _ => mk_184⟩
  | 185, _, _, hq => by cases hq; exact ⟨fun h => absurd h (by decide), fun _ => mk_185⟩
  | 186, _, _, hq => by cases hq; exact ⟨fun h => absurd h (by decide), fun _ => mk_186⟩
  | 187, _, _, hq => by cases hq; exact ⟨fun h => absurd h (by decide), fun _ => mk_187⟩
  | 188, _, _, hq => by cases hq; exact ⟨fun h => absurd h (by decide), fun _ => mk_188⟩
  | 189, _, _, hq => by cases hq; exact ⟨fun h => absurd h (by decide), fun _ => mk_189⟩
  | 190, _, _, hq => by cases hq; exact ⟨fun h => absurd h (by decide), fun _ => mk_190⟩
  | 191, _, _, hq => by cases hq; exact ⟨fun h => absurd h (by decide), fun _ => mk_191⟩
  | 192, _, _, hq => by cases hq; exact ⟨fun h => absurd h (by decide), fun _ => mk_192⟩
  | 193, _, _, hq => by cases hq; exact ⟨fun h => absurd h (by decide), fun _ => mk_193⟩
  | 194, _, _, hq => by cases hq; exact ⟨fun h => absurd h (by decide), fun _ => mk_194⟩
  | 195, _, _, hq => by cases hq; exact ⟨fun h => absurd h (by decide), fun _ => mk_195⟩
  | 196, _, _, hq => by cases hq; exact ⟨fun h => absurd h (by decide), fun _ => mk_196⟩
  | 197, _, _, hq => by cases hq; exact ⟨fun h => absurd h (by decide), fun _ => mk_197⟩
  | 198, _, _, hq => by cases hq; exact ⟨fun h => absurd h (by decide), fun _ => mk_198⟩
  | 199, _, _, hq => by cases hq; exact ⟨fun h => absurd h (by decide), fun _ => mk_199⟩
  | 200, _, _, hq => by cases hq; exact ⟨fun h => absurd h (by decide), fun _ => mk_200⟩
  | 201, _, _, hq => by cases hq; exact ⟨fun h => absurd h (by decide), fun _ => mk_201⟩
  | 202, _, _, hq => by cases hq; exact ⟨fun h => absurd h (by decide), fun _ => mk_202⟩
  | 203, _, _, hq => by cases hq; exact ⟨fun h => absurd h (by decide), fun _ => mk_203⟩
  | 204, _, _, hq => by cases hq; exact ⟨fun h => absurd h (by decide), fun _ => mk_204⟩
  | 205, _, _, hq => by cases hq; exact ⟨fun h => absurd h (by decide), fun _ => mk_205⟩
  | 206, _, _, hq => by cases hq; exact ⟨fun h => absurd h (by decide), fun _ => mk_206⟩
  | 207, _, _, hq => by cases hq; exact ⟨fun h => absurd h (by decide), fun _ => mk_207⟩
  | 208, _, _, hq => by cases hq; exact ⟨fun h => absurd h (by decide), fun _ => mk_208⟩
  | 209, _, _, hq => by cases hq; exact ⟨fun h => absurd h (by decide), fun _ => mk_209⟩
  | 210, _, _, hq => by cases hq; exact ⟨fun h => absurd h (by decide), fun _ => mk_210⟩
  | 211, _, _, hq => by cases hq; exact ⟨fun h => absurd h (by decide), fun _ => mk_211⟩
  | 212, _, _, hq => by cases hq; exact ⟨fun h => absurd h (by decide), fun _ => mk_212⟩
  | 213, _, _, hq => by cases hq; exact ⟨fun h => absurd h (by decide), fun _ => mk_213⟩
  | 214, _, _, hq => by cases hq; exact ⟨fun h => absurd h (by decide), fun _ => mk_214⟩
  | 215, _, _, hq => by cases hq; exact ⟨fun h => absurd h (by decide), fun _ => mk_215⟩
  | 216, _, _, hq => by cases hq; exact ⟨fun h => absurd h (by decide), fun _ => mk_216⟩
  | 217, _, _, hq => by cases hq; exact ⟨fun h => absurd h (by decide), fun _ => mk_217⟩
  | 218, _, _, hq => by cases hq; exact ⟨fun h => absurd h (by decide), fun _ => mk_218⟩
  | 219, _, _, hq => by cases hq; exact ⟨fun h => absurd h (by decide), fun _ => mk_219⟩
  | 220, _, _, hq => by cases hq; exact ⟨fun h => absurd h (by decide), fun _ => mk_220⟩
  | 221, _, _, hq => by cases hq; exact ⟨fun h => absurd h (by decide), fun _ => mk_221⟩
  | 222, _, _, hq => by cases hq; exact ⟨fun h => absurd h (by decide), fun _ => mk_222⟩
  | 223, _, _, hq => by cases hq; exact ⟨fun h => absurd h (by decide), fun _ => mk_223⟩
  | 224, _, _, hq => by cases hq; exact ⟨fun h => absurd h (by decide), fun _ => mk_224⟩
  | 225, _, _, hq => by cases hq; exact ⟨fun h => absurd h (by decide), fun _ => mk_225⟩
  | 226, _, _, hq => by cases hq; exact ⟨fun h => absurd h (by decide), fun _ => mk_226⟩
  | 227, _, _, hq => by cases hq; exact ⟨fun h => absurd h (by decide), fun _ => mk_227⟩
  | 228, _, _, hq => by cases hq; exact ⟨fun h => absurd h (by decide), fun _ => mk_228⟩
  | 229, _, _, hq => by cases hq; exact ⟨fun h => absurd h (by decide), fun _ => mk_229⟩
  | 230, _, _, hq => by cases hq; exact ⟨fun h => absurd h (by decide), fun _ => mk_230⟩
  | 231, _, _, hq => by cases hq; exact ⟨fun h => absurd h (by decide), fun _ => mk_231⟩
  | 232, _, _, hq => by cases hq; exact ⟨fun h => absurd h (by decide), fun _ => mk_232⟩
  | 233, _, _, hq => by cases hq; exact ⟨fun h => absurd h (by decide), fun _ => mk_233⟩
  | 234, _, _, hq => by cases hq; exact ⟨fun h => absurd h (by decide), fun _ => mk_234⟩
  | 235, _, _, hq => by cases hq; exact ⟨fun h => absurd h (by decide), fun _ => mk_235⟩
  | 236, _, _, hq => by cases hq; exact ⟨fun h => absurd h (by decide), fun _ => mk_236⟩
  | 237, _, _, hq => by cases hq; exact ⟨fun h => absurd h (by decide), fun _ => mk_237⟩
  | 238, _, _, hq => by cases hq; exact ⟨fun h => absurd h (by decide), fun _ => mk_238⟩
  | 239, _, _, hq => by cases hq; exact ⟨fun h => absurd h (by decide), fun _ => mk_239⟩
  | 240, _, _, hq => by cases hq; exact ⟨fun h => absurd h (by decide), fun _ => mk_240⟩
  | 241, _, _, hq => by cases hq; exact ⟨fun h => absurd h (by decide), fun _ => mk_241⟩
  | 242, _, _, hq => by cases hq; exact ⟨fun h => absurd h (by decide), fun _ => mk_242⟩
  | 243, _, _, hq => by cases hq; exact ⟨fun h => absurd h (by decide), fun _ => mk_243⟩
  | 244, _, _, hq => by cases hq; exact ⟨fun h => absurd h (by decide), fun _ => mk_244⟩
  | 245, _, _, hq => by cases hq; exact ⟨fun h => absurd h (by decide), fun _ => mk_245⟩
  | 246, _, _, hq => by cases hq; exact ⟨fun h => absurd h (by decide), fun _ => mk_246⟩
  | 247, _, _, hq => by cases hq; exact ⟨fun h => absurd h (by decide), fun _ => mk_247⟩
  | 248, _, _, hq => by cases hq; exact ⟨fun h => absurd h (by decide), fun _ => mk_248⟩
  | 249, _, _, hq => by cases hq; exact ⟨fun h => absurd h (by decide), fun _ => mk_249⟩
  | 250, _, _, hq => by cases hq; exact ⟨fun h => absurd h (by decide), fun _ => mk_250⟩
  | 251, _, _, hq => by cases hq; exact ⟨fun h => absurd h (by decide), fun _ => mk_251⟩
  | 252, _, _, hq => by cases hq; exact ⟨fun h => absurd h (by decide), fun _ => mk_252⟩
  | 253, _, _, hq => by cases hq; exact ⟨fun h => absurd h (by decide), fun _ => mk_253⟩
  | 254, _, _, hq => by cases hq; exact ⟨fun h => absurd h (by decide), fun _ => mk_254⟩
  | 255, _, _, hq => by cases hq; exact ⟨fun h => absurd h (by decide), fun _ => mk_255⟩
  | 256, _, _, hq => by cases hq; exact ⟨fun h => absurd h (by decide), fun _ => mk_256⟩
  | 257, _, _, hq => by cases hq; exact ⟨fun h => absurd h (by decide), fun _ => mk_257⟩
  | 258, _, _, hq => by cases hq; exact ⟨fun h => absurd h (by decide), fun _ => mk_258⟩
  | 259, _, _, hq => by cases hq; exact ⟨fun h => absurd h (by decide), fun _ => mk_259⟩
  | 260, _, _, hq => by cases hq; exact ⟨fun h => absurd h (by decide), fun _ => mk_260⟩
  | 261, _, _, hq => by cases hq; exact ⟨fun h => absurd h (by decide), fun _ => mk_261⟩
  | 262, _, _, hq => by cases hq; exact ⟨fun h => absurd h (by decide), fun _ => mk_262⟩
  | 263, _, _, hq => by cases hq; exact ⟨fun h => absurd h (by decide), fun _ => mk_263⟩
  | n + 264, h, _, _ => absurd h (by omega)
set_option maxRecDepth 100000 in
theorem sm_cc_nat : sm_cc.all (fun q => match q with
  | (_, _, N, n, kd, ci, _, _, _, _, _) => decide (N < 202) && decide (N ≠ 197) && (bif kd == 1 || kd == 6 then decide (ci = 0) && decide (n = sm_np.getD N 0) && sm_sta.getD N false else (decide (kd = 0) || decide (kd = 2) || decide (kd = 5)) && decide (1 ≤ ci) && decide (ci - 1 = sm_oc.getD N 0) && decide (ci - 1 < 13) && decide (n = sm_np.getD N 0 + 1) && !sm_sta.getD N true && (bif kd == 0 then sm_vir.getD N false else sm_ini.getD N false))) = true := by decide +kernel
set_option maxRecDepth 100000 in
theorem sm_mhv : ∀ oc, oc < 16 → sm_cn.getD oc "" ≠ "java/lang/invoke/MethodHandle" ∧ sm_cn.getD oc "" ≠ "java/lang/invoke/VarHandle" := by decide +kernel
set_option maxRecDepth 100000 in
theorem sm_oc16 : ∀ N, N < 202 → sm_oc.getD N 0 < 16 := by decide +kernel
