/-! The whole program is backed -/
theorem kg_0 : ∀ (i : Nat) (t : List (List (Nat × mI))), tg_0[i]? = some t → ∀ c ∈ t, s_tok (0 + i) c
  | 0, _, h => by
    have h : some tm_0 = some _ := h
    cases h
    exact km_0
  | 1, _, h => by
    have h : some tm_1 = some _ := h
    cases h
    exact km_1
  | 2, _, h => by
    have h : some tm_2 = some _ := h
    cases h
    exact km_2
  | 3, _, h => by
    have h : some tm_3 = some _ := h
    cases h
    exact km_3
  | 4, _, h => by
    have h : some tm_4 = some _ := h
    cases h
    exact km_4
  | 5, _, h => by
    have h : some tm_5 = some _ := h
    cases h
    exact km_5
  | 6, _, h => by
    have h : some tm_6 = some _ := h
    cases h
    exact km_6
  | 7, _, h => by
    have h : some tm_7 = some _ := h
    cases h
    exact km_7
  | 8, _, h => by
    have h : some tm_8 = some _ := h
    cases h
    exact km_8
  | 9, _, h => by
    have h : some tm_9 = some _ := h
    cases h
    exact km_9
  | 10, _, h => by
    have h : some tm_10 = some _ := h
    cases h
    exact km_10
  | 11, _, h => by
    have h : some tm_11 = some _ := h
    cases h
    exact km_11
  | 12, _, h => by
    have h : some tm_12 = some _ := h
    cases h
    exact km_12
  | 13, _, h => by
    have h : some tm_13 = some _ := h
    cases h
    exact km_13
  | 14, _, h => by
    have h : some tm_14 = some _ := h
    cases h
    exact km_14
  | 15, _, h => by
    have h : some tm_15 = some _ := h
    cases h
    exact km_15
  | n + 16, _, h => by
    have hl : tg_0.length = 16 := rfl
    rw [List.getElem?_eq_none (by omega)] at h
    cases h
theorem kg_1 : ∀ (i : Nat) (t : List (List (Nat × mI))), tg_1[i]? = some t → ∀ c ∈ t, s_tok (16 + i) c
  | 0, _, h => by
    have h : some tm_16 = some _ := h
    cases h
    exact km_16
  | 1, _, h => by
    have h : some tm_17 = some _ := h
    cases h
    exact km_17
  | 2, _, h => by
    have h : some tm_18 = some _ := h
    cases h
    exact km_18
  | 3, _, h => by
    have h : some tm_19 = some _ := h
    cases h
    exact km_19
  | 4, _, h => by
    have h : some tm_20 = some _ := h
    cases h
    exact km_20
  | 5, _, h => by
    have h : some tm_21 = some _ := h
    cases h
    exact km_21
  | 6, _, h => by
    have h : some tm_22 = some _ := h
    cases h
    exact km_22
  | 7, _, h => by
    have h : some tm_23 = some _ := h
    cases h
    exact km_23
  | 8, _, h => by
    have h : some tm_24 = some _ := h
    cases h
    exact km_24
  | 9, _, h => by
    have h : some tm_25 = some _ := h
    cases h
    exact km_25
  | 10, _, h => by
    have h : some tm_26 = some _ := h
    cases h
    exact km_26
  | 11, _, h => by
    have h : some tm_27 = some _ := h
    cases h
    exact km_27
  | 12, _, h => by
    have h : some tm_28 = some _ := h
    cases h
    exact km_28
  | 13, _, h => by
    have h : some tm_29 = some _ := h
    cases h
    exact km_29
  | 14, _, h => by
    have h : some tm_30 = some _ := h
    cases h
    exact km_30
  | 15, _, h => by
    have h : some tm_31 = some _ := h
    cases h
    exact km_31
  | n + 16, _, h => by
    have hl : tg_1.length = 16 := rfl
    rw [List.getElem?_eq_none (by omega)] at h
    cases h
theorem kg_2 : ∀ (i : Nat) (t : List (List (Nat × mI))), tg_2[i]? = some t → ∀ c ∈ t, s_tok (32 + i) c
  | 0, _, h => by
    have h : some tm_32 = some _ := h
    cases h
    exact km_32
  | 1, _, h => by
    have h : some tm_33 = some _ := h
    cases h
    exact km_33
  | 2, _, h => by
    have h : some tm_34 = some _ := h
    cases h
    exact km_34
  | 3, _, h => by
    have h : some tm_35 = some _ := h
    cases h
    exact km_35
  | 4, _, h => by
    have h : some tm_36 = some _ := h
    cases h
    exact km_36
  | 5, _, h => by
    have h : some tm_37 = some _ := h
    cases h
    exact km_37
  | 6, _, h => by
    have h : some tm_38 = some _ := h
    cases h
    exact km_38
  | 7, _, h => by
    have h : some tm_39 = some _ := h
    cases h
    exact km_39
  | 8, _, h => by
    have h : some tm_40 = some _ := h
    cases h
    exact km_40
  | 9, _, h => by
    have h : some tm_41 = some _ := h
    cases h
    exact km_41
  | 10, _, h => by
    have h : some tm_42 = some _ := h
    cases h
    exact km_42
  | 11, _, h => by
    have h : some tm_43 = some _ := h
    cases h
    exact km_43
  | 12, _, h => by
    have h : some tm_44 = some _ := h
    cases h
    exact km_44
  | 13, _, h => by
    have h : some tm_45 = some _ := h
    cases h
    exact km_45
  | 14, _, h => by
    have h : some tm_46 = some _ := h
    cases h
    exact km_46
  | 15, _, h => by
    have h : some tm_47 = some _ := h
    cases h
    exact km_47
  | n + 16, _, h => by
    have hl : tg_2.length = 16 := rfl
    rw [List.getElem?_eq_none (by omega)] at h
    cases h
theorem kg_3 : ∀ (i : Nat) (t : List (List (Nat × mI))), tg_3[i]? = some t → ∀ c ∈ t, s_tok (48 + i) c
  | 0, _, h => by
    have h : some tm_48 = some _ := h
    cases h
    exact km_48
  | 1, _, h => by
    have h : some tm_49 = some _ := h
    cases h
    exact km_49
  | 2, _, h => by
    have h : some tm_50 = some _ := h
    cases h
    exact km_50
  | 3, _, h => by
    have h : some tm_51 = some _ := h
    cases h
    exact km_51
  | 4, _, h => by
    have h : some tm_52 = some _ := h
    cases h
    exact km_52
  | 5, _, h => by
    have h : some tm_53 = some _ := h
    cases h
    exact km_53
  | 6, _, h => by
    have h : some tm_54 = some _ := h
    cases h
    exact km_54
  | 7, _, h => by
    have h : some tm_55 = some _ := h
    cases h
    exact km_55
  | 8, _, h => by
    have h : some tm_56 = some _ := h
    cases h
    exact km_56
  | 9, _, h => by
    have h : some tm_57 = some _ := h
    cases h
    exact km_57
  | 10, _, h => by
    have h : some tm_58 = some _ := h
    cases h
    exact km_58
  | 11, _, h => by
    have h : some tm_59 = some _ := h
    cases h
    exact km_59
  | 12, _, h => by
    have h : some tm_60 = some _ := h
    cases h
    exact km_60
  | 13, _, h => by
    have h : some tm_61 = some _ := h
    cases h
    exact km_61
  | 14, _, h => by
    have h : some tm_62 = some _ := h
    cases h
    exact km_62
  | 15, _, h => by
    have h : some tm_63 = some _ := h
    cases h
    exact km_63
  | n + 16, _, h => by
    have hl : tg_3.length = 16 := rfl
    rw [List.getElem?_eq_none (by omega)] at h
    cases h
theorem kg_4 : ∀ (i : Nat) (t : List (List (Nat × mI))), tg_4[i]? = some t → ∀ c ∈ t, s_tok (64 + i) c
  | 0, _, h => by
    have h : some tm_64 = some _ := h
    cases h
    exact km_64
  | 1, _, h => by
    have h : some tm_65 = some _ := h
    cases h
    exact km_65
  | 2, _, h => by
    have h : some tm_66 = some _ := h
    cases h
    exact km_66
  | 3, _, h => by
    have h : some tm_67 = some _ := h
    cases h
    exact km_67
  | 4, _, h => by
    have h : some tm_68 = some _ := h
    cases h
    exact km_68
  | 5, _, h => by
    have h : some tm_69 = some _ := h
    cases h
    exact km_69
  | 6, _, h => by
    have h : some tm_70 = some _ := h
    cases h
    exact km_70
  | 7, _, h => by
    have h : some tm_71 = some _ := h
    cases h
    exact km_71
  | 8, _, h => by
    have h : some tm_72 = some _ := h
    cases h
    exact km_72
  | 9, _, h => by
    have h : some tm_73 = some _ := h
    cases h
    exact km_73
  | 10, _, h => by
    have h : some tm_74 = some _ := h
    cases h
    exact km_74
  | 11, _, h => by
    have h : some tm_75 = some _ := h
    cases h
    exact km_75
  | 12, _, h => by
    have h : some tm_76 = some _ := h
    cases h
    exact km_76
  | 13, _, h => by
    have h : some tm_77 = some _ := h
    cases h
    exact km_77
  | 14, _, h => by
    have h : some tm_78 = some _ := h
    cases h
    exact km_78
  | 15, _, h => by
    have h : some tm_79 = some _ := h
    cases h
    exact km_79
  | n + 16, _, h => by
    have hl : tg_4.length = 16 := rfl
    rw [List.getElem?_eq_none (by omega)] at h
    cases h
theorem kg_5 : ∀ (i : Nat) (t : List (List (Nat × mI))), tg_5[i]? = some t → ∀ c ∈ t, s_tok (80 + i) c
  | 0, _, h => by
    have h : some tm_80 = some _ := h
    cases h
    exact km_80
  | 1, _, h => by
    have h : some tm_81 = some _ := h
    cases h
    exact km_81
  | 2, _, h => by
    have h : some tm_82 = some _ := h
    cases h
    exact km_82
  | 3, _, h => by
    have h : some tm_83 = some _ := h
    cases h
    exact km_83
  | 4, _, h => by
    have h : some tm_84 = some _ := h
    cases h
    exact km_84
  | 5, _, h => by
    have h : some tm_85 = some _ := h
    cases h
    exact km_85
  | 6, _, h => by
    have h : some tm_86 = some _ := h
    cases h
    exact km_86
  | 7, _, h => by
    have h : some tm_87 = some _ := h
    cases h
    exact km_87
  | 8, _, h => by
    have h : some tm_88 = some _ := h
    cases h
    exact km_88
  | 9, _, h => by
    have h : some tm_89 = some _ := h
    cases h
    exact km_89
  | 10, _, h => by
    have h : some tm_90 = some _ := h
    cases h
    exact km_90
  | 11, _, h => by
    have h : some tm_91 = some _ := h
    cases h
    exact km_91
  | 12, _, h => by
    have h : some tm_92 = some _ := h
    cases h
    exact km_92
  | 13, _, h => by
    have h : some tm_93 = some _ := h
    cases h
    exact km_93
  | 14, _, h => by
    have h : some tm_94 = some _ := h
    cases h
    exact km_94
  | 15, _, h => by
    have h : some tm_95 = some _ := h
    cases h
    exact km_95
  | n + 16, _, h => by
    have hl : tg_5.length = 16 := rfl
    rw [List.getElem?_eq_none (by omega)] at h
    cases h
theorem kg_6 : ∀ (i : Nat) (t : List (List (Nat × mI))), tg_6[i]? = some t → ∀ c ∈ t, s_tok (96 + i) c
  | 0, _, h => by
    have h : some tm_96 = some _ := h
    cases h
    exact km_96
  | 1, _, h => by
    have h : some tm_97 = some _ := h
    cases h
    exact km_97
  | 2, _, h => by
    have h : some tm_98 = some _ := h
    cases h
    exact km_98
  | 3, _, h => by
    have h : some tm_99 = some _ := h
    cases h
    exact km_99
  | 4, _, h => by
    have h : some tm_100 = some _ := h
    cases h
    exact km_100
  | 5, _, h => by
    have h : some tm_101 = some _ := h
    cases h
    exact km_101
  | 6, _, h => by
    have h : some tm_102 = some _ := h
    cases h
    exact km_102
  | 7, _, h => by
    have h : some tm_103 = some _ := h
    cases h
    exact km_103
  | 8, _, h => by
    have h : some tm_104 = some _ := h
    cases h
    exact km_104
  | 9, _, h => by
    have h : some tm_105 = some _ := h
    cases h
    exact km_105
  | 10, _, h => by
    have h : some tm_106 = some _ := h
    cases h
    exact km_106
  | 11, _, h => by
    have h : some tm_107 = some _ := h
    cases h
    exact km_107
  | 12, _, h => by
    have h : some tm_108 = some _ := h
    cases h
    exact km_108
  | 13, _, h => by
    have h : some tm_109 = some _ := h
    cases h
    exact km_109
  | 14, _, h => by
    have h : some tm_110 = some _ := h
    cases h
    exact km_110
  | 15, _, h => by
    have h : some tm_111 = some _ := h
    cases h
    exact km_111
  | n + 16, _, h => by
    have hl : tg_6.length = 16 := rfl
    rw [List.getElem?_eq_none (by omega)] at h
    cases h
theorem kg_7 : ∀ (i : Nat) (t : List (List (Nat × mI))), tg_7[i]? = some t → ∀ c ∈ t, s_tok (112 + i) c
  | 0, _, h => by
    have h : some tm_112 = some _ := h
    cases h
    exact km_112
  | 1, _, h => by
    have h : some tm_113 = some _ := h
    cases h
    exact km_113
  | 2, _, h => by
    have h : some tm_114 = some _ := h
    cases h
    exact km_114
  | 3, _, h => by
    have h : some tm_115 = some _ := h
    cases h
    exact km_115
  | 4, _, h => by
    have h : some tm_116 = some _ := h
    cases h
    exact km_116
  | 5, _, h => by
    have h : some tm_117 = some _ := h
    cases h
    exact km_117
  | 6, _, h => by
    have h : some tm_118 = some _ := h
    cases h
    exact km_118
  | 7, _, h => by
    have h : some tm_119 = some _ := h
    cases h
    exact km_119
  | 8, _, h => by
    have h : some tm_120 = some _ := h
    cases h
    exact km_120
  | 9, _, h => by
    have h : some tm_121 = some _ := h
    cases h
    exact km_121
  | 10, _, h => by
    have h : some tm_122 = some _ := h
    cases h
    exact km_122
  | 11, _, h => by
    have h : some tm_123 = some _ := h
    cases h
    exact km_123
  | 12, _, h => by
    have h : some tm_124 = some _ := h
    cases h
    exact km_124
  | 13, _, h => by
    have h : some tm_125 = some _ := h
    cases h
    exact km_125
  | 14, _, h => by
    have h : some tm_126 = some _ := h
    cases h
    exact km_126
  | 15, _, h => by
    have h : some tm_127 = some _ := h
    cases h
    exact km_127
  | n + 16, _, h => by
    have hl : tg_7.length = 16 := rfl
    rw [List.getElem?_eq_none (by omega)] at h
    cases h
theorem kg_8 : ∀ (i : Nat) (t : List (List (Nat × mI))), tg_8[i]? = some t → ∀ c ∈ t, s_tok (128 + i) c
  | 0, _, h => by
    have h : some tm_128 = some _ := h
    cases h
    exact km_128
  | 1, _, h => by
    have h : some tm_129 = some _ := h
    cases h
    exact km_129
  | 2, _, h => by
    have h : some tm_130 = some _ := h
    cases h
    exact km_130
  | 3, _, h => by
    have h : some tm_131 = some _ := h
    cases h
    exact km_131
  | 4, _, h => by
    have h : some tm_132 = some _ := h
    cases h
    exact km_132
  | 5, _, h => by
    have h : some tm_133 = some _ := h
    cases h
    exact km_133
  | 6, _, h => by
    have h : some tm_134 = some _ := h
    cases h
    exact km_134
  | 7, _, h => by
    have h : some tm_135 = some _ := h
    cases h
    exact km_135
  | 8, _, h => by
    have h : some tm_136 = some _ := h
    cases h
    exact km_136
  | 9, _, h => by
    have h : some tm_137 = some _ := h
    cases h
    exact km_137
  | 10, _, h => by
    have h : some tm_138 = some _ := h
    cases h
    exact km_138
  | 11, _, h => by
    have h : some tm_139 = some _ := h
    cases h
    exact km_139
  | 12, _, h => by
    have h : some tm_140 = some _ := h
    cases h
    exact km_140
  | 13, _, h => by
    have h : some tm_141 = some _ := h
    cases h
    exact km_141
  | 14, _, h => by
    have h : some tm_142 = some _ := h
    cases h
    exact km_142
  | 15, _, h => by
    have h : some tm_143 = some _ := h
    cases h
    exact km_143
  | n + 16, _, h => by
    have hl : tg_8.length = 16 := rfl
    rw [List.getElem?_eq_none (by omega)] at h
    cases h
theorem kg_9 : ∀ (i : Nat) (t : List (List (Nat × mI))), tg_9[i]? = some t → ∀ c ∈ t, s_tok (144 + i) c
  | 0, _, h => by
    have h : some tm_144 = some _ := h
    cases h
    exact km_144
  | 1, _, h => by
    have h : some tm_145 = some _ := h
    cases h
    exact km_145
  | 2, _, h => by
    have h : some tm_146 = some _ := h
    cases h
    exact km_146
  | 3, _, h => by
    have h : some tm_147 = some _ := h
    cases h
    exact km_147
  | 4, _, h => by
    have h : some tm_148 = some _ := h
    cases h
    exact km_148
  | 5, _, h => by
    have h : some tm_149 = some _ := h
    cases h
    exact km_149
  | 6, _, h => by
    have h : some tm_150 = some _ := h
    cases h
    exact km_150
  | 7, _, h => by
    have h : some tm_151 = some _ := h
    cases h
    exact km_151
  | 8, _, h => by
    have h : some tm_152 = some _ := h
    cases h
    exact km_152
  | 9, _, h => by
    have h : some tm_153 = some _ := h
    cases h
    exact km_153
  | 10, _, h => by
    have h : some tm_154 = some _ := h
    cases h
    exact km_154
  | 11, _, h => by
    have h : some tm_155 = some _ := h
    cases h
    exact km_155
  | 12, _, h => by
    have h : some tm_156 = some _ := h
    cases h
    exact km_156
  | 13, _, h => by
    have h : some tm_157 = some _ := h
    cases h
    exact km_157
  | 14, _, h => by
    have h : some tm_158 = some _ := h
    cases h
    exact km_158
  | 15, _, h => by
    have h : some tm_159 = some _ := h
    cases h
    exact km_159
  | n + 16, _, h => by
    have hl : tg_9.length = 16 := rfl
    rw [List.getElem?_eq_none (by omega)] at h
    cases h
theorem kg_10 : ∀ (i : Nat) (t : List (List (Nat × mI))), tg_10[i]? = some t → ∀ c ∈ t, s_tok (160 + i) c
  | 0, _, h => by
    have h : some tm_160 = some _ := h
    cases h
    exact km_160
  | 1, _, h => by
    have h : some tm_161 = some _ := h
    cases h
    exact km_161
  | 2, _, h => by
    have h : some tm_162 = some _ := h
    cases h
    exact km_162
  | 3, _, h => by
    have h : some tm_163 = some _ := h
    cases h
    exact km_163
  | 4, _, h => by
    have h : some tm_164 = some _ := h
    cases h
    exact km_164
  | 5, _, h => by
    have h : some tm_165 = some _ := h
    cases h
    exact km_165
  | 6, _, h => by
    have h : some tm_166 = some _ := h
    cases h
    exact km_166
  | 7, _, h => by
    have h : some tm_167 = some _ := h
    cases h
    exact km_167
  | 8, _, h => by
    have h : some tm_168 = some _ := h
    cases h
    exact km_168
  | 9, _, h => by
    have h : some tm_169 = some _ := h
    cases h
    exact km_169
  | 10, _, h => by
    have h : some tm_170 = some _ := h
    cases h
    exact km_170
  | 11, _, h => by
    have h : some tm_171 = some _ := h
    cases h
    exact km_171
  | 12, _, h => by
    have h : some tm_172 = some _ := h
    cases h
    exact km_172
  | 13, _, h => by
    have h : some tm_173 = some _ := h
    cases h
    exact km_173
  | 14, _, h => by
    have h : some tm_174 = some _ := h
    cases h
    exact km_174
  | 15, _, h => by
    have h : some tm_175 = some _ := h
    cases h
    exact km_175
  | n + 16, _, h => by
    have hl : tg_10.length = 16 := rfl
    rw [List.getElem?_eq_none (by omega)] at h
    cases h
theorem kg_11 : ∀ (i : Nat) (t : List (List (Nat × mI))), tg_11[i]? = some t → ∀ c ∈ t, s_tok (176 + i) c
  | 0, _, h => by
    have h : some tm_176 = some _ := h
    cases h
    exact km_176
  | 1, _, h => by
    have h : some tm_177 = some _ := h
    cases h
    exact km_177
  | 2, _, h => by
    have h : some tm_178 = some _ := h
    cases h
    exact km_178
  | 3, _, h => by
    have h : some tm_179 = some _ := h
    cases h
    exact km_179
  | 4, _, h => by
    have h : some tm_180 = some _ := h
    cases h
    exact km_180
  | 5, _, h => by
    have h : some tm_181 = some _ := h
    cases h
    exact km_181
  | 6, _, h => by
    have h : some tm_182 = some _ := h
    cases h
    exact km_182
  | 7, _, h => by
    have h : some tm_183 = some _ := h
    cases h
    exact km_183
  | 8, _, h => by
    have h : some tm_184 = some _ := h
    cases h
    exact km_184
  | 9, _, h => by
    have h : some tm_185 = some _ := h
    cases h
    exact km_185
  | 10, _, h => by
    have h : some tm_186 = some _ := h
    cases h
    exact km_186
  | 11, _, h => by
    have h : some tm_187 = some _ := h
    cases h
    exact km_187
  | 12, _, h => by
    have h : some tm_188 = some _ := h
    cases h
    exact km_188
  | 13, _, h => by
    have h : some tm_189 = some _ := h
    cases h
    exact km_189
  | 14, _, h => by
    have h : some tm_190 = some _ := h
    cases h
    exact km_190
  | 15, _, h => by
    have h : some tm_191 = some _ := h
    cases h
    exact km_191
  | n + 16, _, h => by
    have hl : tg_11.length = 16 := rfl
    rw [List.getElem?_eq_none (by omega)] at h
    cases h
theorem kg_12 : ∀ (i : Nat) (t : List (List (Nat × mI))), tg_12[i]? = some t → ∀ c ∈ t, s_tok (192 + i) c
  | 0, _, h => by
    have h : some tm_192 = some _ := h
    cases h
    exact km_192
  | 1, _, h => by
    have h : some tm_193 = some _ := h
    cases h
    exact km_193
  | 2, _, h => by
    have h : some tm_194 = some _ := h
    cases h
    exact km_194
  | 3, _, h => by
    have h : some tm_195 = some _ := h
    cases h
    exact km_195
  | 4, _, h => by
    have h : some tm_196 = some _ := h
    cases h
    exact km_196
  | 5, _, h => by
    have h : some tm_197 = some _ := h
    cases h
    exact km_197
  | 6, _, h => by
    have h : some tm_198 = some _ := h
    cases h
    exact km_198
  | 7, _, h => by
    have h : some tm_199 = some _ := h
    cases h
    exact km_199
  | 8, _, h => by
    have h : some tm_200 = some _ := h
    cases h
    exact km_200
  | 9, _, h => by
    have h : some tm_201 = some _ := h
    cases h
    exact km_201
  | 10, _, h => by
    have h : some tm_202 = some _ := h
    cases h
    exact km_202
  | 11, _, h => by
    have h : some tm_203 = some _ := h
    cases h
    exact km_203
  | 12, _, h => by
    have h : some tm_204 = some _ := h
    cases h
    exact km_204
  | 13, _, h => by
    have h : some tm_205 = some _ := h
    cases h
    exact km_205
  | 14, _, h => by
    have h : some tm_206 = some _ := h
    cases h
    exact km_206
  | 15, _, h => by
    have h : some tm_207 = some _ := h
    cases h
    exact km_207
  | n + 16, _, h => by
    have hl : tg_12.length = 16 := rfl
    rw [List.getElem?_eq_none (by omega)] at h
    cases h
theorem kg_13 : ∀ (i : Nat) (t : List (List (Nat × mI))), tg_13[i]? = some t → ∀ c ∈ t, s_tok (208 + i) c
  | 0, _, h => by
    have h : some tm_208 = some _ := h
    cases h
    exact km_208
  | 1, _, h => by
    have h : some tm_209 = some _ := h
    cases h
    exact km_209
  | 2, _, h => by
    have h : some tm_210 = some _ := h
    cases h
    exact km_210
  | 3, _, h => by
    have h : some tm_211 = some _ := h
    cases h
    exact km_211
  | 4, _, h => by
    have h : some tm_212 = some _ := h
    cases h
    exact km_212
  | 5, _, h => by
    have h : some tm_213 = some _ := h
    cases h
    exact km_213
  | 6, _, h => by
    have h : some tm_214 = some _ := h
    cases h
    exact km_214
  | 7, _, h => by
    have h : some tm_215 = some _ := h
    cases h
    exact km_215
  | 8, _, h => by
    have h : some tm_216 = some _ := h
    cases h
    exact km_216
  | 9, _, h => by
    have h : some tm_217 = some _ := h
    cases h
    exact km_217
  | 10, _, h => by
    have h : some tm_218 = some _ := h
    cases h
    exact km_218
  | 11, _, h => by
    have h : some tm_219 = some _ := h
    cases h
    exact km_219
  | 12, _, h => by
    have h : some tm_220 = some _ := h
    cases h
    exact km_220
  | 13, _, h => by
    have h : some tm_221 = some _ := h
    cases h
    exact km_221
  | 14, _, h => by
    have h : some tm_222 = some _ := h
    cases h
    exact km_222
  | 15, _, h => by
    have h : some tm_223 = some _ := h
    cases h
    exact km_223
  | n + 16, _, h => by
    have hl : tg_13.length = 16 := rfl
    rw [List.getElem?_eq_none (by omega)] at h
    cases h
theorem kg_14 : ∀ (i : Nat) (t : List (List (Nat × mI))), tg_14[i]? = some t → ∀ c ∈ t, s_tok (224 + i) c
  | 0, _, h => by
    have h : some tm_224 = some _ := h
    cases h
    exact km_224
  | 1, _, h => by
    have h : some tm_225 = some _ := h
    cases h
    exact km_225
  | 2, _, h => by
    have h : some tm_226 = some _ := h
    cases h
    exact km_226
  | 3, _, h => by
    have h : some tm_227 = some _ := h
    cases h
    exact km_227
  | 4, _, h => by
    have h : some tm_228 = some _ := h
    cases h
    exact km_228
  | 5, _, h => by
    have h : some tm_229 = some _ := h
    cases h
    exact km_229
  | 6, _, h => by
    have h : some tm_230 = some _ := h
    cases h
    exact km_230
  | 7, _, h => by
    have h : some tm_231 = some _ := h
    cases h
    exact km_231
  | 8, _, h => by
    have h : some tm_232 = some _ := h
    cases h
    exact km_232
  | 9, _, h => by
    have h : some tm_233 = some _ := h
    cases h
    exact km_233
  | 10, _, h => by
    have h : some tm_234 = some _ := h
    cases h
    exact km_234
  | 11, _, h => by
    have h : some tm_235 = some _ := h
    cases h
    exact km_235
  | 12, _, h => by
    have h : some tm_236 = some _ := h
    cases h
    exact km_236
  | 13, _, h => by
    have h : some tm_237 = some _ := h
    cases h
    exact km_237
  | 14, _, h => by
    have h : some tm_238 = some _ := h
    cases h
    exact km_238
  | 15, _, h => by
    have h : some tm_239 = some _ := h
    cases h
    exact km_239
  | n + 16, _, h => by
    have hl : tg_14.length = 16 := rfl
    rw [List.getElem?_eq_none (by omega)] at h
    cases h
theorem kg_15 : ∀ (i : Nat) (t : List (List (Nat × mI))), tg_15[i]? = some t → ∀ c ∈ t, s_tok (240 + i) c
  | 0, _, h => by
    have h : some tm_240 = some _ := h
    cases h
    exact km_240
  | 1, _, h => by
    have h : some tm_241 = some _ := h
    cases h
    exact km_241
  | 2, _, h => by
    have h : some tm_242 = some _ := h
    cases h
    exact km_242
  | 3, _, h => by
    have h : some tm_243 = some _ := h
    cases h
    exact km_243
  | 4, _, h => by
    have h : some tm_244 = some _ := h
    cases h
    exact km_244
  | 5, _, h => by
    have h : some tm_245 = some _ := h
    cases h
    exact km_245
  | 6, _, h => by
    have h : some tm_246 = some _ := h
    cases h
    exact km_246
  | 7, _, h => by
    have h : some tm_247 = some _ := h
    cases h
    exact km_247
  | 8, _, h => by
    have h : some tm_248 = some _ := h
    cases h
    exact km_248
  | 9, _, h => by
    have h : some tm_249 = some _ := h
    cases h
    exact km_249
  | 10, _, h => by
    have h : some tm_250 = some _ := h
    cases h
    exact km_250
  | 11, _, h => by
    have h : some tm_251 = some _ := h
    cases h
    exact km_251
  | 12, _, h => by
    have h : some tm_252 = some _ := h
    cases h
    exact km_252
  | 13, _, h => by
    have h : some tm_253 = some _ := h
    cases h
    exact km_253
  | 14, _, h => by
    have h : some tm_254 = some _ := h
    cases h
    exact km_254
  | 15, _, h => by
    have h : some tm_255 = some _ := h
    cases h
    exact km_255
  | n + 16, _, h => by
    have hl : tg_15.length = 16 := rfl
    rw [List.getElem?_eq_none (by omega)] at h
    cases h
theorem kg_16 : ∀ (i : Nat) (t : List (List (Nat × mI))), tg_16[i]? = some t → ∀ c ∈ t, s_tok (256 + i) c
  | 0, _, h => by
    have h : some tm_256 = some _ := h
    cases h
    exact km_256
  | 1, _, h => by
    have h : some tm_257 = some _ := h
    cases h
    exact km_257
  | 2, _, h => by
    have h : some tm_258 = some _ := h
    cases h
    exact km_258
  | 3, _, h => by
    have h : some tm_259 = some _ := h
    cases h
    exact km_259
  | 4, _, h => by
    have h : some tm_260 = some _ := h
    cases h
    exact km_260
  | 5, _, h => by
    have h : some tm_261 = some _ := h
    cases h
    exact km_261
  | 6, _, h => by
    have h : some tm_262 = some _ := h
    cases h
    exact km_262
  | 7, _, h => by
    have h : some tm_263 = some _ := h
    cases h
    exact km_263
  | 8, _, h => by
    have h : some tm_264 = some _ := h
    cases h
    exact km_264
  | 9, _, h => by
    have h : some tm_265 = some _ := h
    cases h
    exact km_265
  | 10, _, h => by
    have h : some tm_266 = some _ := h
    cases h
    exact km_266
  | 11, _, h => by
    have h : some tm_267 = some _ := h
    cases h
    exact km_267
  | 12, _, h => by
    have h : some tm_268 = some _ := h
    cases h
    exact km_268
  | 13, _, h => by
    have h : some tm_269 = some _ := h
    cases h
    exact km_269
  | 14, _, h => by
    have h : some tm_270 = some _ := h
    cases h
    exact km_270
  | 15, _, h => by
    have h : some tm_271 = some _ := h
    cases h
    exact km_271
  | n + 16, _, h => by
    have hl : tg_16.length = 16 := rfl
    rw [List.getElem?_eq_none (by omega)] at h
    cases h
theorem kg_17 : ∀ (i : Nat) (t : List (List (Nat × mI))), tg_17[i]? = some t → ∀ c ∈ t, s_tok (272 + i) c
  | 0, _, h => by
    have h : some tm_272 = some _ := h
    cases h
    exact km_272
  | 1, _, h => by
    have h : some tm_273 = some _ := h
    cases h
    exact km_273
  | 2, _, h => by
    have h : some tm_274 = some _ := h
    cases h
    exact km_274
  | 3, _, h => by
    have h : some tm_275 = some _ := h
    cases h
    exact km_275
  | 4, _, h => by
    have h : some tm_276 = some _ := h
    cases h
    exact km_276
  | 5, _, h => by
    have h : some tm_277 = some _ := h
    cases h
    exact km_277
  | 6, _, h => by
    have h : some tm_278 = some _ := h
    cases h
    exact km_278
  | 7, _, h => by
    have h : some tm_279 = some _ := h
    cases h
    exact km_279
  | 8, _, h => by
    have h : some tm_280 = some _ := h
    cases h
    exact km_280
  | 9, _, h => by
    have h : some tm_281 = some _ := h
    cases h
    exact km_281
  | 10, _, h => by
    have h : some tm_282 = some _ := h
    cases h
    exact km_282
  | 11, _, h => by
    have h : some tm_283 = some _ := h
    cases h
    exact km_283
  | 12, _, h => by
    have h : some tm_284 = some _ := h
    cases h
    exact km_284
  | 13, _, h => by
    have h : some tm_285 = some _ := h
    cases h
    exact km_285
  | 14, _, h => by
    have h : some tm_286 = some _ := h
    cases h
    exact km_286
  | 15, _, h => by
    have h : some tm_287 = some _ := h
    cases h
    exact km_287
  | n + 16, _, h => by
    have hl : tg_17.length = 16 := rfl
    rw [List.getElem?_eq_none (by omega)] at h
    cases h
theorem kg_18 : ∀ (i : Nat) (t : List (List (Nat × mI))), tg_18[i]? = some t → ∀ c ∈ t, s_tok (288 + i) c
  | 0, _, h => by
    have h : some tm_288 = some _ := h
    cases h
    exact km_288
  | 1, _, h => by
    have h : some tm_289 = some _ := h
    cases h
    exact km_289
  | 2, _, h => by
    have h : some tm_290 = some _ := h
    cases h
    exact km_290
  | 3, _, h => by
    have h : some tm_291 = some _ := h
    cases h
    exact km_291
  | n + 4, _, h => by
    have hl : tg_18.length = 4 := rfl
    rw [List.getElem?_eq_none (by omega)] at h
    cases h
theorem kt_all : ∀ (i : Nat) (g : List (List (List (Nat × mI)))), m_tab[i]? = some g → ∀ (j : Nat) (t : List (List (Nat × mI))), g[j]? = some t → ∀ c ∈ t, s_tok (16 * i + j) c
  | 0, _, h => by
    have h : some tg_0 = some _ := h
    cases h
    exact kg_0
  | 1, _, h => by
    have h : some tg_1 = some _ := h
    cases h
    exact kg_1
  | 2, _, h => by
    have h : some tg_2 = some _ := h
    cases h
    exact kg_2
  | 3, _, h => by
    have h : some tg_3 = some _ := h
    cases h
    exact kg_3
  | 4, _, h => by
    have h : some tg_4 = some _ := h
    cases h
    exact kg_4
  | 5, _, h => by
    have h : some tg_5 = some _ := h
    cases h
    exact kg_5
  | 6, _, h => by
    have h : some tg_6 = some _ := h
    cases h
    exact kg_6
  | 7, _, h => by
    have h : some tg_7 = some _ := h
    cases h
    exact kg_7
  | 8, _, h => by
    have h : some tg_8 = some _ := h
    cases h
    exact kg_8
  | 9, _, h => by
    have h : some tg_9 = some _ := h
    cases h
    exact kg_9
  | 10, _, h => by
    have h : some tg_10 = some _ := h
    cases h
    exact kg_10
  | 11, _, h => by
    have h : some tg_11 = some _ := h
    cases h
    exact kg_11
  | 12, _, h => by
    have h : some tg_12 = some _ := h
    cases h
    exact kg_12
  | 13, _, h => by
    have h : some tg_13 = some _ := h
    cases h
    exact kg_13
  | 14, _, h => by
    have h : some tg_14 = some _ := h
    cases h
    exact kg_14
  | 15, _, h => by
    have h : some tg_15 = some _ := h
    cases h
    exact kg_15
  | 16, _, h => by
    have h : some tg_16 = some _ := h
    cases h
    exact kg_16
  | 17, _, h => by
    have h : some tg_17 = some _ := h
    cases h
    exact kg_17
  | 18, _, h => by
    have h : some tg_18 = some _ := h
    cases h
    exact kg_18
  | n + 19, _, h => by
    have hl : m_tab.length = 19 := rfl
    rw [List.getElem?_eq_none (by omega)] at h
    cases h
theorem s_lk : ∀ (l : List (Nat × mI)) {a : Nat} {b : mI}, l.lookup a = some b → (a, b) ∈ l
  | [], _, _, h => by cases h
  | (k, v) :: r, a, b, h => by
    rw [List.lookup_cons] at h
    by_cases e : a = k
    · subst e
      simp at h
      subst h
      exact List.mem_cons_self
    · have e' : (a == k) = false := by simp [e]
      rw [e'] at h
      exact List.mem_cons_of_mem _ (s_lk r h)
theorem s_prog : s_Prog s_Ts vwCl s_tb s_M m_P := by
  refine ⟨s_good, rfl, fun y pc op h => ?_⟩
  unfold m_P at h
  split at h
  · cases h
  · rename_i g hg
    split at h
    · cases h
    · rename_i t ht
      split at h
      · cases h
      · rename_i c hc
        have hk := kt_all (y / 16) g hg (y % 16) t ht c (List.mem_of_getElem? hc) (pc, op) (s_lk c h)
        rw [Nat.div_add_mod] at hk
        rcases op with f | ⟨k, na, rc, hs⟩ | k | e
        all_goals exact hk
