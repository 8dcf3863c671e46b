theorem all_chunks {α : Type} (f : α → Bool) (l : List α) (n k : Nat) (hn : 0 < n) (h : ∀ i, i < k → ((l.drop (n * i)).take n).all f = true) (hl : l.length ≤ n * k) : l.all f = true := by
  rw [List.all_eq_true]
  intro x hx
  obtain ⟨j, hj, rfl⟩ := List.getElem_of_mem hx
  have hi : j / n < k := Nat.div_lt_of_lt_mul (Nat.lt_of_lt_of_le hj hl)
  have hd := Nat.div_add_mod j n
  have hm := Nat.mod_lt j hn
  refine List.all_eq_true.mp (h _ hi) _ ?_
  have hlen : j % n < ((l.drop (n * (j / n))).take n).length := by
    rw [List.length_take, List.length_drop]; omega
  have he : ((l.drop (n * (j / n))).take n)[j % n] = l[j] := by
    rw [List.getElem_take, List.getElem_drop]
    congr 1
  rw [← he]
  exact List.getElem_mem hlen
set_option maxRecDepth 100000 in
theorem okc_267 : (pm_code 267).all (pm_okI pm_md 267) = true := by
  refine all_chunks _ _ 40 23 (by decide) (fun i hi => ?_) (by decide +kernel)
  match i, hi with
  | 0, _ => exact okl_0
  | 1, _ => exact okl_1
  | 2, _ => exact okl_2
  | 3, _ => exact okl_3
  | 4, _ => exact okl_4
  | 5, _ => exact okl_5
  | 6, _ => exact okl_6
  | 7, _ => exact okl_7
  | 8, _ => exact okl_8
  | 9, _ => exact okl_9
  | 10, _ => exact okl_10
  | 11, _ => exact okl_11
  | 12, _ => exact okl_12
  | 13, _ => exact okl_13
  | 14, _ => exact okl_14
  | 15, _ => exact okl_15
  | 16, _ => exact okl_16
  | 17, _ => exact okl_17
  | 18, _ => exact okl_18
  | 19, _ => exact okl_19
  | 20, _ => exact okl_20
  | 21, _ => exact okl_21
  | 22, _ => exact okl_22
  | i + 23, h => exact absurd h (by omega)
theorem okg_0 : ∀ k, k < 16 → (pm_code (0 + k)).all (pm_okI pm_md (0 + k)) = true := by
  intro k hk
  match k, hk with
  | 0, _ => exact okc_0
  | 1, _ => exact okc_1
  | 2, _ => exact okc_2
  | 3, _ => exact okc_3
  | 4, _ => exact okc_4
  | 5, _ => exact okc_5
  | 6, _ => exact okc_6
  | 7, _ => exact okc_7
  | 8, _ => exact okc_8
  | 9, _ => exact okc_9
  | 10, _ => exact okc_10
  | 11, _ => exact okc_11
  | 12, _ => exact okc_12
  | 13, _ => exact okc_13
  | 14, _ => exact okc_14
  | 15, _ => exact okc_15
  | k + 16, h => exact absurd h (by omega)
theorem okg_1 : ∀ k, k < 16 → (pm_code (16 + k)).all (pm_okI pm_md (16 + k)) = true := by
  intro k hk
  match k, hk with
  | 0, _ => exact okc_16
  | 1, _ => exact okc_17
  | 2, _ => exact okc_18
  | 3, _ => exact okc_19
  | 4, _ => exact okc_20
  | 5, _ => exact okc_21
  | 6, _ => exact okc_22
  | 7, _ => exact okc_23
  | 8, _ => exact okc_24
  | 9, _ => exact okc_25
  | 10, _ => exact okc_26
  | 11, _ => exact okc_27
  | 12, _ => exact okc_28
  | 13, _ => exact okc_29
  | 14, _ => exact okc_30
  | 15, _ => exact okc_31
  | k + 16, h => exact absurd h (by omega)
theorem okg_2 : ∀ k, k < 16 → (pm_code (32 + k)).all (pm_okI pm_md (32 + k)) = true := by
  intro k hk
  match k, hk with
  | 0, _ => exact okc_32
  | 1, _ => exact okc_33
  | 2, _ => exact okc_34
  | 3, _ => exact okc_35
  | 4, _ => exact okc_36
  | 5, _ => exact okc_37
  | 6, _ => exact okc_38
  | 7, _ => exact okc_39
  | 8, _ => exact okc_40
  | 9, _ => exact okc_41
  | 10, _ => exact okc_42
  | 11, _ => exact okc_43
  | 12, _ => exact okc_44
  | 13, _ => exact okc_45
  | 14, _ => exact okc_46
  | 15, _ => exact okc_47
  | k + 16, h => exact absurd h (by omega)
theorem okg_3 : ∀ k, k < 16 → (pm_code (48 + k)).all (pm_okI pm_md (48 + k)) = true := by
  intro k hk
  match k, hk with
  | 0, _ => exact okc_48
  | 1, _ => exact okc_49
  | 2, _ => exact okc_50
  | 3, _ => exact okc_51
  | 4, _ => exact okc_52
  | 5, _ => exact okc_53
  | 6, _ => exact okc_54
  | 7, _ => exact okc_55
  | 8, _ => exact okc_56
  | 9, _ => exact okc_57
  | 10, _ => exact okc_58
  | 11, _ => exact okc_59
  | 12, _ => exact okc_60
  | 13, _ => exact okc_61
  | 14, _ => exact okc_62
  | 15, _ => exact okc_63
  | k + 16, h => exact absurd h (by omega)
theorem okg_4 : ∀ k, k < 16 → (pm_code (64 + k)).all (pm_okI pm_md (64 + k)) = true := by
  intro k hk
  match k, hk with
  | 0, _ => exact okc_64
  | 1, _ => exact okc_65
  | 2, _ => exact okc_66
  | 3, _ => exact okc_67
  | 4, _ => exact okc_68
  | 5, _ => exact okc_69
  | 6, _ => exact okc_70
  | 7, _ => exact okc_71
  | 8, _ => exact okc_72
  | 9, _ => exact okc_73
  | 10, _ => exact okc_74
  | 11, _ => exact okc_75
  | 12, _ => exact okc_76
  | 13, _ => exact okc_77
  | 14, _ => exact okc_78
  | 15, _ => exact okc_79
  | k + 16, h => exact absurd h (by omega)
theorem okg_5 : ∀ k, k < 16 → (pm_code (80 + k)).all (pm_okI pm_md (80 + k)) = true := by
  intro k hk
  match k, hk with
  | 0, _ => exact okc_80
  | 1, _ => exact okc_81
  | 2, _ => exact okc_82
  | 3, _ => exact okc_83
  | 4, _ => exact okc_84
  | 5, _ => exact okc_85
  | 6, _ => exact okc_86
  | 7, _ => exact okc_87
  | 8, _ => exact okc_88
  | 9, _ => exact okc_89
  | 10, _ => exact okc_90
  | 11, _ => exact okc_91
  | 12, _ => exact okc_92
  | 13, _ => exact okc_93
  | 14, _ => exact okc_94
  | 15, _ => exact okc_95
  | k + 16, h => exact absurd h (by omega)
theorem okg_6 : ∀ k, k < 16 → (pm_code (96 + k)).all (pm_okI pm_md (96 + k)) = true := by
  intro k hk
  match k, hk with
  | 0, _ => exact okc_96
  | 1, _ => exact okc_97
  | 2, _ => exact okc_98
  | 3, _ => exact okc_99
  | 4, _ => exact okc_100
  | 5, _ => exact okc_101
  | 6, _ => exact okc_102
  | 7, _ => exact okc_103
  | 8, _ => exact okc_104
  | 9, _ => exact okc_105
  | 10, _ => exact okc_106
  | 11, _ => exact okc_107
  | 12, _ => exact okc_108
  | 13, _ => exact okc_109
  | 14, _ => exact okc_110
  | 15, _ => exact okc_111
  | k + 16, h => exact absurd h (by omega)
theorem okg_7 : ∀ k, k < 16 → (pm_code (112 + k)).all (pm_okI pm_md (112 + k)) = true := by
  intro k hk
  match k, hk with
  | 0, _ => exact okc_112
  | 1, _ => exact okc_113
  | 2, _ => exact okc_114
  | 3, _ => exact okc_115
  | 4, _ => exact okc_116
  | 5, _ => exact okc_117
  | 6, _ => exact okc_118
  | 7, _ => exact okc_119
  | 8, _ => exact okc_120
  | 9, _ => exact okc_121
  | 10, _ => exact okc_122
  | 11, _ => exact okc_123
  | 12, _ => exact okc_124
  | 13, _ => exact okc_125
  | 14, _ => exact okc_126
  | 15, _ => exact okc_127
  | k + 16, h => exact absurd h (by omega)
theorem okg_8 : ∀ k, k < 16 → (pm_code (128 + k)).all (pm_okI pm_md (128 + k)) = true := by
  intro k hk
  match k, hk with
  | 0, _ => exact okc_128
  | 1, _ => exact okc_129
  | 2, _ => exact okc_130
  | 3, _ => exact okc_131
  | 4, _ => exact okc_132
  | 5, _ => exact okc_133
  | 6, _ => exact okc_134
  | 7, _ => exact okc_135
  | 8, _ => exact okc_136
  | 9, _ => exact okc_137
  | 10, _ => exact okc_138
  | 11, _ => exact okc_139
  | 12, _ => exact okc_140
  | 13, _ => exact okc_141
  | 14, _ => exact okc_142
  | 15, _ => exact okc_143
  | k + 16, h => exact absurd h (by omega)
theorem okg_9 : ∀ k, k < 16 → (pm_code (144 + k)).all (pm_okI pm_md (144 + k)) = true := by
  intro k hk
  match k, hk with
  | 0, _ => exact okc_144
  | 1, _ => exact okc_145
  | 2, _ => exact okc_146
  | 3, _ => exact okc_147
  | 4, _ => exact okc_148
  | 5, _ => exact okc_149
  | 6, _ => exact okc_150
  | 7, _ => exact okc_151
  | 8, _ => exact okc_152
  | 9, _ => exact okc_153
  | 10, _ => exact okc_154
  | 11, _ => exact okc_155
  | 12, _ => exact okc_156
  | 13, _ => exact okc_157
  | 14, _ => exact okc_158
  | 15, _ => exact okc_159
  | k + 16, h => exact absurd h (by omega)
theorem okg_10 : ∀ k, k < 16 → (pm_code (160 + k)).all (pm_okI pm_md (160 + k)) = true := by
  intro k hk
  match k, hk with
  | 0, _ => exact okc_160
  | 1, _ => exact okc_161
  | 2, _ => exact okc_162
  | 3, _ => exact okc_163
  | 4, _ => exact okc_164
  | 5, _ => exact okc_165
  | 6, _ => exact okc_166
  | 7, _ => exact okc_167
  | 8, _ => exact okc_168
  | 9, _ => exact okc_169
  | 10, _ => exact okc_170
  | 11, _ => exact okc_171
  | 12, _ => exact okc_172
  | 13, _ => exact okc_173
  | 14, _ => exact okc_174
  | 15, _ => exact okc_175
  | k + 16, h => exact absurd h (by omega)
theorem okg_11 : ∀ k, k < 16 → (pm_code (176 + k)).all (pm_okI pm_md (176 + k)) = true := by
  intro k hk
  match k, hk with
  | 0, _ => exact okc_176
  | 1, _ => exact okc_177
  | 2, _ => exact okc_178
  | 3, _ => exact okc_179
  | 4, _ => exact okc_180
  | 5, _ => exact okc_181
  | 6, _ => exact okc_182
  | 7, _ => exact okc_183
  | 8, _ => exact okc_184
  | 9, _ => exact okc_185
  | 10, _ => exact okc_186
  | 11, _ => exact okc_187
  | 12, _ => exact okc_188
  | 13, _ => exact okc_189
  | 14, _ => exact okc_190
  | 15, _ => exact okc_191
  | k + 16, h => exact absurd h (by omega)
theorem okg_12 : ∀ k, k < 16 → (pm_code (192 + k)).all (pm_okI pm_md (192 + k)) = true := by
  intro k hk
  match k, hk with
  | 0, _ => exact okc_192
  | 1, _ => exact okc_193
  | 2, _ => exact okc_194
  | 3, _ => exact okc_195
  | 4, _ => exact okc_196
  | 5, _ => exact okc_197
  | 6, _ => exact okc_198
  | 7, _ => exact okc_199
  | 8, _ => exact okc_200
  | 9, _ => exact okc_201
  | 10, _ => exact okc_202
  | 11, _ => exact okc_203
  | 12, _ => exact okc_204
  | 13, _ => exact okc_205
  | 14, _ => exact okc_206
  | 15, _ => exact okc_207
  | k + 16, h => exact absurd h (by omega)
theorem okg_13 : ∀ k, k < 16 → (pm_code (208 + k)).all (pm_okI pm_md (208 + k)) = true := by
  intro k hk
  match k, hk with
  | 0, _ => exact okc_208
  | 1, _ => exact okc_209
  | 2, _ => exact okc_210
  | 3, _ => exact okc_211
  | 4, _ => exact okc_212
  | 5, _ => exact okc_213
  | 6, _ => exact okc_214
  | 7, _ => exact okc_215
  | 8, _ => exact okc_216
  | 9, _ => exact okc_217
  | 10, _ => exact okc_218
  | 11, _ => exact okc_219
  | 12, _ => exact okc_220
  | 13, _ => exact okc_221
  | 14, _ => exact okc_222
  | 15, _ => exact okc_223
  | k + 16, h => exact absurd h (by omega)
theorem okg_14 : ∀ k, k < 16 → (pm_code (224 + k)).all (pm_okI pm_md (224 + k)) = true := by
  intro k hk
  match k, hk with
  | 0, _ => exact okc_224
  | 1, _ => exact okc_225
  | 2, _ => exact okc_226
  | 3, _ => exact okc_227
  | 4, _ => exact okc_228
  | 5, _ => exact okc_229
  | 6, _ => exact okc_230
  | 7, _ => exact okc_231
  | 8, _ => exact okc_232
  | 9, _ => exact okc_233
  | 10, _ => exact okc_234
  | 11, _ => exact okc_235
  | 12, _ => exact okc_236
  | 13, _ => exact okc_237
  | 14, _ => exact okc_238
  | 15, _ => exact okc_239
  | k + 16, h => exact absurd h (by omega)
theorem okg_15 : ∀ k, k < 16 → (pm_code (240 + k)).all (pm_okI pm_md (240 + k)) = true := by
  intro k hk
  match k, hk with
  | 0, _ => exact okc_240
  | 1, _ => exact okc_241
  | 2, _ => exact okc_242
  | 3, _ => exact okc_243
  | 4, _ => exact okc_244
  | 5, _ => exact okc_245
  | 6, _ => exact okc_246
  | 7, _ => exact okc_247
  | 8, _ => exact okc_248
  | 9, _ => exact okc_249
  | 10, _ => exact okc_250
  | 11, _ => exact okc_251
  | 12, _ => exact okc_252
  | 13, _ => exact okc_253
  | 14, _ => exact okc_254
  | 15, _ => exact okc_255
  | k + 16, h => exact absurd h (by omega)
theorem okg_16 : ∀ k, k < 12 → (pm_code (256 + k)).all (pm_okI pm_md (256 + k)) = true := by
  intro k hk
  match k, hk with
  | 0, _ => exact okc_256
  | 1, _ => exact okc_257
  | 2, _ => exact okc_258
  | 3, _ => exact okc_259
  | 4, _ => exact okc_260
  | 5, _ => exact okc_261
  | 6, _ => exact okc_262
  | 7, _ => exact okc_263
  | 8, _ => exact okc_264
  | 9, _ => exact okc_265
  | 10, _ => exact okc_266
  | 11, _ => exact okc_267
  | k + 12, h => exact absurd h (by omega)
theorem pm_ok_ins {y : Nat} (h : y < 268) : (pm_code y).all (pm_okI pm_md y) = true := by
  rcases (by omega : (0 ≤ y ∧ y < 16) ∨ (16 ≤ y ∧ y < 32) ∨ (32 ≤ y ∧ y < 48) ∨ (48 ≤ y ∧ y < 64) ∨ (64 ≤ y ∧ y < 80) ∨ (80 ≤ y ∧ y < 96) ∨ (96 ≤ y ∧ y < 112) ∨ (112 ≤ y ∧ y < 128) ∨ (128 ≤ y ∧ y < 144) ∨ (144 ≤ y ∧ y < 160) ∨ (160 ≤ y ∧ y < 176) ∨ (176 ≤ y ∧ y < 192) ∨ (192 ≤ y ∧ y < 208) ∨ (208 ≤ y ∧ y < 224) ∨ (224 ≤ y ∧ y < 240) ∨ (240 ≤ y ∧ y < 256) ∨ (256 ≤ y ∧ y < 268)) with h | h | h | h | h | h | h | h | h | h | h | h | h | h | h | h | h
  · obtain ⟨k, rfl⟩ : ∃ k, y = 0 + k := ⟨y - 0, by omega⟩
    exact okg_0 k (by omega)
  · obtain ⟨k, rfl⟩ : ∃ k, y = 16 + k := ⟨y - 16, by omega⟩
    exact okg_1 k (by omega)
  · obtain ⟨k, rfl⟩ : ∃ k, y = 32 + k := ⟨y - 32, by omega⟩
    exact okg_2 k (by omega)
  · obtain ⟨k, rfl⟩ : ∃ k, y = 48 + k := ⟨y - 48, by omega⟩
    exact okg_3 k (by omega)
  · obtain ⟨k, rfl⟩ : ∃ k, y = 64 + k := ⟨y - 64, by omega⟩
    exact okg_4 k (by omega)
  · obtain ⟨k, rfl⟩ : ∃ k, y = 80 + k := ⟨y - 80, by omega⟩
    exact okg_5 k (by omega)
  · obtain ⟨k, rfl⟩ : ∃ k, y = 96 + k := ⟨y - 96, by omega⟩
    exact okg_6 k (by omega)
  · obtain ⟨k, rfl⟩ : ∃ k, y = 112 + k := ⟨y - 112, by omega⟩
    exact okg_7 k (by omega)
  · obtain ⟨k, rfl⟩ : ∃ k, y = 128 + k := ⟨y - 128, by omega⟩
    exact okg_8 k (by omega)
  · obtain ⟨k, rfl⟩ : ∃ k, y = 144 + k := ⟨y - 144, by omega⟩
    exact okg_9 k (by omega)
  · obtain ⟨k, rfl⟩ : ∃ k, y = 160 + k := ⟨y - 160, by omega⟩
    exact okg_10 k (by omega)
  · obtain ⟨k, rfl⟩ : ∃ k, y = 176 + k := ⟨y - 176, by omega⟩
    exact okg_11 k (by omega)
  · obtain ⟨k, rfl⟩ : ∃ k, y = 192 + k := ⟨y - 192, by omega⟩
    exact okg_12 k (by omega)
  · obtain ⟨k, rfl⟩ : ∃ k, y = 208 + k := ⟨y - 208, by omega⟩
    exact okg_13 k (by omega)
  · obtain ⟨k, rfl⟩ : ∃ k, y = 224 + k := ⟨y - 224, by omega⟩
    exact okg_14 k (by omega)
  · obtain ⟨k, rfl⟩ : ∃ k, y = 240 + k := ⟨y - 240, by omega⟩
    exact okg_15 k (by omega)
  · obtain ⟨k, rfl⟩ : ∃ k, y = 256 + k := ⟨y - 256, by omega⟩
    exact okg_16 k (by omega)
