set_option maxRecDepth 100000 in
theorem okm_192 : pm_okm pm_md 192 (pm_pl 192) = true := by decide +kernel
set_option maxRecDepth 100000 in
theorem okm_193 : pm_okm pm_md 193 (pm_pl 193) = true := by decide +kernel
set_option maxRecDepth 100000 in
theorem okm_194 : pm_okm pm_md 194 (pm_pl 194) = true := by decide +kernel
set_option maxRecDepth 100000 in
theorem okm_195 : pm_okm pm_md 195 (pm_pl 195) = true := by decide +kernel
set_option maxRecDepth 100000 in
theorem okm_196 : pm_okm pm_md 196 (pm_pl 196) = true := by decide +kernel
set_option maxRecDepth 100000 in
theorem okm_197 : pm_okm pm_md 197 (pm_pl 197) = true := by decide +kernel
set_option maxRecDepth 100000 in
theorem okm_198 : pm_okm pm_md 198 (pm_pl 198) = true := by decide +kernel
set_option maxRecDepth 100000 in
theorem okm_199 : pm_okm pm_md 199 (pm_pl 199) = true := by decide +kernel
set_option maxRecDepth 100000 in
theorem okm_200 : pm_okm pm_md 200 (pm_pl 200) = true := by decide +kernel
set_option maxRecDepth 100000 in
theorem okm_201 : pm_okm pm_md 201 (pm_pl 201) = true := by decide +kernel
set_option maxRecDepth 100000 in
theorem okm_202 : pm_okm pm_md 202 (pm_pl 202) = true := by decide +kernel
set_option maxRecDepth 100000 in
theorem okm_203 : pm_okm pm_md 203 (pm_pl 203) = true := by decide +kernel
set_option maxRecDepth 100000 in
theorem okm_204 : pm_okm pm_md 204 (pm_pl 204) = true := by decide +kernel
set_option maxRecDepth 100000 in
theorem okm_205 : pm_okm pm_md 205 (pm_pl 205) = true := by decide +kernel
set_option maxRecDepth 100000 in
theorem okm_206 : pm_okm pm_md 206 (pm_pl 206) = true := by decide +kernel
set_option maxRecDepth 100000 in
theorem okm_207 : pm_okm pm_md 207 (pm_pl 207) = true := by decide +kernel
set_option maxRecDepth 100000 in
theorem okm_208 : pm_okm pm_md 208 (pm_pl 208) = true := by decide +kernel
set_option maxRecDepth 100000 in
theorem okm_209 : pm_okm pm_md 209 (pm_pl 209) = true := by decide +kernel
set_option maxRecDepth 100000 in
theorem okm_210 : pm_okm pm_md 210 (pm_pl 210) = true := by decide +kernel
set_option maxRecDepth 100000 in
theorem okm_211 : pm_okm pm_md 211 (pm_pl 211) = true := by decide +kernel
set_option maxRecDepth 100000 in
theorem okm_212 : pm_okm pm_md 212 (pm_pl 212) = true := by decide +kernel
set_option maxRecDepth 100000 in
theorem okm_213 : pm_okm pm_md 213 (pm_pl 213) = true := by decide +kernel
set_option maxRecDepth 100000 in
theorem okm_214 : pm_okm pm_md 214 (pm_pl 214) = true := by decide +kernel
set_option maxRecDepth 100000 in
theorem okm_215 : pm_okm pm_md 215 (pm_pl 215) = true := by decide +kernel
set_option maxRecDepth 100000 in
theorem okm_216 : pm_okm pm_md 216 (pm_pl 216) = true := by decide +kernel
set_option maxRecDepth 100000 in
theorem okm_217 : pm_okm pm_md 217 (pm_pl 217) = true := by decide +kernel
set_option maxRecDepth 100000 in
theorem okm_218 : pm_okm pm_md 218 (pm_pl 218) = true := by decide +kernel
set_option maxRecDepth 100000 in
theorem okm_219 : pm_okm pm_md 219 (pm_pl 219) = true := by decide +kernel
set_option maxRecDepth 100000 in
theorem okm_220 : pm_okm pm_md 220 (pm_pl 220) = true := by decide +kernel
set_option maxRecDepth 100000 in
theorem okm_221 : pm_okm pm_md 221 (pm_pl 221) = true := by decide +kernel
set_option maxRecDepth 100000 in
theorem okm_222 : pm_okm pm_md 222 (pm_pl 222) = true := by decide +kernel
set_option maxRecDepth 100000 in
theorem okm_223 : pm_okm pm_md 223 (pm_pl 223) = true := by decide +kernel
set_option maxRecDepth 100000 in
theorem okm_224 : pm_okm pm_md 224 (pm_pl 224) = true := by decide +kernel
set_option maxRecDepth 100000 in
theorem okm_225 : pm_okm pm_md 225 (pm_pl 225) = true := by decide +kernel
set_option maxRecDepth 100000 in
theorem okm_226 : pm_okm pm_md 226 (pm_pl 226) = true := by decide +kernel
set_option maxRecDepth 100000 in
theorem okm_227 : pm_okm pm_md 227 (pm_pl 227) = true := by decide +kernel
set_option maxRecDepth 100000 in
theorem okm_228 : pm_okm pm_md 228 (pm_pl 228) = true := by decide +kernel
set_option maxRecDepth 100000 in
theorem okm_229 : pm_okm pm_md 229 (pm_pl 229) = true := by decide +kernel
set_option maxRecDepth 100000 in
theorem okm_230 : pm_okm pm_md 230 (pm_pl 230) = true := by decide +kernel
set_option maxRecDepth 100000 in
theorem okm_231 : pm_okm pm_md 231 (pm_pl 231) = true := by decide +kernel
set_option maxRecDepth 100000 in
theorem okm_232 : pm_okm pm_md 232 (pm_pl 232) = true := by decide +kernel
set_option maxRecDepth 100000 in
theorem okm_233 : pm_okm pm_md 233 (pm_pl 233) = true := by decide +kernel
set_option maxRecDepth 100000 in
theorem okm_234 : pm_okm pm_md 234 (pm_pl 234) = true := by decide +kernel
set_option maxRecDepth 100000 in
theorem okm_235 : pm_okm pm_md 235 (pm_pl 235) = true := by decide +kernel
set_option maxRecDepth 100000 in
theorem okm_236 : pm_okm pm_md 236 (pm_pl 236) = true := by decide +kernel
set_option maxRecDepth 100000 in
theorem okm_237 : pm_okm pm_md 237 (pm_pl 237) = true := by decide +kernel
set_option maxRecDepth 100000 in
theorem okm_238 : pm_okm pm_md 238 (pm_pl 238) = true := by decide +kernel
set_option maxRecDepth 100000 in
theorem okm_239 : pm_okm pm_md 239 (pm_pl 239) = true := by decide +kernel
set_option maxRecDepth 100000 in
theorem okm_240 : pm_okm pm_md 240 (pm_pl 240) = true := by decide +kernel
set_option maxRecDepth 100000 in
theorem okm_241 : pm_okm pm_md 241 (pm_pl 241) = true := by decide +kernel
set_option maxRecDepth 100000 in
theorem okm_242 : pm_okm pm_md 242 (pm_pl 242) = true := by decide +kernel
set_option maxRecDepth 100000 in
theorem okm_243 : pm_okm pm_md 243 (pm_pl 243) = true := by decide +kernel
set_option maxRecDepth 100000 in
theorem okm_244 : pm_okm pm_md 244 (pm_pl 244) = true := by decide +kernel
set_option maxRecDepth 100000 in
theorem okm_245 : pm_okm pm_md 245 (pm_pl 245) = true := by decide +kernel
set_option maxRecDepth 100000 in
theorem okm_246 : pm_okm pm_md 246 (pm_pl 246) = true := by decide +kernel
set_option maxRecDepth 100000 in
theorem okm_247 : pm_okm pm_md 247 (pm_pl 247) = true := by decide +kernel
set_option maxRecDepth 100000 in
theorem okm_248 : pm_okm pm_md 248 (pm_pl 248) = true := by decide +kernel
set_option maxRecDepth 100000 in
theorem okm_249 : pm_okm pm_md 249 (pm_pl 249) = true := by decide +kernel
set_option maxRecDepth 100000 in
theorem okm_250 : pm_okm pm_md 250 (pm_pl 250) = true := by decide +kernel
set_option maxRecDepth 100000 in
theorem okm_251 : pm_okm pm_md 251 (pm_pl 251) = true := by decide +kernel
set_option maxRecDepth 100000 in
theorem okm_252 : pm_okm pm_md 252 (pm_pl 252) = true := by decide +kernel
set_option maxRecDepth 100000 in
theorem okm_253 : pm_okm pm_md 253 (pm_pl 253) = true := by decide +kernel
set_option maxRecDepth 100000 in
theorem okm_254 : pm_okm pm_md 254 (pm_pl 254) = true := by decide +kernel
set_option maxRecDepth 100000 in
theorem okm_255 : pm_okm pm_md 255 (pm_pl 255) = true := by decide +kernel
set_option maxRecDepth 100000 in
theorem okm_256 : pm_okm pm_md 256 (pm_pl 256) = true := by decide +kernel
set_option maxRecDepth 100000 in
theorem okm_257 : pm_okm pm_md 257 (pm_pl 257) = true := by decide +kernel
set_option maxRecDepth 100000 in
theorem okm_258 : pm_okm pm_md 258 (pm_pl 258) = true := by decide +kernel
set_option maxRecDepth 100000 in
theorem okm_259 : pm_okm pm_md 259 (pm_pl 259) = true := by decide +kernel
set_option maxRecDepth 100000 in
theorem okm_260 : pm_okm pm_md 260 (pm_pl 260) = true := by decide +kernel
set_option maxRecDepth 100000 in
theorem okm_261 : pm_okm pm_md 261 (pm_pl 261) = true := by decide +kernel
set_option maxRecDepth 100000 in
theorem okm_262 : pm_okm pm_md 262 (pm_pl 262) = true := by decide +kernel
set_option maxRecDepth 100000 in
theorem okm_263 : pm_okm pm_md 263 (pm_pl 263) = true := by decide +kernel
set_option maxRecDepth 100000 in
theorem okm_264 : pm_okm pm_md 264 (pm_pl 264) = true := by decide +kernel
set_option maxRecDepth 100000 in
theorem okm_265 : pm_okm pm_md 265 (pm_pl 265) = true := by decide +kernel
set_option maxRecDepth 100000 in
theorem okm_266 : pm_okm pm_md 266 (pm_pl 266) = true := by decide +kernel
theorem okn_0 : ∀ k, k < 16 → pm_okm pm_md (0 + k) (pm_pl (0 + k)) = true := by
  intro k hk
  match k, hk with
  | 0, _ => exact okm_0
  | 1, _ => exact okm_1
  | 2, _ => exact okm_2
  | 3, _ => exact okm_3
  | 4, _ => exact okm_4
  | 5, _ => exact okm_5
  | 6, _ => exact okm_6
  | 7, _ => exact okm_7
  | 8, _ => exact okm_8
  | 9, _ => exact okm_9
  | 10, _ => exact okm_10
  | 11, _ => exact okm_11
  | 12, _ => exact okm_12
  | 13, _ => exact okm_13
  | 14, _ => exact okm_14
  | 15, _ => exact okm_15
  | k + 16, h => exact absurd h (by omega)
theorem okn_1 : ∀ k, k < 16 → pm_okm pm_md (16 + k) (pm_pl (16 + k)) = true := by
  intro k hk
  match k, hk with
  | 0, _ => exact okm_16
  | 1, _ => exact okm_17
  | 2, _ => exact okm_18
  | 3, _ => exact okm_19
  | 4, _ => exact okm_20
  | 5, _ => exact okm_21
  | 6, _ => exact okm_22
  | 7, _ => exact okm_23
  | 8, _ => exact okm_24
  | 9, _ => exact okm_25
  | 10, _ => exact okm_26
  | 11, _ => exact okm_27
  | 12, _ => exact okm_28
  | 13, _ => exact okm_29
  | 14, _ => exact okm_30
  | 15, _ => exact okm_31
  | k + 16, h => exact absurd h (by omega)
theorem okn_2 : ∀ k, k < 16 → pm_okm pm_md (32 + k) (pm_pl (32 + k)) = true := by
  intro k hk
  match k, hk with
  | 0, _ => exact okm_32
  | 1, _ => exact okm_33
  | 2, _ => exact okm_34
  | 3, _ => exact okm_35
  | 4, _ => exact okm_36
  | 5, _ => exact okm_37
  | 6, _ => exact okm_38
  | 7, _ => exact okm_39
  | 8, _ => exact okm_40
  | 9, _ => exact okm_41
  | 10, _ => exact okm_42
  | 11, _ => exact okm_43
  | 12, _ => exact okm_44
  | 13, _ => exact okm_45
  | 14, _ => exact okm_46
  | 15, _ => exact okm_47
  | k + 16, h => exact absurd h (by omega)
theorem okn_3 : ∀ k, k < 16 → pm_okm pm_md (48 + k) (pm_pl (48 + k)) = true := by
  intro k hk
  match k, hk with
  | 0, _ => exact okm_48
  | 1, _ => exact okm_49
  | 2, _ => exact okm_50
  | 3, _ => exact okm_51
  | 4, _ => exact okm_52
  | 5, _ => exact okm_53
  | 6, _ => exact okm_54
  | 7, _ => exact okm_55
  | 8, _ => exact okm_56
  | 9, _ => exact okm_57
  | 10, _ => exact okm_58
  | 11, _ => exact okm_59
  | 12, _ => exact okm_60
  | 13, _ => exact okm_61
  | 14, _ => exact okm_62
  | 15, _ => exact okm_63
  | k + 16, h => exact absurd h (by omega)
theorem okn_4 : ∀ k, k < 16 → pm_okm pm_md (64 + k) (pm_pl (64 + k)) = true := by
  intro k hk
  match k, hk with
  | 0, _ => exact okm_64
  | 1, _ => exact okm_65
  | 2, _ => exact okm_66
  | 3, _ => exact okm_67
  | 4, _ => exact okm_68
  | 5, _ => exact okm_69
  | 6, _ => exact okm_70
  | 7, _ => exact okm_71
  | 8, _ => exact okm_72
  | 9, _ => exact okm_73
  | 10, _ => exact okm_74
  | 11, _ => exact okm_75
  | 12, _ => exact okm_76
  | 13, _ => exact okm_77
  | 14, _ => exact okm_78
  | 15, _ => exact okm_79
  | k + 16, h => exact absurd h (by omega)
theorem okn_5 : ∀ k, k < 16 → pm_okm pm_md (80 + k) (pm_pl (80 + k)) = true := by
  intro k hk
  match k, hk with
  | 0, _ => exact okm_80
  | 1, _ => exact okm_81
  | 2, _ => exact okm_82
  | 3, _ => exact okm_83
  | 4, _ => exact okm_84
  | 5, _ => exact okm_85
  | 6, _ => exact okm_86
  | 7, _ => exact okm_87
  | 8, _ => exact okm_88
  | 9, _ => exact okm_89
  | 10, _ => exact okm_90
  | 11, _ => exact okm_91
  | 12, _ => exact okm_92
  | 13, _ => exact okm_93
  | 14, _ => exact okm_94
  | 15, _ => exact okm_95
  | k + 16, h => exact absurd h (by omega)
theorem okn_6 : ∀ k, k < 16 → pm_okm pm_md (96 + k) (pm_pl (96 + k)) = true := by
  intro k hk
  match k, hk with
  | 0, _ => exact okm_96
  | 1, _ => exact okm_97
  | 2, _ => exact okm_98
  | 3, _ => exact okm_99
  | 4, _ => exact okm_100
  | 5, _ => exact okm_101
  | 6, _ => exact okm_102
  | 7, _ => exact okm_103
  | 8, _ => exact okm_104
  | 9, _ => exact okm_105
  | 10, _ => exact okm_106
  | 11, _ => exact okm_107
  | 12, _ => exact okm_108
  | 13, _ => exact okm_109
  | 14, _ => exact okm_110
  | 15, _ => exact okm_111
  | k + 16, h => exact absurd h (by omega)
theorem okn_7 : ∀ k, k < 16 → pm_okm pm_md (112 + k) (pm_pl (112 + k)) = true := by
  intro k hk
  match k, hk with
  | 0, _ => exact okm_112
  | 1, _ => exact okm_113
  | 2, _ => exact okm_114
  | 3, _ => exact okm_115
  | 4, _ => exact okm_116
  | 5, _ => exact okm_117
  | 6, _ => exact okm_118
  | 7, _ => exact okm_119
  | 8, _ => exact okm_120
  | 9, _ => exact okm_121
  | 10, _ => exact okm_122
  | 11, _ => exact okm_123
  | 12, _ => exact okm_124
  | 13, _ => exact okm_125
  | 14, _ => exact okm_126
  | 15, _ => exact okm_127
  | k + 16, h => exact absurd h (by omega)
theorem okn_8 : ∀ k, k < 16 → pm_okm pm_md (128 + k) (pm_pl (128 + k)) = true := by
  intro k hk
  match k, hk with
  | 0, _ => exact okm_128
  | 1, _ => exact okm_129
  | 2, _ => exact okm_130
  | 3, _ => exact okm_131
  | 4, _ => exact okm_132
  | 5, _ => exact okm_133
  | 6, _ => exact okm_134
  | 7, _ => exact okm_135
  | 8, _ => exact okm_136
  | 9, _ => exact okm_137
  | 10, _ => exact okm_138
  | 11, _ => exact okm_139
  | 12, _ => exact okm_140
  | 13, _ => exact okm_141
  | 14, _ => exact okm_142
  | 15, _ => exact okm_143
  | k + 16, h => exact absurd h (by omega)
theorem okn_9 : ∀ k, k < 16 → pm_okm pm_md (144 + k) (pm_pl (144 + k)) = true := by
  intro k hk
  match k, hk with
  | 0, _ => exact okm_144
  | 1, _ => exact okm_145
  | 2, _ => exact okm_146
  | 3, _ => exact okm_147
  | 4, _ => exact okm_148
  | 5, _ => exact okm_149
  | 6, _ => exact okm_150
  | 7, _ => exact okm_151
  | 8, _ => exact okm_152
  | 9, _ => exact okm_153
  | 10, _ => exact okm_154
  | 11, _ => exact okm_155
  | 12, _ => exact okm_156
  | 13, _ => exact okm_157
  | 14, _ => exact okm_158
  | 15, _ => exact okm_159
  | k + 16, h => exact absurd h (by omega)
theorem okn_10 : ∀ k, k < 16 → pm_okm pm_md (160 + k) (pm_pl (160 + k)) = true := by
  intro k hk
  match k, hk with
  | 0, _ => exact okm_160
  | 1, _ => exact okm_161
  | 2, _ => exact okm_162
  | 3, _ => exact okm_163
  | 4, _ => exact okm_164
  | 5, _ => exact okm_165
  | 6, _ => exact okm_166
  | 7, _ => exact okm_167
  | 8, _ => exact okm_168
  | 9, _ => exact okm_169
  | 10, _ => exact okm_170
  | 11, _ => exact okm_171
  | 12, _ => exact okm_172
  | 13, _ => exact okm_173
  | 14, _ => exact okm_174
  | 15, _ => exact okm_175
  | k + 16, h => exact absurd h (by omega)
theorem okn_11 : ∀ k, k < 16 → pm_okm pm_md (176 + k) (pm_pl (176 + k)) = true := by
  intro k hk
  match k, hk with
  | 0, _ => exact okm_176
  | 1, _ => exact okm_177
  | 2, _ => exact okm_178
  | 3, _ => exact okm_179
  | 4, _ => exact okm_180
  | 5, _ => exact okm_181
  | 6, _ => exact okm_182
  | 7, _ => exact okm_183
  | 8, _ => exact okm_184
  | 9, _ => exact okm_185
  | 10, _ => exact okm_186
  | 11, _ => exact okm_187
  | 12, _ => exact okm_188
  | 13, _ => exact okm_189
  | 14, _ => exact okm_190
  | 15, _ => exact okm_191
  | k + 16, h => exact absurd h (by omega)
theorem okn_12 : ∀ k, k < 16 → pm_okm pm_md (192 + k) (pm_pl (192 + k)) = true := by
  intro k hk
  match k, hk with
  | 0, _ => exact okm_192
  | 1, _ => exact okm_193
  | 2, _ => exact okm_194
  | 3, _ => exact okm_195
  | 4, _ => exact okm_196
  | 5, _ => exact okm_197
  | 6, _ => exact okm_198
  | 7, _ => exact okm_199
  | 8, _ => exact okm_200
  | 9, _ => exact okm_201
  | 10, _ => exact okm_202
  | 11, _ => exact okm_203
  | 12, _ => exact okm_204
  | 13, _ => exact okm_205
  | 14, _ => exact okm_206
  | 15, _ => exact okm_207
  | k + 16, h => exact absurd h (by omega)
theorem okn_13 : ∀ k, k < 16 → pm_okm pm_md (208 + k) (pm_pl (208 + k)) = true := by
  intro k hk
  match k, hk with
  | 0, _ => exact okm_208
  | 1, _ => exact okm_209
  | 2, _ => exact okm_210
  | 3, _ => exact okm_211
  | 4, _ => exact okm_212
  | 5, _ => exact okm_213
  | 6, _ => exact okm_214
  | 7, _ => exact okm_215
  | 8, _ => exact okm_216
  | 9, _ => exact okm_217
  | 10, _ => exact okm_218
  | 11, _ => exact okm_219
  | 12, _ => exact okm_220
  | 13, _ => exact okm_221
  | 14, _ => exact okm_222
  | 15, _ => exact okm_223
  | k + 16, h => exact absurd h (by omega)
theorem okn_14 : ∀ k, k < 16 → pm_okm pm_md (224 + k) (pm_pl (224 + k)) = true := by
  intro k hk
  match k, hk with
  | 0, _ => exact okm_224
  | 1, _ => exact okm_225
  | 2, _ => exact okm_226
  | 3, _ => exact okm_227
  | 4, _ => exact okm_228
  | 5, _ => exact okm_229
  | 6, _ => exact okm_230
  | 7, _ => exact okm_231
  | 8, _ => exact okm_232
  | 9, _ => exact okm_233
  | 10, _ => exact okm_234
  | 11, _ => exact okm_235
  | 12, _ => exact okm_236
  | 13, _ => exact okm_237
  | 14, _ => exact okm_238
  | 15, _ => exact okm_239
  | k + 16, h => exact absurd h (by omega)
theorem okn_15 : ∀ k, k < 16 → pm_okm pm_md (240 + k) (pm_pl (240 + k)) = true := by
  intro k hk
  match k, hk with
  | 0, _ => exact okm_240
  | 1, _ => exact okm_241
  | 2, _ => exact okm_242
  | 3, _ => exact okm_243
  | 4, _ => exact okm_244
  | 5, _ => exact okm_245
  | 6, _ => exact okm_246
  | 7, _ => exact okm_247
  | 8, _ => exact okm_248
  | 9, _ => exact okm_249
  | 10, _ => exact okm_250
  | 11, _ => exact okm_251
  | 12, _ => exact okm_252
  | 13, _ => exact okm_253
  | 14, _ => exact okm_254
  | 15, _ => exact okm_255
  | k + 16, h => exact absurd h (by omega)
theorem okn_16 : ∀ k, k < 11 → pm_okm pm_md (256 + k) (pm_pl (256 + k)) = true := by
  intro k hk
  match k, hk with
  | 0, _ => exact okm_256
  | 1, _ => exact okm_257
  | 2, _ => exact okm_258
  | 3, _ => exact okm_259
  | 4, _ => exact okm_260
  | 5, _ => exact okm_261
  | 6, _ => exact okm_262
  | 7, _ => exact okm_263
  | 8, _ => exact okm_264
  | 9, _ => exact okm_265
  | 10, _ => exact okm_266
  | k + 11, h => exact absurd h (by omega)
theorem pm_ok_m {y : Nat} (h : y < 267) : pm_okm pm_md y (pm_pl y) = true := by
  rcases (by omega : (0 ≤ y ∧ y < 16) ∨ (16 ≤ y ∧ y < 32) ∨ (32 ≤ y ∧ y < 48) ∨ (48 ≤ y ∧ y < 64) ∨ (64 ≤ y ∧ y < 80) ∨ (80 ≤ y ∧ y < 96) ∨ (96 ≤ y ∧ y < 112) ∨ (112 ≤ y ∧ y < 128) ∨ (128 ≤ y ∧ y < 144) ∨ (144 ≤ y ∧ y < 160) ∨ (160 ≤ y ∧ y < 176) ∨ (176 ≤ y ∧ y < 192) ∨ (192 ≤ y ∧ y < 208) ∨ (208 ≤ y ∧ y < 224) ∨ (224 ≤ y ∧ y < 240) ∨ (240 ≤ y ∧ y < 256) ∨ (256 ≤ y ∧ y < 267)) with h | h | h | h | h | h | h | h | h | h | h | h | h | h | h | h | h
  · obtain ⟨k, rfl⟩ : ∃ k, y = 0 + k := ⟨y - 0, by omega⟩
    exact okn_0 k (by omega)
  · obtain ⟨k, rfl⟩ : ∃ k, y = 16 + k := ⟨y - 16, by omega⟩
    exact okn_1 k (by omega)
  · obtain ⟨k, rfl⟩ : ∃ k, y = 32 + k := ⟨y - 32, by omega⟩
    exact okn_2 k (by omega)
  · obtain ⟨k, rfl⟩ : ∃ k, y = 48 + k := ⟨y - 48, by omega⟩
    exact okn_3 k (by omega)
  · obtain ⟨k, rfl⟩ : ∃ k, y = 64 + k := ⟨y - 64, by omega⟩
    exact okn_4 k (by omega)
  · obtain ⟨k, rfl⟩ : ∃ k, y = 80 + k := ⟨y - 80, by omega⟩
    exact okn_5 k (by omega)
  · obtain ⟨k, rfl⟩ : ∃ k, y = 96 + k := ⟨y - 96, by omega⟩
    exact okn_6 k (by omega)
  · obtain ⟨k, rfl⟩ : ∃ k, y = 112 + k := ⟨y - 112, by omega⟩
    exact okn_7 k (by omega)
  · obtain ⟨k, rfl⟩ : ∃ k, y = 128 + k := ⟨y - 128, by omega⟩
    exact okn_8 k (by omega)
  · obtain ⟨k, rfl⟩ : ∃ k, y = 144 + k := ⟨y - 144, by omega⟩
    exact okn_9 k (by omega)
  · obtain ⟨k, rfl⟩ : ∃ k, y = 160 + k := ⟨y - 160, by omega⟩
    exact okn_10 k (by omega)
  · obtain ⟨k, rfl⟩ : ∃ k, y = 176 + k := ⟨y - 176, by omega⟩
    exact okn_11 k (by omega)
  · obtain ⟨k, rfl⟩ : ∃ k, y = 192 + k := ⟨y - 192, by omega⟩
    exact okn_12 k (by omega)
  · obtain ⟨k, rfl⟩ : ∃ k, y = 208 + k := ⟨y - 208, by omega⟩
    exact okn_13 k (by omega)
  · obtain ⟨k, rfl⟩ : ∃ k, y = 224 + k := ⟨y - 224, by omega⟩
    exact okn_14 k (by omega)
  · obtain ⟨k, rfl⟩ : ∃ k, y = 240 + k := ⟨y - 240, by omega⟩
    exact okn_15 k (by omega)
  · obtain ⟨k, rfl⟩ : ∃ k, y = 256 + k := ⟨y - 256, by omega⟩
    exact okn_16 k (by omega)
/-- the words that a callee gets by the state: links to nest mates, arrays of objects -/
def pm_nob (w : Jvm.Cond) : Bool := match w with
  | .methodLinkNest _ _ _ _ => true
  | .arrayOver (.object _) => true
  | _ => false
def pm_ug (w : Jvm.Cond) : Bool := goodWord w || pm_nob w
