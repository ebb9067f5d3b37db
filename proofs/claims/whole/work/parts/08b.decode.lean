/-! THE CODE of each method is what its bytes decode to: written by wip/gen/gen3.py -/
theorem md_200 : (mc_200).all (md_ok (mk_b 200)) = true := by decide +kernel
theorem md_201 : (mc_201).all (md_ok (mk_b 201)) = true := by decide +kernel
theorem md_202 : (mc_202).all (md_ok (mk_b 202)) = true := by decide +kernel
theorem md_203 : (mc_203).all (md_ok (mk_b 203)) = true := by decide +kernel
theorem md_204 : (mc_204).all (md_ok (mk_b 204)) = true := by decide +kernel
theorem md_205 : (mc_205).all (md_ok (mk_b 205)) = true := by decide +kernel
theorem md_206 : (mc_206).all (md_ok (mk_b 206)) = true := by decide +kernel
theorem md_207 : (mc_207).all (md_ok (mk_b 207)) = true := by decide +kernel
theorem md_208 : (mc_208).all (md_ok (mk_b 208)) = true := by decide +kernel
theorem md_209 : (mc_209).all (md_ok (mk_b 209)) = true := by decide +kernel
theorem md_210_0 : (((mc_210).drop 0).take 100).all (md_ok (mk_b 210)) = true := by decide +kernel
theorem md_210_100 : (((mc_210).drop 100).take 100).all (md_ok (mk_b 210)) = true := by decide +kernel
theorem md_210 : (mc_210).all (md_ok (mk_b 210)) = true := by
  have e : mc_210 = ((mc_210).drop 0).take 100 ++ (((mc_210).drop 100).take 100) := by decide +kernel
  rw [e]
  simp only [List.all_append, Bool.and_eq_true]
  exact ⟨md_210_0, md_210_100⟩
theorem md_211 : (mc_211).all (md_ok (mk_b 211)) = true := by decide +kernel
theorem md_212 : (mc_212).all (md_ok (mk_b 212)) = true := by decide +kernel
theorem md_213 : (mc_213).all (md_ok (mk_b 213)) = true := by decide +kernel
theorem md_214 : (mc_214).all (md_ok (mk_b 214)) = true := by decide +kernel
theorem md_215 : (mc_215).all (md_ok (mk_b 215)) = true := by decide +kernel
theorem md_216_0 : (((mc_216).drop 0).take 100).all (md_ok (mk_b 216)) = true := by decide +kernel
theorem md_216_100 : (((mc_216).drop 100).take 100).all (md_ok (mk_b 216)) = true := by decide +kernel
theorem md_216 : (mc_216).all (md_ok (mk_b 216)) = true := by
  have e : mc_216 = ((mc_216).drop 0).take 100 ++ (((mc_216).drop 100).take 100) := by decide +kernel
  rw [e]
  simp only [List.all_append, Bool.and_eq_true]
  exact ⟨md_216_0, md_216_100⟩
theorem md_217 : (mc_217).all (md_ok (mk_b 217)) = true := by decide +kernel
theorem md_218 : (mc_218).all (md_ok (mk_b 218)) = true := by decide +kernel
theorem md_219 : (mc_219).all (md_ok (mk_b 219)) = true := by decide +kernel
theorem md_220 : (mc_220).all (md_ok (mk_b 220)) = true := by decide +kernel
theorem md_221 : (mc_221).all (md_ok (mk_b 221)) = true := by decide +kernel
theorem md_222 : (mc_222).all (md_ok (mk_b 222)) = true := by decide +kernel
theorem md_223 : (mc_223).all (md_ok (mk_b 223)) = true := by decide +kernel
theorem md_224 : (mc_224).all (md_ok (mk_b 224)) = true := by decide +kernel
theorem md_225 : (mc_225).all (md_ok (mk_b 225)) = true := by decide +kernel
theorem md_226 : (mc_226).all (md_ok (mk_b 226)) = true := by decide +kernel
theorem md_227 : (mc_227).all (md_ok (mk_b 227)) = true := by decide +kernel
theorem md_228 : (mc_228).all (md_ok (mk_b 228)) = true := by decide +kernel
theorem md_229 : (mc_229).all (md_ok (mk_b 229)) = true := by decide +kernel
theorem md_230 : (mc_230).all (md_ok (mk_b 230)) = true := by decide +kernel
theorem md_231 : (mc_231).all (md_ok (mk_b 231)) = true := by decide +kernel
theorem md_232 : (mc_232).all (md_ok (mk_b 232)) = true := by decide +kernel
theorem md_233 : (mc_233).all (md_ok (mk_b 233)) = true := by decide +kernel
theorem md_234_0 : (((mc_234).drop 0).take 100).all (md_ok (mk_b 234)) = true := by decide +kernel
theorem md_234_100 : (((mc_234).drop 100).take 100).all (md_ok (mk_b 234)) = true := by decide +kernel
theorem md_234 : (mc_234).all (md_ok (mk_b 234)) = true := by
  have e : mc_234 = ((mc_234).drop 0).take 100 ++ (((mc_234).drop 100).take 100) := by decide +kernel
  rw [e]
  simp only [List.all_append, Bool.and_eq_true]
  exact ⟨md_234_0, md_234_100⟩
theorem md_235 : (mc_235).all (md_ok (mk_b 235)) = true := by decide +kernel
theorem md_236 : (mc_236).all (md_ok (mk_b 236)) = true := by decide +kernel
theorem md_237 : (mc_237).all (md_ok (mk_b 237)) = true := by decide +kernel
theorem md_238 : (mc_238).all (md_ok (mk_b 238)) = true := by decide +kernel
theorem md_239 : (mc_239).all (md_ok (mk_b 239)) = true := by decide +kernel
theorem md_240 : (mc_240).all (md_ok (mk_b 240)) = true := by decide +kernel
theorem md_241 : (mc_241).all (md_ok (mk_b 241)) = true := by decide +kernel
theorem md_242 : (mc_242).all (md_ok (mk_b 242)) = true := by decide +kernel
theorem md_243 : (mc_243).all (md_ok (mk_b 243)) = true := by decide +kernel
theorem md_244 : (mc_244).all (md_ok (mk_b 244)) = true := by decide +kernel
theorem md_245 : (mc_245).all (md_ok (mk_b 245)) = true := by decide +kernel
theorem md_246 : (mc_246).all (md_ok (mk_b 246)) = true := by decide +kernel
theorem md_247 : (mc_247).all (md_ok (mk_b 247)) = true := by decide +kernel
theorem md_248 : (mc_248).all (md_ok (mk_b 248)) = true := by decide +kernel
theorem md_249 : (mc_249).all (md_ok (mk_b 249)) = true := by decide +kernel
theorem md_250 : (mc_250).all (md_ok (mk_b 250)) = true := by decide +kernel
theorem md_251 : (mc_251).all (md_ok (mk_b 251)) = true := by decide +kernel
theorem md_252 : (mc_252).all (md_ok (mk_b 252)) = true := by decide +kernel
theorem md_253 : (mc_253).all (md_ok (mk_b 253)) = true := by decide +kernel
theorem md_254 : (mc_254).all (md_ok (mk_b 254)) = true := by decide +kernel
theorem md_255 : (mc_255).all (md_ok (mk_b 255)) = true := by decide +kernel
theorem md_256 : (mc_256).all (md_ok (mk_b 256)) = true := by decide +kernel
theorem md_257 : (mc_257).all (md_ok (mk_b 257)) = true := by decide +kernel
theorem md_258 : (mc_258).all (md_ok (mk_b 258)) = true := by decide +kernel
theorem md_259 : (mc_259).all (md_ok (mk_b 259)) = true := by decide +kernel
theorem md_260 : (mc_260).all (md_ok (mk_b 260)) = true := by decide +kernel
theorem md_261 : (mc_261).all (md_ok (mk_b 261)) = true := by decide +kernel
theorem md_262 : (mc_262).all (md_ok (mk_b 262)) = true := by decide +kernel
theorem md_263 : (mc_263).all (md_ok (mk_b 263)) = true := by decide +kernel
theorem md_264 : (mc_264).all (md_ok (mk_b 264)) = true := by decide +kernel
theorem md_265 : (mc_265).all (md_ok (mk_b 265)) = true := by decide +kernel
theorem md_266 : (mc_266).all (md_ok (mk_b 266)) = true := by decide +kernel
theorem md_267 : (mc_267).all (md_ok (mk_b 267)) = true := by decide +kernel
theorem md_268 : (mc_268).all (md_ok (mk_b 268)) = true := by decide +kernel
theorem md_269_0 : (((mc_269).drop 0).take 100).all (md_ok (mk_b 269)) = true := by decide +kernel
theorem md_269_100 : (((mc_269).drop 100).take 100).all (md_ok (mk_b 269)) = true := by decide +kernel
theorem md_269 : (mc_269).all (md_ok (mk_b 269)) = true := by
  have e : mc_269 = ((mc_269).drop 0).take 100 ++ (((mc_269).drop 100).take 100) := by decide +kernel
  rw [e]
  simp only [List.all_append, Bool.and_eq_true]
  exact ⟨md_269_0, md_269_100⟩
theorem md_270 : (mc_270).all (md_ok (mk_b 270)) = true := by decide +kernel
theorem md_271 : (mc_271).all (md_ok (mk_b 271)) = true := by decide +kernel
theorem md_272 : (mc_272).all (md_ok (mk_b 272)) = true := by decide +kernel
theorem md_273 : (mc_273).all (md_ok (mk_b 273)) = true := by decide +kernel
theorem md_274 : (mc_274).all (md_ok (mk_b 274)) = true := by decide +kernel
theorem md_275 : (mc_275).all (md_ok (mk_b 275)) = true := by decide +kernel
theorem md_276 : (mc_276).all (md_ok (mk_b 276)) = true := by decide +kernel
theorem md_277 : (mc_277).all (md_ok (mk_b 277)) = true := by decide +kernel
theorem md_278 : (mc_278).all (md_ok (mk_b 278)) = true := by decide +kernel
theorem md_279 : (mc_279).all (md_ok (mk_b 279)) = true := by decide +kernel
theorem md_280 : (mc_280).all (md_ok (mk_b 280)) = true := by decide +kernel
theorem md_281 : (mc_281).all (md_ok (mk_b 281)) = true := by decide +kernel
theorem md_282 : (mc_282).all (md_ok (mk_b 282)) = true := by decide +kernel
theorem md_283 : (mc_283).all (md_ok (mk_b 283)) = true := by decide +kernel
theorem md_284 : (mc_284).all (md_ok (mk_b 284)) = true := by decide +kernel
theorem md_285 : (mc_285).all (md_ok (mk_b 285)) = true := by decide +kernel
theorem md_286 : (mc_286).all (md_ok (mk_b 286)) = true := by decide +kernel
theorem md_287 : (mc_287).all (md_ok (mk_b 287)) = true := by decide +kernel
theorem md_288 : (mc_288).all (md_ok (mk_b 288)) = true := by decide +kernel
theorem md_289 : (mc_289).all (md_ok (mk_b 289)) = true := by decide +kernel
theorem md_290 : (mc_290).all (md_ok (mk_b 290)) = true := by decide +kernel
theorem md_291 : (mc_291).all (md_ok (mk_b 291)) = true := by decide +kernel
theorem md_292 : (mc_292).all (md_ok (mk_b 292)) = true := by decide +kernel
theorem md_293 : (mc_293).all (md_ok (mk_b 293)) = true := by decide +kernel
theorem md_294 : (mc_294).all (md_ok (mk_b 294)) = true := by decide +kernel
theorem md_295 : (mc_295).all (md_ok (mk_b 295)) = true := by decide +kernel
theorem md_296 : (mc_296).all (md_ok (mk_b 296)) = true := by decide +kernel
theorem md_297 : (mc_297).all (md_ok (mk_b 297)) = true := by decide +kernel
theorem md_298 : (mc_298).all (md_ok (mk_b 298)) = true := by decide +kernel
theorem md_299 : (mc_299).all (md_ok (mk_b 299)) = true := by decide +kernel
theorem md_300 : (mc_300).all (md_ok (mk_b 300)) = true := by decide +kernel
theorem md_301 : (mc_301).all (md_ok (mk_b 301)) = true := by decide +kernel
theorem md_302 : (mc_302).all (md_ok (mk_b 302)) = true := by decide +kernel
theorem md_303 : (mc_303).all (md_ok (mk_b 303)) = true := by decide +kernel
theorem md_304 : (mc_304).all (md_ok (mk_b 304)) = true := by decide +kernel
theorem md_305_0 : (((mc_305).drop 0).take 100).all (md_ok (mk_b 305)) = true := by decide +kernel
theorem md_305_100 : (((mc_305).drop 100).take 100).all (md_ok (mk_b 305)) = true := by decide +kernel
theorem md_305_200 : (((mc_305).drop 200).take 100).all (md_ok (mk_b 305)) = true := by decide +kernel
theorem md_305_300 : (((mc_305).drop 300).take 100).all (md_ok (mk_b 305)) = true := by decide +kernel
theorem md_305_400 : (((mc_305).drop 400).take 100).all (md_ok (mk_b 305)) = true := by decide +kernel
theorem md_305_500 : (((mc_305).drop 500).take 100).all (md_ok (mk_b 305)) = true := by decide +kernel
theorem md_305_600 : (((mc_305).drop 600).take 100).all (md_ok (mk_b 305)) = true := by decide +kernel
theorem md_305_700 : (((mc_305).drop 700).take 100).all (md_ok (mk_b 305)) = true := by decide +kernel
theorem md_305 : (mc_305).all (md_ok (mk_b 305)) = true := by
  have e : mc_305 = ((mc_305).drop 0).take 100 ++ (((mc_305).drop 100).take 100 ++ (((mc_305).drop 200).take 100 ++ (((mc_305).drop 300).take 100 ++ (((mc_305).drop 400).take 100 ++ (((mc_305).drop 500).take 100 ++ (((mc_305).drop 600).take 100 ++ (((mc_305).drop 700).take 100))))))) := by decide +kernel
  rw [e]
  simp only [List.all_append, Bool.and_eq_true]
  exact ⟨md_305_0, ⟨md_305_100, ⟨md_305_200, ⟨md_305_300, ⟨md_305_400, ⟨md_305_500, ⟨md_305_600, md_305_700⟩⟩⟩⟩⟩⟩⟩
theorem md_306 : (mc_306).all (md_ok (mk_b 306)) = true := by decide +kernel
theorem md_all : ∀ mi, mi < 307 → (mp_cd.getD mi []).all (md_ok (mk_b mi)) = true := by
  intro mi h
  match mi, h with
  | 0, _ => exact md_0
  | 1, _ => exact md_1
  | 2, _ => exact md_2
  | 3, _ => exact md_3
  | 4, _ => exact md_4
  | 5, _ => exact md_5
  | 6, _ => exact md_6
  | 7, _ => exact md_7
  | 8, _ => exact md_8
  | 9, _ => exact md_9
  | 10, _ => exact md_10
  | 11, _ => exact md_11
  | 12, _ => exact md_12
  | 13, _ => exact md_13
  | 14, _ => exact md_14
  | 15, _ => exact md_15
  | 16, _ => exact md_16
  | 17, _ => exact md_17
  | 18, _ => exact md_18
  | 19, _ => exact md_19
  | 20, _ => exact md_20
  | 21, _ => exact md_21
  | 22, _ => exact md_22
  | 23, _ => exact md_23
  | 24, _ => exact md_24
  | 25, _ => exact md_25
  | 26, _ => exact md_26
  | 27, _ => exact md_27
  | 28, _ => exact md_28
  | 29, _ => exact md_29
  | 30, _ => exact md_30
  | 31, _ => exact md_31
  | 32, _ => exact md_32
  | 33, _ => exact md_33
  | 34, _ => exact md_34
  | 35, _ => exact md_35
  | 36, _ => exact md_36
  | 37, _ => exact md_37
  | 38, _ => exact md_38
  | 39, _ => exact md_39
  | 40, _ => exact md_40
  | 41, _ => exact md_41
  | 42, _ => exact md_42
  | 43, _ => exact md_43
  | 44, _ => exact md_44
  | 45, _ => exact md_45
  | 46, _ => exact md_46
  | 47, _ => exact md_47
  | 48, _ => exact md_48
  | 49, _ => exact md_49
  | 50, _ => exact md_50
  | 51, _ => exact md_51
  | 52, _ => exact md_52
  | 53, _ => exact md_53
  | 54, _ => exact md_54
  | 55, _ => exact md_55
  | 56, _ => exact md_56
  | 57, _ => exact md_57
  | 58, _ => exact md_58
  | 59, _ => exact md_59
  | 60, _ => exact md_60
  | 61, _ => exact md_61
  | 62, _ => exact md_62
  | 63, _ => exact md_63
  | 64, _ => exact md_64
  | 65, _ => exact md_65
  | 66, _ => exact md_66
  | 67, _ => exact md_67
  | 68, _ => exact md_68
  | 69, _ => exact md_69
  | 70, _ => exact md_70
  | 71, _ => exact md_71
  | 72, _ => exact md_72
  | 73, _ => exact md_73
  | 74, _ => exact md_74
  | 75, _ => exact md_75
  | 76, _ => exact md_76
  | 77, _ => exact md_77
  | 78, _ => exact md_78
  | 79, _ => exact md_79
  | 80, _ => exact md_80
  | 81, _ => exact md_81
  | 82, _ => exact md_82
  | 83, _ => exact md_83
  | 84, _ => exact md_84
  | 85, _ => exact md_85
  | 86, _ => exact md_86
  | 87, _ => exact md_87
  | 88, _ => exact md_88
  | 89, _ => exact md_89
  | 90, _ => exact md_90
  | 91, _ => exact md_91
  | 92, _ => exact md_92
  | 93, _ => exact md_93
  | 94, _ => exact md_94
  | 95, _ => exact md_95
  | 96, _ => exact md_96
  | 97, _ => exact md_97
  | 98, _ => exact md_98
  | 99, _ => exact md_99
  | 100, _ => exact md_100
  | 101, _ => exact md_101
  | 102, _ => exact md_102
  | 103, _ => exact md_103
  | 104, _ => exact md_104
  | 105, _ => exact md_105
  | 106, _ => exact md_106
  | 107, _ => exact md_107
  | 108, _ => exact md_108
  | 109, _ => exact md_109
  | 110, _ => exact md_110
  | 111, _ => exact md_111
  | 112, _ => exact md_112
  | 113, _ => exact md_113
  | 114, _ => exact md_114
  | 115, _ => exact md_115
  | 116, _ => exact md_116
  | 117, _ => exact md_117
  | 118, _ => exact md_118
  | 119, _ => exact md_119
  | 120, _ => exact md_120
  | 121, _ => exact md_121
  | 122, _ => exact md_122
  | 123, _ => exact md_123
  | 124, _ => exact md_124
  | 125, _ => exact md_125
  | 126, _ => exact md_126
  | 127, _ => exact md_127
  | 128, _ => exact md_128
  | 129, _ => exact md_129
  | 130, _ => exact md_130
  | 131, _ => exact md_131
  | 132, _ => exact md_132
  | 133, _ => exact md_133
  | 134, _ => exact md_134
  | 135, _ => exact md_135
  | 136, _ => exact md_136
  | 137, _ => exact md_137
  | 138, _ => exact md_138
  | 139, _ => exact md_139
  | 140, _ => exact md_140
  | 141, _ => exact md_141
  | 142, _ => exact md_142
  | 143, _ => exact md_143
  | 144, _ => exact md_144
  | 145, _ => exact md_145
  | 146, _ => exact md_146
  | 147, _ => exact md_147
  | 148, _ => exact md_148
  | 149, _ => exact md_149
  | 150, _ => exact md_150
  | 151, _ => exact md_151
  | 152, _ => exact md_152
  | 153, _ => exact md_153
  | 154, _ => exact md_154
  | 155, _ => exact md_155
  | 156, _ => exact md_156
  | 157, _ => exact md_157
  | 158, _ => exact md_158
  | 159, _ => exact md_159
  | 160, _ => exact md_160
  | 161, _ => exact md_161
  | 162, _ => exact md_162
  | 163, _ => exact md_163
  | 164, _ => exact md_164
  | 165, _ => exact md_165
  | 166, _ => exact md_166
  | 167, _ => exact md_167
  | 168, _ => exact md_168
  | 169, _ => exact md_169
  | 170, _ => exact md_170
  | 171, _ => exact md_171
  | 172, _ => exact md_172
  | 173, _ => exact md_173
  | 174, _ => exact md_174
  | 175, _ => exact md_175
  | 176, _ => exact md_176
  | 177, _ => exact md_177
  | 178, _ => exact md_178
  | 179, _ => exact md_179
  | 180, _ => exact md_180
  | 181, _ => exact md_181
  | 182, _ => exact md_182
  | 183, _ => exact md_183
  | 184, _ => exact md_184
  | 185, _ => exact md_185
  | 186, _ => exact md_186
  | 187, _ => exact md_187
  | 188, _ => exact md_188
  | 189, _ => exact md_189
  | 190, _ => exact md_190
  | 191, _ => exact md_191
  | 192, _ => exact md_192
  | 193, _ => exact md_193
  | 194, _ => exact md_194
  | 195, _ => exact md_195
  | 196, _ => exact md_196
  | 197, _ => exact md_197
  | 198, _ => exact md_198
  | 199, _ => exact md_199
  | 200, _ => exact md_200
  | 201, _ => exact md_201
  | 202, _ => exact md_202
  | 203, _ => exact md_203
  | 204, _ => exact md_204
  | 205, _ => exact md_205
  | 206, _ => exact md_206
  | 207, _ => exact md_207
  | 208, _ => exact md_208
  | 209, _ => exact md_209
  | 210, _ => exact md_210
  | 211, _ => exact md_211
  | 212, _ => exact md_212
  | 213, _ => exact md_213
  | 214, _ => exact md_214
  | 215, _ => exact md_215
  | 216, _ => exact md_216
  | 217, _ => exact md_217
  | 218, _ => exact md_218
  | 219, _ => exact md_219
  | 220, _ => exact md_220
  | 221, _ => exact md_221
  | 222, _ => exact md_222
  | 223, _ => exact md_223
  | 224, _ => exact md_224
  | 225, _ => exact md_225
  | 226, _ => exact md_226
  | 227, _ => exact md_227
  | 228, _ => exact md_228
  | 229, _ => exact md_229
  | 230, _ => exact md_230
  | 231, _ => exact md_231
  | 232, _ => exact md_232
  | 233, _ => exact md_233
  | 234, _ => exact md_234
  | 235, _ => exact md_235
  | 236, _ => exact md_236
  | 237, _ => exact md_237
  | 238, _ => exact md_238
  | 239, _ => exact md_239
  | 240, _ => exact md_240
  | 241, _ => exact md_241
  | 242, _ => exact md_242
  | 243, _ => exact md_243
  | 244, _ => exact md_244
  | 245, _ => exact md_245
  | 246, _ => exact md_246
  | 247, _ => exact md_247
  | 248, _ => exact md_248
  | 249, _ => exact md_249
  | 250, _ => exact md_250
  | 251, _ => exact md_251
  | 252, _ => exact md_252
  | 253, _ => exact md_253
  | 254, _ => exact md_254
  | 255, _ => exact md_255
  | 256, _ => exact md_256
  | 257, _ => exact md_257
  | 258, _ => exact md_258
  | 259, _ => exact md_259
  | 260, _ => exact md_260
  | 261, _ => exact md_261
  | 262, _ => exact md_262
  | 263, _ => exact md_263
  | 264, _ => exact md_264
  | 265, _ => exact md_265
  | 266, _ => exact md_266
  | 267, _ => exact md_267
  | 268, _ => exact md_268
  | 269, _ => exact md_269
  | 270, _ => exact md_270
  | 271, _ => exact md_271
  | 272, _ => exact md_272
  | 273, _ => exact md_273
  | 274, _ => exact md_274
  | 275, _ => exact md_275
  | 276, _ => exact md_276
  | 277, _ => exact md_277
  | 278, _ => exact md_278
  | 279, _ => exact md_279
  | 280, _ => exact md_280
  | 281, _ => exact md_281
  | 282, _ => exact md_282
  | 283, _ => exact md_283
  | 284, _ => exact md_284
  | 285, _ => exact md_285
  | 286, _ => exact md_286
  | 287, _ => exact md_287
  | 288, _ => exact md_288
  | 289, _ => exact md_289
  | 290, _ => exact md_290
  | 291, _ => exact md_291
  | 292, _ => exact md_292
  | 293, _ => exact md_293
  | 294, _ => exact md_294
  | 295, _ => exact md_295
  | 296, _ => exact md_296
  | 297, _ => exact md_297
  | 298, _ => exact md_298
  | 299, _ => exact md_299
  | 300, _ => exact md_300
  | 301, _ => exact md_301
  | 302, _ => exact md_302
  | 303, _ => exact md_303
  | 304, _ => exact md_304
  | 305, _ => exact md_305
  | 306, _ => exact md_306
  | n + 307, h => exact absurd h (by omega)
