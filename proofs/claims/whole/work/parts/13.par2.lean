abbrev M_X11_lookup : g_M := (cX11_lookup, 2, RX11, (some .int), { frames := 0, cells := 0, slots := 0, locals := 0 }, 0, 0)
theorem dm_X11_lookup_0 : decode M_X11_lookup.1 0 = .ok (.lload_n 0, 1) := by decide +kernel
theorem dm_X11_lookup_1 : decode M_X11_lookup.1 1 = .ok (.ldc2_w 114, 3) := by decide +kernel
theorem dm_X11_lookup_4 : decode M_X11_lookup.1 4 = .ok (.lcmp, 1) := by decide +kernel
theorem dm_X11_lookup_5 : decode M_X11_lookup.1 5 = .ok (.ifCond .ne 7, 3) := by decide +kernel
theorem dm_X11_lookup_8 : decode M_X11_lookup.1 8 = .ok (.sipush 887, 3) := by decide +kernel
theorem dm_X11_lookup_11 : decode M_X11_lookup.1 11 = .ok (.ireturn, 1) := by decide +kernel
theorem dm_X11_lookup_12 : decode M_X11_lookup.1 12 = .ok (.lload_n 0, 1) := by decide +kernel
theorem dm_X11_lookup_13 : decode M_X11_lookup.1 13 = .ok (.ldc2_w 116, 3) := by decide +kernel
theorem dm_X11_lookup_16 : decode M_X11_lookup.1 16 = .ok (.lcmp, 1) := by decide +kernel
theorem dm_X11_lookup_17 : decode M_X11_lookup.1 17 = .ok (.ifCond .ne 7, 3) := by decide +kernel
theorem dm_X11_lookup_20 : decode M_X11_lookup.1 20 = .ok (.sipush 1782, 3) := by decide +kernel
theorem dm_X11_lookup_23 : decode M_X11_lookup.1 23 = .ok (.ireturn, 1) := by decide +kernel
theorem dm_X11_lookup_24 : decode M_X11_lookup.1 24 = .ok (.lload_n 0, 1) := by decide +kernel
theorem dm_X11_lookup_25 : decode M_X11_lookup.1 25 = .ok (.ldc2_w 118, 3) := by decide +kernel
theorem dm_X11_lookup_28 : decode M_X11_lookup.1 28 = .ok (.lcmp, 1) := by decide +kernel
theorem dm_X11_lookup_29 : decode M_X11_lookup.1 29 = .ok (.ifCond .ne 7, 3) := by decide +kernel
theorem dm_X11_lookup_32 : decode M_X11_lookup.1 32 = .ok (.sipush 1651, 3) := by decide +kernel
theorem dm_X11_lookup_35 : decode M_X11_lookup.1 35 = .ok (.ireturn, 1) := by decide +kernel
theorem dm_X11_lookup_36 : decode M_X11_lookup.1 36 = .ok (.lload_n 0, 1) := by decide +kernel
theorem dm_X11_lookup_37 : decode M_X11_lookup.1 37 = .ok (.ldc2_w 120, 3) := by decide +kernel
theorem dm_X11_lookup_40 : decode M_X11_lookup.1 40 = .ok (.lcmp, 1) := by decide +kernel
theorem dm_X11_lookup_41 : decode M_X11_lookup.1 41 = .ok (.ifCond .ne 7, 3) := by decide +kernel
theorem dm_X11_lookup_44 : decode M_X11_lookup.1 44 = .ok (.sipush 1589, 3) := by decide +kernel
theorem dm_X11_lookup_47 : decode M_X11_lookup.1 47 = .ok (.ireturn, 1) := by decide +kernel
theorem dm_X11_lookup_48 : decode M_X11_lookup.1 48 = .ok (.lload_n 0, 1) := by decide +kernel
theorem dm_X11_lookup_49 : decode M_X11_lookup.1 49 = .ok (.ldc2_w 122, 3) := by decide +kernel
theorem dm_X11_lookup_52 : decode M_X11_lookup.1 52 = .ok (.lcmp, 1) := by decide +kernel
theorem dm_X11_lookup_53 : decode M_X11_lookup.1 53 = .ok (.ifCond .ne 7, 3) := by decide +kernel
theorem dm_X11_lookup_56 : decode M_X11_lookup.1 56 = .ok (.sipush 3637, 3) := by decide +kernel
theorem dm_X11_lookup_59 : decode M_X11_lookup.1 59 = .ok (.ireturn, 1) := by decide +kernel
theorem dm_X11_lookup_60 : decode M_X11_lookup.1 60 = .ok (.lload_n 0, 1) := by decide +kernel
theorem dm_X11_lookup_61 : decode M_X11_lookup.1 61 = .ok (.ldc2_w 124, 3) := by decide +kernel
theorem dm_X11_lookup_64 : decode M_X11_lookup.1 64 = .ok (.lcmp, 1) := by decide +kernel
theorem dm_X11_lookup_65 : decode M_X11_lookup.1 65 = .ok (.ifCond .ne 7, 3) := by decide +kernel
theorem dm_X11_lookup_68 : decode M_X11_lookup.1 68 = .ok (.sipush 9781, 3) := by decide +kernel
theorem dm_X11_lookup_71 : decode M_X11_lookup.1 71 = .ok (.ireturn, 1) := by decide +kernel
theorem dm_X11_lookup_72 : decode M_X11_lookup.1 72 = .ok (.lload_n 0, 1) := by decide +kernel
theorem dm_X11_lookup_73 : decode M_X11_lookup.1 73 = .ok (.ldc2_w 126, 3) := by decide +kernel
theorem dm_X11_lookup_76 : decode M_X11_lookup.1 76 = .ok (.lcmp, 1) := by decide +kernel
theorem dm_X11_lookup_77 : decode M_X11_lookup.1 77 = .ok (.ifCond .ne 7, 3) := by decide +kernel
theorem dm_X11_lookup_80 : decode M_X11_lookup.1 80 = .ok (.sipush 11829, 3) := by decide +kernel
theorem dm_X11_lookup_83 : decode M_X11_lookup.1 83 = .ok (.ireturn, 1) := by decide +kernel
theorem dm_X11_lookup_84 : decode M_X11_lookup.1 84 = .ok (.lload_n 0, 1) := by decide +kernel
theorem dm_X11_lookup_85 : decode M_X11_lookup.1 85 = .ok (.ldc2_w 128, 3) := by decide +kernel
theorem dm_X11_lookup_88 : decode M_X11_lookup.1 88 = .ok (.lcmp, 1) := by decide +kernel
theorem dm_X11_lookup_89 : decode M_X11_lookup.1 89 = .ok (.ifCond .ne 7, 3) := by decide +kernel
theorem dm_X11_lookup_92 : decode M_X11_lookup.1 92 = .ok (.sipush 13877, 3) := by decide +kernel
theorem dm_X11_lookup_95 : decode M_X11_lookup.1 95 = .ok (.ireturn, 1) := by decide +kernel
theorem dm_X11_lookup_96 : decode M_X11_lookup.1 96 = .ok (.lload_n 0, 1) := by decide +kernel
theorem dm_X11_lookup_97 : decode M_X11_lookup.1 97 = .ok (.ldc2_w 130, 3) := by decide +kernel
theorem dm_X11_lookup_100 : decode M_X11_lookup.1 100 = .ok (.lcmp, 1) := by decide +kernel
theorem dm_X11_lookup_101 : decode M_X11_lookup.1 101 = .ok (.ifCond .ne 7, 3) := by decide +kernel
theorem dm_X11_lookup_104 : decode M_X11_lookup.1 104 = .ok (.sipush 15925, 3) := by decide +kernel
theorem dm_X11_lookup_107 : decode M_X11_lookup.1 107 = .ok (.ireturn, 1) := by decide +kernel
theorem dm_X11_lookup_108 : decode M_X11_lookup.1 108 = .ok (.lload_n 0, 1) := by decide +kernel
theorem dm_X11_lookup_109 : decode M_X11_lookup.1 109 = .ok (.ldc2_w 132, 3) := by decide +kernel
theorem dm_X11_lookup_112 : decode M_X11_lookup.1 112 = .ok (.lcmp, 1) := by decide +kernel
theorem dm_X11_lookup_113 : decode M_X11_lookup.1 113 = .ok (.ifCond .ne 7, 3) := by decide +kernel
theorem dm_X11_lookup_116 : decode M_X11_lookup.1 116 = .ok (.sipush 4147, 3) := by decide +kernel
theorem dm_X11_lookup_119 : decode M_X11_lookup.1 119 = .ok (.ireturn, 1) := by decide +kernel
theorem dm_X11_lookup_120 : decode M_X11_lookup.1 120 = .ok (.lload_n 0, 1) := by decide +kernel
theorem dm_X11_lookup_121 : decode M_X11_lookup.1 121 = .ok (.ldc2_w 134, 3) := by decide +kernel
theorem dm_X11_lookup_124 : decode M_X11_lookup.1 124 = .ok (.lcmp, 1) := by decide +kernel
theorem dm_X11_lookup_125 : decode M_X11_lookup.1 125 = .ok (.ifCond .ne 6, 3) := by decide +kernel
theorem dm_X11_lookup_128 : decode M_X11_lookup.1 128 = .ok (.bipush 51, 2) := by decide +kernel
theorem dm_X11_lookup_130 : decode M_X11_lookup.1 130 = .ok (.ireturn, 1) := by decide +kernel
theorem dm_X11_lookup_131 : decode M_X11_lookup.1 131 = .ok (.lload_n 0, 1) := by decide +kernel
theorem dm_X11_lookup_132 : decode M_X11_lookup.1 132 = .ok (.ldc2_w 136, 3) := by decide +kernel
theorem dm_X11_lookup_135 : decode M_X11_lookup.1 135 = .ok (.lcmp, 1) := by decide +kernel
theorem dm_X11_lookup_136 : decode M_X11_lookup.1 136 = .ok (.ifCond .ne 7, 3) := by decide +kernel
theorem dm_X11_lookup_139 : decode M_X11_lookup.1 139 = .ok (.sipush 8243, 3) := by decide +kernel
theorem dm_X11_lookup_142 : decode M_X11_lookup.1 142 = .ok (.ireturn, 1) := by decide +kernel
theorem dm_X11_lookup_143 : decode M_X11_lookup.1 143 = .ok (.lload_n 0, 1) := by decide +kernel
theorem dm_X11_lookup_144 : decode M_X11_lookup.1 144 = .ok (.ldc2_w 138, 3) := by decide +kernel
theorem dm_X11_lookup_147 : decode M_X11_lookup.1 147 = .ok (.lcmp, 1) := by decide +kernel
theorem dm_X11_lookup_148 : decode M_X11_lookup.1 148 = .ok (.ifCond .ne 7, 3) := by decide +kernel
theorem dm_X11_lookup_151 : decode M_X11_lookup.1 151 = .ok (.sipush 4660, 3) := by decide +kernel
theorem dm_X11_lookup_154 : decode M_X11_lookup.1 154 = .ok (.ireturn, 1) := by decide +kernel
theorem dm_X11_lookup_155 : decode M_X11_lookup.1 155 = .ok (.lload_n 0, 1) := by decide +kernel
theorem dm_X11_lookup_156 : decode M_X11_lookup.1 156 = .ok (.ldc2_w 140, 3) := by decide +kernel
theorem dm_X11_lookup_159 : decode M_X11_lookup.1 159 = .ok (.lcmp, 1) := by decide +kernel
theorem dm_X11_lookup_160 : decode M_X11_lookup.1 160 = .ok (.ifCond .ne 7, 3) := by decide +kernel
theorem dm_X11_lookup_163 : decode M_X11_lookup.1 163 = .ok (.sipush 564, 3) := by decide +kernel
theorem dm_X11_lookup_166 : decode M_X11_lookup.1 166 = .ok (.ireturn, 1) := by decide +kernel
theorem dm_X11_lookup_167 : decode M_X11_lookup.1 167 = .ok (.lload_n 0, 1) := by decide +kernel
theorem dm_X11_lookup_168 : decode M_X11_lookup.1 168 = .ok (.ldc2_w 142, 3) := by decide +kernel
theorem dm_X11_lookup_171 : decode M_X11_lookup.1 171 = .ok (.lcmp, 1) := by decide +kernel
theorem dm_X11_lookup_172 : decode M_X11_lookup.1 172 = .ok (.ifCond .ne 7, 3) := by decide +kernel
theorem dm_X11_lookup_175 : decode M_X11_lookup.1 175 = .ok (.sipush 306, 3) := by decide +kernel
theorem dm_X11_lookup_178 : decode M_X11_lookup.1 178 = .ok (.ireturn, 1) := by decide +kernel
theorem dm_X11_lookup_179 : decode M_X11_lookup.1 179 = .ok (.lload_n 0, 1) := by decide +kernel
theorem dm_X11_lookup_180 : decode M_X11_lookup.1 180 = .ok (.ldc2_w 144, 3) := by decide +kernel
theorem dm_X11_lookup_183 : decode M_X11_lookup.1 183 = .ok (.lcmp, 1) := by decide +kernel
theorem dm_X11_lookup_184 : decode M_X11_lookup.1 184 = .ok (.ifCond .ne 7, 3) := by decide +kernel
theorem dm_X11_lookup_187 : decode M_X11_lookup.1 187 = .ok (.sipush 4402, 3) := by decide +kernel
theorem dm_X11_lookup_190 : decode M_X11_lookup.1 190 = .ok (.ireturn, 1) := by decide +kernel
theorem dm_X11_lookup_191 : decode M_X11_lookup.1 191 = .ok (.lload_n 0, 1) := by decide +kernel
theorem dm_X11_lookup_192 : decode M_X11_lookup.1 192 = .ok (.ldc2_w 146, 3) := by decide +kernel
theorem dm_X11_lookup_195 : decode M_X11_lookup.1 195 = .ok (.lcmp, 1) := by decide +kernel
theorem dm_X11_lookup_196 : decode M_X11_lookup.1 196 = .ok (.ifCond .ne 7, 3) := by decide +kernel
theorem dm_X11_lookup_199 : decode M_X11_lookup.1 199 = .ok (.sipush 6450, 3) := by decide +kernel
theorem dm_X11_lookup_202 : decode M_X11_lookup.1 202 = .ok (.ireturn, 1) := by decide +kernel
theorem dm_X11_lookup_203 : decode M_X11_lookup.1 203 = .ok (.lload_n 0, 1) := by decide +kernel
theorem dm_X11_lookup_204 : decode M_X11_lookup.1 204 = .ok (.ldc2_w 148, 3) := by decide +kernel
theorem dm_X11_lookup_207 : decode M_X11_lookup.1 207 = .ok (.lcmp, 1) := by decide +kernel
theorem dm_X11_lookup_208 : decode M_X11_lookup.1 208 = .ok (.ifCond .ne 7, 3) := by decide +kernel
theorem dm_X11_lookup_211 : decode M_X11_lookup.1 211 = .ok (.sipush 8498, 3) := by decide +kernel
theorem dm_X11_lookup_214 : decode M_X11_lookup.1 214 = .ok (.ireturn, 1) := by decide +kernel
theorem dm_X11_lookup_215 : decode M_X11_lookup.1 215 = .ok (.lload_n 0, 1) := by decide +kernel
theorem dm_X11_lookup_216 : decode M_X11_lookup.1 216 = .ok (.ldc2_w 150, 3) := by decide +kernel
theorem dm_X11_lookup_219 : decode M_X11_lookup.1 219 = .ok (.lcmp, 1) := by decide +kernel
theorem dm_X11_lookup_220 : decode M_X11_lookup.1 220 = .ok (.ifCond .ne 7, 3) := by decide +kernel
theorem dm_X11_lookup_223 : decode M_X11_lookup.1 223 = .ok (.sipush 12594, 3) := by decide +kernel
theorem dm_X11_lookup_226 : decode M_X11_lookup.1 226 = .ok (.ireturn, 1) := by decide +kernel
theorem dm_X11_lookup_227 : decode M_X11_lookup.1 227 = .ok (.lload_n 0, 1) := by decide +kernel
theorem dm_X11_lookup_228 : decode M_X11_lookup.1 228 = .ok (.ldc2_w 152, 3) := by decide +kernel
theorem dm_X11_lookup_231 : decode M_X11_lookup.1 231 = .ok (.lcmp, 1) := by decide +kernel
theorem dm_X11_lookup_232 : decode M_X11_lookup.1 232 = .ok (.ifCond .ne 7, 3) := by decide +kernel
theorem dm_X11_lookup_235 : decode M_X11_lookup.1 235 = .ok (.sipush 14642, 3) := by decide +kernel
theorem dm_X11_lookup_238 : decode M_X11_lookup.1 238 = .ok (.ireturn, 1) := by decide +kernel
theorem dm_X11_lookup_239 : decode M_X11_lookup.1 239 = .ok (.lload_n 0, 1) := by decide +kernel
theorem dm_X11_lookup_240 : decode M_X11_lookup.1 240 = .ok (.ldc2_w 154, 3) := by decide +kernel
theorem dm_X11_lookup_243 : decode M_X11_lookup.1 243 = .ok (.lcmp, 1) := by decide +kernel
theorem dm_X11_lookup_244 : decode M_X11_lookup.1 244 = .ok (.ifCond .ne 7, 3) := by decide +kernel
theorem dm_X11_lookup_247 : decode M_X11_lookup.1 247 = .ok (.sipush 2360, 3) := by decide +kernel
theorem dm_X11_lookup_250 : decode M_X11_lookup.1 250 = .ok (.ireturn, 1) := by decide +kernel
theorem dm_X11_lookup_251 : decode M_X11_lookup.1 251 = .ok (.lload_n 0, 1) := by decide +kernel
theorem dm_X11_lookup_252 : decode M_X11_lookup.1 252 = .ok (.ldc2_w 156, 3) := by decide +kernel
theorem dm_X11_lookup_255 : decode M_X11_lookup.1 255 = .ok (.lcmp, 1) := by decide +kernel
theorem dm_X11_lookup_256 : decode M_X11_lookup.1 256 = .ok (.ifCond .ne 7, 3) := by decide +kernel
theorem dm_X11_lookup_259 : decode M_X11_lookup.1 259 = .ok (.sipush 10552, 3) := by decide +kernel
theorem dm_X11_lookup_262 : decode M_X11_lookup.1 262 = .ok (.ireturn, 1) := by decide +kernel
theorem dm_X11_lookup_263 : decode M_X11_lookup.1 263 = .ok (.lload_n 0, 1) := by decide +kernel
theorem dm_X11_lookup_264 : decode M_X11_lookup.1 264 = .ok (.ldc2_w 158, 3) := by decide +kernel
theorem dm_X11_lookup_267 : decode M_X11_lookup.1 267 = .ok (.lcmp, 1) := by decide +kernel
theorem dm_X11_lookup_268 : decode M_X11_lookup.1 268 = .ok (.ifCond .ne 6, 3) := by decide +kernel
theorem dm_X11_lookup_271 : decode M_X11_lookup.1 271 = .ok (.ldc 160, 2) := by decide +kernel
theorem dm_X11_lookup_273 : decode M_X11_lookup.1 273 = .ok (.ireturn, 1) := by decide +kernel
theorem dm_X11_lookup_274 : decode M_X11_lookup.1 274 = .ok (.lload_n 0, 1) := by decide +kernel
theorem dm_X11_lookup_275 : decode M_X11_lookup.1 275 = .ok (.ldc2_w 161, 3) := by decide +kernel
theorem dm_X11_lookup_278 : decode M_X11_lookup.1 278 = .ok (.lcmp, 1) := by decide +kernel
theorem dm_X11_lookup_279 : decode M_X11_lookup.1 279 = .ok (.ifCond .ne 7, 3) := by decide +kernel
theorem dm_X11_lookup_282 : decode M_X11_lookup.1 282 = .ok (.sipush 817, 3) := by decide +kernel
theorem dm_X11_lookup_285 : decode M_X11_lookup.1 285 = .ok (.ireturn, 1) := by decide +kernel
theorem dm_X11_lookup_286 : decode M_X11_lookup.1 286 = .ok (.lload_n 0, 1) := by decide +kernel
theorem dm_X11_lookup_287 : decode M_X11_lookup.1 287 = .ok (.ldc2_w 163, 3) := by decide +kernel
theorem dm_X11_lookup_290 : decode M_X11_lookup.1 290 = .ok (.lcmp, 1) := by decide +kernel
theorem dm_X11_lookup_291 : decode M_X11_lookup.1 291 = .ok (.ifCond .ne 7, 3) := by decide +kernel
theorem dm_X11_lookup_294 : decode M_X11_lookup.1 294 = .ok (.sipush 2865, 3) := by decide +kernel
theorem dm_X11_lookup_297 : decode M_X11_lookup.1 297 = .ok (.ireturn, 1) := by decide +kernel
theorem dm_X11_lookup_298 : decode M_X11_lookup.1 298 = .ok (.lload_n 0, 1) := by decide +kernel
theorem dm_X11_lookup_299 : decode M_X11_lookup.1 299 = .ok (.ldc2_w 165, 3) := by decide +kernel
theorem dm_X11_lookup_302 : decode M_X11_lookup.1 302 = .ok (.lcmp, 1) := by decide +kernel
theorem dm_X11_lookup_303 : decode M_X11_lookup.1 303 = .ok (.ifCond .ne 7, 3) := by decide +kernel
theorem dm_X11_lookup_306 : decode M_X11_lookup.1 306 = .ok (.sipush 4913, 3) := by decide +kernel
theorem dm_X11_lookup_309 : decode M_X11_lookup.1 309 = .ok (.ireturn, 1) := by decide +kernel
theorem dm_X11_lookup_310 : decode M_X11_lookup.1 310 = .ok (.lload_n 0, 1) := by decide +kernel
theorem dm_X11_lookup_311 : decode M_X11_lookup.1 311 = .ok (.ldc2_w 167, 3) := by decide +kernel
theorem dm_X11_lookup_314 : decode M_X11_lookup.1 314 = .ok (.lcmp, 1) := by decide +kernel
theorem dm_X11_lookup_315 : decode M_X11_lookup.1 315 = .ok (.ifCond .ne 7, 3) := by decide +kernel
theorem dm_X11_lookup_318 : decode M_X11_lookup.1 318 = .ok (.sipush 6961, 3) := by decide +kernel
theorem dm_X11_lookup_321 : decode M_X11_lookup.1 321 = .ok (.ireturn, 1) := by decide +kernel
theorem dm_X11_lookup_322 : decode M_X11_lookup.1 322 = .ok (.lload_n 0, 1) := by decide +kernel
theorem dm_X11_lookup_323 : decode M_X11_lookup.1 323 = .ok (.ldc2_w 169, 3) := by decide +kernel
theorem dm_X11_lookup_326 : decode M_X11_lookup.1 326 = .ok (.lcmp, 1) := by decide +kernel
theorem dm_X11_lookup_327 : decode M_X11_lookup.1 327 = .ok (.ifCond .ne 7, 3) := by decide +kernel
theorem dm_X11_lookup_330 : decode M_X11_lookup.1 330 = .ok (.sipush 9009, 3) := by decide +kernel
theorem dm_X11_lookup_333 : decode M_X11_lookup.1 333 = .ok (.ireturn, 1) := by decide +kernel
theorem dm_X11_lookup_334 : decode M_X11_lookup.1 334 = .ok (.lload_n 0, 1) := by decide +kernel
theorem dm_X11_lookup_335 : decode M_X11_lookup.1 335 = .ok (.ldc2_w 171, 3) := by decide +kernel
theorem dm_X11_lookup_338 : decode M_X11_lookup.1 338 = .ok (.lcmp, 1) := by decide +kernel
theorem dm_X11_lookup_339 : decode M_X11_lookup.1 339 = .ok (.ifCond .ne 7, 3) := by decide +kernel
theorem dm_X11_lookup_342 : decode M_X11_lookup.1 342 = .ok (.sipush 11057, 3) := by decide +kernel
theorem dm_X11_lookup_345 : decode M_X11_lookup.1 345 = .ok (.ireturn, 1) := by decide +kernel
theorem dm_X11_lookup_346 : decode M_X11_lookup.1 346 = .ok (.lload_n 0, 1) := by decide +kernel
theorem dm_X11_lookup_347 : decode M_X11_lookup.1 347 = .ok (.ldc2_w 173, 3) := by decide +kernel
theorem dm_X11_lookup_350 : decode M_X11_lookup.1 350 = .ok (.lcmp, 1) := by decide +kernel
theorem dm_X11_lookup_351 : decode M_X11_lookup.1 351 = .ok (.ifCond .ne 7, 3) := by decide +kernel
theorem dm_X11_lookup_354 : decode M_X11_lookup.1 354 = .ok (.sipush 13105, 3) := by decide +kernel
theorem dm_X11_lookup_357 : decode M_X11_lookup.1 357 = .ok (.ireturn, 1) := by decide +kernel
theorem dm_X11_lookup_358 : decode M_X11_lookup.1 358 = .ok (.lload_n 0, 1) := by decide +kernel
theorem dm_X11_lookup_359 : decode M_X11_lookup.1 359 = .ok (.ldc2_w 175, 3) := by decide +kernel
theorem dm_X11_lookup_362 : decode M_X11_lookup.1 362 = .ok (.lcmp, 1) := by decide +kernel
theorem dm_X11_lookup_363 : decode M_X11_lookup.1 363 = .ok (.ifCond .ne 7, 3) := by decide +kernel
theorem dm_X11_lookup_366 : decode M_X11_lookup.1 366 = .ok (.sipush 15153, 3) := by decide +kernel
theorem dm_X11_lookup_369 : decode M_X11_lookup.1 369 = .ok (.ireturn, 1) := by decide +kernel
theorem dm_X11_lookup_370 : decode M_X11_lookup.1 370 = .ok (.lload_n 0, 1) := by decide +kernel
theorem dm_X11_lookup_371 : decode M_X11_lookup.1 371 = .ok (.ldc2_w 177, 3) := by decide +kernel
theorem dm_X11_lookup_374 : decode M_X11_lookup.1 374 = .ok (.lcmp, 1) := by decide +kernel
theorem dm_X11_lookup_375 : decode M_X11_lookup.1 375 = .ok (.ifCond .ne 6, 3) := by decide +kernel
theorem dm_X11_lookup_378 : decode M_X11_lookup.1 378 = .ok (.ldc 179, 2) := by decide +kernel
theorem dm_X11_lookup_380 : decode M_X11_lookup.1 380 = .ok (.ireturn, 1) := by decide +kernel
theorem dm_X11_lookup_381 : decode M_X11_lookup.1 381 = .ok (.lload_n 0, 1) := by decide +kernel
theorem dm_X11_lookup_382 : decode M_X11_lookup.1 382 = .ok (.ldc2_w 180, 3) := by decide +kernel
theorem dm_X11_lookup_385 : decode M_X11_lookup.1 385 = .ok (.lcmp, 1) := by decide +kernel
theorem dm_X11_lookup_386 : decode M_X11_lookup.1 386 = .ok (.ifCond .ne 6, 3) := by decide +kernel
theorem dm_X11_lookup_389 : decode M_X11_lookup.1 389 = .ok (.ldc 182, 2) := by decide +kernel
theorem dm_X11_lookup_391 : decode M_X11_lookup.1 391 = .ok (.ireturn, 1) := by decide +kernel
theorem dm_X11_lookup_392 : decode M_X11_lookup.1 392 = .ok (.lload_n 0, 1) := by decide +kernel
theorem dm_X11_lookup_393 : decode M_X11_lookup.1 393 = .ok (.ldc2_w 183, 3) := by decide +kernel
theorem dm_X11_lookup_396 : decode M_X11_lookup.1 396 = .ok (.lcmp, 1) := by decide +kernel
theorem dm_X11_lookup_397 : decode M_X11_lookup.1 397 = .ok (.ifCond .ne 7, 3) := by decide +kernel
theorem dm_X11_lookup_400 : decode M_X11_lookup.1 400 = .ok (.sipush 185, 3) := by decide +kernel
theorem dm_X11_lookup_403 : decode M_X11_lookup.1 403 = .ok (.ireturn, 1) := by decide +kernel
theorem dm_X11_lookup_404 : decode M_X11_lookup.1 404 = .ok (.lload_n 0, 1) := by decide +kernel
theorem dm_X11_lookup_405 : decode M_X11_lookup.1 405 = .ok (.ldc2_w 185, 3) := by decide +kernel
theorem dm_X11_lookup_408 : decode M_X11_lookup.1 408 = .ok (.lcmp, 1) := by decide +kernel
theorem dm_X11_lookup_409 : decode M_X11_lookup.1 409 = .ok (.ifCond .ne 7, 3) := by decide +kernel
theorem dm_X11_lookup_412 : decode M_X11_lookup.1 412 = .ok (.sipush 2234, 3) := by decide +kernel
theorem dm_X11_lookup_415 : decode M_X11_lookup.1 415 = .ok (.ireturn, 1) := by decide +kernel
theorem dm_X11_lookup_416 : decode M_X11_lookup.1 416 = .ok (.lload_n 0, 1) := by decide +kernel
theorem dm_X11_lookup_417 : decode M_X11_lookup.1 417 = .ok (.ldc2_w 187, 3) := by decide +kernel
theorem dm_X11_lookup_420 : decode M_X11_lookup.1 420 = .ok (.lcmp, 1) := by decide +kernel
theorem dm_X11_lookup_421 : decode M_X11_lookup.1 421 = .ok (.ifCond .ne 7, 3) := by decide +kernel
theorem dm_X11_lookup_424 : decode M_X11_lookup.1 424 = .ok (.sipush 1851, 3) := by decide +kernel
theorem dm_X11_lookup_427 : decode M_X11_lookup.1 427 = .ok (.ireturn, 1) := by decide +kernel
theorem dm_X11_lookup_428 : decode M_X11_lookup.1 428 = .ok (.lload_n 0, 1) := by decide +kernel
theorem dm_X11_lookup_429 : decode M_X11_lookup.1 429 = .ok (.ldc2_w 189, 3) := by decide +kernel
theorem dm_X11_lookup_432 : decode M_X11_lookup.1 432 = .ok (.lcmp, 1) := by decide +kernel
theorem dm_X11_lookup_433 : decode M_X11_lookup.1 433 = .ok (.ifCond .ne 6, 3) := by decide +kernel
theorem dm_X11_lookup_436 : decode M_X11_lookup.1 436 = .ok (.bipush 12, 2) := by decide +kernel
theorem dm_X11_lookup_438 : decode M_X11_lookup.1 438 = .ok (.ireturn, 1) := by decide +kernel
theorem dm_X11_lookup_439 : decode M_X11_lookup.1 439 = .ok (.iconst 0, 1) := by decide +kernel
theorem dm_X11_lookup_440 : decode M_X11_lookup.1 440 = .ok (.ireturn, 1) := by decide +kernel
def f_X11_lookup (w : Int64) : Int32 := (if (lg_cmp w (6911340 : Int64)) = 0 then (887 : Int32) else (if (lg_cmp w (7102826 : Int64)) = 0 then (1782 : Int32) else (if (lg_cmp w (1919705450 : Int64)) = 0 then (1651 : Int32) else (if (lg_cmp w (7431522 : Int64)) = 0 then (1589 : Int32) else (if (lg_cmp w (6647394 : Int64)) = 0 then (3637 : Int32) else (if (lg_cmp w (7629922 : Int64)) = 0 then (9781 : Int32) else (if (lg_cmp w (6645602 : Int64)) = 0 then (11829 : Int32) else (if (lg_cmp w (1970564194 : Int64)) = 0 then (13877 : Int32) else (if (lg_cmp w (1969579874 : Int64)) = 0 then (15925 : Int32) else (if (lg_cmp w (30572 : Int64)) = 0 then (4147 : Int32) else (if (lg_cmp w (25196 : Int64)) = 0 then (51 : Int32) else (if (lg_cmp w (7692908 : Int64)) = 0 then (8243 : Int32) else (if (lg_cmp w (30579 : Int64)) = 0 then (4660 : Int32) else (if (lg_cmp w (25203 : Int64)) = 0 then (564 : Int32) else (if (lg_cmp w (1768186977 : Int64)) = 0 then (306 : Int32) else (if (lg_cmp w (1769237619 : Int64)) = 0 then (4402 : Int32) else (if (lg_cmp w (504280411251 : Int64)) = 0 then (6450 : Int32) else (if (lg_cmp w (1769107320 : Int64)) = 0 then (8498 : Int32) else (if (lg_cmp w (6910575 : Int64)) = 0 then (12594 : Int32) else (if (lg_cmp w (1768189537 : Int64)) = 0 then (14642 : Int32) else (if (lg_cmp w (1768713331 : Int64)) = 0 then (2360 : Int32) else (if (lg_cmp w (1768714867 : Int64)) = 0 then (10552 : Int32) else (if (lg_cmp w (1767993971 : Int64)) = 0 then (534840 : Int32) else (if (lg_cmp w (6579297 : Int64)) = 0 then (817 : Int32) else (if (lg_cmp w (7105651 : Int64)) = 0 then (2865 : Int32) else (if (lg_cmp w (7629939 : Int64)) = 0 then (4913 : Int32) else (if (lg_cmp w (1970564211 : Int64)) = 0 then (6961 : Int32) else (if (lg_cmp w (7499640 : Int64)) = 0 then (9009 : Int32) else (if (lg_cmp w (7107187 : Int64)) = 0 then (11057 : Int32) else (if (lg_cmp w (29295 : Int64)) = 0 then (13105 : Int32) else (if (lg_cmp w (6581857 : Int64)) = 0 then (15153 : Int32) else (if (lg_cmp w (6452595 : Int64)) = 0 then (525105 : Int32) else (if (lg_cmp w (6386291 : Int64)) = 0 then (535345 : Int32) else (if (lg_cmp w (1684104548 : Int64)) = 0 then (185 : Int32) else (if (lg_cmp w (435610155363 : Int64)) = 0 then (2234 : Int32) else (if (lg_cmp w (1953259880 : Int64)) = 0 then (1851 : Int32) else (if (lg_cmp w (1685221239 : Int64)) = 0 then (12 : Int32) else (0 : Int32))))))))))))))))))))))))))))))))))))))
set_option maxRecDepth 20000 in
theorem k_X11_lookup {w : Int64} {r_0 : Int32} (hres : r_0 = f_X11_lookup w) : K M_X11_lookup yX11_lookup [.long w] [] (some (.int r_0)) [] := by
  refine K.of (lv := [(0, .long w)]) (by decide +kernel) rfl rfl rfl ?_
  rw [f_X11_lookup] at hres
  refine G.lload_n (pc := 0) dm_X11_lookup_0 rfl ?_
  refine G.ldc2 (pc := 1) dm_X11_lookup_1 tw443 ?_
  refine G.lcmp (pc := 4) dm_X11_lookup_4 ?_
  refine G.if_ne (pc := 5) (tgt := 12) dm_X11_lookup_5 (by decide) (fun c5 => ?_) (fun c5 => ?_)
  · rw [if_neg c5] at hres
    refine G.lload_n (pc := 12) dm_X11_lookup_12 rfl ?_
    refine G.ldc2 (pc := 13) dm_X11_lookup_13 tw444 ?_
    refine G.lcmp (pc := 16) dm_X11_lookup_16 ?_
    refine G.if_ne (pc := 17) (tgt := 24) dm_X11_lookup_17 (by decide) (fun c17 => ?_) (fun c17 => ?_)
    · rw [if_neg c17] at hres
      refine G.lload_n (pc := 24) dm_X11_lookup_24 rfl ?_
      refine G.ldc2 (pc := 25) dm_X11_lookup_25 tw445 ?_
      refine G.lcmp (pc := 28) dm_X11_lookup_28 ?_
      refine G.if_ne (pc := 29) (tgt := 36) dm_X11_lookup_29 (by decide) (fun c29 => ?_) (fun c29 => ?_)
      · rw [if_neg c29] at hres
        refine G.lload_n (pc := 36) dm_X11_lookup_36 rfl ?_
        refine G.ldc2 (pc := 37) dm_X11_lookup_37 tw446 ?_
        refine G.lcmp (pc := 40) dm_X11_lookup_40 ?_
        refine G.if_ne (pc := 41) (tgt := 48) dm_X11_lookup_41 (by decide) (fun c41 => ?_) (fun c41 => ?_)
        · rw [if_neg c41] at hres
          refine G.lload_n (pc := 48) dm_X11_lookup_48 rfl ?_
          refine G.ldc2 (pc := 49) dm_X11_lookup_49 tw447 ?_
          refine G.lcmp (pc := 52) dm_X11_lookup_52 ?_
          refine G.if_ne (pc := 53) (tgt := 60) dm_X11_lookup_53 (by decide) (fun c53 => ?_) (fun c53 => ?_)
          · rw [if_neg c53] at hres
            refine G.lload_n (pc := 60) dm_X11_lookup_60 rfl ?_
            refine G.ldc2 (pc := 61) dm_X11_lookup_61 tw448 ?_
            refine G.lcmp (pc := 64) dm_X11_lookup_64 ?_
            refine G.if_ne (pc := 65) (tgt := 72) dm_X11_lookup_65 (by decide) (fun c65 => ?_) (fun c65 => ?_)
            · rw [if_neg c65] at hres
              refine G.lload_n (pc := 72) dm_X11_lookup_72 rfl ?_
              refine G.ldc2 (pc := 73) dm_X11_lookup_73 tw449 ?_
              refine G.lcmp (pc := 76) dm_X11_lookup_76 ?_
              refine G.if_ne (pc := 77) (tgt := 84) dm_X11_lookup_77 (by decide) (fun c77 => ?_) (fun c77 => ?_)
              · rw [if_neg c77] at hres
                refine G.lload_n (pc := 84) dm_X11_lookup_84 rfl ?_
                refine G.ldc2 (pc := 85) dm_X11_lookup_85 tw450 ?_
                refine G.lcmp (pc := 88) dm_X11_lookup_88 ?_
                refine G.if_ne (pc := 89) (tgt := 96) dm_X11_lookup_89 (by decide) (fun c89 => ?_) (fun c89 => ?_)
                · rw [if_neg c89] at hres
                  refine G.lload_n (pc := 96) dm_X11_lookup_96 rfl ?_
                  refine G.ldc2 (pc := 97) dm_X11_lookup_97 tw451 ?_
                  refine G.lcmp (pc := 100) dm_X11_lookup_100 ?_
                  refine G.if_ne (pc := 101) (tgt := 108) dm_X11_lookup_101 (by decide) (fun c101 => ?_) (fun c101 => ?_)
                  · rw [if_neg c101] at hres
                    refine G.lload_n (pc := 108) dm_X11_lookup_108 rfl ?_
                    refine G.ldc2 (pc := 109) dm_X11_lookup_109 tw452 ?_
                    refine G.lcmp (pc := 112) dm_X11_lookup_112 ?_
                    refine G.if_ne (pc := 113) (tgt := 120) dm_X11_lookup_113 (by decide) (fun c113 => ?_) (fun c113 => ?_)
                    · rw [if_neg c113] at hres
                      refine G.lload_n (pc := 120) dm_X11_lookup_120 rfl ?_
                      refine G.ldc2 (pc := 121) dm_X11_lookup_121 tw453 ?_
                      refine G.lcmp (pc := 124) dm_X11_lookup_124 ?_
                      refine G.if_ne (pc := 125) (tgt := 131) dm_X11_lookup_125 (by decide) (fun c125 => ?_) (fun c125 => ?_)
                      · rw [if_neg c125] at hres
                        refine G.lload_n (pc := 131) dm_X11_lookup_131 rfl ?_
                        refine G.ldc2 (pc := 132) dm_X11_lookup_132 tw454 ?_
                        refine G.lcmp (pc := 135) dm_X11_lookup_135 ?_
                        refine G.if_ne (pc := 136) (tgt := 143) dm_X11_lookup_136 (by decide) (fun c136 => ?_) (fun c136 => ?_)
                        · rw [if_neg c136] at hres
                          refine G.lload_n (pc := 143) dm_X11_lookup_143 rfl ?_
                          refine G.ldc2 (pc := 144) dm_X11_lookup_144 tw455 ?_
                          refine G.lcmp (pc := 147) dm_X11_lookup_147 ?_
                          refine G.if_ne (pc := 148) (tgt := 155) dm_X11_lookup_148 (by decide) (fun c148 => ?_) (fun c148 => ?_)
                          · rw [if_neg c148] at hres
                            refine G.lload_n (pc := 155) dm_X11_lookup_155 rfl ?_
                            refine G.ldc2 (pc := 156) dm_X11_lookup_156 tw456 ?_
                            refine G.lcmp (pc := 159) dm_X11_lookup_159 ?_
                            refine G.if_ne (pc := 160) (tgt := 167) dm_X11_lookup_160 (by decide) (fun c160 => ?_) (fun c160 => ?_)
                            · rw [if_neg c160] at hres
                              refine G.lload_n (pc := 167) dm_X11_lookup_167 rfl ?_
                              refine G.ldc2 (pc := 168) dm_X11_lookup_168 tw457 ?_
                              refine G.lcmp (pc := 171) dm_X11_lookup_171 ?_
                              refine G.if_ne (pc := 172) (tgt := 179) dm_X11_lookup_172 (by decide) (fun c172 => ?_) (fun c172 => ?_)
                              · rw [if_neg c172] at hres
                                refine G.lload_n (pc := 179) dm_X11_lookup_179 rfl ?_
                                refine G.ldc2 (pc := 180) dm_X11_lookup_180 tw458 ?_
                                refine G.lcmp (pc := 183) dm_X11_lookup_183 ?_
                                refine G.if_ne (pc := 184) (tgt := 191) dm_X11_lookup_184 (by decide) (fun c184 => ?_) (fun c184 => ?_)
                                · rw [if_neg c184] at hres
                                  refine G.lload_n (pc := 191) dm_X11_lookup_191 rfl ?_
                                  refine G.ldc2 (pc := 192) dm_X11_lookup_192 tw459 ?_
                                  refine G.lcmp (pc := 195) dm_X11_lookup_195 ?_
                                  refine G.if_ne (pc := 196) (tgt := 203) dm_X11_lookup_196 (by decide) (fun c196 => ?_) (fun c196 => ?_)
                                  · rw [if_neg c196] at hres
                                    refine G.lload_n (pc := 203) dm_X11_lookup_203 rfl ?_
                                    refine G.ldc2 (pc := 204) dm_X11_lookup_204 tw460 ?_
                                    refine G.lcmp (pc := 207) dm_X11_lookup_207 ?_
                                    refine G.if_ne (pc := 208) (tgt := 215) dm_X11_lookup_208 (by decide) (fun c208 => ?_) (fun c208 => ?_)
                                    · rw [if_neg c208] at hres
                                      refine G.lload_n (pc := 215) dm_X11_lookup_215 rfl ?_
                                      refine G.ldc2 (pc := 216) dm_X11_lookup_216 tw461 ?_
                                      refine G.lcmp (pc := 219) dm_X11_lookup_219 ?_
                                      refine G.if_ne (pc := 220) (tgt := 227) dm_X11_lookup_220 (by decide) (fun c220 => ?_) (fun c220 => ?_)
                                      · rw [if_neg c220] at hres
                                        refine G.lload_n (pc := 227) dm_X11_lookup_227 rfl ?_
                                        refine G.ldc2 (pc := 228) dm_X11_lookup_228 tw462 ?_
                                        refine G.lcmp (pc := 231) dm_X11_lookup_231 ?_
                                        refine G.if_ne (pc := 232) (tgt := 239) dm_X11_lookup_232 (by decide) (fun c232 => ?_) (fun c232 => ?_)
                                        · rw [if_neg c232] at hres
                                          refine G.lload_n (pc := 239) dm_X11_lookup_239 rfl ?_
                                          refine G.ldc2 (pc := 240) dm_X11_lookup_240 tw463 ?_
                                          refine G.lcmp (pc := 243) dm_X11_lookup_243 ?_
                                          refine G.if_ne (pc := 244) (tgt := 251) dm_X11_lookup_244 (by decide) (fun c244 => ?_) (fun c244 => ?_)
                                          · rw [if_neg c244] at hres
                                            refine G.lload_n (pc := 251) dm_X11_lookup_251 rfl ?_
                                            refine G.ldc2 (pc := 252) dm_X11_lookup_252 tw464 ?_
                                            refine G.lcmp (pc := 255) dm_X11_lookup_255 ?_
                                            refine G.if_ne (pc := 256) (tgt := 263) dm_X11_lookup_256 (by decide) (fun c256 => ?_) (fun c256 => ?_)
                                            · rw [if_neg c256] at hres
                                              refine G.lload_n (pc := 263) dm_X11_lookup_263 rfl ?_
                                              refine G.ldc2 (pc := 264) dm_X11_lookup_264 tw465 ?_
                                              refine G.lcmp (pc := 267) dm_X11_lookup_267 ?_
                                              refine G.if_ne (pc := 268) (tgt := 274) dm_X11_lookup_268 (by decide) (fun c268 => ?_) (fun c268 => ?_)
                                              · rw [if_neg c268] at hres
                                                refine G.lload_n (pc := 274) dm_X11_lookup_274 rfl ?_
                                                refine G.ldc2 (pc := 275) dm_X11_lookup_275 tw467 ?_
                                                refine G.lcmp (pc := 278) dm_X11_lookup_278 ?_
                                                refine G.if_ne (pc := 279) (tgt := 286) dm_X11_lookup_279 (by decide) (fun c279 => ?_) (fun c279 => ?_)
                                                · rw [if_neg c279] at hres
                                                  refine G.lload_n (pc := 286) dm_X11_lookup_286 rfl ?_
                                                  refine G.ldc2 (pc := 287) dm_X11_lookup_287 tw468 ?_
                                                  refine G.lcmp (pc := 290) dm_X11_lookup_290 ?_
                                                  refine G.if_ne (pc := 291) (tgt := 298) dm_X11_lookup_291 (by decide) (fun c291 => ?_) (fun c291 => ?_)
                                                  · rw [if_neg c291] at hres
                                                    refine G.lload_n (pc := 298) dm_X11_lookup_298 rfl ?_
                                                    refine G.ldc2 (pc := 299) dm_X11_lookup_299 tw469 ?_
                                                    refine G.lcmp (pc := 302) dm_X11_lookup_302 ?_
                                                    refine G.if_ne (pc := 303) (tgt := 310) dm_X11_lookup_303 (by decide) (fun c303 => ?_) (fun c303 => ?_)
                                                    · rw [if_neg c303] at hres
                                                      refine G.lload_n (pc := 310) dm_X11_lookup_310 rfl ?_
                                                      refine G.ldc2 (pc := 311) dm_X11_lookup_311 tw470 ?_
                                                      refine G.lcmp (pc := 314) dm_X11_lookup_314 ?_
                                                      refine G.if_ne (pc := 315) (tgt := 322) dm_X11_lookup_315 (by decide) (fun c315 => ?_) (fun c315 => ?_)
                                                      · rw [if_neg c315] at hres
                                                        refine G.lload_n (pc := 322) dm_X11_lookup_322 rfl ?_
                                                        refine G.ldc2 (pc := 323) dm_X11_lookup_323 tw471 ?_
                                                        refine G.lcmp (pc := 326) dm_X11_lookup_326 ?_
                                                        refine G.if_ne (pc := 327) (tgt := 334) dm_X11_lookup_327 (by decide) (fun c327 => ?_) (fun c327 => ?_)
                                                        · rw [if_neg c327] at hres
                                                          refine G.lload_n (pc := 334) dm_X11_lookup_334 rfl ?_
                                                          refine G.ldc2 (pc := 335) dm_X11_lookup_335 tw472 ?_
                                                          refine G.lcmp (pc := 338) dm_X11_lookup_338 ?_
                                                          refine G.if_ne (pc := 339) (tgt := 346) dm_X11_lookup_339 (by decide) (fun c339 => ?_) (fun c339 => ?_)
                                                          · rw [if_neg c339] at hres
                                                            refine G.lload_n (pc := 346) dm_X11_lookup_346 rfl ?_
                                                            refine G.ldc2 (pc := 347) dm_X11_lookup_347 tw473 ?_
                                                            refine G.lcmp (pc := 350) dm_X11_lookup_350 ?_
                                                            refine G.if_ne (pc := 351) (tgt := 358) dm_X11_lookup_351 (by decide) (fun c351 => ?_) (fun c351 => ?_)
                                                            · rw [if_neg c351] at hres
                                                              refine G.lload_n (pc := 358) dm_X11_lookup_358 rfl ?_
                                                              refine G.ldc2 (pc := 359) dm_X11_lookup_359 tw474 ?_
                                                              refine G.lcmp (pc := 362) dm_X11_lookup_362 ?_
                                                              refine G.if_ne (pc := 363) (tgt := 370) dm_X11_lookup_363 (by decide) (fun c363 => ?_) (fun c363 => ?_)
                                                              · rw [if_neg c363] at hres
                                                                refine G.lload_n (pc := 370) dm_X11_lookup_370 rfl ?_
                                                                refine G.ldc2 (pc := 371) dm_X11_lookup_371 tw475 ?_
                                                                refine G.lcmp (pc := 374) dm_X11_lookup_374 ?_
                                                                refine G.if_ne (pc := 375) (tgt := 381) dm_X11_lookup_375 (by decide) (fun c375 => ?_) (fun c375 => ?_)
                                                                · rw [if_neg c375] at hres
                                                                  refine G.lload_n (pc := 381) dm_X11_lookup_381 rfl ?_
                                                                  refine G.ldc2 (pc := 382) dm_X11_lookup_382 tw477 ?_
                                                                  refine G.lcmp (pc := 385) dm_X11_lookup_385 ?_
                                                                  refine G.if_ne (pc := 386) (tgt := 392) dm_X11_lookup_386 (by decide) (fun c386 => ?_) (fun c386 => ?_)
                                                                  · rw [if_neg c386] at hres
                                                                    refine G.lload_n (pc := 392) dm_X11_lookup_392 rfl ?_
                                                                    refine G.ldc2 (pc := 393) dm_X11_lookup_393 tw479 ?_
                                                                    refine G.lcmp (pc := 396) dm_X11_lookup_396 ?_
                                                                    refine G.if_ne (pc := 397) (tgt := 404) dm_X11_lookup_397 (by decide) (fun c397 => ?_) (fun c397 => ?_)
                                                                    · rw [if_neg c397] at hres
                                                                      refine G.lload_n (pc := 404) dm_X11_lookup_404 rfl ?_
                                                                      refine G.ldc2 (pc := 405) dm_X11_lookup_405 tw480 ?_
                                                                      refine G.lcmp (pc := 408) dm_X11_lookup_408 ?_
                                                                      refine G.if_ne (pc := 409) (tgt := 416) dm_X11_lookup_409 (by decide) (fun c409 => ?_) (fun c409 => ?_)
                                                                      · rw [if_neg c409] at hres
                                                                        refine G.lload_n (pc := 416) dm_X11_lookup_416 rfl ?_
                                                                        refine G.ldc2 (pc := 417) dm_X11_lookup_417 tw481 ?_
                                                                        refine G.lcmp (pc := 420) dm_X11_lookup_420 ?_
                                                                        refine G.if_ne (pc := 421) (tgt := 428) dm_X11_lookup_421 (by decide) (fun c421 => ?_) (fun c421 => ?_)
                                                                        · rw [if_neg c421] at hres
                                                                          refine G.lload_n (pc := 428) dm_X11_lookup_428 rfl ?_
                                                                          refine G.ldc2 (pc := 429) dm_X11_lookup_429 tw482 ?_
                                                                          refine G.lcmp (pc := 432) dm_X11_lookup_432 ?_
                                                                          refine G.if_ne (pc := 433) (tgt := 439) dm_X11_lookup_433 (by decide) (fun c433 => ?_) (fun c433 => ?_)
                                                                          · rw [if_neg c433] at hres
                                                                            refine G.iconst (pc := 439) (v := (0 : Int32)) dm_X11_lookup_439 qi_0 ?_
                                                                            subst hres
                                                                            exact G.ireturn (pc := 440) dm_X11_lookup_440 rfl rfl rfl
                                                                          · rw [if_pos c433] at hres
                                                                            refine G.bipush (pc := 436) (v := (12 : Int32)) dm_X11_lookup_436 qb_12 ?_
                                                                            subst hres
                                                                            exact G.ireturn (pc := 438) dm_X11_lookup_438 rfl rfl rfl
                                                                        · rw [if_pos c421] at hres
                                                                          refine G.sipush (pc := 424) (v := (1851 : Int32)) dm_X11_lookup_424 qs_1851 ?_
                                                                          subst hres
                                                                          exact G.ireturn (pc := 427) dm_X11_lookup_427 rfl rfl rfl
                                                                      · rw [if_pos c409] at hres
                                                                        refine G.sipush (pc := 412) (v := (2234 : Int32)) dm_X11_lookup_412 qs_2234 ?_
                                                                        subst hres
                                                                        exact G.ireturn (pc := 415) dm_X11_lookup_415 rfl rfl rfl
                                                                    · rw [if_pos c397] at hres
                                                                      refine G.sipush (pc := 400) (v := (185 : Int32)) dm_X11_lookup_400 qs_185 ?_
                                                                      subst hres
                                                                      exact G.ireturn (pc := 403) dm_X11_lookup_403 rfl rfl rfl
                                                                  · rw [if_pos c386] at hres
                                                                    refine G.ldc (pc := 389) dm_X11_lookup_389 tw478 ?_
                                                                    subst hres
                                                                    exact G.ireturn (pc := 391) dm_X11_lookup_391 rfl rfl rfl
                                                                · rw [if_pos c375] at hres
                                                                  refine G.ldc (pc := 378) dm_X11_lookup_378 tw476 ?_
                                                                  subst hres
                                                                  exact G.ireturn (pc := 380) dm_X11_lookup_380 rfl rfl rfl
                                                              · rw [if_pos c363] at hres
                                                                refine G.sipush (pc := 366) (v := (15153 : Int32)) dm_X11_lookup_366 qs_15153 ?_
                                                                subst hres
                                                                exact G.ireturn (pc := 369) dm_X11_lookup_369 rfl rfl rfl
                                                            · rw [if_pos c351] at hres
                                                              refine G.sipush (pc := 354) (v := (13105 : Int32)) dm_X11_lookup_354 qs_13105 ?_
                                                              subst hres
                                                              exact G.ireturn (pc := 357) dm_X11_lookup_357 rfl rfl rfl
                                                          · rw [if_pos c339] at hres
                                                            refine G.sipush (pc := 342) (v := (11057 : Int32)) dm_X11_lookup_342 qs_11057 ?_
                                                            subst hres
                                                            exact G.ireturn (pc := 345) dm_X11_lookup_345 rfl rfl rfl
                                                        · rw [if_pos c327] at hres
                                                          refine G.sipush (pc := 330) (v := (9009 : Int32)) dm_X11_lookup_330 qs_9009 ?_
                                                          subst hres
                                                          exact G.ireturn (pc := 333) dm_X11_lookup_333 rfl rfl rfl
                                                      · rw [if_pos c315] at hres
                                                        refine G.sipush (pc := 318) (v := (6961 : Int32)) dm_X11_lookup_318 qs_6961 ?_
                                                        subst hres
                                                        exact G.ireturn (pc := 321) dm_X11_lookup_321 rfl rfl rfl
                                                    · rw [if_pos c303] at hres
                                                      refine G.sipush (pc := 306) (v := (4913 : Int32)) dm_X11_lookup_306 qs_4913 ?_
                                                      subst hres
                                                      exact G.ireturn (pc := 309) dm_X11_lookup_309 rfl rfl rfl
                                                  · rw [if_pos c291] at hres
                                                    refine G.sipush (pc := 294) (v := (2865 : Int32)) dm_X11_lookup_294 qs_2865 ?_
                                                    subst hres
                                                    exact G.ireturn (pc := 297) dm_X11_lookup_297 rfl rfl rfl
                                                · rw [if_pos c279] at hres
                                                  refine G.sipush (pc := 282) (v := (817 : Int32)) dm_X11_lookup_282 qs_817 ?_
                                                  subst hres
                                                  exact G.ireturn (pc := 285) dm_X11_lookup_285 rfl rfl rfl
                                              · rw [if_pos c268] at hres
                                                refine G.ldc (pc := 271) dm_X11_lookup_271 tw466 ?_
                                                subst hres
                                                exact G.ireturn (pc := 273) dm_X11_lookup_273 rfl rfl rfl
                                            · rw [if_pos c256] at hres
                                              refine G.sipush (pc := 259) (v := (10552 : Int32)) dm_X11_lookup_259 qs_10552 ?_
                                              subst hres
                                              exact G.ireturn (pc := 262) dm_X11_lookup_262 rfl rfl rfl
                                          · rw [if_pos c244] at hres
                                            refine G.sipush (pc := 247) (v := (2360 : Int32)) dm_X11_lookup_247 qs_2360 ?_
                                            subst hres
                                            exact G.ireturn (pc := 250) dm_X11_lookup_250 rfl rfl rfl
                                        · rw [if_pos c232] at hres
                                          refine G.sipush (pc := 235) (v := (14642 : Int32)) dm_X11_lookup_235 qs_14642 ?_
                                          subst hres
                                          exact G.ireturn (pc := 238) dm_X11_lookup_238 rfl rfl rfl
                                      · rw [if_pos c220] at hres
                                        refine G.sipush (pc := 223) (v := (12594 : Int32)) dm_X11_lookup_223 qs_12594 ?_
                                        subst hres
                                        exact G.ireturn (pc := 226) dm_X11_lookup_226 rfl rfl rfl
                                    · rw [if_pos c208] at hres
                                      refine G.sipush (pc := 211) (v := (8498 : Int32)) dm_X11_lookup_211 qs_8498 ?_
                                      subst hres
                                      exact G.ireturn (pc := 214) dm_X11_lookup_214 rfl rfl rfl
                                  · rw [if_pos c196] at hres
                                    refine G.sipush (pc := 199) (v := (6450 : Int32)) dm_X11_lookup_199 qs_6450 ?_
                                    subst hres
                                    exact G.ireturn (pc := 202) dm_X11_lookup_202 rfl rfl rfl
                                · rw [if_pos c184] at hres
                                  refine G.sipush (pc := 187) (v := (4402 : Int32)) dm_X11_lookup_187 qs_4402 ?_
                                  subst hres
                                  exact G.ireturn (pc := 190) dm_X11_lookup_190 rfl rfl rfl
                              · rw [if_pos c172] at hres
                                refine G.sipush (pc := 175) (v := (306 : Int32)) dm_X11_lookup_175 qs_306 ?_
                                subst hres
                                exact G.ireturn (pc := 178) dm_X11_lookup_178 rfl rfl rfl
                            · rw [if_pos c160] at hres
                              refine G.sipush (pc := 163) (v := (564 : Int32)) dm_X11_lookup_163 qs_564 ?_
                              subst hres
                              exact G.ireturn (pc := 166) dm_X11_lookup_166 rfl rfl rfl
                          · rw [if_pos c148] at hres
                            refine G.sipush (pc := 151) (v := (4660 : Int32)) dm_X11_lookup_151 qs_4660 ?_
                            subst hres
                            exact G.ireturn (pc := 154) dm_X11_lookup_154 rfl rfl rfl
                        · rw [if_pos c136] at hres
                          refine G.sipush (pc := 139) (v := (8243 : Int32)) dm_X11_lookup_139 qs_8243 ?_
                          subst hres
                          exact G.ireturn (pc := 142) dm_X11_lookup_142 rfl rfl rfl
                      · rw [if_pos c125] at hres
                        refine G.bipush (pc := 128) (v := (51 : Int32)) dm_X11_lookup_128 qb_51 ?_
                        subst hres
                        exact G.ireturn (pc := 130) dm_X11_lookup_130 rfl rfl rfl
                    · rw [if_pos c113] at hres
                      refine G.sipush (pc := 116) (v := (4147 : Int32)) dm_X11_lookup_116 qs_4147 ?_
                      subst hres
                      exact G.ireturn (pc := 119) dm_X11_lookup_119 rfl rfl rfl
                  · rw [if_pos c101] at hres
                    refine G.sipush (pc := 104) (v := (15925 : Int32)) dm_X11_lookup_104 qs_15925 ?_
                    subst hres
                    exact G.ireturn (pc := 107) dm_X11_lookup_107 rfl rfl rfl
                · rw [if_pos c89] at hres
                  refine G.sipush (pc := 92) (v := (13877 : Int32)) dm_X11_lookup_92 qs_13877 ?_
                  subst hres
                  exact G.ireturn (pc := 95) dm_X11_lookup_95 rfl rfl rfl
              · rw [if_pos c77] at hres
                refine G.sipush (pc := 80) (v := (11829 : Int32)) dm_X11_lookup_80 qs_11829 ?_
                subst hres
                exact G.ireturn (pc := 83) dm_X11_lookup_83 rfl rfl rfl
            · rw [if_pos c65] at hres
              refine G.sipush (pc := 68) (v := (9781 : Int32)) dm_X11_lookup_68 qs_9781 ?_
              subst hres
              exact G.ireturn (pc := 71) dm_X11_lookup_71 rfl rfl rfl
          · rw [if_pos c53] at hres
            refine G.sipush (pc := 56) (v := (3637 : Int32)) dm_X11_lookup_56 qs_3637 ?_
            subst hres
            exact G.ireturn (pc := 59) dm_X11_lookup_59 rfl rfl rfl
        · rw [if_pos c41] at hres
          refine G.sipush (pc := 44) (v := (1589 : Int32)) dm_X11_lookup_44 qs_1589 ?_
          subst hres
          exact G.ireturn (pc := 47) dm_X11_lookup_47 rfl rfl rfl
      · rw [if_pos c29] at hres
        refine G.sipush (pc := 32) (v := (1651 : Int32)) dm_X11_lookup_32 qs_1651 ?_
        subst hres
        exact G.ireturn (pc := 35) dm_X11_lookup_35 rfl rfl rfl
    · rw [if_pos c17] at hres
      refine G.sipush (pc := 20) (v := (1782 : Int32)) dm_X11_lookup_20 qs_1782 ?_
      subst hres
      exact G.ireturn (pc := 23) dm_X11_lookup_23 rfl rfl rfl
  · rw [if_pos c5] at hres
    refine G.sipush (pc := 8) (v := (887 : Int32)) dm_X11_lookup_8 qs_887 ?_
    subst hres
    exact G.ireturn (pc := 11) dm_X11_lookup_11 rfl rfl rfl
abbrev M_X11_immediate : g_M := (cX11_immediate, 1, RX11, (some .int), { frames := 0, cells := 0, slots := 0, locals := 0 }, 0, 0)
theorem dm_X11_immediate_0 : decode M_X11_immediate.1 0 = .ok (.iload_n 0, 1) := by decide +kernel
theorem dm_X11_immediate_1 : decode M_X11_immediate.1 1 = .ok (.bipush 20, 2) := by decide +kernel
theorem dm_X11_immediate_3 : decode M_X11_immediate.1 3 = .ok (.ishl, 1) := by decide +kernel
theorem dm_X11_immediate_4 : decode M_X11_immediate.1 4 = .ok (.ireturn, 1) := by decide +kernel
def f_X11_immediate (n : Int32) : Int32 := (n <<< ((20 : Int32) &&& 31))
set_option maxRecDepth 20000 in
theorem k_X11_immediate {n : Int32} {r_0 : Int32} (hres : r_0 = f_X11_immediate n) : K M_X11_immediate yX11_immediate [.int n] [] (some (.int r_0)) [] := by
  refine K.of (lv := [(0, .int n)]) (by decide +kernel) rfl rfl rfl ?_
  rw [f_X11_immediate] at hres
  refine G.iload_n (pc := 0) dm_X11_immediate_0 rfl ?_
  refine G.bipush (pc := 1) (v := (20 : Int32)) dm_X11_immediate_1 qb_20 ?_
  refine G.ishl (pc := 3) dm_X11_immediate_3 ?_
  subst hres
  exact G.ireturn (pc := 4) dm_X11_immediate_4 rfl rfl rfl
abbrev M_X11_storing : g_M := (cX11_storing, 1, RX11, (some .int), { frames := 0, cells := 0, slots := 0, locals := 0 }, 0, 0)
theorem dm_X11_storing_0 : decode M_X11_storing.1 0 = .ok (.iload_n 0, 1) := by decide +kernel
theorem dm_X11_storing_1 : decode M_X11_storing.1 1 = .ok (.bipush 31, 2) := by decide +kernel
theorem dm_X11_storing_3 : decode M_X11_storing.1 3 = .ok (.iand, 1) := by decide +kernel
theorem dm_X11_storing_4 : decode M_X11_storing.1 4 = .ok (.bipush 7, 2) := by decide +kernel
theorem dm_X11_storing_6 : decode M_X11_storing.1 6 = .ok (.ishl, 1) := by decide +kernel
theorem dm_X11_storing_7 : decode M_X11_storing.1 7 = .ok (.iload_n 0, 1) := by decide +kernel
theorem dm_X11_storing_8 : decode M_X11_storing.1 8 = .ok (.iconst 5, 1) := by decide +kernel
theorem dm_X11_storing_9 : decode M_X11_storing.1 9 = .ok (.ishr, 1) := by decide +kernel
theorem dm_X11_storing_10 : decode M_X11_storing.1 10 = .ok (.bipush 25, 2) := by decide +kernel
theorem dm_X11_storing_12 : decode M_X11_storing.1 12 = .ok (.ishl, 1) := by decide +kernel
theorem dm_X11_storing_13 : decode M_X11_storing.1 13 = .ok (.ior, 1) := by decide +kernel
theorem dm_X11_storing_14 : decode M_X11_storing.1 14 = .ok (.ireturn, 1) := by decide +kernel
def f_X11_storing (n : Int32) : Int32 := (((n &&& (31 : Int32)) <<< ((7 : Int32) &&& 31)) ||| ((n >>> ((5 : Int32) &&& 31)) <<< ((25 : Int32) &&& 31)))
set_option maxRecDepth 20000 in
theorem k_X11_storing {n : Int32} {r_0 : Int32} (hres : r_0 = f_X11_storing n) : K M_X11_storing yX11_storing [.int n] [] (some (.int r_0)) [] := by
  refine K.of (lv := [(0, .int n)]) (by decide +kernel) rfl rfl rfl ?_
  rw [f_X11_storing] at hres
  refine G.iload_n (pc := 0) dm_X11_storing_0 rfl ?_
  refine G.bipush (pc := 1) (v := (31 : Int32)) dm_X11_storing_1 qb_31 ?_
  refine G.iand (pc := 3) dm_X11_storing_3 ?_
  refine G.bipush (pc := 4) (v := (7 : Int32)) dm_X11_storing_4 qb_7 ?_
  refine G.ishl (pc := 6) dm_X11_storing_6 ?_
  refine G.iload_n (pc := 7) dm_X11_storing_7 rfl ?_
  refine G.iconst (pc := 8) (v := (5 : Int32)) dm_X11_storing_8 qi_5 ?_
  refine G.ishr (pc := 9) dm_X11_storing_9 ?_
  refine G.bipush (pc := 10) (v := (25 : Int32)) dm_X11_storing_10 qb_25 ?_
  refine G.ishl (pc := 12) dm_X11_storing_12 ?_
  refine G.ior (pc := 13) dm_X11_storing_13 ?_
  subst hres
  exact G.ireturn (pc := 14) dm_X11_storing_14 rfl rfl rfl
abbrev M_X11_branching : g_M := (cX11_branching, 1, RX11, (some .int), { frames := 0, cells := 0, slots := 0, locals := 0 }, 0, 0)
theorem dm_X11_branching_0 : decode M_X11_branching.1 0 = .ok (.iload_n 0, 1) := by decide +kernel
theorem dm_X11_branching_1 : decode M_X11_branching.1 1 = .ok (.iconst 1, 1) := by decide +kernel
theorem dm_X11_branching_2 : decode M_X11_branching.1 2 = .ok (.ishr, 1) := by decide +kernel
theorem dm_X11_branching_3 : decode M_X11_branching.1 3 = .ok (.bipush 15, 2) := by decide +kernel
theorem dm_X11_branching_5 : decode M_X11_branching.1 5 = .ok (.iand, 1) := by decide +kernel
theorem dm_X11_branching_6 : decode M_X11_branching.1 6 = .ok (.bipush 8, 2) := by decide +kernel
theorem dm_X11_branching_8 : decode M_X11_branching.1 8 = .ok (.ishl, 1) := by decide +kernel
theorem dm_X11_branching_9 : decode M_X11_branching.1 9 = .ok (.iload_n 0, 1) := by decide +kernel
theorem dm_X11_branching_10 : decode M_X11_branching.1 10 = .ok (.iconst 5, 1) := by decide +kernel
theorem dm_X11_branching_11 : decode M_X11_branching.1 11 = .ok (.ishr, 1) := by decide +kernel
theorem dm_X11_branching_12 : decode M_X11_branching.1 12 = .ok (.bipush 63, 2) := by decide +kernel
theorem dm_X11_branching_14 : decode M_X11_branching.1 14 = .ok (.iand, 1) := by decide +kernel
theorem dm_X11_branching_15 : decode M_X11_branching.1 15 = .ok (.bipush 25, 2) := by decide +kernel
theorem dm_X11_branching_17 : decode M_X11_branching.1 17 = .ok (.ishl, 1) := by decide +kernel
theorem dm_X11_branching_18 : decode M_X11_branching.1 18 = .ok (.ior, 1) := by decide +kernel
theorem dm_X11_branching_19 : decode M_X11_branching.1 19 = .ok (.iload_n 0, 1) := by decide +kernel
theorem dm_X11_branching_20 : decode M_X11_branching.1 20 = .ok (.bipush 11, 2) := by decide +kernel
theorem dm_X11_branching_22 : decode M_X11_branching.1 22 = .ok (.ishr, 1) := by decide +kernel
theorem dm_X11_branching_23 : decode M_X11_branching.1 23 = .ok (.iconst 1, 1) := by decide +kernel
theorem dm_X11_branching_24 : decode M_X11_branching.1 24 = .ok (.iand, 1) := by decide +kernel
theorem dm_X11_branching_25 : decode M_X11_branching.1 25 = .ok (.bipush 7, 2) := by decide +kernel
theorem dm_X11_branching_27 : decode M_X11_branching.1 27 = .ok (.ishl, 1) := by decide +kernel
theorem dm_X11_branching_28 : decode M_X11_branching.1 28 = .ok (.ior, 1) := by decide +kernel
theorem dm_X11_branching_29 : decode M_X11_branching.1 29 = .ok (.iload_n 0, 1) := by decide +kernel
theorem dm_X11_branching_30 : decode M_X11_branching.1 30 = .ok (.bipush 12, 2) := by decide +kernel
theorem dm_X11_branching_32 : decode M_X11_branching.1 32 = .ok (.ishr, 1) := by decide +kernel
theorem dm_X11_branching_33 : decode M_X11_branching.1 33 = .ok (.bipush 31, 2) := by decide +kernel
theorem dm_X11_branching_35 : decode M_X11_branching.1 35 = .ok (.ishl, 1) := by decide +kernel
theorem dm_X11_branching_36 : decode M_X11_branching.1 36 = .ok (.ior, 1) := by decide +kernel
theorem dm_X11_branching_37 : decode M_X11_branching.1 37 = .ok (.ireturn, 1) := by decide +kernel
def f_X11_branching (n : Int32) : Int32 := ((((((n >>> ((1 : Int32) &&& 31)) &&& (15 : Int32)) <<< ((8 : Int32) &&& 31)) ||| (((n >>> ((5 : Int32) &&& 31)) &&& (63 : Int32)) <<< ((25 : Int32) &&& 31))) ||| (((n >>> ((11 : Int32) &&& 31)) &&& (1 : Int32)) <<< ((7 : Int32) &&& 31))) ||| ((n >>> ((12 : Int32) &&& 31)) <<< ((31 : Int32) &&& 31)))
set_option maxRecDepth 20000 in
theorem k_X11_branching {n : Int32} {r_0 : Int32} (hres : r_0 = f_X11_branching n) : K M_X11_branching yX11_branching [.int n] [] (some (.int r_0)) [] := by
  refine K.of (lv := [(0, .int n)]) (by decide +kernel) rfl rfl rfl ?_
  rw [f_X11_branching] at hres
  refine G.iload_n (pc := 0) dm_X11_branching_0 rfl ?_
  refine G.iconst (pc := 1) (v := (1 : Int32)) dm_X11_branching_1 qi_1 ?_
  refine G.ishr (pc := 2) dm_X11_branching_2 ?_
  refine G.bipush (pc := 3) (v := (15 : Int32)) dm_X11_branching_3 qb_15 ?_
  refine G.iand (pc := 5) dm_X11_branching_5 ?_
  refine G.bipush (pc := 6) (v := (8 : Int32)) dm_X11_branching_6 qb_8 ?_
  refine G.ishl (pc := 8) dm_X11_branching_8 ?_
  refine G.iload_n (pc := 9) dm_X11_branching_9 rfl ?_
  refine G.iconst (pc := 10) (v := (5 : Int32)) dm_X11_branching_10 qi_5 ?_
  refine G.ishr (pc := 11) dm_X11_branching_11 ?_
  refine G.bipush (pc := 12) (v := (63 : Int32)) dm_X11_branching_12 qb_63 ?_
  refine G.iand (pc := 14) dm_X11_branching_14 ?_
  refine G.bipush (pc := 15) (v := (25 : Int32)) dm_X11_branching_15 qb_25 ?_
  refine G.ishl (pc := 17) dm_X11_branching_17 ?_
  refine G.ior (pc := 18) dm_X11_branching_18 ?_
  refine G.iload_n (pc := 19) dm_X11_branching_19 rfl ?_
  refine G.bipush (pc := 20) (v := (11 : Int32)) dm_X11_branching_20 qb_11 ?_
  refine G.ishr (pc := 22) dm_X11_branching_22 ?_
  refine G.iconst (pc := 23) (v := (1 : Int32)) dm_X11_branching_23 qi_1 ?_
  refine G.iand (pc := 24) dm_X11_branching_24 ?_
  refine G.bipush (pc := 25) (v := (7 : Int32)) dm_X11_branching_25 qb_7 ?_
  refine G.ishl (pc := 27) dm_X11_branching_27 ?_
  refine G.ior (pc := 28) dm_X11_branching_28 ?_
  refine G.iload_n (pc := 29) dm_X11_branching_29 rfl ?_
  refine G.bipush (pc := 30) (v := (12 : Int32)) dm_X11_branching_30 qb_12 ?_
  refine G.ishr (pc := 32) dm_X11_branching_32 ?_
  refine G.bipush (pc := 33) (v := (31 : Int32)) dm_X11_branching_33 qb_31 ?_
  refine G.ishl (pc := 35) dm_X11_branching_35 ?_
  refine G.ior (pc := 36) dm_X11_branching_36 ?_
  subst hres
  exact G.ireturn (pc := 37) dm_X11_branching_37 rfl rfl rfl
abbrev M_X11_jumping : g_M := (cX11_jumping, 1, RX11, (some .int), { frames := 0, cells := 0, slots := 0, locals := 0 }, 0, 0)
theorem dm_X11_jumping_0 : decode M_X11_jumping.1 0 = .ok (.iload_n 0, 1) := by decide +kernel
theorem dm_X11_jumping_1 : decode M_X11_jumping.1 1 = .ok (.iconst 1, 1) := by decide +kernel
theorem dm_X11_jumping_2 : decode M_X11_jumping.1 2 = .ok (.ishr, 1) := by decide +kernel
theorem dm_X11_jumping_3 : decode M_X11_jumping.1 3 = .ok (.sipush 1023, 3) := by decide +kernel
theorem dm_X11_jumping_6 : decode M_X11_jumping.1 6 = .ok (.iand, 1) := by decide +kernel
theorem dm_X11_jumping_7 : decode M_X11_jumping.1 7 = .ok (.bipush 21, 2) := by decide +kernel
theorem dm_X11_jumping_9 : decode M_X11_jumping.1 9 = .ok (.ishl, 1) := by decide +kernel
theorem dm_X11_jumping_10 : decode M_X11_jumping.1 10 = .ok (.iload_n 0, 1) := by decide +kernel
theorem dm_X11_jumping_11 : decode M_X11_jumping.1 11 = .ok (.bipush 11, 2) := by decide +kernel
theorem dm_X11_jumping_13 : decode M_X11_jumping.1 13 = .ok (.ishr, 1) := by decide +kernel
theorem dm_X11_jumping_14 : decode M_X11_jumping.1 14 = .ok (.iconst 1, 1) := by decide +kernel
theorem dm_X11_jumping_15 : decode M_X11_jumping.1 15 = .ok (.iand, 1) := by decide +kernel
theorem dm_X11_jumping_16 : decode M_X11_jumping.1 16 = .ok (.bipush 20, 2) := by decide +kernel
theorem dm_X11_jumping_18 : decode M_X11_jumping.1 18 = .ok (.ishl, 1) := by decide +kernel
theorem dm_X11_jumping_19 : decode M_X11_jumping.1 19 = .ok (.ior, 1) := by decide +kernel
theorem dm_X11_jumping_20 : decode M_X11_jumping.1 20 = .ok (.iload_n 0, 1) := by decide +kernel
theorem dm_X11_jumping_21 : decode M_X11_jumping.1 21 = .ok (.bipush 12, 2) := by decide +kernel
theorem dm_X11_jumping_23 : decode M_X11_jumping.1 23 = .ok (.ishr, 1) := by decide +kernel
theorem dm_X11_jumping_24 : decode M_X11_jumping.1 24 = .ok (.sipush 255, 3) := by decide +kernel
theorem dm_X11_jumping_27 : decode M_X11_jumping.1 27 = .ok (.iand, 1) := by decide +kernel
theorem dm_X11_jumping_28 : decode M_X11_jumping.1 28 = .ok (.bipush 12, 2) := by decide +kernel
theorem dm_X11_jumping_30 : decode M_X11_jumping.1 30 = .ok (.ishl, 1) := by decide +kernel
theorem dm_X11_jumping_31 : decode M_X11_jumping.1 31 = .ok (.ior, 1) := by decide +kernel
theorem dm_X11_jumping_32 : decode M_X11_jumping.1 32 = .ok (.iload_n 0, 1) := by decide +kernel
theorem dm_X11_jumping_33 : decode M_X11_jumping.1 33 = .ok (.bipush 20, 2) := by decide +kernel
theorem dm_X11_jumping_35 : decode M_X11_jumping.1 35 = .ok (.ishr, 1) := by decide +kernel
theorem dm_X11_jumping_36 : decode M_X11_jumping.1 36 = .ok (.bipush 31, 2) := by decide +kernel
theorem dm_X11_jumping_38 : decode M_X11_jumping.1 38 = .ok (.ishl, 1) := by decide +kernel
theorem dm_X11_jumping_39 : decode M_X11_jumping.1 39 = .ok (.ior, 1) := by decide +kernel
theorem dm_X11_jumping_40 : decode M_X11_jumping.1 40 = .ok (.ireturn, 1) := by decide +kernel
def f_X11_jumping (n : Int32) : Int32 := ((((((n >>> ((1 : Int32) &&& 31)) &&& (1023 : Int32)) <<< ((21 : Int32) &&& 31)) ||| (((n >>> ((11 : Int32) &&& 31)) &&& (1 : Int32)) <<< ((20 : Int32) &&& 31))) ||| (((n >>> ((12 : Int32) &&& 31)) &&& (255 : Int32)) <<< ((12 : Int32) &&& 31))) ||| ((n >>> ((20 : Int32) &&& 31)) <<< ((31 : Int32) &&& 31)))
set_option maxRecDepth 20000 in
theorem k_X11_jumping {n : Int32} {r_0 : Int32} (hres : r_0 = f_X11_jumping n) : K M_X11_jumping yX11_jumping [.int n] [] (some (.int r_0)) [] := by
  refine K.of (lv := [(0, .int n)]) (by decide +kernel) rfl rfl rfl ?_
  rw [f_X11_jumping] at hres
  refine G.iload_n (pc := 0) dm_X11_jumping_0 rfl ?_
  refine G.iconst (pc := 1) (v := (1 : Int32)) dm_X11_jumping_1 qi_1 ?_
  refine G.ishr (pc := 2) dm_X11_jumping_2 ?_
  refine G.sipush (pc := 3) (v := (1023 : Int32)) dm_X11_jumping_3 qs_1023 ?_
  refine G.iand (pc := 6) dm_X11_jumping_6 ?_
  refine G.bipush (pc := 7) (v := (21 : Int32)) dm_X11_jumping_7 qb_21 ?_
  refine G.ishl (pc := 9) dm_X11_jumping_9 ?_
  refine G.iload_n (pc := 10) dm_X11_jumping_10 rfl ?_
  refine G.bipush (pc := 11) (v := (11 : Int32)) dm_X11_jumping_11 qb_11 ?_
  refine G.ishr (pc := 13) dm_X11_jumping_13 ?_
  refine G.iconst (pc := 14) (v := (1 : Int32)) dm_X11_jumping_14 qi_1 ?_
  refine G.iand (pc := 15) dm_X11_jumping_15 ?_
  refine G.bipush (pc := 16) (v := (20 : Int32)) dm_X11_jumping_16 qb_20 ?_
  refine G.ishl (pc := 18) dm_X11_jumping_18 ?_
  refine G.ior (pc := 19) dm_X11_jumping_19 ?_
  refine G.iload_n (pc := 20) dm_X11_jumping_20 rfl ?_
  refine G.bipush (pc := 21) (v := (12 : Int32)) dm_X11_jumping_21 qb_12 ?_
  refine G.ishr (pc := 23) dm_X11_jumping_23 ?_
  refine G.sipush (pc := 24) (v := (255 : Int32)) dm_X11_jumping_24 qs_255 ?_
  refine G.iand (pc := 27) dm_X11_jumping_27 ?_
  refine G.bipush (pc := 28) (v := (12 : Int32)) dm_X11_jumping_28 qb_12 ?_
  refine G.ishl (pc := 30) dm_X11_jumping_30 ?_
  refine G.ior (pc := 31) dm_X11_jumping_31 ?_
  refine G.iload_n (pc := 32) dm_X11_jumping_32 rfl ?_
  refine G.bipush (pc := 33) (v := (20 : Int32)) dm_X11_jumping_33 qb_20 ?_
  refine G.ishr (pc := 35) dm_X11_jumping_35 ?_
  refine G.bipush (pc := 36) (v := (31 : Int32)) dm_X11_jumping_36 qb_31 ?_
  refine G.ishl (pc := 38) dm_X11_jumping_38 ?_
  refine G.ior (pc := 39) dm_X11_jumping_39 ?_
  subst hres
  exact G.ireturn (pc := 40) dm_X11_jumping_40 rfl rfl rfl
abbrev M_X11_distance : g_M := (cX11_distance, 6, RX11, (some .int), { frames := 3, cells := 0, slots := 0, locals := 70 }, 0, 0)
theorem dm_X11_distance_0 : decode M_X11_distance.1 0 = .ok (.aload_n 0, 1) := by decide +kernel
theorem dm_X11_distance_1 : decode M_X11_distance.1 1 = .ok (.invokevirtual 95, 3) := by decide +kernel
theorem dm_X11_distance_4 : decode M_X11_distance.1 4 = .ok (.iload_n 1, 1) := by decide +kernel
theorem dm_X11_distance_5 : decode M_X11_distance.1 5 = .ok (.ifCond .eq 9, 3) := by decide +kernel
theorem dm_X11_distance_8 : decode M_X11_distance.1 8 = .ok (.ldc2_w 191, 3) := by decide +kernel
theorem dm_X11_distance_11 : decode M_X11_distance.1 11 = .ok (.goto 6, 3) := by decide +kernel
theorem dm_X11_distance_14 : decode M_X11_distance.1 14 = .ok (.ldc2_w 193, 3) := by decide +kernel
theorem dm_X11_distance_17 : decode M_X11_distance.1 17 = .ok (.lstore_n 2, 1) := by decide +kernel
theorem dm_X11_distance_18 : decode M_X11_distance.1 18 = .ok (.aload_n 0, 1) := by decide +kernel
theorem dm_X11_distance_19 : decode M_X11_distance.1 19 = .ok (.aload_n 0, 1) := by decide +kernel
theorem dm_X11_distance_20 : decode M_X11_distance.1 20 = .ok (.getfield 88, 3) := by decide +kernel
theorem dm_X11_distance_23 : decode M_X11_distance.1 23 = .ok (.invokevirtual 91, 3) := by decide +kernel
theorem dm_X11_distance_26 : decode M_X11_distance.1 26 = .ok (.invokestatic 98, 3) := by decide +kernel
theorem dm_X11_distance_29 : decode M_X11_distance.1 29 = .ok (.ifCond .eq 119, 3) := by decide +kernel
theorem dm_X11_distance_32 : decode M_X11_distance.1 32 = .ok (.aload_n 0, 1) := by decide +kernel
theorem dm_X11_distance_33 : decode M_X11_distance.1 33 = .ok (.invokevirtual 195, 3) := by decide +kernel
theorem dm_X11_distance_36 : decode M_X11_distance.1 36 = .ok (.lstore 4, 2) := by decide +kernel
theorem dm_X11_distance_38 : decode M_X11_distance.1 38 = .ok (.aload_n 0, 1) := by decide +kernel
theorem dm_X11_distance_39 : decode M_X11_distance.1 39 = .ok (.aload_n 0, 1) := by decide +kernel
theorem dm_X11_distance_40 : decode M_X11_distance.1 40 = .ok (.getfield 102, 3) := by decide +kernel
theorem dm_X11_distance_43 : decode M_X11_distance.1 43 = .ok (.ifCond .ne 10, 3) := by decide +kernel
theorem dm_X11_distance_46 : decode M_X11_distance.1 46 = .ok (.lload 4, 2) := by decide +kernel
theorem dm_X11_distance_48 : decode M_X11_distance.1 48 = .ok (.lconst 0, 1) := by decide +kernel
theorem dm_X11_distance_49 : decode M_X11_distance.1 49 = .ok (.lcmp, 1) := by decide +kernel
theorem dm_X11_distance_50 : decode M_X11_distance.1 50 = .ok (.ifCond .ne 7, 3) := by decide +kernel
theorem dm_X11_distance_53 : decode M_X11_distance.1 53 = .ok (.iconst 1, 1) := by decide +kernel
theorem dm_X11_distance_54 : decode M_X11_distance.1 54 = .ok (.goto 4, 3) := by decide +kernel
theorem dm_X11_distance_57 : decode M_X11_distance.1 57 = .ok (.iconst 0, 1) := by decide +kernel
theorem dm_X11_distance_58 : decode M_X11_distance.1 58 = .ok (.putfield 102, 3) := by decide +kernel
theorem dm_X11_distance_61 : decode M_X11_distance.1 61 = .ok (.aload_n 0, 1) := by decide +kernel
theorem dm_X11_distance_62 : decode M_X11_distance.1 62 = .ok (.getfield 102, 3) := by decide +kernel
theorem dm_X11_distance_65 : decode M_X11_distance.1 65 = .ok (.ifCond .ne 50, 3) := by decide +kernel
theorem dm_X11_distance_68 : decode M_X11_distance.1 68 = .ok (.aload_n 0, 1) := by decide +kernel
theorem dm_X11_distance_69 : decode M_X11_distance.1 69 = .ok (.getfield 199, 3) := by decide +kernel
theorem dm_X11_distance_72 : decode M_X11_distance.1 72 = .ok (.sipush 128, 3) := by decide +kernel
theorem dm_X11_distance_75 : decode M_X11_distance.1 75 = .ok (.if_icmp .ge 40, 3) := by decide +kernel
theorem dm_X11_distance_78 : decode M_X11_distance.1 78 = .ok (.aload_n 0, 1) := by decide +kernel
theorem dm_X11_distance_79 : decode M_X11_distance.1 79 = .ok (.getfield 24, 3) := by decide +kernel
theorem dm_X11_distance_82 : decode M_X11_distance.1 82 = .ok (.aload_n 0, 1) := by decide +kernel
theorem dm_X11_distance_83 : decode M_X11_distance.1 83 = .ok (.getfield 199, 3) := by decide +kernel
theorem dm_X11_distance_86 : decode M_X11_distance.1 86 = .ok (.lload 4, 2) := by decide +kernel
theorem dm_X11_distance_88 : decode M_X11_distance.1 88 = .ok (.lastore, 1) := by decide +kernel
theorem dm_X11_distance_89 : decode M_X11_distance.1 89 = .ok (.aload_n 0, 1) := by decide +kernel
theorem dm_X11_distance_90 : decode M_X11_distance.1 90 = .ok (.getfield 27, 3) := by decide +kernel
theorem dm_X11_distance_93 : decode M_X11_distance.1 93 = .ok (.aload_n 0, 1) := by decide +kernel
theorem dm_X11_distance_94 : decode M_X11_distance.1 94 = .ok (.getfield 199, 3) := by decide +kernel
theorem dm_X11_distance_97 : decode M_X11_distance.1 97 = .ok (.aload_n 0, 1) := by decide +kernel
theorem dm_X11_distance_98 : decode M_X11_distance.1 98 = .ok (.getfield 202, 3) := by decide +kernel
theorem dm_X11_distance_101 : decode M_X11_distance.1 101 = .ok (.iastore, 1) := by decide +kernel
theorem dm_X11_distance_102 : decode M_X11_distance.1 102 = .ok (.aload_n 0, 1) := by decide +kernel
theorem dm_X11_distance_103 : decode M_X11_distance.1 103 = .ok (.getfield 30, 3) := by decide +kernel
theorem dm_X11_distance_106 : decode M_X11_distance.1 106 = .ok (.aload_n 0, 1) := by decide +kernel
theorem dm_X11_distance_107 : decode M_X11_distance.1 107 = .ok (.getfield 199, 3) := by decide +kernel
theorem dm_X11_distance_110 : decode M_X11_distance.1 110 = .ok (.aload_n 0, 1) := by decide +kernel
theorem dm_X11_distance_111 : decode M_X11_distance.1 111 = .ok (.getfield 205, 3) := by decide +kernel
theorem dm_X11_distance_114 : decode M_X11_distance.1 114 = .ok (.iastore, 1) := by decide +kernel
theorem dm_X11_distance_115 : decode M_X11_distance.1 115 = .ok (.aload_n 0, 1) := by decide +kernel
theorem dm_X11_distance_116 : decode M_X11_distance.1 116 = .ok (.dup, 1) := by decide +kernel
theorem dm_X11_distance_117 : decode M_X11_distance.1 117 = .ok (.getfield 199, 3) := by decide +kernel
theorem dm_X11_distance_120 : decode M_X11_distance.1 120 = .ok (.aload_n 0, 1) := by decide +kernel
theorem dm_X11_distance_121 : decode M_X11_distance.1 121 = .ok (.getfield 102, 3) := by decide +kernel
theorem dm_X11_distance_124 : decode M_X11_distance.1 124 = .ok (.ifCond .ne 13, 3) := by decide +kernel
theorem dm_X11_distance_127 : decode M_X11_distance.1 127 = .ok (.aload_n 0, 1) := by decide +kernel
theorem dm_X11_distance_128 : decode M_X11_distance.1 128 = .ok (.getfield 199, 3) := by decide +kernel
theorem dm_X11_distance_131 : decode M_X11_distance.1 131 = .ok (.sipush 128, 3) := by decide +kernel
theorem dm_X11_distance_134 : decode M_X11_distance.1 134 = .ok (.if_icmp .ne 7, 3) := by decide +kernel
theorem dm_X11_distance_137 : decode M_X11_distance.1 137 = .ok (.iconst 0, 1) := by decide +kernel
theorem dm_X11_distance_138 : decode M_X11_distance.1 138 = .ok (.goto 4, 3) := by decide +kernel
theorem dm_X11_distance_141 : decode M_X11_distance.1 141 = .ok (.iconst 1, 1) := by decide +kernel
theorem dm_X11_distance_142 : decode M_X11_distance.1 142 = .ok (.iadd, 1) := by decide +kernel
theorem dm_X11_distance_143 : decode M_X11_distance.1 143 = .ok (.putfield 199, 3) := by decide +kernel
theorem dm_X11_distance_146 : decode M_X11_distance.1 146 = .ok (.iconst 0, 1) := by decide +kernel
theorem dm_X11_distance_147 : decode M_X11_distance.1 147 = .ok (.ireturn, 1) := by decide +kernel
theorem dm_X11_distance_148 : decode M_X11_distance.1 148 = .ok (.aload_n 0, 1) := by decide +kernel
theorem dm_X11_distance_149 : decode M_X11_distance.1 149 = .ok (.lload_n 2, 1) := by decide +kernel
theorem dm_X11_distance_150 : decode M_X11_distance.1 150 = .ok (.lneg, 1) := by decide +kernel
theorem dm_X11_distance_151 : decode M_X11_distance.1 151 = .ok (.ldc2_w 208, 3) := by decide +kernel
theorem dm_X11_distance_154 : decode M_X11_distance.1 154 = .ok (.lsub, 1) := by decide +kernel
theorem dm_X11_distance_155 : decode M_X11_distance.1 155 = .ok (.lload_n 2, 1) := by decide +kernel
theorem dm_X11_distance_156 : decode M_X11_distance.1 156 = .ok (.invokevirtual 210, 3) := by decide +kernel
theorem dm_X11_distance_159 : decode M_X11_distance.1 159 = .ok (.lstore 4, 2) := by decide +kernel
theorem dm_X11_distance_161 : decode M_X11_distance.1 161 = .ok (.aload_n 0, 1) := by decide +kernel
theorem dm_X11_distance_162 : decode M_X11_distance.1 162 = .ok (.aload_n 0, 1) := by decide +kernel
theorem dm_X11_distance_163 : decode M_X11_distance.1 163 = .ok (.getfield 111, 3) := by decide +kernel
theorem dm_X11_distance_166 : decode M_X11_distance.1 166 = .ok (.ifCond .ne 12, 3) := by decide +kernel
theorem dm_X11_distance_169 : decode M_X11_distance.1 169 = .ok (.lload 4, 2) := by decide +kernel
theorem dm_X11_distance_171 : decode M_X11_distance.1 171 = .ok (.lconst 1, 1) := by decide +kernel
theorem dm_X11_distance_172 : decode M_X11_distance.1 172 = .ok (.land, 1) := by decide +kernel
theorem dm_X11_distance_173 : decode M_X11_distance.1 173 = .ok (.lconst 0, 1) := by decide +kernel
theorem dm_X11_distance_174 : decode M_X11_distance.1 174 = .ok (.lcmp, 1) := by decide +kernel
theorem dm_X11_distance_175 : decode M_X11_distance.1 175 = .ok (.ifCond .eq 7, 3) := by decide +kernel
theorem dm_X11_distance_178 : decode M_X11_distance.1 178 = .ok (.iconst 1, 1) := by decide +kernel
theorem dm_X11_distance_179 : decode M_X11_distance.1 179 = .ok (.goto 4, 3) := by decide +kernel
theorem dm_X11_distance_182 : decode M_X11_distance.1 182 = .ok (.iconst 0, 1) := by decide +kernel
theorem dm_X11_distance_183 : decode M_X11_distance.1 183 = .ok (.putfield 111, 3) := by decide +kernel
theorem dm_X11_distance_186 : decode M_X11_distance.1 186 = .ok (.iload_n 1, 1) := by decide +kernel
theorem dm_X11_distance_187 : decode M_X11_distance.1 187 = .ok (.ifCond .eq 12, 3) := by decide +kernel
theorem dm_X11_distance_190 : decode M_X11_distance.1 190 = .ok (.lload 4, 2) := by decide +kernel
theorem dm_X11_distance_192 : decode M_X11_distance.1 192 = .ok (.l2i, 1) := by decide +kernel
theorem dm_X11_distance_193 : decode M_X11_distance.1 193 = .ok (.invokestatic 214, 3) := by decide +kernel
theorem dm_X11_distance_196 : decode M_X11_distance.1 196 = .ok (.goto 9, 3) := by decide +kernel
theorem dm_X11_distance_199 : decode M_X11_distance.1 199 = .ok (.lload 4, 2) := by decide +kernel
theorem dm_X11_distance_201 : decode M_X11_distance.1 201 = .ok (.l2i, 1) := by decide +kernel
theorem dm_X11_distance_202 : decode M_X11_distance.1 202 = .ok (.invokestatic 217, 3) := by decide +kernel
theorem dm_X11_distance_205 : decode M_X11_distance.1 205 = .ok (.ireturn, 1) := by decide +kernel
theorem gc_X11_distance_95 : g_cv M_X11_distance 95 M_X11_skip yX11_skip 0 := ⟨tw421, tw422, tw423, tw5, tw424, ⟨rfl, rfl, rfl, rfl⟩, gd_X11_skip, ⟨by decide, by decide⟩⟩
theorem gc_X11_distance_91 : g_cv M_X11_distance 91 M_X11_character yX11_character 1 := ⟨tw425, tw426, tw427, tw5, tw428, ⟨rfl, rfl, rfl, rfl⟩, gd_X11_character, ⟨by decide, by decide⟩⟩
theorem gc_X11_distance_98 : g_cs M_X11_distance 98 M_X11_isLetter yX11_isLetter 1 := ⟨tw433, tw434, tw5, tw435, ⟨rfl, rfl, rfl, rfl⟩, gd_X11_isLetter, ⟨by decide, by decide⟩⟩
theorem gc_X11_distance_195 : g_cv M_X11_distance 195 M_X11_letters yX11_letters 0 := ⟨tw429, tw430, tw431, tw5, tw432, ⟨rfl, rfl, rfl, rfl⟩, gd_X11_letters, ⟨by decide, by decide⟩⟩
theorem gc_X11_distance_210 : g_cv M_X11_distance 210 M_X11_number yX11_number 2 := ⟨tw509, tw510, tw511, tw5, tw512, ⟨rfl, rfl, rfl, rfl⟩, gd_X11_number, ⟨by decide, by decide⟩⟩
theorem gc_X11_distance_214 : g_cs M_X11_distance 214 M_X11_jumping yX11_jumping 1 := ⟨tw527, tw528, tw5, tw529, ⟨rfl, rfl, rfl, rfl⟩, gd_X11_jumping, ⟨by decide, by decide⟩⟩
theorem gc_X11_distance_217 : g_cs M_X11_distance 217 M_X11_branching yX11_branching 1 := ⟨tw530, tw531, tw5, tw532, ⟨rfl, rfl, rfl, rfl⟩, gd_X11_branching, ⟨by decide, by decide⟩⟩
def f_X11_distance_c202 (targets : Int32) (target : Nat → Int64) (targetWord : Nat → Int32) (targetLine : Nat → Int32) (z4_1 : Int32) (z4_2 : Int32) (z5_0 : Int32) : Int32 × Int32 × Int32 × Int32 × Int32 × (Nat → Int64) × (Nat → Int32) × (Nat → Int32) := (z5_0, z4_1, targets, z4_2, (1 : Int32), target, targetWord, targetLine)
def f_X11_distance_c193 (targets : Int32) (target : Nat → Int64) (targetWord : Nat → Int32) (targetLine : Nat → Int32) (z4_1 : Int32) (z4_2 : Int32) (z6_0 : Int32) : Int32 × Int32 × Int32 × Int32 × Int32 × (Nat → Int64) × (Nat → Int32) × (Nat → Int32) := (z6_0, z4_1, targets, z4_2, (1 : Int32), target, targetWord, targetLine)
def f_X11_distance_c202_7 (targets : Int32) (target : Nat → Int64) (targetWord : Nat → Int32) (targetLine : Nat → Int32) (z4_1 : Int32) (z4_2 : Int32) (z7_0 : Int32) : Int32 × Int32 × Int32 × Int32 × Int32 × (Nat → Int64) × (Nat → Int32) × (Nat → Int32) := (z7_0, z4_1, targets, z4_2, (0 : Int32), target, targetWord, targetLine)
def f_X11_distance_c193_8 (targets : Int32) (target : Nat → Int64) (targetWord : Nat → Int32) (targetLine : Nat → Int32) (z4_1 : Int32) (z4_2 : Int32) (z8_0 : Int32) : Int32 × Int32 × Int32 × Int32 × Int32 × (Nat → Int64) × (Nat → Int32) × (Nat → Int32) := (z8_0, z4_1, targets, z4_2, (0 : Int32), target, targetWord, targetLine)
def f_X11_distance_c202_9 (targets : Int32) (target : Nat → Int64) (targetWord : Nat → Int32) (targetLine : Nat → Int32) (z4_1 : Int32) (z4_2 : Int32) (z9_0 : Int32) : Int32 × Int32 × Int32 × Int32 × Int32 × (Nat → Int64) × (Nat → Int32) × (Nat → Int32) := (z9_0, z4_1, targets, z4_2, (1 : Int32), target, targetWord, targetLine)
def f_X11_distance_c193_10 (targets : Int32) (target : Nat → Int64) (targetWord : Nat → Int32) (targetLine : Nat → Int32) (z4_1 : Int32) (z4_2 : Int32) (z10_0 : Int32) : Int32 × Int32 × Int32 × Int32 × Int32 × (Nat → Int64) × (Nat → Int32) × (Nat → Int32) := (z10_0, z4_1, targets, z4_2, (1 : Int32), target, targetWord, targetLine)
def f_X11_distance_c156 (targets : Int32) (target : Nat → Int64) (targetWord : Nat → Int32) (targetLine : Nat → Int32) (l1 : Int32) (z4_0 : Int64) (z4_1 : Int32) (z4_2 : Int32) (z4_3 : Int32) : Int32 × Int32 × Int32 × Int32 × Int32 × (Nat → Int64) × (Nat → Int32) × (Nat → Int32) := (if z4_3 = 0 then (if (lg_cmp (z4_0 &&& (1 : Int64)) (0 : Int64)) = 0 then (if l1 = 0 then (f_X11_distance_c202_7 targets target targetWord targetLine z4_1 z4_2 (f_X11_branching (Int64.toInt32 z4_0))) else (f_X11_distance_c193_8 targets target targetWord targetLine z4_1 z4_2 (f_X11_jumping (Int64.toInt32 z4_0)))) else (if l1 = 0 then (f_X11_distance_c202_9 targets target targetWord targetLine z4_1 z4_2 (f_X11_branching (Int64.toInt32 z4_0))) else (f_X11_distance_c193_10 targets target targetWord targetLine z4_1 z4_2 (f_X11_jumping (Int64.toInt32 z4_0))))) else (if l1 = 0 then (f_X11_distance_c202 targets target targetWord targetLine z4_1 z4_2 (f_X11_branching (Int64.toInt32 z4_0))) else (f_X11_distance_c193 targets target targetWord targetLine z4_1 z4_2 (f_X11_jumping (Int64.toInt32 z4_0)))))
def f_X11_distance_c33 (line : Int32) (words : Int32) (targets : Int32) (wrong : Int32) (unfit : Int32) (target : Nat → Int64) (targetWord : Nat → Int32) (targetLine : Nat → Int32) (z11_0 : Int64) (z11_1 : Int32) : Int32 × Int32 × Int32 × Int32 × Int32 × (Nat → Int64) × (Nat → Int32) × (Nat → Int32) := (if wrong = 0 then (if (lg_cmp z11_0 (0 : Int64)) = 0 then ((0 : Int32), z11_1, (targets + (0 : Int32)), (1 : Int32), unfit, target, targetWord, targetLine) else (if (128 : Int32) ≤ targets then (if targets = (128 : Int32) then ((0 : Int32), z11_1, (targets + (0 : Int32)), (0 : Int32), unfit, target, targetWord, targetLine) else ((0 : Int32), z11_1, (targets + (1 : Int32)), (0 : Int32), unfit, target, targetWord, targetLine)) else (if targets = (128 : Int32) then ((0 : Int32), z11_1, (targets + (0 : Int32)), (0 : Int32), unfit, (vp_updL target (Int32.toNatClampNeg targets) z11_0), (upd targetWord (Int32.toNatClampNeg targets) words), (upd targetLine (Int32.toNatClampNeg targets) line)) else ((0 : Int32), z11_1, (targets + (1 : Int32)), (0 : Int32), unfit, (vp_updL target (Int32.toNatClampNeg targets) z11_0), (upd targetWord (Int32.toNatClampNeg targets) words), (upd targetLine (Int32.toNatClampNeg targets) line))))) else ((0 : Int32), z11_1, (targets + (0 : Int32)), (1 : Int32), unfit, target, targetWord, targetLine))
def f_X11_distance_c26 (length : Int32) (at_ : Int32) (line : Int32) (words : Int32) (targets : Int32) (wrong : Int32) (unfit : Int32) (text : Nat → Int32) (target : Nat → Int64) (targetWord : Nat → Int32) (targetLine : Nat → Int32) (l1 : Int32) (s0 : Int64) (z3_0 : Int32) : Int32 × Int32 × Int32 × Int32 × Int32 × (Nat → Int64) × (Nat → Int32) × (Nat → Int32) := (if z3_0 = 0 then (f_X11_distance_c156 targets target targetWord targetLine l1 (f_X11_number ((-s0) - (2 : Int64)) s0 length at_ wrong unfit text).1 (f_X11_number ((-s0) - (2 : Int64)) s0 length at_ wrong unfit text).2.1 (f_X11_number ((-s0) - (2 : Int64)) s0 length at_ wrong unfit text).2.2.1 (f_X11_number ((-s0) - (2 : Int64)) s0 length at_ wrong unfit text).2.2.2) else (f_X11_distance_c33 line words targets wrong unfit target targetWord targetLine (f_X11_letters length at_ text).1 (f_X11_letters length at_ text).2))
def f_X11_distance_c23 (length : Int32) (at_ : Int32) (line : Int32) (words : Int32) (targets : Int32) (wrong : Int32) (unfit : Int32) (text : Nat → Int32) (target : Nat → Int64) (targetWord : Nat → Int32) (targetLine : Nat → Int32) (l1 : Int32) (s0 : Int64) (z2_0 : Int32) : Int32 × Int32 × Int32 × Int32 × Int32 × (Nat → Int64) × (Nat → Int32) × (Nat → Int32) := (f_X11_distance_c26 length at_ line words targets wrong unfit text target targetWord targetLine l1 s0 (f_X11_isLetter z2_0))
def f_X11_distance_17 (length : Int32) (at_ : Int32) (line : Int32) (words : Int32) (targets : Int32) (wrong : Int32) (unfit : Int32) (text : Nat → Int32) (target : Nat → Int64) (targetWord : Nat → Int32) (targetLine : Nat → Int32) (l1 : Int32) (s0 : Int64) : Int32 × Int32 × Int32 × Int32 × Int32 × (Nat → Int64) × (Nat → Int32) × (Nat → Int32) := (f_X11_distance_c23 length at_ line words targets wrong unfit text target targetWord targetLine l1 s0 (f_X11_character at_ length text))
set_option maxRecDepth 20000 in
theorem j_X11_distance_17 {l1 : Int32} {s0 : Int64} {refusal : Int32} {wheel : Int32} {now : Int32} {length : Int32} {at_ : Int32} {fault : Int32} {faultLine : Int32} {line : Int32} {words : Int32} {labels : Int32} {targets : Int32} {wrong : Int32} {unfit : Int32} {text : Nat → Int32} {code_ : Nat → Int32} {label : Nat → Int64} {labelWord : Nat → Int32} {target : Nat → Int64} {targetWord : Nat → Int32} {targetLine : Nat → Int32} {store : Nat → Int32} {common : Nat → Int32} {low : Nat → Int32} {high : Nat → Int32} {register : Nat → Int32} {address : Nat → Int32} {status : Nat → Int32} {did : Nat → Int32} {ready : Nat → Int32} {timer : Nat → Int32} {trace : Nat → Int32} {r_0 : Int32} {r_1 : Int32} {r_2 : Int32} {r_3 : Int32} {r_4 : Int32} {r_5 : (Nat → Int64)} {r_6 : (Nat → Int32)} {r_7 : (Nat → Int32)} (hres : (r_0, r_1, r_2, r_3, r_4, r_5, r_6, r_7) = (f_X11_distance_17 length at_ line words targets wrong unfit text target targetWord targetLine l1 s0)) (hln : 0 ≤ length.toInt ∧ length.toInt ≤ 400) (hat : 0 ≤ at_.toInt ∧ at_.toInt ≤ 400) (htg : 0 ≤ targets.toInt ∧ targets.toInt ≤ 128) : G M_X11_distance 0 0 17 [(0, .ref 0), (1, .int l1)] [.long s0] (w_M refusal wheel now length at_ fault faultLine line words labels targets wrong unfit text code_ label labelWord target targetWord targetLine store common low high register address status did ready timer trace) (some (.int r_0)) (w_M refusal wheel now length r_1 fault faultLine line words labels r_2 r_3 r_4 text code_ label labelWord r_5 r_6 r_7 store common low high register address status did ready timer trace) := by
  rw [f_X11_distance_17] at hres
  refine G.lstore_n (pc := 17) (lv1 := [(2, .long s0), (0, .ref 0), (1, .int l1)]) dm_X11_distance_17 rfl rfl ?_
  refine G.aload_n (pc := 18) dm_X11_distance_18 rfl ?_
  refine G.aload_n (pc := 19) dm_X11_distance_19 rfl ?_
  refine G.getfield (pc := 20) dm_X11_distance_20 gf_X11_88 rfl rfl ?_
  obtain ⟨z2_0, hz2⟩ := g_ex1 (f_X11_character at_ length text)
  refine G.callV0 (pc := 23) (rest := []) (st1 := [.int z2_0]) dm_X11_distance_23 gc_X11_distance_91 (k_X11_character (p := at_) (refusal := refusal) (wheel := wheel) (now := now) (length := length) (at_ := at_) (fault := fault) (faultLine := faultLine) (line := line) (words := words) (labels := labels) (targets := targets) (wrong := wrong) (unfit := unfit) (text := text) (code_ := code_) (label := label) (labelWord := labelWord) (target := target) (targetWord := targetWord) (targetLine := targetLine) (store := store) (common := common) (low := low) (high := high) (register := register) (address := address) (status := status) (did := did) (ready := ready) (timer := timer) (trace := trace) hln hat.1 hz2) rfl rfl rfl rfl rfl rfl rfl rfl ?_
  replace hres : (r_0, r_1, r_2, r_3, r_4, r_5, r_6, r_7) = f_X11_distance_c23 length at_ line words targets wrong unfit text target targetWord targetLine l1 s0 z2_0 := hres.trans (by rw [← hz2])
  rw [f_X11_distance_c23] at hres
  obtain ⟨z3_0, hz3⟩ := g_ex1 (f_X11_isLetter z2_0)
  refine G.callS (pc := 26) (rest := []) (st1 := [.int z3_0]) (ws1 := (w_M refusal wheel now length at_ fault faultLine line words labels targets wrong unfit text code_ label labelWord target targetWord targetLine store common low high register address status did ready timer trace)) [] dm_X11_distance_26 gc_X11_distance_98 (k_X11_isLetter (c := z2_0) hz3) rfl rfl rfl rfl rfl rfl rfl rfl ?_
  replace hres : (r_0, r_1, r_2, r_3, r_4, r_5, r_6, r_7) = f_X11_distance_c26 length at_ line words targets wrong unfit text target targetWord targetLine l1 s0 z3_0 := hres.trans (by rw [← hz3])
  rw [f_X11_distance_c26] at hres
  refine G.if_eq (pc := 29) (tgt := 148) dm_X11_distance_29 (by decide) (fun c29 => ?_) (fun c29 => ?_)
  · rw [if_pos c29] at hres
    refine G.aload_n (pc := 148) dm_X11_distance_148 rfl ?_
    refine G.lload_n (pc := 149) dm_X11_distance_149 rfl ?_
    refine G.lneg (pc := 150) dm_X11_distance_150 ?_
    refine G.ldc2 (pc := 151) dm_X11_distance_151 tw526 ?_
    refine G.lsub (pc := 154) dm_X11_distance_154 ?_
    refine G.lload_n (pc := 155) dm_X11_distance_155 rfl ?_
    obtain ⟨z4_0, z4_1, z4_2, z4_3, hz4⟩ := g_ex4 (f_X11_number ((-s0) - (2 : Int64)) s0 length at_ wrong unfit text)
    refine G.callV0 (pc := 156) (rest := []) (st1 := [.long z4_0]) dm_X11_distance_156 gc_X11_distance_210 (k_X11_number (least := ((-s0) - (2 : Int64))) (most := s0) (refusal := refusal) (wheel := wheel) (now := now) (length := length) (at_ := at_) (fault := fault) (faultLine := faultLine) (line := line) (words := words) (labels := labels) (targets := targets) (wrong := wrong) (unfit := unfit) (text := text) (code_ := code_) (label := label) (labelWord := labelWord) (target := target) (targetWord := targetWord) (targetLine := targetLine) (store := store) (common := common) (low := low) (high := high) (register := register) (address := address) (status := status) (did := did) (ready := ready) (timer := timer) (trace := trace) (by first | assumption | exact q_31 _ | exact q_7 _) (by first | assumption | exact q_31 _ | exact q_7 _) hz4) rfl rfl rfl rfl rfl rfl rfl rfl ?_
    have hat := (a_number hz4 hln hat).1
    replace hres : (r_0, r_1, r_2, r_3, r_4, r_5, r_6, r_7) = f_X11_distance_c156 targets target targetWord targetLine l1 z4_0 z4_1 z4_2 z4_3 := hres.trans (by rw [← hz4])
    rw [f_X11_distance_c156] at hres
    refine G.lstore (pc := 159) (lv1 := [(4, .long z4_0), (2, .long s0), (0, .ref 0), (1, .int l1)]) dm_X11_distance_159 rfl rfl ?_
    refine G.aload_n (pc := 161) dm_X11_distance_161 rfl ?_
    refine G.aload_n (pc := 162) dm_X11_distance_162 rfl ?_
    refine G.getfield (pc := 163) dm_X11_distance_163 gf_X11_111 rfl rfl ?_
    refine G.if_ne (pc := 166) (tgt := 178) dm_X11_distance_166 (by decide) (fun c166 => ?_) (fun c166 => ?_)
    · rw [if_neg c166] at hres
      refine G.iconst (pc := 178) (v := (1 : Int32)) dm_X11_distance_178 qi_1 ?_
      refine G.goto (pc := 179) (tgt := 183) dm_X11_distance_179 (by decide) ?_
      refine G.putfield (pc := 183) (ws1 := (w_M refusal wheel now length z4_1 fault faultLine line words labels targets z4_2 (1 : Int32) text code_ label labelWord target targetWord targetLine store common low high register address status did ready timer trace)) dm_X11_distance_183 gw_X11_111 rfl (g_fit_z (Or.inr rfl)) rfl rfl ?_
      refine G.iload_n (pc := 186) dm_X11_distance_186 rfl ?_
      refine G.if_eq (pc := 187) (tgt := 199) dm_X11_distance_187 (by decide) (fun c187 => ?_) (fun c187 => ?_)
      · rw [if_pos c187] at hres
        refine G.lload (pc := 199) dm_X11_distance_199 rfl ?_
        refine G.l2i (pc := 201) dm_X11_distance_201 ?_
        obtain ⟨z5_0, hz5⟩ := g_ex1 (f_X11_branching (Int64.toInt32 z4_0))
        refine G.callS (pc := 202) (rest := []) (st1 := [.int z5_0]) (ws1 := (w_M refusal wheel now length z4_1 fault faultLine line words labels targets z4_2 (1 : Int32) text code_ label labelWord target targetWord targetLine store common low high register address status did ready timer trace)) [] dm_X11_distance_202 gc_X11_distance_217 (k_X11_branching (n := (Int64.toInt32 z4_0)) hz5) rfl rfl rfl rfl rfl rfl rfl rfl ?_
        replace hres : (r_0, r_1, r_2, r_3, r_4, r_5, r_6, r_7) = f_X11_distance_c202 targets target targetWord targetLine z4_1 z4_2 z5_0 := hres.trans (by rw [← hz5])
        rw [f_X11_distance_c202] at hres
        cases hres
        exact G.ireturn (pc := 205) dm_X11_distance_205 rfl rfl rfl
      · rw [if_neg c187] at hres
        refine G.lload (pc := 190) dm_X11_distance_190 rfl ?_
        refine G.l2i (pc := 192) dm_X11_distance_192 ?_
        obtain ⟨z6_0, hz6⟩ := g_ex1 (f_X11_jumping (Int64.toInt32 z4_0))
        refine G.callS (pc := 193) (rest := []) (st1 := [.int z6_0]) (ws1 := (w_M refusal wheel now length z4_1 fault faultLine line words labels targets z4_2 (1 : Int32) text code_ label labelWord target targetWord targetLine store common low high register address status did ready timer trace)) [] dm_X11_distance_193 gc_X11_distance_214 (k_X11_jumping (n := (Int64.toInt32 z4_0)) hz6) rfl rfl rfl rfl rfl rfl rfl rfl ?_
        replace hres : (r_0, r_1, r_2, r_3, r_4, r_5, r_6, r_7) = f_X11_distance_c193 targets target targetWord targetLine z4_1 z4_2 z6_0 := hres.trans (by rw [← hz6])
        rw [f_X11_distance_c193] at hres
        refine G.goto (pc := 196) (tgt := 205) dm_X11_distance_196 (by decide) ?_
        cases hres
        exact G.ireturn (pc := 205) dm_X11_distance_205 rfl rfl rfl
    · rw [if_pos c166] at hres
      refine G.lload (pc := 169) dm_X11_distance_169 rfl ?_
      refine G.lconst (pc := 171) (v := (1 : Int64)) dm_X11_distance_171 (by decide) ?_
      refine G.land (pc := 172) dm_X11_distance_172 ?_
      refine G.lconst (pc := 173) (v := (0 : Int64)) dm_X11_distance_173 (by decide) ?_
      refine G.lcmp (pc := 174) dm_X11_distance_174 ?_
      refine G.if_eq (pc := 175) (tgt := 182) dm_X11_distance_175 (by decide) (fun c175 => ?_) (fun c175 => ?_)
      · rw [if_pos c175] at hres
        refine G.iconst (pc := 182) (v := (0 : Int32)) dm_X11_distance_182 qi_0 ?_
        refine G.putfield (pc := 183) (ws1 := (w_M refusal wheel now length z4_1 fault faultLine line words labels targets z4_2 (0 : Int32) text code_ label labelWord target targetWord targetLine store common low high register address status did ready timer trace)) dm_X11_distance_183 gw_X11_111 rfl (g_fit_z (Or.inl rfl)) rfl rfl ?_
        refine G.iload_n (pc := 186) dm_X11_distance_186 rfl ?_
        refine G.if_eq (pc := 187) (tgt := 199) dm_X11_distance_187 (by decide) (fun c187 => ?_) (fun c187 => ?_)
        · rw [if_pos c187] at hres
          refine G.lload (pc := 199) dm_X11_distance_199 rfl ?_
          refine G.l2i (pc := 201) dm_X11_distance_201 ?_
          obtain ⟨z7_0, hz7⟩ := g_ex1 (f_X11_branching (Int64.toInt32 z4_0))
          refine G.callS (pc := 202) (rest := []) (st1 := [.int z7_0]) (ws1 := (w_M refusal wheel now length z4_1 fault faultLine line words labels targets z4_2 (0 : Int32) text code_ label labelWord target targetWord targetLine store common low high register address status did ready timer trace)) [] dm_X11_distance_202 gc_X11_distance_217 (k_X11_branching (n := (Int64.toInt32 z4_0)) hz7) rfl rfl rfl rfl rfl rfl rfl rfl ?_
          replace hres : (r_0, r_1, r_2, r_3, r_4, r_5, r_6, r_7) = f_X11_distance_c202_7 targets target targetWord targetLine z4_1 z4_2 z7_0 := hres.trans (by rw [← hz7])
          rw [f_X11_distance_c202_7] at hres
          cases hres
          exact G.ireturn (pc := 205) dm_X11_distance_205 rfl rfl rfl
        · rw [if_neg c187] at hres
          refine G.lload (pc := 190) dm_X11_distance_190 rfl ?_
          refine G.l2i (pc := 192) dm_X11_distance_192 ?_
          obtain ⟨z8_0, hz8⟩ := g_ex1 (f_X11_jumping (Int64.toInt32 z4_0))
          refine G.callS (pc := 193) (rest := []) (st1 := [.int z8_0]) (ws1 := (w_M refusal wheel now length z4_1 fault faultLine line words labels targets z4_2 (0 : Int32) text code_ label labelWord target targetWord targetLine store common low high register address status did ready timer trace)) [] dm_X11_distance_193 gc_X11_distance_214 (k_X11_jumping (n := (Int64.toInt32 z4_0)) hz8) rfl rfl rfl rfl rfl rfl rfl rfl ?_
          replace hres : (r_0, r_1, r_2, r_3, r_4, r_5, r_6, r_7) = f_X11_distance_c193_8 targets target targetWord targetLine z4_1 z4_2 z8_0 := hres.trans (by rw [← hz8])
          rw [f_X11_distance_c193_8] at hres
          refine G.goto (pc := 196) (tgt := 205) dm_X11_distance_196 (by decide) ?_
          cases hres
          exact G.ireturn (pc := 205) dm_X11_distance_205 rfl rfl rfl
      · rw [if_neg c175] at hres
        refine G.iconst (pc := 178) (v := (1 : Int32)) dm_X11_distance_178 qi_1 ?_
        refine G.goto (pc := 179) (tgt := 183) dm_X11_distance_179 (by decide) ?_
        refine G.putfield (pc := 183) (ws1 := (w_M refusal wheel now length z4_1 fault faultLine line words labels targets z4_2 (1 : Int32) text code_ label labelWord target targetWord targetLine store common low high register address status did ready timer trace)) dm_X11_distance_183 gw_X11_111 rfl (g_fit_z (Or.inr rfl)) rfl rfl ?_
        refine G.iload_n (pc := 186) dm_X11_distance_186 rfl ?_
        refine G.if_eq (pc := 187) (tgt := 199) dm_X11_distance_187 (by decide) (fun c187 => ?_) (fun c187 => ?_)
        · rw [if_pos c187] at hres
          refine G.lload (pc := 199) dm_X11_distance_199 rfl ?_
          refine G.l2i (pc := 201) dm_X11_distance_201 ?_
          obtain ⟨z9_0, hz9⟩ := g_ex1 (f_X11_branching (Int64.toInt32 z4_0))
          refine G.callS (pc := 202) (rest := []) (st1 := [.int z9_0]) (ws1 := (w_M refusal wheel now length z4_1 fault faultLine line words labels targets z4_2 (1 : Int32) text code_ label labelWord target targetWord targetLine store common low high register address status did ready timer trace)) [] dm_X11_distance_202 gc_X11_distance_217 (k_X11_branching (n := (Int64.toInt32 z4_0)) hz9) rfl rfl rfl rfl rfl rfl rfl rfl ?_
          replace hres : (r_0, r_1, r_2, r_3, r_4, r_5, r_6, r_7) = f_X11_distance_c202_9 targets target targetWord targetLine z4_1 z4_2 z9_0 := hres.trans (by rw [← hz9])
          rw [f_X11_distance_c202_9] at hres
          cases hres
          exact G.ireturn (pc := 205) dm_X11_distance_205 rfl rfl rfl
        · rw [if_neg c187] at hres
          refine G.lload (pc := 190) dm_X11_distance_190 rfl ?_
          refine G.l2i (pc := 192) dm_X11_distance_192 ?_
          obtain ⟨z10_0, hz10⟩ := g_ex1 (f_X11_jumping (Int64.toInt32 z4_0))
          refine G.callS (pc := 193) (rest := []) (st1 := [.int z10_0]) (ws1 := (w_M refusal wheel now length z4_1 fault faultLine line words labels targets z4_2 (1 : Int32) text code_ label labelWord target targetWord targetLine store common low high register address status did ready timer trace)) [] dm_X11_distance_193 gc_X11_distance_214 (k_X11_jumping (n := (Int64.toInt32 z4_0)) hz10) rfl rfl rfl rfl rfl rfl rfl rfl ?_
          replace hres : (r_0, r_1, r_2, r_3, r_4, r_5, r_6, r_7) = f_X11_distance_c193_10 targets target targetWord targetLine z4_1 z4_2 z10_0 := hres.trans (by rw [← hz10])
          rw [f_X11_distance_c193_10] at hres
          refine G.goto (pc := 196) (tgt := 205) dm_X11_distance_196 (by decide) ?_
          cases hres
          exact G.ireturn (pc := 205) dm_X11_distance_205 rfl rfl rfl
  · rw [if_neg c29] at hres
    refine G.aload_n (pc := 32) dm_X11_distance_32 rfl ?_
    obtain ⟨z11_0, z11_1, hz11⟩ := g_ex2 (f_X11_letters length at_ text)
    refine G.callV0 (pc := 33) (rest := []) (st1 := [.long z11_0]) dm_X11_distance_33 gc_X11_distance_195 (k_X11_letters (refusal := refusal) (wheel := wheel) (now := now) (length := length) (at_ := at_) (fault := fault) (faultLine := faultLine) (line := line) (words := words) (labels := labels) (targets := targets) (wrong := wrong) (unfit := unfit) (text := text) (code_ := code_) (label := label) (labelWord := labelWord) (target := target) (targetWord := targetWord) (targetLine := targetLine) (store := store) (common := common) (low := low) (high := high) (register := register) (address := address) (status := status) (did := did) (ready := ready) (timer := timer) (trace := trace) (by first | assumption | exact q_31 _ | exact q_7 _) (by first | assumption | exact q_31 _ | exact q_7 _) hz11) rfl rfl rfl rfl rfl rfl rfl rfl ?_
    have hat := (a_letters hz11 hln hat).1
    replace hres : (r_0, r_1, r_2, r_3, r_4, r_5, r_6, r_7) = f_X11_distance_c33 line words targets wrong unfit target targetWord targetLine z11_0 z11_1 := hres.trans (by rw [← hz11])
    rw [f_X11_distance_c33] at hres
    refine G.lstore (pc := 36) (lv1 := [(4, .long z11_0), (2, .long s0), (0, .ref 0), (1, .int l1)]) dm_X11_distance_36 rfl rfl ?_
    refine G.aload_n (pc := 38) dm_X11_distance_38 rfl ?_
    refine G.aload_n (pc := 39) dm_X11_distance_39 rfl ?_
    refine G.getfield (pc := 40) dm_X11_distance_40 gf_X11_102 rfl rfl ?_
    refine G.if_ne (pc := 43) (tgt := 53) dm_X11_distance_43 (by decide) (fun c43 => ?_) (fun c43 => ?_)
    · rw [if_neg c43] at hres
      refine G.iconst (pc := 53) (v := (1 : Int32)) dm_X11_distance_53 qi_1 ?_
      refine G.goto (pc := 54) (tgt := 58) dm_X11_distance_54 (by decide) ?_
      refine G.putfield (pc := 58) (ws1 := (w_M refusal wheel now length z11_1 fault faultLine line words labels targets (1 : Int32) unfit text code_ label labelWord target targetWord targetLine store common low high register address status did ready timer trace)) dm_X11_distance_58 gw_X11_102 rfl (g_fit_z (Or.inr rfl)) rfl rfl ?_
      refine G.aload_n (pc := 61) dm_X11_distance_61 rfl ?_
      refine G.getfield (pc := 62) dm_X11_distance_62 gf_X11_102 rfl rfl ?_
      refine G.if_ne (pc := 65) (tgt := 115) dm_X11_distance_65 (by decide) (fun c65 => ?_) (fun c65 => absurd c65 (by decide))
      refine G.aload_n (pc := 115) dm_X11_distance_115 rfl ?_
      refine G.dup (pc := 116) dm_X11_distance_116 rfl ?_
      refine G.getfield (pc := 117) dm_X11_distance_117 gf_X11_199 rfl rfl ?_
      refine G.aload_n (pc := 120) dm_X11_distance_120 rfl ?_
      refine G.getfield (pc := 121) dm_X11_distance_121 gf_X11_102 rfl rfl ?_
      refine G.if_ne (pc := 124) (tgt := 137) dm_X11_distance_124 (by decide) (fun c124 => ?_) (fun c124 => absurd c124 (by decide))
      refine G.iconst (pc := 137) (v := (0 : Int32)) dm_X11_distance_137 qi_0 ?_
      refine G.goto (pc := 138) (tgt := 142) dm_X11_distance_138 (by decide) ?_
      refine G.iadd (pc := 142) dm_X11_distance_142 ?_
      refine G.putfield (pc := 143) (ws1 := (w_M refusal wheel now length z11_1 fault faultLine line words labels (targets + (0 : Int32)) (1 : Int32) unfit text code_ label labelWord target targetWord targetLine store common low high register address status did ready timer trace)) dm_X11_distance_143 gw_X11_199 rfl (g_fit_i _) rfl rfl ?_
      refine G.iconst (pc := 146) (v := (0 : Int32)) dm_X11_distance_146 qi_0 ?_
      cases hres
      exact G.ireturn (pc := 147) dm_X11_distance_147 rfl rfl rfl
    · rw [if_pos c43] at hres
      refine G.lload (pc := 46) dm_X11_distance_46 rfl ?_
      refine G.lconst (pc := 48) (v := (0 : Int64)) dm_X11_distance_48 (by decide) ?_
      refine G.lcmp (pc := 49) dm_X11_distance_49 ?_
      refine G.if_ne (pc := 50) (tgt := 57) dm_X11_distance_50 (by decide) (fun c50 => ?_) (fun c50 => ?_)
      · rw [if_neg c50] at hres
        refine G.iconst (pc := 57) (v := (0 : Int32)) dm_X11_distance_57 qi_0 ?_
        refine G.putfield (pc := 58) (ws1 := (w_M refusal wheel now length z11_1 fault faultLine line words labels targets (0 : Int32) unfit text code_ label labelWord target targetWord targetLine store common low high register address status did ready timer trace)) dm_X11_distance_58 gw_X11_102 rfl (g_fit_z (Or.inl rfl)) rfl rfl ?_
        refine G.aload_n (pc := 61) dm_X11_distance_61 rfl ?_
        refine G.getfield (pc := 62) dm_X11_distance_62 gf_X11_102 rfl rfl ?_
        refine G.if_ne (pc := 65) (tgt := 115) dm_X11_distance_65 (by decide) (fun c65 => absurd rfl c65) (fun c65 => ?_)
        refine G.aload_n (pc := 68) dm_X11_distance_68 rfl ?_
        refine G.getfield (pc := 69) dm_X11_distance_69 gf_X11_199 rfl rfl ?_
        refine G.sipush (pc := 72) (v := (128 : Int32)) dm_X11_distance_72 qs_128 ?_
        refine G.icmp_ge (pc := 75) (tgt := 115) dm_X11_distance_75 (by decide) (fun c75 => ?_) (fun c75 => ?_)
        · rw [if_pos c75] at hres
          refine G.aload_n (pc := 115) dm_X11_distance_115 rfl ?_
          refine G.dup (pc := 116) dm_X11_distance_116 rfl ?_
          refine G.getfield (pc := 117) dm_X11_distance_117 gf_X11_199 rfl rfl ?_
          refine G.aload_n (pc := 120) dm_X11_distance_120 rfl ?_
          refine G.getfield (pc := 121) dm_X11_distance_121 gf_X11_102 rfl rfl ?_
          refine G.if_ne (pc := 124) (tgt := 137) dm_X11_distance_124 (by decide) (fun c124 => absurd rfl c124) (fun c124 => ?_)
          refine G.aload_n (pc := 127) dm_X11_distance_127 rfl ?_
          refine G.getfield (pc := 128) dm_X11_distance_128 gf_X11_199 rfl rfl ?_
          refine G.sipush (pc := 131) (v := (128 : Int32)) dm_X11_distance_131 qs_128 ?_
          refine G.icmp_ne (pc := 134) (tgt := 141) dm_X11_distance_134 (by decide) (fun c134 => ?_) (fun c134 => ?_)
          · rw [if_neg c134] at hres
            refine G.iconst (pc := 141) (v := (1 : Int32)) dm_X11_distance_141 qi_1 ?_
            refine G.iadd (pc := 142) dm_X11_distance_142 ?_
            refine G.putfield (pc := 143) (ws1 := (w_M refusal wheel now length z11_1 fault faultLine line words labels (targets + (1 : Int32)) (0 : Int32) unfit text code_ label labelWord target targetWord targetLine store common low high register address status did ready timer trace)) dm_X11_distance_143 gw_X11_199 rfl (g_fit_i _) rfl rfl ?_
            refine G.iconst (pc := 146) (v := (0 : Int32)) dm_X11_distance_146 qi_0 ?_
            cases hres
            exact G.ireturn (pc := 147) dm_X11_distance_147 rfl rfl rfl
          · rw [if_pos c134] at hres
            refine G.iconst (pc := 137) (v := (0 : Int32)) dm_X11_distance_137 qi_0 ?_
            refine G.goto (pc := 138) (tgt := 142) dm_X11_distance_138 (by decide) ?_
            refine G.iadd (pc := 142) dm_X11_distance_142 ?_
            refine G.putfield (pc := 143) (ws1 := (w_M refusal wheel now length z11_1 fault faultLine line words labels (targets + (0 : Int32)) (0 : Int32) unfit text code_ label labelWord target targetWord targetLine store common low high register address status did ready timer trace)) dm_X11_distance_143 gw_X11_199 rfl (g_fit_i _) rfl rfl ?_
            refine G.iconst (pc := 146) (v := (0 : Int32)) dm_X11_distance_146 qi_0 ?_
            cases hres
            exact G.ireturn (pc := 147) dm_X11_distance_147 rfl rfl rfl
        · rw [if_neg c75] at hres
          refine G.aload_n (pc := 78) dm_X11_distance_78 rfl ?_
          refine G.getfield (pc := 79) dm_X11_distance_79 gf_X11_24 rfl rfl ?_
          refine G.aload_n (pc := 82) dm_X11_distance_82 rfl ?_
          refine G.getfield (pc := 83) dm_X11_distance_83 gf_X11_199 rfl rfl ?_
          refine G.lload (pc := 86) dm_X11_distance_86 rfl ?_
          refine G.lastore (pc := 88) (ws1 := (w_M refusal wheel now length z11_1 fault faultLine line words labels targets (0 : Int32) unfit text code_ label labelWord (vp_updL target (Int32.toNatClampNeg targets) z11_0) targetWord targetLine store common low high register address status did ready timer trace)) dm_X11_distance_88 rfl (q_in htg.1 (by have h9 := q_nle c75; exact h9)) rfl ?_
          refine G.aload_n (pc := 89) dm_X11_distance_89 rfl ?_
          refine G.getfield (pc := 90) dm_X11_distance_90 gf_X11_27 rfl rfl ?_
          refine G.aload_n (pc := 93) dm_X11_distance_93 rfl ?_
          refine G.getfield (pc := 94) dm_X11_distance_94 gf_X11_199 rfl rfl ?_
          refine G.aload_n (pc := 97) dm_X11_distance_97 rfl ?_
          refine G.getfield (pc := 98) dm_X11_distance_98 gf_X11_202 rfl rfl ?_
          refine G.iastore (pc := 101) (ws1 := (w_M refusal wheel now length z11_1 fault faultLine line words labels targets (0 : Int32) unfit text code_ label labelWord (vp_updL target (Int32.toNatClampNeg targets) z11_0) (upd targetWord (Int32.toNatClampNeg targets) words) targetLine store common low high register address status did ready timer trace)) dm_X11_distance_101 rfl (q_in htg.1 (by have h9 := q_nle c75; exact h9)) rfl ?_
          refine G.aload_n (pc := 102) dm_X11_distance_102 rfl ?_
          refine G.getfield (pc := 103) dm_X11_distance_103 gf_X11_30 rfl rfl ?_
          refine G.aload_n (pc := 106) dm_X11_distance_106 rfl ?_
          refine G.getfield (pc := 107) dm_X11_distance_107 gf_X11_199 rfl rfl ?_
          refine G.aload_n (pc := 110) dm_X11_distance_110 rfl ?_
          refine G.getfield (pc := 111) dm_X11_distance_111 gf_X11_205 rfl rfl ?_
          refine G.iastore (pc := 114) (ws1 := (w_M refusal wheel now length z11_1 fault faultLine line words labels targets (0 : Int32) unfit text code_ label labelWord (vp_updL target (Int32.toNatClampNeg targets) z11_0) (upd targetWord (Int32.toNatClampNeg targets) words) (upd targetLine (Int32.toNatClampNeg targets) line) store common low high register address status did ready timer trace)) dm_X11_distance_114 rfl (q_in htg.1 (by have h9 := q_nle c75; exact h9)) rfl ?_
          refine G.aload_n (pc := 115) dm_X11_distance_115 rfl ?_
          refine G.dup (pc := 116) dm_X11_distance_116 rfl ?_
          refine G.getfield (pc := 117) dm_X11_distance_117 gf_X11_199 rfl rfl ?_
          refine G.aload_n (pc := 120) dm_X11_distance_120 rfl ?_
          refine G.getfield (pc := 121) dm_X11_distance_121 gf_X11_102 rfl rfl ?_
          refine G.if_ne (pc := 124) (tgt := 137) dm_X11_distance_124 (by decide) (fun c124 => absurd rfl c124) (fun c124 => ?_)
          refine G.aload_n (pc := 127) dm_X11_distance_127 rfl ?_
          refine G.getfield (pc := 128) dm_X11_distance_128 gf_X11_199 rfl rfl ?_
          refine G.sipush (pc := 131) (v := (128 : Int32)) dm_X11_distance_131 qs_128 ?_
          refine G.icmp_ne (pc := 134) (tgt := 141) dm_X11_distance_134 (by decide) (fun c134 => ?_) (fun c134 => ?_)
          · rw [if_neg c134] at hres
            refine G.iconst (pc := 141) (v := (1 : Int32)) dm_X11_distance_141 qi_1 ?_
            refine G.iadd (pc := 142) dm_X11_distance_142 ?_
            refine G.putfield (pc := 143) (ws1 := (w_M refusal wheel now length z11_1 fault faultLine line words labels (targets + (1 : Int32)) (0 : Int32) unfit text code_ label labelWord (vp_updL target (Int32.toNatClampNeg targets) z11_0) (upd targetWord (Int32.toNatClampNeg targets) words) (upd targetLine (Int32.toNatClampNeg targets) line) store common low high register address status did ready timer trace)) dm_X11_distance_143 gw_X11_199 rfl (g_fit_i _) rfl rfl ?_
            refine G.iconst (pc := 146) (v := (0 : Int32)) dm_X11_distance_146 qi_0 ?_
            cases hres
            exact G.ireturn (pc := 147) dm_X11_distance_147 rfl rfl rfl
          · rw [if_pos c134] at hres
            refine G.iconst (pc := 137) (v := (0 : Int32)) dm_X11_distance_137 qi_0 ?_
            refine G.goto (pc := 138) (tgt := 142) dm_X11_distance_138 (by decide) ?_
            refine G.iadd (pc := 142) dm_X11_distance_142 ?_
            refine G.putfield (pc := 143) (ws1 := (w_M refusal wheel now length z11_1 fault faultLine line words labels (targets + (0 : Int32)) (0 : Int32) unfit text code_ label labelWord (vp_updL target (Int32.toNatClampNeg targets) z11_0) (upd targetWord (Int32.toNatClampNeg targets) words) (upd targetLine (Int32.toNatClampNeg targets) line) store common low high register address status did ready timer trace)) dm_X11_distance_143 gw_X11_199 rfl (g_fit_i _) rfl rfl ?_
            refine G.iconst (pc := 146) (v := (0 : Int32)) dm_X11_distance_146 qi_0 ?_
            cases hres
            exact G.ireturn (pc := 147) dm_X11_distance_147 rfl rfl rfl
      · rw [if_pos c50] at hres
        refine G.iconst (pc := 53) (v := (1 : Int32)) dm_X11_distance_53 qi_1 ?_
        refine G.goto (pc := 54) (tgt := 58) dm_X11_distance_54 (by decide) ?_
        refine G.putfield (pc := 58) (ws1 := (w_M refusal wheel now length z11_1 fault faultLine line words labels targets (1 : Int32) unfit text code_ label labelWord target targetWord targetLine store common low high register address status did ready timer trace)) dm_X11_distance_58 gw_X11_102 rfl (g_fit_z (Or.inr rfl)) rfl rfl ?_
        refine G.aload_n (pc := 61) dm_X11_distance_61 rfl ?_
        refine G.getfield (pc := 62) dm_X11_distance_62 gf_X11_102 rfl rfl ?_
        refine G.if_ne (pc := 65) (tgt := 115) dm_X11_distance_65 (by decide) (fun c65 => ?_) (fun c65 => absurd c65 (by decide))
        refine G.aload_n (pc := 115) dm_X11_distance_115 rfl ?_
        refine G.dup (pc := 116) dm_X11_distance_116 rfl ?_
        refine G.getfield (pc := 117) dm_X11_distance_117 gf_X11_199 rfl rfl ?_
        refine G.aload_n (pc := 120) dm_X11_distance_120 rfl ?_
        refine G.getfield (pc := 121) dm_X11_distance_121 gf_X11_102 rfl rfl ?_
        refine G.if_ne (pc := 124) (tgt := 137) dm_X11_distance_124 (by decide) (fun c124 => ?_) (fun c124 => absurd c124 (by decide))
        refine G.iconst (pc := 137) (v := (0 : Int32)) dm_X11_distance_137 qi_0 ?_
        refine G.goto (pc := 138) (tgt := 142) dm_X11_distance_138 (by decide) ?_
        refine G.iadd (pc := 142) dm_X11_distance_142 ?_
        refine G.putfield (pc := 143) (ws1 := (w_M refusal wheel now length z11_1 fault faultLine line words labels (targets + (0 : Int32)) (1 : Int32) unfit text code_ label labelWord target targetWord targetLine store common low high register address status did ready timer trace)) dm_X11_distance_143 gw_X11_199 rfl (g_fit_i _) rfl rfl ?_
        refine G.iconst (pc := 146) (v := (0 : Int32)) dm_X11_distance_146 qi_0 ?_
        cases hres
        exact G.ireturn (pc := 147) dm_X11_distance_147 rfl rfl rfl
def f_X11_distance_c1 (jumps : Int32) (length : Int32) (line : Int32) (words : Int32) (targets : Int32) (wrong : Int32) (unfit : Int32) (text : Nat → Int32) (target : Nat → Int64) (targetWord : Nat → Int32) (targetLine : Nat → Int32) (z1_0 : Int32) : Int32 × Int32 × Int32 × Int32 × Int32 × (Nat → Int64) × (Nat → Int32) × (Nat → Int32) := (if jumps = 0 then (f_X11_distance_17 length z1_0 line words targets wrong unfit text target targetWord targetLine jumps (4094 : Int64)) else (f_X11_distance_17 length z1_0 line words targets wrong unfit text target targetWord targetLine jumps (1048574 : Int64)))
def f_X11_distance (jumps : Int32) (length : Int32) (at_ : Int32) (line : Int32) (words : Int32) (targets : Int32) (wrong : Int32) (unfit : Int32) (text : Nat → Int32) (target : Nat → Int64) (targetWord : Nat → Int32) (targetLine : Nat → Int32) : Int32 × Int32 × Int32 × Int32 × Int32 × (Nat → Int64) × (Nat → Int32) × (Nat → Int32) := (f_X11_distance_c1 jumps length line words targets wrong unfit text target targetWord targetLine (f_X11_skip length at_ text))
set_option maxRecDepth 20000 in
theorem k_X11_distance {jumps : Int32} {refusal : Int32} {wheel : Int32} {now : Int32} {length : Int32} {at_ : Int32} {fault : Int32} {faultLine : Int32} {line : Int32} {words : Int32} {labels : Int32} {targets : Int32} {wrong : Int32} {unfit : Int32} {text : Nat → Int32} {code_ : Nat → Int32} {label : Nat → Int64} {labelWord : Nat → Int32} {target : Nat → Int64} {targetWord : Nat → Int32} {targetLine : Nat → Int32} {store : Nat → Int32} {common : Nat → Int32} {low : Nat → Int32} {high : Nat → Int32} {register : Nat → Int32} {address : Nat → Int32} {status : Nat → Int32} {did : Nat → Int32} {ready : Nat → Int32} {timer : Nat → Int32} {trace : Nat → Int32} (hln : 0 ≤ length.toInt ∧ length.toInt ≤ 400) (hat : 0 ≤ at_.toInt ∧ at_.toInt ≤ 400) (htg : 0 ≤ targets.toInt ∧ targets.toInt ≤ 128) {r_0 : Int32} {r_1 : Int32} {r_2 : Int32} {r_3 : Int32} {r_4 : Int32} {r_5 : (Nat → Int64)} {r_6 : (Nat → Int32)} {r_7 : (Nat → Int32)} (hres : (r_0, r_1, r_2, r_3, r_4, r_5, r_6, r_7) = f_X11_distance jumps length at_ line words targets wrong unfit text target targetWord targetLine) : K M_X11_distance yX11_distance [.ref 0, .int jumps] (w_M refusal wheel now length at_ fault faultLine line words labels targets wrong unfit text code_ label labelWord target targetWord targetLine store common low high register address status did ready timer trace) (some (.int r_0)) (w_M refusal wheel now length r_1 fault faultLine line words labels r_2 r_3 r_4 text code_ label labelWord r_5 r_6 r_7 store common low high register address status did ready timer trace) := by
  refine K.of (lv := [(0, .ref 0), (1, .int jumps)]) (by decide +kernel) rfl rfl rfl ?_
  rw [f_X11_distance] at hres
  refine G.aload_n (pc := 0) dm_X11_distance_0 rfl ?_
  obtain ⟨z1_0, hz1⟩ := g_ex1 (f_X11_skip length at_ text)
  refine G.callV0 (pc := 1) (rest := []) (st1 := []) dm_X11_distance_1 gc_X11_distance_95 (k_X11_skip (refusal := refusal) (wheel := wheel) (now := now) (length := length) (at_ := at_) (fault := fault) (faultLine := faultLine) (line := line) (words := words) (labels := labels) (targets := targets) (wrong := wrong) (unfit := unfit) (text := text) (code_ := code_) (label := label) (labelWord := labelWord) (target := target) (targetWord := targetWord) (targetLine := targetLine) (store := store) (common := common) (low := low) (high := high) (register := register) (address := address) (status := status) (did := did) (ready := ready) (timer := timer) (trace := trace) (by first | assumption | exact q_31 _ | exact q_7 _) (by first | assumption | exact q_31 _ | exact q_7 _) hz1) rfl rfl rfl rfl rfl rfl rfl rfl ?_
  have hat := (a_skip hz1 hln hat).1
  replace hres : (r_0, r_1, r_2, r_3, r_4, r_5, r_6, r_7) = f_X11_distance_c1 jumps length line words targets wrong unfit text target targetWord targetLine z1_0 := hres.trans (by rw [← hz1])
  rw [f_X11_distance_c1] at hres
  refine G.iload_n (pc := 4) dm_X11_distance_4 rfl ?_
  refine G.if_eq (pc := 5) (tgt := 14) dm_X11_distance_5 (by decide) (fun c5 => ?_) (fun c5 => ?_)
  · rw [if_pos c5] at hres
    refine G.ldc2 (pc := 14) dm_X11_distance_14 tw525 ?_
    exact j_X11_distance_17 hres (by first | assumption | exact q_31 _ | exact q_7 _) (by first | assumption | exact q_31 _ | exact q_7 _) (by first | assumption | exact q_31 _ | exact q_7 _)
  · rw [if_neg c5] at hres
    refine G.ldc2 (pc := 8) dm_X11_distance_8 tw524 ?_
    refine G.goto (pc := 11) (tgt := 17) dm_X11_distance_11 (by decide) ?_
    exact j_X11_distance_17 hres (by first | assumption | exact q_31 _ | exact q_7 _) (by first | assumption | exact q_31 _ | exact q_7 _) (by first | assumption | exact q_31 _ | exact q_7 _)
theorem a_X11_distance_17 {l1 : Int32} {s0 : Int64} {length : Int32} {at_ : Int32} {line : Int32} {words : Int32} {targets : Int32} {wrong : Int32} {unfit : Int32} {text : Nat → Int32} {target : Nat → Int64} {targetWord : Nat → Int32} {targetLine : Nat → Int32} {r_0 : Int32} {r_1 : Int32} {r_2 : Int32} {r_3 : Int32} {r_4 : Int32} {r_5 : (Nat → Int64)} {r_6 : (Nat → Int32)} {r_7 : (Nat → Int32)} {a0 : Int32} (hres : (r_0, r_1, r_2, r_3, r_4, r_5, r_6, r_7) = (f_X11_distance_17 length at_ line words targets wrong unfit text target targetWord targetLine l1 s0)) (hln : 0 ≤ length.toInt ∧ length.toInt ≤ 400) (hat : (0 ≤ at_.toInt ∧ at_.toInt ≤ 400) ∧ a0.toInt ≤ at_.toInt) : (0 ≤ r_1.toInt ∧ r_1.toInt ≤ 400) ∧ a0.toInt ≤ r_1.toInt := by
  rw [f_X11_distance_17] at hres
  obtain ⟨z2_0, hz2⟩ := g_ex1 (f_X11_character at_ length text)
  replace hres : (r_0, r_1, r_2, r_3, r_4, r_5, r_6, r_7) = f_X11_distance_c23 length at_ line words targets wrong unfit text target targetWord targetLine l1 s0 z2_0 := hres.trans (by rw [← hz2])
  rw [f_X11_distance_c23] at hres
  obtain ⟨z3_0, hz3⟩ := g_ex1 (f_X11_isLetter z2_0)
  replace hres : (r_0, r_1, r_2, r_3, r_4, r_5, r_6, r_7) = f_X11_distance_c26 length at_ line words targets wrong unfit text target targetWord targetLine l1 s0 z3_0 := hres.trans (by rw [← hz3])
  rw [f_X11_distance_c26] at hres
  by_cases c29 : z3_0 = 0
  · rw [if_pos c29] at hres
    obtain ⟨z4_0, z4_1, z4_2, z4_3, hz4⟩ := g_ex4 (f_X11_number ((-s0) - (2 : Int64)) s0 length at_ wrong unfit text)
    have hat := q_tr1 hat (a_number hz4 hln hat.1)
    replace hres : (r_0, r_1, r_2, r_3, r_4, r_5, r_6, r_7) = f_X11_distance_c156 targets target targetWord targetLine l1 z4_0 z4_1 z4_2 z4_3 := hres.trans (by rw [← hz4])
    rw [f_X11_distance_c156] at hres
    by_cases c166 : z4_3 = 0
    · rw [if_pos c166] at hres
      by_cases c175 : (lg_cmp (z4_0 &&& (1 : Int64)) (0 : Int64)) = 0
      · rw [if_pos c175] at hres
        by_cases c187 : l1 = 0
        · rw [if_pos c187] at hres
          obtain ⟨z7_0, hz7⟩ := g_ex1 (f_X11_branching (Int64.toInt32 z4_0))
          replace hres : (r_0, r_1, r_2, r_3, r_4, r_5, r_6, r_7) = f_X11_distance_c202_7 targets target targetWord targetLine z4_1 z4_2 z7_0 := hres.trans (by rw [← hz7])
          rw [f_X11_distance_c202_7] at hres
          cases hres
          exact hat
        · rw [if_neg c187] at hres
          obtain ⟨z8_0, hz8⟩ := g_ex1 (f_X11_jumping (Int64.toInt32 z4_0))
          replace hres : (r_0, r_1, r_2, r_3, r_4, r_5, r_6, r_7) = f_X11_distance_c193_8 targets target targetWord targetLine z4_1 z4_2 z8_0 := hres.trans (by rw [← hz8])
          rw [f_X11_distance_c193_8] at hres
          cases hres
          exact hat
      · rw [if_neg c175] at hres
        by_cases c187 : l1 = 0
        · rw [if_pos c187] at hres
          obtain ⟨z9_0, hz9⟩ := g_ex1 (f_X11_branching (Int64.toInt32 z4_0))
          replace hres : (r_0, r_1, r_2, r_3, r_4, r_5, r_6, r_7) = f_X11_distance_c202_9 targets target targetWord targetLine z4_1 z4_2 z9_0 := hres.trans (by rw [← hz9])
          rw [f_X11_distance_c202_9] at hres
          cases hres
          exact hat
        · rw [if_neg c187] at hres
          obtain ⟨z10_0, hz10⟩ := g_ex1 (f_X11_jumping (Int64.toInt32 z4_0))
          replace hres : (r_0, r_1, r_2, r_3, r_4, r_5, r_6, r_7) = f_X11_distance_c193_10 targets target targetWord targetLine z4_1 z4_2 z10_0 := hres.trans (by rw [← hz10])
          rw [f_X11_distance_c193_10] at hres
          cases hres
          exact hat
    · rw [if_neg c166] at hres
      by_cases c187 : l1 = 0
      · rw [if_pos c187] at hres
        obtain ⟨z5_0, hz5⟩ := g_ex1 (f_X11_branching (Int64.toInt32 z4_0))
        replace hres : (r_0, r_1, r_2, r_3, r_4, r_5, r_6, r_7) = f_X11_distance_c202 targets target targetWord targetLine z4_1 z4_2 z5_0 := hres.trans (by rw [← hz5])
        rw [f_X11_distance_c202] at hres
        cases hres
        exact hat
      · rw [if_neg c187] at hres
        obtain ⟨z6_0, hz6⟩ := g_ex1 (f_X11_jumping (Int64.toInt32 z4_0))
        replace hres : (r_0, r_1, r_2, r_3, r_4, r_5, r_6, r_7) = f_X11_distance_c193 targets target targetWord targetLine z4_1 z4_2 z6_0 := hres.trans (by rw [← hz6])
        rw [f_X11_distance_c193] at hres
        cases hres
        exact hat
  · rw [if_neg c29] at hres
    obtain ⟨z11_0, z11_1, hz11⟩ := g_ex2 (f_X11_letters length at_ text)
    have hat := q_tr1 hat (a_letters hz11 hln hat.1)
    replace hres : (r_0, r_1, r_2, r_3, r_4, r_5, r_6, r_7) = f_X11_distance_c33 line words targets wrong unfit target targetWord targetLine z11_0 z11_1 := hres.trans (by rw [← hz11])
    rw [f_X11_distance_c33] at hres
    by_cases c43 : wrong = 0
    · rw [if_pos c43] at hres
      by_cases c50 : (lg_cmp z11_0 (0 : Int64)) = 0
      · rw [if_pos c50] at hres
        cases hres
        exact hat
      · rw [if_neg c50] at hres
        by_cases c75 : (128 : Int32) ≤ targets
        · rw [if_pos c75] at hres
          by_cases c134 : targets = (128 : Int32)
          · rw [if_pos c134] at hres
            cases hres
            exact hat
          · rw [if_neg c134] at hres
            cases hres
            exact hat
        · rw [if_neg c75] at hres
          by_cases c134 : targets = (128 : Int32)
          · rw [if_pos c134] at hres
            cases hres
            exact hat
          · rw [if_neg c134] at hres
            cases hres
            exact hat
    · rw [if_neg c43] at hres
      cases hres
      exact hat
theorem a_X11_distance {jumps : Int32} {length : Int32} {at_ : Int32} {line : Int32} {words : Int32} {targets : Int32} {wrong : Int32} {unfit : Int32} {text : Nat → Int32} {target : Nat → Int64} {targetWord : Nat → Int32} {targetLine : Nat → Int32} {r_0 : Int32} {r_1 : Int32} {r_2 : Int32} {r_3 : Int32} {r_4 : Int32} {r_5 : (Nat → Int64)} {r_6 : (Nat → Int32)} {r_7 : (Nat → Int32)} {a0 : Int32} (hres : (r_0, r_1, r_2, r_3, r_4, r_5, r_6, r_7) = f_X11_distance jumps length at_ line words targets wrong unfit text target targetWord targetLine) (hln : 0 ≤ length.toInt ∧ length.toInt ≤ 400) (hat : (0 ≤ at_.toInt ∧ at_.toInt ≤ 400) ∧ a0.toInt ≤ at_.toInt) : (0 ≤ r_1.toInt ∧ r_1.toInt ≤ 400) ∧ a0.toInt ≤ r_1.toInt := by
  rw [f_X11_distance] at hres
  obtain ⟨z1_0, hz1⟩ := g_ex1 (f_X11_skip length at_ text)
  have hat := q_tr1 hat (a_skip hz1 hln hat.1)
  replace hres : (r_0, r_1, r_2, r_3, r_4, r_5, r_6, r_7) = f_X11_distance_c1 jumps length line words targets wrong unfit text target targetWord targetLine z1_0 := hres.trans (by rw [← hz1])
  rw [f_X11_distance_c1] at hres
  by_cases c5 : jumps = 0
  · rw [if_pos c5] at hres
    exact a_X11_distance_17 hres (by assumption) (by assumption)
  · rw [if_neg c5] at hres
    exact a_X11_distance_17 hres (by assumption) (by assumption)
theorem t_X11_distance_17 {l1 : Int32} {s0 : Int64} {length : Int32} {at_ : Int32} {line : Int32} {words : Int32} {targets : Int32} {wrong : Int32} {unfit : Int32} {text : Nat → Int32} {target : Nat → Int64} {targetWord : Nat → Int32} {targetLine : Nat → Int32} {r_0 : Int32} {r_1 : Int32} {r_2 : Int32} {r_3 : Int32} {r_4 : Int32} {r_5 : (Nat → Int64)} {r_6 : (Nat → Int32)} {r_7 : (Nat → Int32)} (hres : (r_0, r_1, r_2, r_3, r_4, r_5, r_6, r_7) = (f_X11_distance_17 length at_ line words targets wrong unfit text target targetWord targetLine l1 s0)) (hwd : 0 ≤ words.toInt ∧ words.toInt ≤ 128) (htg : 0 ≤ targets.toInt ∧ targets.toInt ≤ 128) (htw : ∀ j, j < targets.toInt.toNat → 0 ≤ (targetWord j).toInt ∧ (targetWord j).toInt ≤ words.toInt) : (0 ≤ r_2.toInt ∧ r_2.toInt ≤ 128) ∧ ∀ j, j < r_2.toInt.toNat → 0 ≤ (r_6 j).toInt ∧ (r_6 j).toInt ≤ words.toInt := by
  rw [f_X11_distance_17] at hres
  obtain ⟨z2_0, hz2⟩ := g_ex1 (f_X11_character at_ length text)
  replace hres : (r_0, r_1, r_2, r_3, r_4, r_5, r_6, r_7) = f_X11_distance_c23 length at_ line words targets wrong unfit text target targetWord targetLine l1 s0 z2_0 := hres.trans (by rw [← hz2])
  rw [f_X11_distance_c23] at hres
  obtain ⟨z3_0, hz3⟩ := g_ex1 (f_X11_isLetter z2_0)
  replace hres : (r_0, r_1, r_2, r_3, r_4, r_5, r_6, r_7) = f_X11_distance_c26 length at_ line words targets wrong unfit text target targetWord targetLine l1 s0 z3_0 := hres.trans (by rw [← hz3])
  rw [f_X11_distance_c26] at hres
  by_cases c29 : z3_0 = 0
  · rw [if_pos c29] at hres
    obtain ⟨z4_0, z4_1, z4_2, z4_3, hz4⟩ := g_ex4 (f_X11_number ((-s0) - (2 : Int64)) s0 length at_ wrong unfit text)
    replace hres : (r_0, r_1, r_2, r_3, r_4, r_5, r_6, r_7) = f_X11_distance_c156 targets target targetWord targetLine l1 z4_0 z4_1 z4_2 z4_3 := hres.trans (by rw [← hz4])
    rw [f_X11_distance_c156] at hres
    by_cases c166 : z4_3 = 0
    · rw [if_pos c166] at hres
      by_cases c175 : (lg_cmp (z4_0 &&& (1 : Int64)) (0 : Int64)) = 0
      · rw [if_pos c175] at hres
        by_cases c187 : l1 = 0
        · rw [if_pos c187] at hres
          obtain ⟨z7_0, hz7⟩ := g_ex1 (f_X11_branching (Int64.toInt32 z4_0))
          replace hres : (r_0, r_1, r_2, r_3, r_4, r_5, r_6, r_7) = f_X11_distance_c202_7 targets target targetWord targetLine z4_1 z4_2 z7_0 := hres.trans (by rw [← hz7])
          rw [f_X11_distance_c202_7] at hres
          cases hres
          exact (by first | with_reducible exact ⟨htg, htw⟩ | with_reducible exact q_tw0 htg htw | with_reducible exact q_tw1 hwd htg htw (by assumption) | exact (q_tw3 (by assumption) (by assumption)).elim | exact (q_tw2 htg (by assumption) (by assumption)).elim)
        · rw [if_neg c187] at hres
          obtain ⟨z8_0, hz8⟩ := g_ex1 (f_X11_jumping (Int64.toInt32 z4_0))
          replace hres : (r_0, r_1, r_2, r_3, r_4, r_5, r_6, r_7) = f_X11_distance_c193_8 targets target targetWord targetLine z4_1 z4_2 z8_0 := hres.trans (by rw [← hz8])
          rw [f_X11_distance_c193_8] at hres
          cases hres
          exact (by first | with_reducible exact ⟨htg, htw⟩ | with_reducible exact q_tw0 htg htw | with_reducible exact q_tw1 hwd htg htw (by assumption) | exact (q_tw3 (by assumption) (by assumption)).elim | exact (q_tw2 htg (by assumption) (by assumption)).elim)
      · rw [if_neg c175] at hres
        by_cases c187 : l1 = 0
        · rw [if_pos c187] at hres
          obtain ⟨z9_0, hz9⟩ := g_ex1 (f_X11_branching (Int64.toInt32 z4_0))
          replace hres : (r_0, r_1, r_2, r_3, r_4, r_5, r_6, r_7) = f_X11_distance_c202_9 targets target targetWord targetLine z4_1 z4_2 z9_0 := hres.trans (by rw [← hz9])
          rw [f_X11_distance_c202_9] at hres
          cases hres
          exact (by first | with_reducible exact ⟨htg, htw⟩ | with_reducible exact q_tw0 htg htw | with_reducible exact q_tw1 hwd htg htw (by assumption) | exact (q_tw3 (by assumption) (by assumption)).elim | exact (q_tw2 htg (by assumption) (by assumption)).elim)
        · rw [if_neg c187] at hres
          obtain ⟨z10_0, hz10⟩ := g_ex1 (f_X11_jumping (Int64.toInt32 z4_0))
          replace hres : (r_0, r_1, r_2, r_3, r_4, r_5, r_6, r_7) = f_X11_distance_c193_10 targets target targetWord targetLine z4_1 z4_2 z10_0 := hres.trans (by rw [← hz10])
          rw [f_X11_distance_c193_10] at hres
          cases hres
          exact (by first | with_reducible exact ⟨htg, htw⟩ | with_reducible exact q_tw0 htg htw | with_reducible exact q_tw1 hwd htg htw (by assumption) | exact (q_tw3 (by assumption) (by assumption)).elim | exact (q_tw2 htg (by assumption) (by assumption)).elim)
    · rw [if_neg c166] at hres
      by_cases c187 : l1 = 0
      · rw [if_pos c187] at hres
        obtain ⟨z5_0, hz5⟩ := g_ex1 (f_X11_branching (Int64.toInt32 z4_0))
        replace hres : (r_0, r_1, r_2, r_3, r_4, r_5, r_6, r_7) = f_X11_distance_c202 targets target targetWord targetLine z4_1 z4_2 z5_0 := hres.trans (by rw [← hz5])
        rw [f_X11_distance_c202] at hres
        cases hres
        exact (by first | with_reducible exact ⟨htg, htw⟩ | with_reducible exact q_tw0 htg htw | with_reducible exact q_tw1 hwd htg htw (by assumption) | exact (q_tw3 (by assumption) (by assumption)).elim | exact (q_tw2 htg (by assumption) (by assumption)).elim)
      · rw [if_neg c187] at hres
        obtain ⟨z6_0, hz6⟩ := g_ex1 (f_X11_jumping (Int64.toInt32 z4_0))
        replace hres : (r_0, r_1, r_2, r_3, r_4, r_5, r_6, r_7) = f_X11_distance_c193 targets target targetWord targetLine z4_1 z4_2 z6_0 := hres.trans (by rw [← hz6])
        rw [f_X11_distance_c193] at hres
        cases hres
        exact (by first | with_reducible exact ⟨htg, htw⟩ | with_reducible exact q_tw0 htg htw | with_reducible exact q_tw1 hwd htg htw (by assumption) | exact (q_tw3 (by assumption) (by assumption)).elim | exact (q_tw2 htg (by assumption) (by assumption)).elim)
  · rw [if_neg c29] at hres
    obtain ⟨z11_0, z11_1, hz11⟩ := g_ex2 (f_X11_letters length at_ text)
    replace hres : (r_0, r_1, r_2, r_3, r_4, r_5, r_6, r_7) = f_X11_distance_c33 line words targets wrong unfit target targetWord targetLine z11_0 z11_1 := hres.trans (by rw [← hz11])
    rw [f_X11_distance_c33] at hres
    by_cases c43 : wrong = 0
    · rw [if_pos c43] at hres
      by_cases c50 : (lg_cmp z11_0 (0 : Int64)) = 0
      · rw [if_pos c50] at hres
        cases hres
        exact (by first | with_reducible exact ⟨htg, htw⟩ | with_reducible exact q_tw0 htg htw | with_reducible exact q_tw1 hwd htg htw (by assumption) | exact (q_tw3 (by assumption) (by assumption)).elim | exact (q_tw2 htg (by assumption) (by assumption)).elim)
      · rw [if_neg c50] at hres
        by_cases c75 : (128 : Int32) ≤ targets
        · rw [if_pos c75] at hres
          by_cases c134 : targets = (128 : Int32)
          · rw [if_pos c134] at hres
            cases hres
            exact (by first | with_reducible exact ⟨htg, htw⟩ | with_reducible exact q_tw0 htg htw | with_reducible exact q_tw1 hwd htg htw (by assumption) | exact (q_tw3 (by assumption) (by assumption)).elim | exact (q_tw2 htg (by assumption) (by assumption)).elim)
          · rw [if_neg c134] at hres
            cases hres
            exact (by first | with_reducible exact ⟨htg, htw⟩ | with_reducible exact q_tw0 htg htw | with_reducible exact q_tw1 hwd htg htw (by assumption) | exact (q_tw3 (by assumption) (by assumption)).elim | exact (q_tw2 htg (by assumption) (by assumption)).elim)
        · rw [if_neg c75] at hres
          by_cases c134 : targets = (128 : Int32)
          · rw [if_pos c134] at hres
            cases hres
            exact (by first | with_reducible exact ⟨htg, htw⟩ | with_reducible exact q_tw0 htg htw | with_reducible exact q_tw1 hwd htg htw (by assumption) | exact (q_tw3 (by assumption) (by assumption)).elim | exact (q_tw2 htg (by assumption) (by assumption)).elim)
          · rw [if_neg c134] at hres
            cases hres
            exact (by first | with_reducible exact ⟨htg, htw⟩ | with_reducible exact q_tw0 htg htw | with_reducible exact q_tw1 hwd htg htw (by assumption) | exact (q_tw3 (by assumption) (by assumption)).elim | exact (q_tw2 htg (by assumption) (by assumption)).elim)
    · rw [if_neg c43] at hres
      cases hres
      exact (by first | with_reducible exact ⟨htg, htw⟩ | with_reducible exact q_tw0 htg htw | with_reducible exact q_tw1 hwd htg htw (by assumption) | exact (q_tw3 (by assumption) (by assumption)).elim | exact (q_tw2 htg (by assumption) (by assumption)).elim)
theorem t_X11_distance {jumps : Int32} {length : Int32} {at_ : Int32} {line : Int32} {words : Int32} {targets : Int32} {wrong : Int32} {unfit : Int32} {text : Nat → Int32} {target : Nat → Int64} {targetWord : Nat → Int32} {targetLine : Nat → Int32} {r_0 : Int32} {r_1 : Int32} {r_2 : Int32} {r_3 : Int32} {r_4 : Int32} {r_5 : (Nat → Int64)} {r_6 : (Nat → Int32)} {r_7 : (Nat → Int32)} (hres : (r_0, r_1, r_2, r_3, r_4, r_5, r_6, r_7) = f_X11_distance jumps length at_ line words targets wrong unfit text target targetWord targetLine) (hwd : 0 ≤ words.toInt ∧ words.toInt ≤ 128) (htg : 0 ≤ targets.toInt ∧ targets.toInt ≤ 128) (htw : ∀ j, j < targets.toInt.toNat → 0 ≤ (targetWord j).toInt ∧ (targetWord j).toInt ≤ words.toInt) : (0 ≤ r_2.toInt ∧ r_2.toInt ≤ 128) ∧ ∀ j, j < r_2.toInt.toNat → 0 ≤ (r_6 j).toInt ∧ (r_6 j).toInt ≤ words.toInt := by
  rw [f_X11_distance] at hres
  obtain ⟨z1_0, hz1⟩ := g_ex1 (f_X11_skip length at_ text)
  replace hres : (r_0, r_1, r_2, r_3, r_4, r_5, r_6, r_7) = f_X11_distance_c1 jumps length line words targets wrong unfit text target targetWord targetLine z1_0 := hres.trans (by rw [← hz1])
  rw [f_X11_distance_c1] at hres
  by_cases c5 : jumps = 0
  · rw [if_pos c5] at hres
    exact t_X11_distance_17 hres (by assumption) (by assumption) (by assumption)
  · rw [if_neg c5] at hres
    exact t_X11_distance_17 hres (by assumption) (by assumption) (by assumption)
abbrev M_X11_pair : g_M := (cX11_pair, 5, RX11, (some .int), { frames := 3, cells := 0, slots := 0, locals := 62 }, 0, 0)
theorem dm_X11_pair_0 : decode M_X11_pair.1 0 = .ok (.aload_n 0, 1) := by decide +kernel
theorem dm_X11_pair_1 : decode M_X11_pair.1 1 = .ok (.invokevirtual 220, 3) := by decide +kernel
theorem dm_X11_pair_4 : decode M_X11_pair.1 4 = .ok (.istore_n 3, 1) := by decide +kernel
theorem dm_X11_pair_5 : decode M_X11_pair.1 5 = .ok (.aload_n 0, 1) := by decide +kernel
theorem dm_X11_pair_6 : decode M_X11_pair.1 6 = .ok (.bipush 44, 2) := by decide +kernel
theorem dm_X11_pair_8 : decode M_X11_pair.1 8 = .ok (.invokevirtual 224, 3) := by decide +kernel
theorem dm_X11_pair_11 : decode M_X11_pair.1 11 = .ok (.aload_n 0, 1) := by decide +kernel
theorem dm_X11_pair_12 : decode M_X11_pair.1 12 = .ok (.invokevirtual 220, 3) := by decide +kernel
theorem dm_X11_pair_15 : decode M_X11_pair.1 15 = .ok (.istore 4, 2) := by decide +kernel
theorem dm_X11_pair_17 : decode M_X11_pair.1 17 = .ok (.iload_n 3, 1) := by decide +kernel
theorem dm_X11_pair_18 : decode M_X11_pair.1 18 = .ok (.iload_n 1, 1) := by decide +kernel
theorem dm_X11_pair_19 : decode M_X11_pair.1 19 = .ok (.ishl, 1) := by decide +kernel
theorem dm_X11_pair_20 : decode M_X11_pair.1 20 = .ok (.iload 4, 2) := by decide +kernel
theorem dm_X11_pair_22 : decode M_X11_pair.1 22 = .ok (.iload_n 2, 1) := by decide +kernel
theorem dm_X11_pair_23 : decode M_X11_pair.1 23 = .ok (.ishl, 1) := by decide +kernel
theorem dm_X11_pair_24 : decode M_X11_pair.1 24 = .ok (.ior, 1) := by decide +kernel
theorem dm_X11_pair_25 : decode M_X11_pair.1 25 = .ok (.ireturn, 1) := by decide +kernel
theorem gc_X11_pair_220 : g_cv M_X11_pair 220 M_X11_takeRegister yX11_takeRegister 0 := ⟨tw498, tw499, tw500, tw5, tw501, ⟨rfl, rfl, rfl, rfl⟩, gd_X11_takeRegister, ⟨by decide, by decide⟩⟩
theorem gc_X11_pair_224 : g_cv M_X11_pair 224 M_X11_need yX11_need 1 := ⟨tw505, tw506, tw507, tw5, tw508, ⟨rfl, rfl, rfl, rfl⟩, gd_X11_need, ⟨by decide, by decide⟩⟩
def f_X11_pair_c12 (shift : Int32) (other : Int32) (z1_0 : Int32) (z3_0 : Int32) (z3_1 : Int32) (z3_2 : Int32) : Int32 × Int32 × Int32 := (((z1_0 <<< (shift &&& 31)) ||| (z3_0 <<< (other &&& 31))), z3_1, z3_2)
def f_X11_pair_c8 (shift : Int32) (other : Int32) (length : Int32) (text : Nat → Int32) (z1_0 : Int32) (z2_0 : Int32) (z2_1 : Int32) : Int32 × Int32 × Int32 := (f_X11_pair_c12 shift other z1_0 (f_X11_takeRegister length z2_0 z2_1 text).1 (f_X11_takeRegister length z2_0 z2_1 text).2.1 (f_X11_takeRegister length z2_0 z2_1 text).2.2)
def f_X11_pair_c1 (shift : Int32) (other : Int32) (length : Int32) (text : Nat → Int32) (z1_0 : Int32) (z1_1 : Int32) (z1_2 : Int32) : Int32 × Int32 × Int32 := (f_X11_pair_c8 shift other length text z1_0 (f_X11_need (44 : Int32) length z1_1 z1_2 text).1 (f_X11_need (44 : Int32) length z1_1 z1_2 text).2)
def f_X11_pair (shift : Int32) (other : Int32) (length : Int32) (at_ : Int32) (wrong : Int32) (text : Nat → Int32) : Int32 × Int32 × Int32 := (f_X11_pair_c1 shift other length text (f_X11_takeRegister length at_ wrong text).1 (f_X11_takeRegister length at_ wrong text).2.1 (f_X11_takeRegister length at_ wrong text).2.2)
set_option maxRecDepth 20000 in
theorem k_X11_pair {shift : Int32} {other : Int32} {refusal : Int32} {wheel : Int32} {now : Int32} {length : Int32} {at_ : Int32} {fault : Int32} {faultLine : Int32} {line : Int32} {words : Int32} {labels : Int32} {targets : Int32} {wrong : Int32} {unfit : Int32} {text : Nat → Int32} {code_ : Nat → Int32} {label : Nat → Int64} {labelWord : Nat → Int32} {target : Nat → Int64} {targetWord : Nat → Int32} {targetLine : Nat → Int32} {store : Nat → Int32} {common : Nat → Int32} {low : Nat → Int32} {high : Nat → Int32} {register : Nat → Int32} {address : Nat → Int32} {status : Nat → Int32} {did : Nat → Int32} {ready : Nat → Int32} {timer : Nat → Int32} {trace : Nat → Int32} (hln : 0 ≤ length.toInt ∧ length.toInt ≤ 400) (hat : 0 ≤ at_.toInt ∧ at_.toInt ≤ 400) {r_0 : Int32} {r_1 : Int32} {r_2 : Int32} (hres : (r_0, r_1, r_2) = f_X11_pair shift other length at_ wrong text) : K M_X11_pair yX11_pair [.ref 0, .int shift, .int other] (w_M refusal wheel now length at_ fault faultLine line words labels targets wrong unfit text code_ label labelWord target targetWord targetLine store common low high register address status did ready timer trace) (some (.int r_0)) (w_M refusal wheel now length r_1 fault faultLine line words labels targets r_2 unfit text code_ label labelWord target targetWord targetLine store common low high register address status did ready timer trace) := by
  refine K.of (lv := [(0, .ref 0), (1, .int shift), (2, .int other)]) (by decide +kernel) rfl rfl rfl ?_
  rw [f_X11_pair] at hres
  refine G.aload_n (pc := 0) dm_X11_pair_0 rfl ?_
  obtain ⟨z1_0, z1_1, z1_2, hz1⟩ := g_ex3 (f_X11_takeRegister length at_ wrong text)
  refine G.callV0 (pc := 1) (rest := []) (st1 := [.int z1_0]) dm_X11_pair_1 gc_X11_pair_220 (k_X11_takeRegister (refusal := refusal) (wheel := wheel) (now := now) (length := length) (at_ := at_) (fault := fault) (faultLine := faultLine) (line := line) (words := words) (labels := labels) (targets := targets) (wrong := wrong) (unfit := unfit) (text := text) (code_ := code_) (label := label) (labelWord := labelWord) (target := target) (targetWord := targetWord) (targetLine := targetLine) (store := store) (common := common) (low := low) (high := high) (register := register) (address := address) (status := status) (did := did) (ready := ready) (timer := timer) (trace := trace) (by first | assumption | exact q_31 _ | exact q_7 _) (by first | assumption | exact q_31 _ | exact q_7 _) hz1) rfl rfl rfl rfl rfl rfl rfl rfl ?_
  have hat := (a_takeRegister hz1 hln hat).1
  replace hres : (r_0, r_1, r_2) = f_X11_pair_c1 shift other length text z1_0 z1_1 z1_2 := hres.trans (by rw [← hz1])
  rw [f_X11_pair_c1] at hres
  refine G.istore_n (pc := 4) (lv1 := [(3, .int z1_0), (0, .ref 0), (1, .int shift), (2, .int other)]) dm_X11_pair_4 rfl rfl ?_
  refine G.aload_n (pc := 5) dm_X11_pair_5 rfl ?_
  refine G.bipush (pc := 6) (v := (44 : Int32)) dm_X11_pair_6 qb_44 ?_
  obtain ⟨z2_0, z2_1, hz2⟩ := g_ex2 (f_X11_need (44 : Int32) length z1_1 z1_2 text)
  refine G.callV0 (pc := 8) (rest := []) (st1 := []) dm_X11_pair_8 gc_X11_pair_224 (k_X11_need (c := (44 : Int32)) (refusal := refusal) (wheel := wheel) (now := now) (length := length) (at_ := z1_1) (fault := fault) (faultLine := faultLine) (line := line) (words := words) (labels := labels) (targets := targets) (wrong := z1_2) (unfit := unfit) (text := text) (code_ := code_) (label := label) (labelWord := labelWord) (target := target) (targetWord := targetWord) (targetLine := targetLine) (store := store) (common := common) (low := low) (high := high) (register := register) (address := address) (status := status) (did := did) (ready := ready) (timer := timer) (trace := trace) (by first | assumption | exact q_31 _ | exact q_7 _) (by first | assumption | exact q_31 _ | exact q_7 _) hz2) rfl rfl rfl rfl rfl rfl rfl rfl ?_
  have hat := (a_need hz2 (by decide) hln hat).1
  replace hres : (r_0, r_1, r_2) = f_X11_pair_c8 shift other length text z1_0 z2_0 z2_1 := hres.trans (by rw [← hz2])
  rw [f_X11_pair_c8] at hres
  refine G.aload_n (pc := 11) dm_X11_pair_11 rfl ?_
  obtain ⟨z3_0, z3_1, z3_2, hz3⟩ := g_ex3 (f_X11_takeRegister length z2_0 z2_1 text)
  refine G.callV0 (pc := 12) (rest := []) (st1 := [.int z3_0]) dm_X11_pair_12 gc_X11_pair_220 (k_X11_takeRegister (refusal := refusal) (wheel := wheel) (now := now) (length := length) (at_ := z2_0) (fault := fault) (faultLine := faultLine) (line := line) (words := words) (labels := labels) (targets := targets) (wrong := z2_1) (unfit := unfit) (text := text) (code_ := code_) (label := label) (labelWord := labelWord) (target := target) (targetWord := targetWord) (targetLine := targetLine) (store := store) (common := common) (low := low) (high := high) (register := register) (address := address) (status := status) (did := did) (ready := ready) (timer := timer) (trace := trace) (by first | assumption | exact q_31 _ | exact q_7 _) (by first | assumption | exact q_31 _ | exact q_7 _) hz3) rfl rfl rfl rfl rfl rfl rfl rfl ?_
  have hat := (a_takeRegister hz3 hln hat).1
  replace hres : (r_0, r_1, r_2) = f_X11_pair_c12 shift other z1_0 z3_0 z3_1 z3_2 := hres.trans (by rw [← hz3])
  rw [f_X11_pair_c12] at hres
  refine G.istore (pc := 15) (lv1 := [(4, .int z3_0), (3, .int z1_0), (0, .ref 0), (1, .int shift), (2, .int other)]) dm_X11_pair_15 rfl rfl ?_
  refine G.iload_n (pc := 17) dm_X11_pair_17 rfl ?_
  refine G.iload_n (pc := 18) dm_X11_pair_18 rfl ?_
  refine G.ishl (pc := 19) dm_X11_pair_19 ?_
  refine G.iload (pc := 20) dm_X11_pair_20 rfl ?_
  refine G.iload_n (pc := 22) dm_X11_pair_22 rfl ?_
  refine G.ishl (pc := 23) dm_X11_pair_23 ?_
  refine G.ior (pc := 24) dm_X11_pair_24 ?_
  cases hres
  exact G.ireturn (pc := 25) dm_X11_pair_25 rfl rfl rfl
theorem a_X11_pair {shift : Int32} {other : Int32} {length : Int32} {at_ : Int32} {wrong : Int32} {text : Nat → Int32} {r_0 : Int32} {r_1 : Int32} {r_2 : Int32} {a0 : Int32} (hres : (r_0, r_1, r_2) = f_X11_pair shift other length at_ wrong text) (hln : 0 ≤ length.toInt ∧ length.toInt ≤ 400) (hat : (0 ≤ at_.toInt ∧ at_.toInt ≤ 400) ∧ a0.toInt ≤ at_.toInt) : (0 ≤ r_1.toInt ∧ r_1.toInt ≤ 400) ∧ a0.toInt ≤ r_1.toInt := by
  rw [f_X11_pair] at hres
  obtain ⟨z1_0, z1_1, z1_2, hz1⟩ := g_ex3 (f_X11_takeRegister length at_ wrong text)
  have hat := q_tr1 hat (a_takeRegister hz1 hln hat.1)
  replace hres : (r_0, r_1, r_2) = f_X11_pair_c1 shift other length text z1_0 z1_1 z1_2 := hres.trans (by rw [← hz1])
  rw [f_X11_pair_c1] at hres
  obtain ⟨z2_0, z2_1, hz2⟩ := g_ex2 (f_X11_need (44 : Int32) length z1_1 z1_2 text)
  have hat := q_tr1 hat (a_need hz2 (by decide) hln hat.1)
  replace hres : (r_0, r_1, r_2) = f_X11_pair_c8 shift other length text z1_0 z2_0 z2_1 := hres.trans (by rw [← hz2])
  rw [f_X11_pair_c8] at hres
  obtain ⟨z3_0, z3_1, z3_2, hz3⟩ := g_ex3 (f_X11_takeRegister length z2_0 z2_1 text)
  have hat := q_tr1 hat (a_takeRegister hz3 hln hat.1)
  replace hres : (r_0, r_1, r_2) = f_X11_pair_c12 shift other z1_0 z3_0 z3_1 z3_2 := hres.trans (by rw [← hz3])
  rw [f_X11_pair_c12] at hres
  cases hres
  exact hat
abbrev M_X11_operands : g_M := (cX11_operands, 6, RX11, (some .int), { frames := 4, cells := 0, slots := 0, locals := 95 }, 0, 0)
theorem dm_X11_operands_0 : decode M_X11_operands.1 0 = .ok (.iconst 0, 1) := by decide +kernel
theorem dm_X11_operands_1 : decode M_X11_operands.1 1 = .ok (.istore_n 2, 1) := by decide +kernel
theorem dm_X11_operands_2 : decode M_X11_operands.1 2 = .ok (.lconst 0, 1) := by decide +kernel
theorem dm_X11_operands_3 : decode M_X11_operands.1 3 = .ok (.lstore_n 3, 1) := by decide +kernel
theorem dm_X11_operands_4 : decode M_X11_operands.1 4 = .ok (.iload_n 1, 1) := by decide +kernel
theorem dm_X11_operands_5 : decode M_X11_operands.1 5 = .ok (.tableswitch 366 1 12 #[63, 88, 139, 139, 220, 243, 265, 88, 294, 346, 366, 354], 63) := by decide +kernel
theorem dm_X11_operands_68 : decode M_X11_operands.1 68 = .ok (.aload_n 0, 1) := by decide +kernel
theorem dm_X11_operands_69 : decode M_X11_operands.1 69 = .ok (.bipush 7, 2) := by decide +kernel
theorem dm_X11_operands_71 : decode M_X11_operands.1 71 = .ok (.bipush 15, 2) := by decide +kernel
theorem dm_X11_operands_73 : decode M_X11_operands.1 73 = .ok (.invokevirtual 228, 3) := by decide +kernel
theorem dm_X11_operands_76 : decode M_X11_operands.1 76 = .ok (.istore_n 2, 1) := by decide +kernel
theorem dm_X11_operands_77 : decode M_X11_operands.1 77 = .ok (.aload_n 0, 1) := by decide +kernel
theorem dm_X11_operands_78 : decode M_X11_operands.1 78 = .ok (.bipush 44, 2) := by decide +kernel
theorem dm_X11_operands_80 : decode M_X11_operands.1 80 = .ok (.invokevirtual 224, 3) := by decide +kernel
theorem dm_X11_operands_83 : decode M_X11_operands.1 83 = .ok (.iload_n 2, 1) := by decide +kernel
theorem dm_X11_operands_84 : decode M_X11_operands.1 84 = .ok (.aload_n 0, 1) := by decide +kernel
theorem dm_X11_operands_85 : decode M_X11_operands.1 85 = .ok (.invokevirtual 220, 3) := by decide +kernel
theorem dm_X11_operands_88 : decode M_X11_operands.1 88 = .ok (.bipush 20, 2) := by decide +kernel
theorem dm_X11_operands_90 : decode M_X11_operands.1 90 = .ok (.ishl, 1) := by decide +kernel
theorem dm_X11_operands_91 : decode M_X11_operands.1 91 = .ok (.ior, 1) := by decide +kernel
theorem dm_X11_operands_92 : decode M_X11_operands.1 92 = .ok (.ireturn, 1) := by decide +kernel
theorem dm_X11_operands_93 : decode M_X11_operands.1 93 = .ok (.aload_n 0, 1) := by decide +kernel
theorem dm_X11_operands_94 : decode M_X11_operands.1 94 = .ok (.bipush 7, 2) := by decide +kernel
theorem dm_X11_operands_96 : decode M_X11_operands.1 96 = .ok (.bipush 15, 2) := by decide +kernel
theorem dm_X11_operands_98 : decode M_X11_operands.1 98 = .ok (.invokevirtual 228, 3) := by decide +kernel
theorem dm_X11_operands_101 : decode M_X11_operands.1 101 = .ok (.istore_n 2, 1) := by decide +kernel
theorem dm_X11_operands_102 : decode M_X11_operands.1 102 = .ok (.aload_n 0, 1) := by decide +kernel
theorem dm_X11_operands_103 : decode M_X11_operands.1 103 = .ok (.bipush 44, 2) := by decide +kernel
theorem dm_X11_operands_105 : decode M_X11_operands.1 105 = .ok (.invokevirtual 224, 3) := by decide +kernel
theorem dm_X11_operands_108 : decode M_X11_operands.1 108 = .ok (.iload_n 1, 1) := by decide +kernel
theorem dm_X11_operands_109 : decode M_X11_operands.1 109 = .ok (.bipush 8, 2) := by decide +kernel
theorem dm_X11_operands_111 : decode M_X11_operands.1 111 = .ok (.if_icmp .ne 14, 3) := by decide +kernel
theorem dm_X11_operands_114 : decode M_X11_operands.1 114 = .ok (.aload_n 0, 1) := by decide +kernel
theorem dm_X11_operands_115 : decode M_X11_operands.1 115 = .ok (.lconst 0, 1) := by decide +kernel
theorem dm_X11_operands_116 : decode M_X11_operands.1 116 = .ok (.ldc2_w 232, 3) := by decide +kernel
theorem dm_X11_operands_119 : decode M_X11_operands.1 119 = .ok (.invokevirtual 210, 3) := by decide +kernel
theorem dm_X11_operands_122 : decode M_X11_operands.1 122 = .ok (.goto 13, 3) := by decide +kernel
theorem dm_X11_operands_125 : decode M_X11_operands.1 125 = .ok (.aload_n 0, 1) := by decide +kernel
theorem dm_X11_operands_126 : decode M_X11_operands.1 126 = .ok (.ldc2_w 234, 3) := by decide +kernel
theorem dm_X11_operands_129 : decode M_X11_operands.1 129 = .ok (.ldc2_w 236, 3) := by decide +kernel
theorem dm_X11_operands_132 : decode M_X11_operands.1 132 = .ok (.invokevirtual 210, 3) := by decide +kernel
theorem dm_X11_operands_135 : decode M_X11_operands.1 135 = .ok (.lstore_n 3, 1) := by decide +kernel
theorem dm_X11_operands_136 : decode M_X11_operands.1 136 = .ok (.iload_n 2, 1) := by decide +kernel
theorem dm_X11_operands_137 : decode M_X11_operands.1 137 = .ok (.lload_n 3, 1) := by decide +kernel
theorem dm_X11_operands_138 : decode M_X11_operands.1 138 = .ok (.l2i, 1) := by decide +kernel
theorem dm_X11_operands_139 : decode M_X11_operands.1 139 = .ok (.invokestatic 238, 3) := by decide +kernel
theorem dm_X11_operands_142 : decode M_X11_operands.1 142 = .ok (.ior, 1) := by decide +kernel
theorem dm_X11_operands_143 : decode M_X11_operands.1 143 = .ok (.ireturn, 1) := by decide +kernel
theorem dm_X11_operands_144 : decode M_X11_operands.1 144 = .ok (.aload_n 0, 1) := by decide +kernel
theorem dm_X11_operands_145 : decode M_X11_operands.1 145 = .ok (.invokevirtual 220, 3) := by decide +kernel
theorem dm_X11_operands_148 : decode M_X11_operands.1 148 = .ok (.istore_n 2, 1) := by decide +kernel
theorem dm_X11_operands_149 : decode M_X11_operands.1 149 = .ok (.aload_n 0, 1) := by decide +kernel
theorem dm_X11_operands_150 : decode M_X11_operands.1 150 = .ok (.bipush 44, 2) := by decide +kernel
theorem dm_X11_operands_152 : decode M_X11_operands.1 152 = .ok (.invokevirtual 224, 3) := by decide +kernel
theorem dm_X11_operands_155 : decode M_X11_operands.1 155 = .ok (.aload_n 0, 1) := by decide +kernel
theorem dm_X11_operands_156 : decode M_X11_operands.1 156 = .ok (.ldc2_w 234, 3) := by decide +kernel
theorem dm_X11_operands_159 : decode M_X11_operands.1 159 = .ok (.ldc2_w 236, 3) := by decide +kernel
theorem dm_X11_operands_162 : decode M_X11_operands.1 162 = .ok (.invokevirtual 210, 3) := by decide +kernel
theorem dm_X11_operands_165 : decode M_X11_operands.1 165 = .ok (.lstore_n 3, 1) := by decide +kernel
theorem dm_X11_operands_166 : decode M_X11_operands.1 166 = .ok (.aload_n 0, 1) := by decide +kernel
theorem dm_X11_operands_167 : decode M_X11_operands.1 167 = .ok (.bipush 40, 2) := by decide +kernel
theorem dm_X11_operands_169 : decode M_X11_operands.1 169 = .ok (.invokevirtual 224, 3) := by decide +kernel
theorem dm_X11_operands_172 : decode M_X11_operands.1 172 = .ok (.aload_n 0, 1) := by decide +kernel
theorem dm_X11_operands_173 : decode M_X11_operands.1 173 = .ok (.invokevirtual 220, 3) := by decide +kernel
theorem dm_X11_operands_176 : decode M_X11_operands.1 176 = .ok (.istore 5, 2) := by decide +kernel
theorem dm_X11_operands_178 : decode M_X11_operands.1 178 = .ok (.aload_n 0, 1) := by decide +kernel
theorem dm_X11_operands_179 : decode M_X11_operands.1 179 = .ok (.bipush 41, 2) := by decide +kernel
theorem dm_X11_operands_181 : decode M_X11_operands.1 181 = .ok (.invokevirtual 224, 3) := by decide +kernel
theorem dm_X11_operands_184 : decode M_X11_operands.1 184 = .ok (.iload_n 1, 1) := by decide +kernel
theorem dm_X11_operands_185 : decode M_X11_operands.1 185 = .ok (.iconst 3, 1) := by decide +kernel
theorem dm_X11_operands_186 : decode M_X11_operands.1 186 = .ok (.if_icmp .ne 22, 3) := by decide +kernel
theorem dm_X11_operands_189 : decode M_X11_operands.1 189 = .ok (.iload_n 2, 1) := by decide +kernel
theorem dm_X11_operands_190 : decode M_X11_operands.1 190 = .ok (.bipush 7, 2) := by decide +kernel
theorem dm_X11_operands_192 : decode M_X11_operands.1 192 = .ok (.ishl, 1) := by decide +kernel
theorem dm_X11_operands_193 : decode M_X11_operands.1 193 = .ok (.iload 5, 2) := by decide +kernel
theorem dm_X11_operands_195 : decode M_X11_operands.1 195 = .ok (.bipush 15, 2) := by decide +kernel
theorem dm_X11_operands_197 : decode M_X11_operands.1 197 = .ok (.ishl, 1) := by decide +kernel
theorem dm_X11_operands_198 : decode M_X11_operands.1 198 = .ok (.ior, 1) := by decide +kernel
theorem dm_X11_operands_199 : decode M_X11_operands.1 199 = .ok (.lload_n 3, 1) := by decide +kernel
theorem dm_X11_operands_200 : decode M_X11_operands.1 200 = .ok (.l2i, 1) := by decide +kernel
theorem dm_X11_operands_201 : decode M_X11_operands.1 201 = .ok (.invokestatic 238, 3) := by decide +kernel
theorem dm_X11_operands_204 : decode M_X11_operands.1 204 = .ok (.ior, 1) := by decide +kernel
theorem dm_X11_operands_205 : decode M_X11_operands.1 205 = .ok (.goto 19, 3) := by decide +kernel
theorem dm_X11_operands_208 : decode M_X11_operands.1 208 = .ok (.iload_n 2, 1) := by decide +kernel
theorem dm_X11_operands_209 : decode M_X11_operands.1 209 = .ok (.bipush 20, 2) := by decide +kernel
theorem dm_X11_operands_211 : decode M_X11_operands.1 211 = .ok (.ishl, 1) := by decide +kernel
theorem dm_X11_operands_212 : decode M_X11_operands.1 212 = .ok (.iload 5, 2) := by decide +kernel
theorem dm_X11_operands_214 : decode M_X11_operands.1 214 = .ok (.bipush 15, 2) := by decide +kernel
theorem dm_X11_operands_216 : decode M_X11_operands.1 216 = .ok (.ishl, 1) := by decide +kernel
theorem dm_X11_operands_217 : decode M_X11_operands.1 217 = .ok (.ior, 1) := by decide +kernel
theorem dm_X11_operands_218 : decode M_X11_operands.1 218 = .ok (.lload_n 3, 1) := by decide +kernel
theorem dm_X11_operands_219 : decode M_X11_operands.1 219 = .ok (.l2i, 1) := by decide +kernel
theorem dm_X11_operands_220 : decode M_X11_operands.1 220 = .ok (.invokestatic 241, 3) := by decide +kernel
theorem dm_X11_operands_223 : decode M_X11_operands.1 223 = .ok (.ior, 1) := by decide +kernel
theorem dm_X11_operands_224 : decode M_X11_operands.1 224 = .ok (.ireturn, 1) := by decide +kernel
theorem dm_X11_operands_225 : decode M_X11_operands.1 225 = .ok (.aload_n 0, 1) := by decide +kernel
theorem dm_X11_operands_226 : decode M_X11_operands.1 226 = .ok (.bipush 15, 2) := by decide +kernel
theorem dm_X11_operands_228 : decode M_X11_operands.1 228 = .ok (.bipush 20, 2) := by decide +kernel
theorem dm_X11_operands_230 : decode M_X11_operands.1 230 = .ok (.invokevirtual 228, 3) := by decide +kernel
theorem dm_X11_operands_233 : decode M_X11_operands.1 233 = .ok (.istore_n 2, 1) := by decide +kernel
theorem dm_X11_operands_234 : decode M_X11_operands.1 234 = .ok (.aload_n 0, 1) := by decide +kernel
theorem dm_X11_operands_235 : decode M_X11_operands.1 235 = .ok (.bipush 44, 2) := by decide +kernel
theorem dm_X11_operands_237 : decode M_X11_operands.1 237 = .ok (.invokevirtual 224, 3) := by decide +kernel
theorem dm_X11_operands_240 : decode M_X11_operands.1 240 = .ok (.iload_n 2, 1) := by decide +kernel
theorem dm_X11_operands_241 : decode M_X11_operands.1 241 = .ok (.aload_n 0, 1) := by decide +kernel
theorem dm_X11_operands_242 : decode M_X11_operands.1 242 = .ok (.iconst 0, 1) := by decide +kernel
theorem dm_X11_operands_243 : decode M_X11_operands.1 243 = .ok (.invokevirtual 244, 3) := by decide +kernel
theorem dm_X11_operands_246 : decode M_X11_operands.1 246 = .ok (.ior, 1) := by decide +kernel
theorem dm_X11_operands_247 : decode M_X11_operands.1 247 = .ok (.ireturn, 1) := by decide +kernel
theorem dm_X11_operands_248 : decode M_X11_operands.1 248 = .ok (.aload_n 0, 1) := by decide +kernel
theorem dm_X11_operands_249 : decode M_X11_operands.1 249 = .ok (.invokevirtual 220, 3) := by decide +kernel
theorem dm_X11_operands_252 : decode M_X11_operands.1 252 = .ok (.bipush 7, 2) := by decide +kernel
theorem dm_X11_operands_254 : decode M_X11_operands.1 254 = .ok (.ishl, 1) := by decide +kernel
theorem dm_X11_operands_255 : decode M_X11_operands.1 255 = .ok (.istore_n 2, 1) := by decide +kernel
theorem dm_X11_operands_256 : decode M_X11_operands.1 256 = .ok (.aload_n 0, 1) := by decide +kernel
theorem dm_X11_operands_257 : decode M_X11_operands.1 257 = .ok (.bipush 44, 2) := by decide +kernel
theorem dm_X11_operands_259 : decode M_X11_operands.1 259 = .ok (.invokevirtual 224, 3) := by decide +kernel
theorem dm_X11_operands_262 : decode M_X11_operands.1 262 = .ok (.iload_n 2, 1) := by decide +kernel
theorem dm_X11_operands_263 : decode M_X11_operands.1 263 = .ok (.aload_n 0, 1) := by decide +kernel
theorem dm_X11_operands_264 : decode M_X11_operands.1 264 = .ok (.iconst 1, 1) := by decide +kernel
theorem dm_X11_operands_265 : decode M_X11_operands.1 265 = .ok (.invokevirtual 244, 3) := by decide +kernel
theorem dm_X11_operands_268 : decode M_X11_operands.1 268 = .ok (.ior, 1) := by decide +kernel
theorem dm_X11_operands_269 : decode M_X11_operands.1 269 = .ok (.ireturn, 1) := by decide +kernel
theorem dm_X11_operands_270 : decode M_X11_operands.1 270 = .ok (.aload_n 0, 1) := by decide +kernel
theorem dm_X11_operands_271 : decode M_X11_operands.1 271 = .ok (.invokevirtual 220, 3) := by decide +kernel
theorem dm_X11_operands_274 : decode M_X11_operands.1 274 = .ok (.bipush 7, 2) := by decide +kernel
theorem dm_X11_operands_276 : decode M_X11_operands.1 276 = .ok (.ishl, 1) := by decide +kernel
theorem dm_X11_operands_277 : decode M_X11_operands.1 277 = .ok (.istore_n 2, 1) := by decide +kernel
theorem dm_X11_operands_278 : decode M_X11_operands.1 278 = .ok (.aload_n 0, 1) := by decide +kernel
theorem dm_X11_operands_279 : decode M_X11_operands.1 279 = .ok (.bipush 44, 2) := by decide +kernel
theorem dm_X11_operands_281 : decode M_X11_operands.1 281 = .ok (.invokevirtual 224, 3) := by decide +kernel
theorem dm_X11_operands_284 : decode M_X11_operands.1 284 = .ok (.iload_n 2, 1) := by decide +kernel
theorem dm_X11_operands_285 : decode M_X11_operands.1 285 = .ok (.aload_n 0, 1) := by decide +kernel
theorem dm_X11_operands_286 : decode M_X11_operands.1 286 = .ok (.lconst 0, 1) := by decide +kernel
theorem dm_X11_operands_287 : decode M_X11_operands.1 287 = .ok (.ldc2_w 248, 3) := by decide +kernel
theorem dm_X11_operands_290 : decode M_X11_operands.1 290 = .ok (.invokevirtual 210, 3) := by decide +kernel
theorem dm_X11_operands_293 : decode M_X11_operands.1 293 = .ok (.l2i, 1) := by decide +kernel
theorem dm_X11_operands_294 : decode M_X11_operands.1 294 = .ok (.bipush 12, 2) := by decide +kernel
theorem dm_X11_operands_296 : decode M_X11_operands.1 296 = .ok (.ishl, 1) := by decide +kernel
theorem dm_X11_operands_297 : decode M_X11_operands.1 297 = .ok (.ior, 1) := by decide +kernel
theorem dm_X11_operands_298 : decode M_X11_operands.1 298 = .ok (.ireturn, 1) := by decide +kernel
theorem dm_X11_operands_299 : decode M_X11_operands.1 299 = .ok (.aload_n 0, 1) := by decide +kernel
theorem dm_X11_operands_300 : decode M_X11_operands.1 300 = .ok (.lconst 0, 1) := by decide +kernel
theorem dm_X11_operands_301 : decode M_X11_operands.1 301 = .ok (.ldc2_w 250, 3) := by decide +kernel
theorem dm_X11_operands_304 : decode M_X11_operands.1 304 = .ok (.invokevirtual 210, 3) := by decide +kernel
theorem dm_X11_operands_307 : decode M_X11_operands.1 307 = .ok (.lstore_n 3, 1) := by decide +kernel
theorem dm_X11_operands_308 : decode M_X11_operands.1 308 = .ok (.aload_n 0, 1) := by decide +kernel
theorem dm_X11_operands_309 : decode M_X11_operands.1 309 = .ok (.bipush 44, 2) := by decide +kernel
theorem dm_X11_operands_311 : decode M_X11_operands.1 311 = .ok (.invokevirtual 224, 3) := by decide +kernel
theorem dm_X11_operands_314 : decode M_X11_operands.1 314 = .ok (.lload_n 3, 1) := by decide +kernel
theorem dm_X11_operands_315 : decode M_X11_operands.1 315 = .ok (.l2i, 1) := by decide +kernel
theorem dm_X11_operands_316 : decode M_X11_operands.1 316 = .ok (.bipush 7, 2) := by decide +kernel
theorem dm_X11_operands_318 : decode M_X11_operands.1 318 = .ok (.ishl, 1) := by decide +kernel
theorem dm_X11_operands_319 : decode M_X11_operands.1 319 = .ok (.aload_n 0, 1) := by decide +kernel
theorem dm_X11_operands_320 : decode M_X11_operands.1 320 = .ok (.invokevirtual 220, 3) := by decide +kernel
theorem dm_X11_operands_323 : decode M_X11_operands.1 323 = .ok (.bipush 15, 2) := by decide +kernel
theorem dm_X11_operands_325 : decode M_X11_operands.1 325 = .ok (.ishl, 1) := by decide +kernel
theorem dm_X11_operands_326 : decode M_X11_operands.1 326 = .ok (.ior, 1) := by decide +kernel
theorem dm_X11_operands_327 : decode M_X11_operands.1 327 = .ok (.istore_n 2, 1) := by decide +kernel
theorem dm_X11_operands_328 : decode M_X11_operands.1 328 = .ok (.aload_n 0, 1) := by decide +kernel
theorem dm_X11_operands_329 : decode M_X11_operands.1 329 = .ok (.bipush 44, 2) := by decide +kernel
theorem dm_X11_operands_331 : decode M_X11_operands.1 331 = .ok (.invokevirtual 224, 3) := by decide +kernel
theorem dm_X11_operands_334 : decode M_X11_operands.1 334 = .ok (.iload_n 2, 1) := by decide +kernel
theorem dm_X11_operands_335 : decode M_X11_operands.1 335 = .ok (.aload_n 0, 1) := by decide +kernel
theorem dm_X11_operands_336 : decode M_X11_operands.1 336 = .ok (.ldc2_w 234, 3) := by decide +kernel
theorem dm_X11_operands_339 : decode M_X11_operands.1 339 = .ok (.ldc2_w 236, 3) := by decide +kernel
theorem dm_X11_operands_342 : decode M_X11_operands.1 342 = .ok (.invokevirtual 210, 3) := by decide +kernel
theorem dm_X11_operands_345 : decode M_X11_operands.1 345 = .ok (.l2i, 1) := by decide +kernel
theorem dm_X11_operands_346 : decode M_X11_operands.1 346 = .ok (.invokestatic 238, 3) := by decide +kernel
theorem dm_X11_operands_349 : decode M_X11_operands.1 349 = .ok (.ior, 1) := by decide +kernel
theorem dm_X11_operands_350 : decode M_X11_operands.1 350 = .ok (.ireturn, 1) := by decide +kernel
theorem dm_X11_operands_351 : decode M_X11_operands.1 351 = .ok (.aload_n 0, 1) := by decide +kernel
theorem dm_X11_operands_352 : decode M_X11_operands.1 352 = .ok (.invokevirtual 220, 3) := by decide +kernel
theorem dm_X11_operands_355 : decode M_X11_operands.1 355 = .ok (.bipush 7, 2) := by decide +kernel
theorem dm_X11_operands_357 : decode M_X11_operands.1 357 = .ok (.ishl, 1) := by decide +kernel
theorem dm_X11_operands_358 : decode M_X11_operands.1 358 = .ok (.ireturn, 1) := by decide +kernel
theorem dm_X11_operands_359 : decode M_X11_operands.1 359 = .ok (.aload_n 0, 1) := by decide +kernel
theorem dm_X11_operands_360 : decode M_X11_operands.1 360 = .ok (.ldc2_w 252, 3) := by decide +kernel
theorem dm_X11_operands_363 : decode M_X11_operands.1 363 = .ok (.ldc2_w 254, 3) := by decide +kernel
theorem dm_X11_operands_366 : decode M_X11_operands.1 366 = .ok (.invokevirtual 210, 3) := by decide +kernel
theorem dm_X11_operands_369 : decode M_X11_operands.1 369 = .ok (.l2i, 1) := by decide +kernel
theorem dm_X11_operands_370 : decode M_X11_operands.1 370 = .ok (.ireturn, 1) := by decide +kernel
theorem dm_X11_operands_371 : decode M_X11_operands.1 371 = .ok (.iconst 0, 1) := by decide +kernel
theorem dm_X11_operands_372 : decode M_X11_operands.1 372 = .ok (.ireturn, 1) := by decide +kernel
theorem gc_X11_operands_228 : g_cv M_X11_operands 228 M_X11_pair yX11_pair 2 := ⟨tw494, tw495, tw496, tw5, tw497, ⟨rfl, rfl, rfl, rfl⟩, gd_X11_pair, ⟨by decide, by decide⟩⟩
theorem gc_X11_operands_224 : g_cv M_X11_operands 224 M_X11_need yX11_need 1 := ⟨tw505, tw506, tw507, tw5, tw508, ⟨rfl, rfl, rfl, rfl⟩, gd_X11_need, ⟨by decide, by decide⟩⟩
theorem gc_X11_operands_220 : g_cv M_X11_operands 220 M_X11_takeRegister yX11_takeRegister 0 := ⟨tw498, tw499, tw500, tw5, tw501, ⟨rfl, rfl, rfl, rfl⟩, gd_X11_takeRegister, ⟨by decide, by decide⟩⟩
theorem gc_X11_operands_210 : g_cv M_X11_operands 210 M_X11_number yX11_number 2 := ⟨tw509, tw510, tw511, tw5, tw512, ⟨rfl, rfl, rfl, rfl⟩, gd_X11_number, ⟨by decide, by decide⟩⟩
theorem gc_X11_operands_238 : g_cs M_X11_operands 238 M_X11_immediate yX11_immediate 1 := ⟨tw514, tw515, tw5, tw516, ⟨rfl, rfl, rfl, rfl⟩, gd_X11_immediate, ⟨by decide, by decide⟩⟩
theorem gc_X11_operands_241 : g_cs M_X11_operands 241 M_X11_storing yX11_storing 1 := ⟨tw517, tw518, tw5, tw519, ⟨rfl, rfl, rfl, rfl⟩, gd_X11_storing, ⟨by decide, by decide⟩⟩
theorem gc_X11_operands_244 : g_cv M_X11_operands 244 M_X11_distance yX11_distance 1 := ⟨tw520, tw521, tw522, tw5, tw523, ⟨rfl, rfl, rfl, rfl⟩, gd_X11_distance, ⟨by decide, by decide⟩⟩
def f_X11_operands_c85 (targets : Int32) (unfit : Int32) (target : Nat → Int64) (targetWord : Nat → Int32) (targetLine : Nat → Int32) (z1_0 : Int32) (z3_0 : Int32) (z3_1 : Int32) (z3_2 : Int32) : Int32 × Int32 × Int32 × Int32 × Int32 × (Nat → Int64) × (Nat → Int32) × (Nat → Int32) := ((z1_0 ||| (z3_0 <<< ((20 : Int32) &&& 31))), z3_1, targets, z3_2, unfit, target, targetWord, targetLine)
def f_X11_operands_c80 (length : Int32) (targets : Int32) (unfit : Int32) (text : Nat → Int32) (target : Nat → Int64) (targetWord : Nat → Int32) (targetLine : Nat → Int32) (z1_0 : Int32) (z2_0 : Int32) (z2_1 : Int32) : Int32 × Int32 × Int32 × Int32 × Int32 × (Nat → Int64) × (Nat → Int32) × (Nat → Int32) := (f_X11_operands_c85 targets unfit target targetWord targetLine z1_0 (f_X11_takeRegister length z2_0 z2_1 text).1 (f_X11_takeRegister length z2_0 z2_1 text).2.1 (f_X11_takeRegister length z2_0 z2_1 text).2.2)
def f_X11_operands_c73 (length : Int32) (targets : Int32) (unfit : Int32) (text : Nat → Int32) (target : Nat → Int64) (targetWord : Nat → Int32) (targetLine : Nat → Int32) (z1_0 : Int32) (z1_1 : Int32) (z1_2 : Int32) : Int32 × Int32 × Int32 × Int32 × Int32 × (Nat → Int64) × (Nat → Int32) × (Nat → Int32) := (f_X11_operands_c80 length targets unfit text target targetWord targetLine z1_0 (f_X11_need (44 : Int32) length z1_1 z1_2 text).1 (f_X11_need (44 : Int32) length z1_1 z1_2 text).2)
def f_X11_operands_c139 (at_ : Int32) (targets : Int32) (wrong : Int32) (unfit : Int32) (target : Nat → Int64) (targetWord : Nat → Int32) (targetLine : Nat → Int32) (l2 : Int32) (z7_0 : Int32) : Int32 × Int32 × Int32 × Int32 × Int32 × (Nat → Int64) × (Nat → Int32) × (Nat → Int32) := ((l2 ||| z7_0), at_, targets, wrong, unfit, target, targetWord, targetLine)
def f_X11_operands_135 (at_ : Int32) (targets : Int32) (wrong : Int32) (unfit : Int32) (target : Nat → Int64) (targetWord : Nat → Int32) (targetLine : Nat → Int32) (l2 : Int32) (s0 : Int64) : Int32 × Int32 × Int32 × Int32 × Int32 × (Nat → Int64) × (Nat → Int32) × (Nat → Int32) := (f_X11_operands_c139 at_ targets wrong unfit target targetWord targetLine l2 (f_X11_immediate (Int64.toInt32 s0)))
set_option maxRecDepth 20000 in
theorem j_X11_operands_135 {l2 : Int32} {s0 : Int64} {refusal : Int32} {wheel : Int32} {now : Int32} {length : Int32} {at_ : Int32} {fault : Int32} {faultLine : Int32} {line : Int32} {words : Int32} {labels : Int32} {targets : Int32} {wrong : Int32} {unfit : Int32} {text : Nat → Int32} {code_ : Nat → Int32} {label : Nat → Int64} {labelWord : Nat → Int32} {target : Nat → Int64} {targetWord : Nat → Int32} {targetLine : Nat → Int32} {store : Nat → Int32} {common : Nat → Int32} {low : Nat → Int32} {high : Nat → Int32} {register : Nat → Int32} {address : Nat → Int32} {status : Nat → Int32} {did : Nat → Int32} {ready : Nat → Int32} {timer : Nat → Int32} {trace : Nat → Int32} {r_0 : Int32} {r_1 : Int32} {r_2 : Int32} {r_3 : Int32} {r_4 : Int32} {r_5 : (Nat → Int64)} {r_6 : (Nat → Int32)} {r_7 : (Nat → Int32)} (hres : (r_0, r_1, r_2, r_3, r_4, r_5, r_6, r_7) = (f_X11_operands_135 at_ targets wrong unfit target targetWord targetLine l2 s0)) : G M_X11_operands 0 0 135 [(2, .int l2)] [.long s0] (w_M refusal wheel now length at_ fault faultLine line words labels targets wrong unfit text code_ label labelWord target targetWord targetLine store common low high register address status did ready timer trace) (some (.int r_0)) (w_M refusal wheel now length r_1 fault faultLine line words labels r_2 r_3 r_4 text code_ label labelWord r_5 r_6 r_7 store common low high register address status did ready timer trace) := by
  rw [f_X11_operands_135] at hres
  refine G.lstore_n (pc := 135) (lv1 := [(3, .long s0), (2, .int l2)]) dm_X11_operands_135 rfl rfl ?_
  refine G.iload_n (pc := 136) dm_X11_operands_136 rfl ?_
  refine G.lload_n (pc := 137) dm_X11_operands_137 rfl ?_
  refine G.l2i (pc := 138) dm_X11_operands_138 ?_
  obtain ⟨z7_0, hz7⟩ := g_ex1 (f_X11_immediate (Int64.toInt32 s0))
  refine G.callS (pc := 139) (rest := [.int l2]) (st1 := [.int z7_0, .int l2]) (ws1 := (w_M refusal wheel now length at_ fault faultLine line words labels targets wrong unfit text code_ label labelWord target targetWord targetLine store common low high register address status did ready timer trace)) [] dm_X11_operands_139 gc_X11_operands_238 (k_X11_immediate (n := (Int64.toInt32 s0)) hz7) rfl rfl rfl rfl rfl rfl rfl rfl ?_
  replace hres : (r_0, r_1, r_2, r_3, r_4, r_5, r_6, r_7) = f_X11_operands_c139 at_ targets wrong unfit target targetWord targetLine l2 z7_0 := hres.trans (by rw [← hz7])
  rw [f_X11_operands_c139] at hres
  refine G.ior (pc := 142) dm_X11_operands_142 ?_
  cases hres
  exact G.ireturn (pc := 143) dm_X11_operands_143 rfl rfl rfl
def f_X11_operands_c132 (targets : Int32) (target : Nat → Int64) (targetWord : Nat → Int32) (targetLine : Nat → Int32) (z4_0 : Int32) (z6_0 : Int64) (z6_1 : Int32) (z6_2 : Int32) (z6_3 : Int32) : Int32 × Int32 × Int32 × Int32 × Int32 × (Nat → Int64) × (Nat → Int32) × (Nat → Int32) := (f_X11_operands_135 z6_1 targets z6_2 z6_3 target targetWord targetLine z4_0 z6_0)
def f_X11_operands_c119 (targets : Int32) (target : Nat → Int64) (targetWord : Nat → Int32) (targetLine : Nat → Int32) (z4_0 : Int32) (z8_0 : Int64) (z8_1 : Int32) (z8_2 : Int32) (z8_3 : Int32) : Int32 × Int32 × Int32 × Int32 × Int32 × (Nat → Int64) × (Nat → Int32) × (Nat → Int32) := (f_X11_operands_135 z8_1 targets z8_2 z8_3 target targetWord targetLine z4_0 z8_0)
def f_X11_operands_c105 (form : Int32) (length : Int32) (targets : Int32) (unfit : Int32) (text : Nat → Int32) (target : Nat → Int64) (targetWord : Nat → Int32) (targetLine : Nat → Int32) (z4_0 : Int32) (z5_0 : Int32) (z5_1 : Int32) : Int32 × Int32 × Int32 × Int32 × Int32 × (Nat → Int64) × (Nat → Int32) × (Nat → Int32) := (if form = (8 : Int32) then (f_X11_operands_c119 targets target targetWord targetLine z4_0 (f_X11_number (0 : Int64) (31 : Int64) length z5_0 z5_1 unfit text).1 (f_X11_number (0 : Int64) (31 : Int64) length z5_0 z5_1 unfit text).2.1 (f_X11_number (0 : Int64) (31 : Int64) length z5_0 z5_1 unfit text).2.2.1 (f_X11_number (0 : Int64) (31 : Int64) length z5_0 z5_1 unfit text).2.2.2) else (f_X11_operands_c132 targets target targetWord targetLine z4_0 (f_X11_number (-2048 : Int64) (2047 : Int64) length z5_0 z5_1 unfit text).1 (f_X11_number (-2048 : Int64) (2047 : Int64) length z5_0 z5_1 unfit text).2.1 (f_X11_number (-2048 : Int64) (2047 : Int64) length z5_0 z5_1 unfit text).2.2.1 (f_X11_number (-2048 : Int64) (2047 : Int64) length z5_0 z5_1 unfit text).2.2.2))
def f_X11_operands_c98 (form : Int32) (length : Int32) (targets : Int32) (unfit : Int32) (text : Nat → Int32) (target : Nat → Int64) (targetWord : Nat → Int32) (targetLine : Nat → Int32) (z4_0 : Int32) (z4_1 : Int32) (z4_2 : Int32) : Int32 × Int32 × Int32 × Int32 × Int32 × (Nat → Int64) × (Nat → Int32) × (Nat → Int32) := (f_X11_operands_c105 form length targets unfit text target targetWord targetLine z4_0 (f_X11_need (44 : Int32) length z4_1 z4_2 text).1 (f_X11_need (44 : Int32) length z4_1 z4_2 text).2)
def f_X11_operands_c220 (targets : Int32) (target : Nat → Int64) (targetWord : Nat → Int32) (targetLine : Nat → Int32) (z9_0 : Int32) (z11_3 : Int32) (z13_0 : Int32) (z14_0 : Int32) (z14_1 : Int32) (z15_0 : Int32) : Int32 × Int32 × Int32 × Int32 × Int32 × (Nat → Int64) × (Nat → Int32) × (Nat → Int32) := ((((z9_0 <<< ((20 : Int32) &&& 31)) ||| (z13_0 <<< ((15 : Int32) &&& 31))) ||| z15_0), z14_0, targets, z14_1, z11_3, target, targetWord, targetLine)
def f_X11_operands_c201 (targets : Int32) (target : Nat → Int64) (targetWord : Nat → Int32) (targetLine : Nat → Int32) (z9_0 : Int32) (z11_3 : Int32) (z13_0 : Int32) (z14_0 : Int32) (z14_1 : Int32) (z16_0 : Int32) : Int32 × Int32 × Int32 × Int32 × Int32 × (Nat → Int64) × (Nat → Int32) × (Nat → Int32) := ((((z9_0 <<< ((7 : Int32) &&& 31)) ||| (z13_0 <<< ((15 : Int32) &&& 31))) ||| z16_0), z14_0, targets, z14_1, z11_3, target, targetWord, targetLine)
def f_X11_operands_c181 (form : Int32) (targets : Int32) (target : Nat → Int64) (targetWord : Nat → Int32) (targetLine : Nat → Int32) (z9_0 : Int32) (z11_0 : Int64) (z11_3 : Int32) (z13_0 : Int32) (z14_0 : Int32) (z14_1 : Int32) : Int32 × Int32 × Int32 × Int32 × Int32 × (Nat → Int64) × (Nat → Int32) × (Nat → Int32) := (if form = (3 : Int32) then (f_X11_operands_c201 targets target targetWord targetLine z9_0 z11_3 z13_0 z14_0 z14_1 (f_X11_immediate (Int64.toInt32 z11_0))) else (f_X11_operands_c220 targets target targetWord targetLine z9_0 z11_3 z13_0 z14_0 z14_1 (f_X11_storing (Int64.toInt32 z11_0))))
def f_X11_operands_c173 (form : Int32) (length : Int32) (targets : Int32) (text : Nat → Int32) (target : Nat → Int64) (targetWord : Nat → Int32) (targetLine : Nat → Int32) (z9_0 : Int32) (z11_0 : Int64) (z11_3 : Int32) (z13_0 : Int32) (z13_1 : Int32) (z13_2 : Int32) : Int32 × Int32 × Int32 × Int32 × Int32 × (Nat → Int64) × (Nat → Int32) × (Nat → Int32) := (f_X11_operands_c181 form targets target targetWord targetLine z9_0 z11_0 z11_3 z13_0 (f_X11_need (41 : Int32) length z13_1 z13_2 text).1 (f_X11_need (41 : Int32) length z13_1 z13_2 text).2)
def f_X11_operands_c169 (form : Int32) (length : Int32) (targets : Int32) (text : Nat → Int32) (target : Nat → Int64) (targetWord : Nat → Int32) (targetLine : Nat → Int32) (z9_0 : Int32) (z11_0 : Int64) (z11_3 : Int32) (z12_0 : Int32) (z12_1 : Int32) : Int32 × Int32 × Int32 × Int32 × Int32 × (Nat → Int64) × (Nat → Int32) × (Nat → Int32) := (f_X11_operands_c173 form length targets text target targetWord targetLine z9_0 z11_0 z11_3 (f_X11_takeRegister length z12_0 z12_1 text).1 (f_X11_takeRegister length z12_0 z12_1 text).2.1 (f_X11_takeRegister length z12_0 z12_1 text).2.2)
def f_X11_operands_c162 (form : Int32) (length : Int32) (targets : Int32) (text : Nat → Int32) (target : Nat → Int64) (targetWord : Nat → Int32) (targetLine : Nat → Int32) (z9_0 : Int32) (z11_0 : Int64) (z11_1 : Int32) (z11_2 : Int32) (z11_3 : Int32) : Int32 × Int32 × Int32 × Int32 × Int32 × (Nat → Int64) × (Nat → Int32) × (Nat → Int32) := (f_X11_operands_c169 form length targets text target targetWord targetLine z9_0 z11_0 z11_3 (f_X11_need (40 : Int32) length z11_1 z11_2 text).1 (f_X11_need (40 : Int32) length z11_1 z11_2 text).2)
def f_X11_operands_c152 (form : Int32) (length : Int32) (targets : Int32) (unfit : Int32) (text : Nat → Int32) (target : Nat → Int64) (targetWord : Nat → Int32) (targetLine : Nat → Int32) (z9_0 : Int32) (z10_0 : Int32) (z10_1 : Int32) : Int32 × Int32 × Int32 × Int32 × Int32 × (Nat → Int64) × (Nat → Int32) × (Nat → Int32) := (f_X11_operands_c162 form length targets text target targetWord targetLine z9_0 (f_X11_number (-2048 : Int64) (2047 : Int64) length z10_0 z10_1 unfit text).1 (f_X11_number (-2048 : Int64) (2047 : Int64) length z10_0 z10_1 unfit text).2.1 (f_X11_number (-2048 : Int64) (2047 : Int64) length z10_0 z10_1 unfit text).2.2.1 (f_X11_number (-2048 : Int64) (2047 : Int64) length z10_0 z10_1 unfit text).2.2.2)
def f_X11_operands_c145 (form : Int32) (length : Int32) (targets : Int32) (unfit : Int32) (text : Nat → Int32) (target : Nat → Int64) (targetWord : Nat → Int32) (targetLine : Nat → Int32) (z9_0 : Int32) (z9_1 : Int32) (z9_2 : Int32) : Int32 × Int32 × Int32 × Int32 × Int32 × (Nat → Int64) × (Nat → Int32) × (Nat → Int32) := (f_X11_operands_c152 form length targets unfit text target targetWord targetLine z9_0 (f_X11_need (44 : Int32) length z9_1 z9_2 text).1 (f_X11_need (44 : Int32) length z9_1 z9_2 text).2)
def f_X11_operands_c220_23 (targets : Int32) (target : Nat → Int64) (targetWord : Nat → Int32) (targetLine : Nat → Int32) (z17_0 : Int32) (z19_3 : Int32) (z21_0 : Int32) (z22_0 : Int32) (z22_1 : Int32) (z23_0 : Int32) : Int32 × Int32 × Int32 × Int32 × Int32 × (Nat → Int64) × (Nat → Int32) × (Nat → Int32) := ((((z17_0 <<< ((20 : Int32) &&& 31)) ||| (z21_0 <<< ((15 : Int32) &&& 31))) ||| z23_0), z22_0, targets, z22_1, z19_3, target, targetWord, targetLine)
def f_X11_operands_c201_24 (targets : Int32) (target : Nat → Int64) (targetWord : Nat → Int32) (targetLine : Nat → Int32) (z17_0 : Int32) (z19_3 : Int32) (z21_0 : Int32) (z22_0 : Int32) (z22_1 : Int32) (z24_0 : Int32) : Int32 × Int32 × Int32 × Int32 × Int32 × (Nat → Int64) × (Nat → Int32) × (Nat → Int32) := ((((z17_0 <<< ((7 : Int32) &&& 31)) ||| (z21_0 <<< ((15 : Int32) &&& 31))) ||| z24_0), z22_0, targets, z22_1, z19_3, target, targetWord, targetLine)
def f_X11_operands_c181_22 (form : Int32) (targets : Int32) (target : Nat → Int64) (targetWord : Nat → Int32) (targetLine : Nat → Int32) (z17_0 : Int32) (z19_0 : Int64) (z19_3 : Int32) (z21_0 : Int32) (z22_0 : Int32) (z22_1 : Int32) : Int32 × Int32 × Int32 × Int32 × Int32 × (Nat → Int64) × (Nat → Int32) × (Nat → Int32) := (if form = (3 : Int32) then (f_X11_operands_c201_24 targets target targetWord targetLine z17_0 z19_3 z21_0 z22_0 z22_1 (f_X11_immediate (Int64.toInt32 z19_0))) else (f_X11_operands_c220_23 targets target targetWord targetLine z17_0 z19_3 z21_0 z22_0 z22_1 (f_X11_storing (Int64.toInt32 z19_0))))
def f_X11_operands_c173_21 (form : Int32) (length : Int32) (targets : Int32) (text : Nat → Int32) (target : Nat → Int64) (targetWord : Nat → Int32) (targetLine : Nat → Int32) (z17_0 : Int32) (z19_0 : Int64) (z19_3 : Int32) (z21_0 : Int32) (z21_1 : Int32) (z21_2 : Int32) : Int32 × Int32 × Int32 × Int32 × Int32 × (Nat → Int64) × (Nat → Int32) × (Nat → Int32) := (f_X11_operands_c181_22 form targets target targetWord targetLine z17_0 z19_0 z19_3 z21_0 (f_X11_need (41 : Int32) length z21_1 z21_2 text).1 (f_X11_need (41 : Int32) length z21_1 z21_2 text).2)
def f_X11_operands_c169_20 (form : Int32) (length : Int32) (targets : Int32) (text : Nat → Int32) (target : Nat → Int64) (targetWord : Nat → Int32) (targetLine : Nat → Int32) (z17_0 : Int32) (z19_0 : Int64) (z19_3 : Int32) (z20_0 : Int32) (z20_1 : Int32) : Int32 × Int32 × Int32 × Int32 × Int32 × (Nat → Int64) × (Nat → Int32) × (Nat → Int32) := (f_X11_operands_c173_21 form length targets text target targetWord targetLine z17_0 z19_0 z19_3 (f_X11_takeRegister length z20_0 z20_1 text).1 (f_X11_takeRegister length z20_0 z20_1 text).2.1 (f_X11_takeRegister length z20_0 z20_1 text).2.2)
def f_X11_operands_c162_19 (form : Int32) (length : Int32) (targets : Int32) (text : Nat → Int32) (target : Nat → Int64) (targetWord : Nat → Int32) (targetLine : Nat → Int32) (z17_0 : Int32) (z19_0 : Int64) (z19_1 : Int32) (z19_2 : Int32) (z19_3 : Int32) : Int32 × Int32 × Int32 × Int32 × Int32 × (Nat → Int64) × (Nat → Int32) × (Nat → Int32) := (f_X11_operands_c169_20 form length targets text target targetWord targetLine z17_0 z19_0 z19_3 (f_X11_need (40 : Int32) length z19_1 z19_2 text).1 (f_X11_need (40 : Int32) length z19_1 z19_2 text).2)
def f_X11_operands_c152_18 (form : Int32) (length : Int32) (targets : Int32) (unfit : Int32) (text : Nat → Int32) (target : Nat → Int64) (targetWord : Nat → Int32) (targetLine : Nat → Int32) (z17_0 : Int32) (z18_0 : Int32) (z18_1 : Int32) : Int32 × Int32 × Int32 × Int32 × Int32 × (Nat → Int64) × (Nat → Int32) × (Nat → Int32) := (f_X11_operands_c162_19 form length targets text target targetWord targetLine z17_0 (f_X11_number (-2048 : Int64) (2047 : Int64) length z18_0 z18_1 unfit text).1 (f_X11_number (-2048 : Int64) (2047 : Int64) length z18_0 z18_1 unfit text).2.1 (f_X11_number (-2048 : Int64) (2047 : Int64) length z18_0 z18_1 unfit text).2.2.1 (f_X11_number (-2048 : Int64) (2047 : Int64) length z18_0 z18_1 unfit text).2.2.2)
def f_X11_operands_c145_17 (form : Int32) (length : Int32) (targets : Int32) (unfit : Int32) (text : Nat → Int32) (target : Nat → Int64) (targetWord : Nat → Int32) (targetLine : Nat → Int32) (z17_0 : Int32) (z17_1 : Int32) (z17_2 : Int32) : Int32 × Int32 × Int32 × Int32 × Int32 × (Nat → Int64) × (Nat → Int32) × (Nat → Int32) := (f_X11_operands_c152_18 form length targets unfit text target targetWord targetLine z17_0 (f_X11_need (44 : Int32) length z17_1 z17_2 text).1 (f_X11_need (44 : Int32) length z17_1 z17_2 text).2)
def f_X11_operands_c243 (z25_0 : Int32) (z27_0 : Int32) (z27_1 : Int32) (z27_2 : Int32) (z27_3 : Int32) (z27_4 : Int32) (z27_5 : (Nat → Int64)) (z27_6 : (Nat → Int32)) (z27_7 : (Nat → Int32)) : Int32 × Int32 × Int32 × Int32 × Int32 × (Nat → Int64) × (Nat → Int32) × (Nat → Int32) := ((z25_0 ||| z27_0), z27_1, z27_2, z27_3, z27_4, z27_5, z27_6, z27_7)
def f_X11_operands_c237 (length : Int32) (line : Int32) (words : Int32) (targets : Int32) (unfit : Int32) (text : Nat → Int32) (target : Nat → Int64) (targetWord : Nat → Int32) (targetLine : Nat → Int32) (z25_0 : Int32) (z26_0 : Int32) (z26_1 : Int32) : Int32 × Int32 × Int32 × Int32 × Int32 × (Nat → Int64) × (Nat → Int32) × (Nat → Int32) := (f_X11_operands_c243 z25_0 (f_X11_distance (0 : Int32) length z26_0 line words targets z26_1 unfit text target targetWord targetLine).1 (f_X11_distance (0 : Int32) length z26_0 line words targets z26_1 unfit text target targetWord targetLine).2.1 (f_X11_distance (0 : Int32) length z26_0 line words targets z26_1 unfit text target targetWord targetLine).2.2.1 (f_X11_distance (0 : Int32) length z26_0 line words targets z26_1 unfit text target targetWord targetLine).2.2.2.1 (f_X11_distance (0 : Int32) length z26_0 line words targets z26_1 unfit text target targetWord targetLine).2.2.2.2.1 (f_X11_distance (0 : Int32) length z26_0 line words targets z26_1 unfit text target targetWord targetLine).2.2.2.2.2.1 (f_X11_distance (0 : Int32) length z26_0 line words targets z26_1 unfit text target targetWord targetLine).2.2.2.2.2.2.1 (f_X11_distance (0 : Int32) length z26_0 line words targets z26_1 unfit text target targetWord targetLine).2.2.2.2.2.2.2)
def f_X11_operands_c230 (length : Int32) (line : Int32) (words : Int32) (targets : Int32) (unfit : Int32) (text : Nat → Int32) (target : Nat → Int64) (targetWord : Nat → Int32) (targetLine : Nat → Int32) (z25_0 : Int32) (z25_1 : Int32) (z25_2 : Int32) : Int32 × Int32 × Int32 × Int32 × Int32 × (Nat → Int64) × (Nat → Int32) × (Nat → Int32) := (f_X11_operands_c237 length line words targets unfit text target targetWord targetLine z25_0 (f_X11_need (44 : Int32) length z25_1 z25_2 text).1 (f_X11_need (44 : Int32) length z25_1 z25_2 text).2)
def f_X11_operands_c265 (z28_0 : Int32) (z30_0 : Int32) (z30_1 : Int32) (z30_2 : Int32) (z30_3 : Int32) (z30_4 : Int32) (z30_5 : (Nat → Int64)) (z30_6 : (Nat → Int32)) (z30_7 : (Nat → Int32)) : Int32 × Int32 × Int32 × Int32 × Int32 × (Nat → Int64) × (Nat → Int32) × (Nat → Int32) := (((z28_0 <<< ((7 : Int32) &&& 31)) ||| z30_0), z30_1, z30_2, z30_3, z30_4, z30_5, z30_6, z30_7)
def f_X11_operands_c259 (length : Int32) (line : Int32) (words : Int32) (targets : Int32) (unfit : Int32) (text : Nat → Int32) (target : Nat → Int64) (targetWord : Nat → Int32) (targetLine : Nat → Int32) (z28_0 : Int32) (z29_0 : Int32) (z29_1 : Int32) : Int32 × Int32 × Int32 × Int32 × Int32 × (Nat → Int64) × (Nat → Int32) × (Nat → Int32) := (f_X11_operands_c265 z28_0 (f_X11_distance (1 : Int32) length z29_0 line words targets z29_1 unfit text target targetWord targetLine).1 (f_X11_distance (1 : Int32) length z29_0 line words targets z29_1 unfit text target targetWord targetLine).2.1 (f_X11_distance (1 : Int32) length z29_0 line words targets z29_1 unfit text target targetWord targetLine).2.2.1 (f_X11_distance (1 : Int32) length z29_0 line words targets z29_1 unfit text target targetWord targetLine).2.2.2.1 (f_X11_distance (1 : Int32) length z29_0 line words targets z29_1 unfit text target targetWord targetLine).2.2.2.2.1 (f_X11_distance (1 : Int32) length z29_0 line words targets z29_1 unfit text target targetWord targetLine).2.2.2.2.2.1 (f_X11_distance (1 : Int32) length z29_0 line words targets z29_1 unfit text target targetWord targetLine).2.2.2.2.2.2.1 (f_X11_distance (1 : Int32) length z29_0 line words targets z29_1 unfit text target targetWord targetLine).2.2.2.2.2.2.2)
def f_X11_operands_c249 (length : Int32) (line : Int32) (words : Int32) (targets : Int32) (unfit : Int32) (text : Nat → Int32) (target : Nat → Int64) (targetWord : Nat → Int32) (targetLine : Nat → Int32) (z28_0 : Int32) (z28_1 : Int32) (z28_2 : Int32) : Int32 × Int32 × Int32 × Int32 × Int32 × (Nat → Int64) × (Nat → Int32) × (Nat → Int32) := (f_X11_operands_c259 length line words targets unfit text target targetWord targetLine z28_0 (f_X11_need (44 : Int32) length z28_1 z28_2 text).1 (f_X11_need (44 : Int32) length z28_1 z28_2 text).2)
def f_X11_operands_c290 (targets : Int32) (target : Nat → Int64) (targetWord : Nat → Int32) (targetLine : Nat → Int32) (z31_0 : Int32) (z33_0 : Int64) (z33_1 : Int32) (z33_2 : Int32) (z33_3 : Int32) : Int32 × Int32 × Int32 × Int32 × Int32 × (Nat → Int64) × (Nat → Int32) × (Nat → Int32) := (((z31_0 <<< ((7 : Int32) &&& 31)) ||| ((Int64.toInt32 z33_0) <<< ((12 : Int32) &&& 31))), z33_1, targets, z33_2, z33_3, target, targetWord, targetLine)
def f_X11_operands_c281 (length : Int32) (targets : Int32) (unfit : Int32) (text : Nat → Int32) (target : Nat → Int64) (targetWord : Nat → Int32) (targetLine : Nat → Int32) (z31_0 : Int32) (z32_0 : Int32) (z32_1 : Int32) : Int32 × Int32 × Int32 × Int32 × Int32 × (Nat → Int64) × (Nat → Int32) × (Nat → Int32) := (f_X11_operands_c290 targets target targetWord targetLine z31_0 (f_X11_number (0 : Int64) (1048575 : Int64) length z32_0 z32_1 unfit text).1 (f_X11_number (0 : Int64) (1048575 : Int64) length z32_0 z32_1 unfit text).2.1 (f_X11_number (0 : Int64) (1048575 : Int64) length z32_0 z32_1 unfit text).2.2.1 (f_X11_number (0 : Int64) (1048575 : Int64) length z32_0 z32_1 unfit text).2.2.2)
def f_X11_operands_c271 (length : Int32) (targets : Int32) (unfit : Int32) (text : Nat → Int32) (target : Nat → Int64) (targetWord : Nat → Int32) (targetLine : Nat → Int32) (z31_0 : Int32) (z31_1 : Int32) (z31_2 : Int32) : Int32 × Int32 × Int32 × Int32 × Int32 × (Nat → Int64) × (Nat → Int32) × (Nat → Int32) := (f_X11_operands_c281 length targets unfit text target targetWord targetLine z31_0 (f_X11_need (44 : Int32) length z31_1 z31_2 text).1 (f_X11_need (44 : Int32) length z31_1 z31_2 text).2)
def f_X11_operands_c132_36 (targets : Int32) (target : Nat → Int64) (targetWord : Nat → Int32) (targetLine : Nat → Int32) (z34_0 : Int32) (z36_0 : Int64) (z36_1 : Int32) (z36_2 : Int32) (z36_3 : Int32) : Int32 × Int32 × Int32 × Int32 × Int32 × (Nat → Int64) × (Nat → Int32) × (Nat → Int32) := (f_X11_operands_135 z36_1 targets z36_2 z36_3 target targetWord targetLine z34_0 z36_0)
def f_X11_operands_c119_37 (targets : Int32) (target : Nat → Int64) (targetWord : Nat → Int32) (targetLine : Nat → Int32) (z34_0 : Int32) (z37_0 : Int64) (z37_1 : Int32) (z37_2 : Int32) (z37_3 : Int32) : Int32 × Int32 × Int32 × Int32 × Int32 × (Nat → Int64) × (Nat → Int32) × (Nat → Int32) := (f_X11_operands_135 z37_1 targets z37_2 z37_3 target targetWord targetLine z34_0 z37_0)
def f_X11_operands_c105_35 (form : Int32) (length : Int32) (targets : Int32) (unfit : Int32) (text : Nat → Int32) (target : Nat → Int64) (targetWord : Nat → Int32) (targetLine : Nat → Int32) (z34_0 : Int32) (z35_0 : Int32) (z35_1 : Int32) : Int32 × Int32 × Int32 × Int32 × Int32 × (Nat → Int64) × (Nat → Int32) × (Nat → Int32) := (if form = (8 : Int32) then (f_X11_operands_c119_37 targets target targetWord targetLine z34_0 (f_X11_number (0 : Int64) (31 : Int64) length z35_0 z35_1 unfit text).1 (f_X11_number (0 : Int64) (31 : Int64) length z35_0 z35_1 unfit text).2.1 (f_X11_number (0 : Int64) (31 : Int64) length z35_0 z35_1 unfit text).2.2.1 (f_X11_number (0 : Int64) (31 : Int64) length z35_0 z35_1 unfit text).2.2.2) else (f_X11_operands_c132_36 targets target targetWord targetLine z34_0 (f_X11_number (-2048 : Int64) (2047 : Int64) length z35_0 z35_1 unfit text).1 (f_X11_number (-2048 : Int64) (2047 : Int64) length z35_0 z35_1 unfit text).2.1 (f_X11_number (-2048 : Int64) (2047 : Int64) length z35_0 z35_1 unfit text).2.2.1 (f_X11_number (-2048 : Int64) (2047 : Int64) length z35_0 z35_1 unfit text).2.2.2))
def f_X11_operands_c98_34 (form : Int32) (length : Int32) (targets : Int32) (unfit : Int32) (text : Nat → Int32) (target : Nat → Int64) (targetWord : Nat → Int32) (targetLine : Nat → Int32) (z34_0 : Int32) (z34_1 : Int32) (z34_2 : Int32) : Int32 × Int32 × Int32 × Int32 × Int32 × (Nat → Int64) × (Nat → Int32) × (Nat → Int32) := (f_X11_operands_c105_35 form length targets unfit text target targetWord targetLine z34_0 (f_X11_need (44 : Int32) length z34_1 z34_2 text).1 (f_X11_need (44 : Int32) length z34_1 z34_2 text).2)
def f_X11_operands_c346 (targets : Int32) (target : Nat → Int64) (targetWord : Nat → Int32) (targetLine : Nat → Int32) (z38_0 : Int64) (z40_0 : Int32) (z42_1 : Int32) (z42_2 : Int32) (z42_3 : Int32) (z43_0 : Int32) : Int32 × Int32 × Int32 × Int32 × Int32 × (Nat → Int64) × (Nat → Int32) × (Nat → Int32) := (((((Int64.toInt32 z38_0) <<< ((7 : Int32) &&& 31)) ||| (z40_0 <<< ((15 : Int32) &&& 31))) ||| z43_0), z42_1, targets, z42_2, z42_3, target, targetWord, targetLine)
def f_X11_operands_c342 (targets : Int32) (target : Nat → Int64) (targetWord : Nat → Int32) (targetLine : Nat → Int32) (z38_0 : Int64) (z40_0 : Int32) (z42_0 : Int64) (z42_1 : Int32) (z42_2 : Int32) (z42_3 : Int32) : Int32 × Int32 × Int32 × Int32 × Int32 × (Nat → Int64) × (Nat → Int32) × (Nat → Int32) := (f_X11_operands_c346 targets target targetWord targetLine z38_0 z40_0 z42_1 z42_2 z42_3 (f_X11_immediate (Int64.toInt32 z42_0)))
def f_X11_operands_c331 (length : Int32) (targets : Int32) (text : Nat → Int32) (target : Nat → Int64) (targetWord : Nat → Int32) (targetLine : Nat → Int32) (z38_0 : Int64) (z38_3 : Int32) (z40_0 : Int32) (z41_0 : Int32) (z41_1 : Int32) : Int32 × Int32 × Int32 × Int32 × Int32 × (Nat → Int64) × (Nat → Int32) × (Nat → Int32) := (f_X11_operands_c342 targets target targetWord targetLine z38_0 z40_0 (f_X11_number (-2048 : Int64) (2047 : Int64) length z41_0 z41_1 z38_3 text).1 (f_X11_number (-2048 : Int64) (2047 : Int64) length z41_0 z41_1 z38_3 text).2.1 (f_X11_number (-2048 : Int64) (2047 : Int64) length z41_0 z41_1 z38_3 text).2.2.1 (f_X11_number (-2048 : Int64) (2047 : Int64) length z41_0 z41_1 z38_3 text).2.2.2)
def f_X11_operands_c320 (length : Int32) (targets : Int32) (text : Nat → Int32) (target : Nat → Int64) (targetWord : Nat → Int32) (targetLine : Nat → Int32) (z38_0 : Int64) (z38_3 : Int32) (z40_0 : Int32) (z40_1 : Int32) (z40_2 : Int32) : Int32 × Int32 × Int32 × Int32 × Int32 × (Nat → Int64) × (Nat → Int32) × (Nat → Int32) := (f_X11_operands_c331 length targets text target targetWord targetLine z38_0 z38_3 z40_0 (f_X11_need (44 : Int32) length z40_1 z40_2 text).1 (f_X11_need (44 : Int32) length z40_1 z40_2 text).2)
def f_X11_operands_c311 (length : Int32) (targets : Int32) (text : Nat → Int32) (target : Nat → Int64) (targetWord : Nat → Int32) (targetLine : Nat → Int32) (z38_0 : Int64) (z38_3 : Int32) (z39_0 : Int32) (z39_1 : Int32) : Int32 × Int32 × Int32 × Int32 × Int32 × (Nat → Int64) × (Nat → Int32) × (Nat → Int32) := (f_X11_operands_c320 length targets text target targetWord targetLine z38_0 z38_3 (f_X11_takeRegister length z39_0 z39_1 text).1 (f_X11_takeRegister length z39_0 z39_1 text).2.1 (f_X11_takeRegister length z39_0 z39_1 text).2.2)
def f_X11_operands_c304 (length : Int32) (targets : Int32) (text : Nat → Int32) (target : Nat → Int64) (targetWord : Nat → Int32) (targetLine : Nat → Int32) (z38_0 : Int64) (z38_1 : Int32) (z38_2 : Int32) (z38_3 : Int32) : Int32 × Int32 × Int32 × Int32 × Int32 × (Nat → Int64) × (Nat → Int32) × (Nat → Int32) := (f_X11_operands_c311 length targets text target targetWord targetLine z38_0 z38_3 (f_X11_need (44 : Int32) length z38_1 z38_2 text).1 (f_X11_need (44 : Int32) length z38_1 z38_2 text).2)
def f_X11_operands_c352 (targets : Int32) (unfit : Int32) (target : Nat → Int64) (targetWord : Nat → Int32) (targetLine : Nat → Int32) (z44_0 : Int32) (z44_1 : Int32) (z44_2 : Int32) : Int32 × Int32 × Int32 × Int32 × Int32 × (Nat → Int64) × (Nat → Int32) × (Nat → Int32) := ((z44_0 <<< ((7 : Int32) &&& 31)), z44_1, targets, z44_2, unfit, target, targetWord, targetLine)
def f_X11_operands_c366 (targets : Int32) (target : Nat → Int64) (targetWord : Nat → Int32) (targetLine : Nat → Int32) (z45_0 : Int64) (z45_1 : Int32) (z45_2 : Int32) (z45_3 : Int32) : Int32 × Int32 × Int32 × Int32 × Int32 × (Nat → Int64) × (Nat → Int32) × (Nat → Int32) := ((Int64.toInt32 z45_0), z45_1, targets, z45_2, z45_3, target, targetWord, targetLine)
def f_X11_operands (form : Int32) (length : Int32) (at_ : Int32) (line : Int32) (words : Int32) (targets : Int32) (wrong : Int32) (unfit : Int32) (text : Nat → Int32) (target : Nat → Int64) (targetWord : Nat → Int32) (targetLine : Nat → Int32) : Int32 × Int32 × Int32 × Int32 × Int32 × (Nat → Int64) × (Nat → Int32) × (Nat → Int32) := (if form = (1 : Int32) then (f_X11_operands_c73 length targets unfit text target targetWord targetLine (f_X11_pair (7 : Int32) (15 : Int32) length at_ wrong text).1 (f_X11_pair (7 : Int32) (15 : Int32) length at_ wrong text).2.1 (f_X11_pair (7 : Int32) (15 : Int32) length at_ wrong text).2.2) else (if form = (2 : Int32) then (f_X11_operands_c98 form length targets unfit text target targetWord targetLine (f_X11_pair (7 : Int32) (15 : Int32) length at_ wrong text).1 (f_X11_pair (7 : Int32) (15 : Int32) length at_ wrong text).2.1 (f_X11_pair (7 : Int32) (15 : Int32) length at_ wrong text).2.2) else (if form = (3 : Int32) then (f_X11_operands_c145 form length targets unfit text target targetWord targetLine (f_X11_takeRegister length at_ wrong text).1 (f_X11_takeRegister length at_ wrong text).2.1 (f_X11_takeRegister length at_ wrong text).2.2) else (if form = (4 : Int32) then (f_X11_operands_c145_17 form length targets unfit text target targetWord targetLine (f_X11_takeRegister length at_ wrong text).1 (f_X11_takeRegister length at_ wrong text).2.1 (f_X11_takeRegister length at_ wrong text).2.2) else (if form = (5 : Int32) then (f_X11_operands_c230 length line words targets unfit text target targetWord targetLine (f_X11_pair (15 : Int32) (20 : Int32) length at_ wrong text).1 (f_X11_pair (15 : Int32) (20 : Int32) length at_ wrong text).2.1 (f_X11_pair (15 : Int32) (20 : Int32) length at_ wrong text).2.2) else (if form = (6 : Int32) then (f_X11_operands_c249 length line words targets unfit text target targetWord targetLine (f_X11_takeRegister length at_ wrong text).1 (f_X11_takeRegister length at_ wrong text).2.1 (f_X11_takeRegister length at_ wrong text).2.2) else (if form = (7 : Int32) then (f_X11_operands_c271 length targets unfit text target targetWord targetLine (f_X11_takeRegister length at_ wrong text).1 (f_X11_takeRegister length at_ wrong text).2.1 (f_X11_takeRegister length at_ wrong text).2.2) else (if form = (8 : Int32) then (f_X11_operands_c98_34 form length targets unfit text target targetWord targetLine (f_X11_pair (7 : Int32) (15 : Int32) length at_ wrong text).1 (f_X11_pair (7 : Int32) (15 : Int32) length at_ wrong text).2.1 (f_X11_pair (7 : Int32) (15 : Int32) length at_ wrong text).2.2) else (if form = (9 : Int32) then (f_X11_operands_c304 length targets text target targetWord targetLine (f_X11_number (0 : Int64) (3 : Int64) length at_ wrong unfit text).1 (f_X11_number (0 : Int64) (3 : Int64) length at_ wrong unfit text).2.1 (f_X11_number (0 : Int64) (3 : Int64) length at_ wrong unfit text).2.2.1 (f_X11_number (0 : Int64) (3 : Int64) length at_ wrong unfit text).2.2.2) else (if form = (10 : Int32) then (f_X11_operands_c352 targets unfit target targetWord targetLine (f_X11_takeRegister length at_ wrong text).1 (f_X11_takeRegister length at_ wrong text).2.1 (f_X11_takeRegister length at_ wrong text).2.2) else (if form = (12 : Int32) then (f_X11_operands_c366 targets target targetWord targetLine (f_X11_number (-2147483648 : Int64) (4294967295 : Int64) length at_ wrong unfit text).1 (f_X11_number (-2147483648 : Int64) (4294967295 : Int64) length at_ wrong unfit text).2.1 (f_X11_number (-2147483648 : Int64) (4294967295 : Int64) length at_ wrong unfit text).2.2.1 (f_X11_number (-2147483648 : Int64) (4294967295 : Int64) length at_ wrong unfit text).2.2.2) else ((0 : Int32), at_, targets, wrong, unfit, target, targetWord, targetLine))))))))))))
set_option maxRecDepth 20000 in
theorem k_X11_operands {form : Int32} {refusal : Int32} {wheel : Int32} {now : Int32} {length : Int32} {at_ : Int32} {fault : Int32} {faultLine : Int32} {line : Int32} {words : Int32} {labels : Int32} {targets : Int32} {wrong : Int32} {unfit : Int32} {text : Nat → Int32} {code_ : Nat → Int32} {label : Nat → Int64} {labelWord : Nat → Int32} {target : Nat → Int64} {targetWord : Nat → Int32} {targetLine : Nat → Int32} {store : Nat → Int32} {common : Nat → Int32} {low : Nat → Int32} {high : Nat → Int32} {register : Nat → Int32} {address : Nat → Int32} {status : Nat → Int32} {did : Nat → Int32} {ready : Nat → Int32} {timer : Nat → Int32} {trace : Nat → Int32} (hln : 0 ≤ length.toInt ∧ length.toInt ≤ 400) (hat : 0 ≤ at_.toInt ∧ at_.toInt ≤ 400) (htg : 0 ≤ targets.toInt ∧ targets.toInt ≤ 128) {r_0 : Int32} {r_1 : Int32} {r_2 : Int32} {r_3 : Int32} {r_4 : Int32} {r_5 : (Nat → Int64)} {r_6 : (Nat → Int32)} {r_7 : (Nat → Int32)} (hres : (r_0, r_1, r_2, r_3, r_4, r_5, r_6, r_7) = f_X11_operands form length at_ line words targets wrong unfit text target targetWord targetLine) : K M_X11_operands yX11_operands [.ref 0, .int form] (w_M refusal wheel now length at_ fault faultLine line words labels targets wrong unfit text code_ label labelWord target targetWord targetLine store common low high register address status did ready timer trace) (some (.int r_0)) (w_M refusal wheel now length r_1 fault faultLine line words labels r_2 r_3 r_4 text code_ label labelWord r_5 r_6 r_7 store common low high register address status did ready timer trace) := by
  refine K.of (lv := [(0, .ref 0), (1, .int form)]) (by decide +kernel) rfl rfl rfl ?_
  rw [f_X11_operands] at hres
  refine G.iconst (pc := 0) (v := (0 : Int32)) dm_X11_operands_0 qi_0 ?_
  refine G.istore_n (pc := 1) (lv1 := [(2, .int (0 : Int32)), (0, .ref 0), (1, .int form)]) dm_X11_operands_1 rfl rfl ?_
  refine G.lconst (pc := 2) (v := (0 : Int64)) dm_X11_operands_2 (by decide) ?_
  refine G.lstore_n (pc := 3) (lv1 := [(3, .long (0 : Int64)), (2, .int (0 : Int32)), (0, .ref 0), (1, .int form)]) dm_X11_operands_3 rfl rfl ?_
  refine G.iload_n (pc := 4) dm_X11_operands_4 rfl ?_
  by_cases c5_0 : form = (1 : Int32)
  · rw [if_pos c5_0] at hres
    refine G.tabIn (pc := 5) (tgt := 68) dm_X11_operands_5 c5_0 (by decide) (by decide) rfl (by decide) ?_
    refine G.aload_n (pc := 68) dm_X11_operands_68 rfl ?_
    refine G.bipush (pc := 69) (v := (7 : Int32)) dm_X11_operands_69 qb_7 ?_
    refine G.bipush (pc := 71) (v := (15 : Int32)) dm_X11_operands_71 qb_15 ?_
    obtain ⟨z1_0, z1_1, z1_2, hz1⟩ := g_ex3 (f_X11_pair (7 : Int32) (15 : Int32) length at_ wrong text)
    refine G.callV0 (pc := 73) (rest := []) (st1 := [.int z1_0]) dm_X11_operands_73 gc_X11_operands_228 (k_X11_pair (shift := (7 : Int32)) (other := (15 : Int32)) (refusal := refusal) (wheel := wheel) (now := now) (length := length) (at_ := at_) (fault := fault) (faultLine := faultLine) (line := line) (words := words) (labels := labels) (targets := targets) (wrong := wrong) (unfit := unfit) (text := text) (code_ := code_) (label := label) (labelWord := labelWord) (target := target) (targetWord := targetWord) (targetLine := targetLine) (store := store) (common := common) (low := low) (high := high) (register := register) (address := address) (status := status) (did := did) (ready := ready) (timer := timer) (trace := trace) (by first | assumption | exact q_31 _ | exact q_7 _) (by first | assumption | exact q_31 _ | exact q_7 _) hz1) rfl rfl rfl rfl rfl rfl rfl rfl ?_
    have hat := (a_X11_pair (a0 := 0) hz1 hln ⟨hat, hat.1⟩).1
    replace hres : (r_0, r_1, r_2, r_3, r_4, r_5, r_6, r_7) = f_X11_operands_c73 length targets unfit text target targetWord targetLine z1_0 z1_1 z1_2 := hres.trans (by rw [← hz1])
    rw [f_X11_operands_c73] at hres
    refine G.istore_n (pc := 76) (lv1 := [(2, .int z1_0), (3, .long (0 : Int64)), (0, .ref 0), (1, .int form)]) dm_X11_operands_76 rfl rfl ?_
    refine G.aload_n (pc := 77) dm_X11_operands_77 rfl ?_
    refine G.bipush (pc := 78) (v := (44 : Int32)) dm_X11_operands_78 qb_44 ?_
    obtain ⟨z2_0, z2_1, hz2⟩ := g_ex2 (f_X11_need (44 : Int32) length z1_1 z1_2 text)
    refine G.callV0 (pc := 80) (rest := []) (st1 := []) dm_X11_operands_80 gc_X11_operands_224 (k_X11_need (c := (44 : Int32)) (refusal := refusal) (wheel := wheel) (now := now) (length := length) (at_ := z1_1) (fault := fault) (faultLine := faultLine) (line := line) (words := words) (labels := labels) (targets := targets) (wrong := z1_2) (unfit := unfit) (text := text) (code_ := code_) (label := label) (labelWord := labelWord) (target := target) (targetWord := targetWord) (targetLine := targetLine) (store := store) (common := common) (low := low) (high := high) (register := register) (address := address) (status := status) (did := did) (ready := ready) (timer := timer) (trace := trace) (by first | assumption | exact q_31 _ | exact q_7 _) (by first | assumption | exact q_31 _ | exact q_7 _) hz2) rfl rfl rfl rfl rfl rfl rfl rfl ?_
    have hat := (a_need hz2 (by decide) hln hat).1
    replace hres : (r_0, r_1, r_2, r_3, r_4, r_5, r_6, r_7) = f_X11_operands_c80 length targets unfit text target targetWord targetLine z1_0 z2_0 z2_1 := hres.trans (by rw [← hz2])
    rw [f_X11_operands_c80] at hres
    refine G.iload_n (pc := 83) dm_X11_operands_83 rfl ?_
    refine G.aload_n (pc := 84) dm_X11_operands_84 rfl ?_
    obtain ⟨z3_0, z3_1, z3_2, hz3⟩ := g_ex3 (f_X11_takeRegister length z2_0 z2_1 text)
    refine G.callV0 (pc := 85) (rest := [.int z1_0]) (st1 := [.int z3_0, .int z1_0]) dm_X11_operands_85 gc_X11_operands_220 (k_X11_takeRegister (refusal := refusal) (wheel := wheel) (now := now) (length := length) (at_ := z2_0) (fault := fault) (faultLine := faultLine) (line := line) (words := words) (labels := labels) (targets := targets) (wrong := z2_1) (unfit := unfit) (text := text) (code_ := code_) (label := label) (labelWord := labelWord) (target := target) (targetWord := targetWord) (targetLine := targetLine) (store := store) (common := common) (low := low) (high := high) (register := register) (address := address) (status := status) (did := did) (ready := ready) (timer := timer) (trace := trace) (by first | assumption | exact q_31 _ | exact q_7 _) (by first | assumption | exact q_31 _ | exact q_7 _) hz3) rfl rfl rfl rfl rfl rfl rfl rfl ?_
    have hat := (a_takeRegister hz3 hln hat).1
    replace hres : (r_0, r_1, r_2, r_3, r_4, r_5, r_6, r_7) = f_X11_operands_c85 targets unfit target targetWord targetLine z1_0 z3_0 z3_1 z3_2 := hres.trans (by rw [← hz3])
    rw [f_X11_operands_c85] at hres
    refine G.bipush (pc := 88) (v := (20 : Int32)) dm_X11_operands_88 qb_20 ?_
    refine G.ishl (pc := 90) dm_X11_operands_90 ?_
    refine G.ior (pc := 91) dm_X11_operands_91 ?_
    cases hres
    exact G.ireturn (pc := 92) dm_X11_operands_92 rfl rfl rfl
  rw [if_neg c5_0] at hres
  by_cases c5_1 : form = (2 : Int32)
  · rw [if_pos c5_1] at hres
    refine G.tabIn (pc := 5) (tgt := 93) dm_X11_operands_5 c5_1 (by decide) (by decide) rfl (by decide) ?_
    refine G.aload_n (pc := 93) dm_X11_operands_93 rfl ?_
    refine G.bipush (pc := 94) (v := (7 : Int32)) dm_X11_operands_94 qb_7 ?_
    refine G.bipush (pc := 96) (v := (15 : Int32)) dm_X11_operands_96 qb_15 ?_
    obtain ⟨z4_0, z4_1, z4_2, hz4⟩ := g_ex3 (f_X11_pair (7 : Int32) (15 : Int32) length at_ wrong text)
    refine G.callV0 (pc := 98) (rest := []) (st1 := [.int z4_0]) dm_X11_operands_98 gc_X11_operands_228 (k_X11_pair (shift := (7 : Int32)) (other := (15 : Int32)) (refusal := refusal) (wheel := wheel) (now := now) (length := length) (at_ := at_) (fault := fault) (faultLine := faultLine) (line := line) (words := words) (labels := labels) (targets := targets) (wrong := wrong) (unfit := unfit) (text := text) (code_ := code_) (label := label) (labelWord := labelWord) (target := target) (targetWord := targetWord) (targetLine := targetLine) (store := store) (common := common) (low := low) (high := high) (register := register) (address := address) (status := status) (did := did) (ready := ready) (timer := timer) (trace := trace) (by first | assumption | exact q_31 _ | exact q_7 _) (by first | assumption | exact q_31 _ | exact q_7 _) hz4) rfl rfl rfl rfl rfl rfl rfl rfl ?_
    have hat := (a_X11_pair (a0 := 0) hz4 hln ⟨hat, hat.1⟩).1
    replace hres : (r_0, r_1, r_2, r_3, r_4, r_5, r_6, r_7) = f_X11_operands_c98 form length targets unfit text target targetWord targetLine z4_0 z4_1 z4_2 := hres.trans (by rw [← hz4])
    rw [f_X11_operands_c98] at hres
    refine G.istore_n (pc := 101) (lv1 := [(2, .int z4_0), (3, .long (0 : Int64)), (0, .ref 0), (1, .int form)]) dm_X11_operands_101 rfl rfl ?_
    refine G.aload_n (pc := 102) dm_X11_operands_102 rfl ?_
    refine G.bipush (pc := 103) (v := (44 : Int32)) dm_X11_operands_103 qb_44 ?_
    obtain ⟨z5_0, z5_1, hz5⟩ := g_ex2 (f_X11_need (44 : Int32) length z4_1 z4_2 text)
    refine G.callV0 (pc := 105) (rest := []) (st1 := []) dm_X11_operands_105 gc_X11_operands_224 (k_X11_need (c := (44 : Int32)) (refusal := refusal) (wheel := wheel) (now := now) (length := length) (at_ := z4_1) (fault := fault) (faultLine := faultLine) (line := line) (words := words) (labels := labels) (targets := targets) (wrong := z4_2) (unfit := unfit) (text := text) (code_ := code_) (label := label) (labelWord := labelWord) (target := target) (targetWord := targetWord) (targetLine := targetLine) (store := store) (common := common) (low := low) (high := high) (register := register) (address := address) (status := status) (did := did) (ready := ready) (timer := timer) (trace := trace) (by first | assumption | exact q_31 _ | exact q_7 _) (by first | assumption | exact q_31 _ | exact q_7 _) hz5) rfl rfl rfl rfl rfl rfl rfl rfl ?_
    have hat := (a_need hz5 (by decide) hln hat).1
    replace hres : (r_0, r_1, r_2, r_3, r_4, r_5, r_6, r_7) = f_X11_operands_c105 form length targets unfit text target targetWord targetLine z4_0 z5_0 z5_1 := hres.trans (by rw [← hz5])
    rw [f_X11_operands_c105] at hres
    refine G.iload_n (pc := 108) dm_X11_operands_108 rfl ?_
    refine G.bipush (pc := 109) (v := (8 : Int32)) dm_X11_operands_109 qb_8 ?_
    refine G.icmp_ne (pc := 111) (tgt := 125) dm_X11_operands_111 (by decide) (fun c111 => ?_) (fun c111 => ?_)
    · rw [if_neg c111] at hres
      refine G.aload_n (pc := 125) dm_X11_operands_125 rfl ?_
      refine G.ldc2 (pc := 126) dm_X11_operands_126 tw488 ?_
      refine G.ldc2 (pc := 129) dm_X11_operands_129 tw489 ?_
      obtain ⟨z6_0, z6_1, z6_2, z6_3, hz6⟩ := g_ex4 (f_X11_number (-2048 : Int64) (2047 : Int64) length z5_0 z5_1 unfit text)
      refine G.callV0 (pc := 132) (rest := []) (st1 := [.long z6_0]) dm_X11_operands_132 gc_X11_operands_210 (k_X11_number (least := (-2048 : Int64)) (most := (2047 : Int64)) (refusal := refusal) (wheel := wheel) (now := now) (length := length) (at_ := z5_0) (fault := fault) (faultLine := faultLine) (line := line) (words := words) (labels := labels) (targets := targets) (wrong := z5_1) (unfit := unfit) (text := text) (code_ := code_) (label := label) (labelWord := labelWord) (target := target) (targetWord := targetWord) (targetLine := targetLine) (store := store) (common := common) (low := low) (high := high) (register := register) (address := address) (status := status) (did := did) (ready := ready) (timer := timer) (trace := trace) (by first | assumption | exact q_31 _ | exact q_7 _) (by first | assumption | exact q_31 _ | exact q_7 _) hz6) rfl rfl rfl rfl rfl rfl rfl rfl ?_
      have hat := (a_number hz6 hln hat).1
      replace hres : (r_0, r_1, r_2, r_3, r_4, r_5, r_6, r_7) = f_X11_operands_c132 targets target targetWord targetLine z4_0 z6_0 z6_1 z6_2 z6_3 := hres.trans (by rw [← hz6])
      rw [f_X11_operands_c132] at hres
      refine G.lvp [0] rfl ?_
      exact j_X11_operands_135 hres 
    · rw [if_pos c111] at hres
      refine G.aload_n (pc := 114) dm_X11_operands_114 rfl ?_
      refine G.lconst (pc := 115) (v := (0 : Int64)) dm_X11_operands_115 (by decide) ?_
      refine G.ldc2 (pc := 116) dm_X11_operands_116 tw487 ?_
      obtain ⟨z8_0, z8_1, z8_2, z8_3, hz8⟩ := g_ex4 (f_X11_number (0 : Int64) (31 : Int64) length z5_0 z5_1 unfit text)
      refine G.callV0 (pc := 119) (rest := []) (st1 := [.long z8_0]) dm_X11_operands_119 gc_X11_operands_210 (k_X11_number (least := (0 : Int64)) (most := (31 : Int64)) (refusal := refusal) (wheel := wheel) (now := now) (length := length) (at_ := z5_0) (fault := fault) (faultLine := faultLine) (line := line) (words := words) (labels := labels) (targets := targets) (wrong := z5_1) (unfit := unfit) (text := text) (code_ := code_) (label := label) (labelWord := labelWord) (target := target) (targetWord := targetWord) (targetLine := targetLine) (store := store) (common := common) (low := low) (high := high) (register := register) (address := address) (status := status) (did := did) (ready := ready) (timer := timer) (trace := trace) (by first | assumption | exact q_31 _ | exact q_7 _) (by first | assumption | exact q_31 _ | exact q_7 _) hz8) rfl rfl rfl rfl rfl rfl rfl rfl ?_
      have hat := (a_number hz8 hln hat).1
      replace hres : (r_0, r_1, r_2, r_3, r_4, r_5, r_6, r_7) = f_X11_operands_c119 targets target targetWord targetLine z4_0 z8_0 z8_1 z8_2 z8_3 := hres.trans (by rw [← hz8])
      rw [f_X11_operands_c119] at hres
      refine G.goto (pc := 122) (tgt := 135) dm_X11_operands_122 (by decide) ?_
      refine G.lvp [0] rfl ?_
      exact j_X11_operands_135 hres 
  rw [if_neg c5_1] at hres
  by_cases c5_2 : form = (3 : Int32)
  · rw [if_pos c5_2] at hres
    refine G.tabIn (pc := 5) (tgt := 144) dm_X11_operands_5 c5_2 (by decide) (by decide) rfl (by decide) ?_
    refine G.aload_n (pc := 144) dm_X11_operands_144 rfl ?_
    obtain ⟨z9_0, z9_1, z9_2, hz9⟩ := g_ex3 (f_X11_takeRegister length at_ wrong text)
    refine G.callV0 (pc := 145) (rest := []) (st1 := [.int z9_0]) dm_X11_operands_145 gc_X11_operands_220 (k_X11_takeRegister (refusal := refusal) (wheel := wheel) (now := now) (length := length) (at_ := at_) (fault := fault) (faultLine := faultLine) (line := line) (words := words) (labels := labels) (targets := targets) (wrong := wrong) (unfit := unfit) (text := text) (code_ := code_) (label := label) (labelWord := labelWord) (target := target) (targetWord := targetWord) (targetLine := targetLine) (store := store) (common := common) (low := low) (high := high) (register := register) (address := address) (status := status) (did := did) (ready := ready) (timer := timer) (trace := trace) (by first | assumption | exact q_31 _ | exact q_7 _) (by first | assumption | exact q_31 _ | exact q_7 _) hz9) rfl rfl rfl rfl rfl rfl rfl rfl ?_
    have hat := (a_takeRegister hz9 hln hat).1
    replace hres : (r_0, r_1, r_2, r_3, r_4, r_5, r_6, r_7) = f_X11_operands_c145 form length targets unfit text target targetWord targetLine z9_0 z9_1 z9_2 := hres.trans (by rw [← hz9])
    rw [f_X11_operands_c145] at hres
    refine G.istore_n (pc := 148) (lv1 := [(2, .int z9_0), (3, .long (0 : Int64)), (0, .ref 0), (1, .int form)]) dm_X11_operands_148 rfl rfl ?_
    refine G.aload_n (pc := 149) dm_X11_operands_149 rfl ?_
    refine G.bipush (pc := 150) (v := (44 : Int32)) dm_X11_operands_150 qb_44 ?_
    obtain ⟨z10_0, z10_1, hz10⟩ := g_ex2 (f_X11_need (44 : Int32) length z9_1 z9_2 text)
    refine G.callV0 (pc := 152) (rest := []) (st1 := []) dm_X11_operands_152 gc_X11_operands_224 (k_X11_need (c := (44 : Int32)) (refusal := refusal) (wheel := wheel) (now := now) (length := length) (at_ := z9_1) (fault := fault) (faultLine := faultLine) (line := line) (words := words) (labels := labels) (targets := targets) (wrong := z9_2) (unfit := unfit) (text := text) (code_ := code_) (label := label) (labelWord := labelWord) (target := target) (targetWord := targetWord) (targetLine := targetLine) (store := store) (common := common) (low := low) (high := high) (register := register) (address := address) (status := status) (did := did) (ready := ready) (timer := timer) (trace := trace) (by first | assumption | exact q_31 _ | exact q_7 _) (by first | assumption | exact q_31 _ | exact q_7 _) hz10) rfl rfl rfl rfl rfl rfl rfl rfl ?_
    have hat := (a_need hz10 (by decide) hln hat).1
    replace hres : (r_0, r_1, r_2, r_3, r_4, r_5, r_6, r_7) = f_X11_operands_c152 form length targets unfit text target targetWord targetLine z9_0 z10_0 z10_1 := hres.trans (by rw [← hz10])
    rw [f_X11_operands_c152] at hres
    refine G.aload_n (pc := 155) dm_X11_operands_155 rfl ?_
    refine G.ldc2 (pc := 156) dm_X11_operands_156 tw488 ?_
    refine G.ldc2 (pc := 159) dm_X11_operands_159 tw489 ?_
    obtain ⟨z11_0, z11_1, z11_2, z11_3, hz11⟩ := g_ex4 (f_X11_number (-2048 : Int64) (2047 : Int64) length z10_0 z10_1 unfit text)
    refine G.callV0 (pc := 162) (rest := []) (st1 := [.long z11_0]) dm_X11_operands_162 gc_X11_operands_210 (k_X11_number (least := (-2048 : Int64)) (most := (2047 : Int64)) (refusal := refusal) (wheel := wheel) (now := now) (length := length) (at_ := z10_0) (fault := fault) (faultLine := faultLine) (line := line) (words := words) (labels := labels) (targets := targets) (wrong := z10_1) (unfit := unfit) (text := text) (code_ := code_) (label := label) (labelWord := labelWord) (target := target) (targetWord := targetWord) (targetLine := targetLine) (store := store) (common := common) (low := low) (high := high) (register := register) (address := address) (status := status) (did := did) (ready := ready) (timer := timer) (trace := trace) (by first | assumption | exact q_31 _ | exact q_7 _) (by first | assumption | exact q_31 _ | exact q_7 _) hz11) rfl rfl rfl rfl rfl rfl rfl rfl ?_
    have hat := (a_number hz11 hln hat).1
    replace hres : (r_0, r_1, r_2, r_3, r_4, r_5, r_6, r_7) = f_X11_operands_c162 form length targets text target targetWord targetLine z9_0 z11_0 z11_1 z11_2 z11_3 := hres.trans (by rw [← hz11])
    rw [f_X11_operands_c162] at hres
    refine G.lstore_n (pc := 165) (lv1 := [(3, .long z11_0), (2, .int z9_0), (0, .ref 0), (1, .int form)]) dm_X11_operands_165 rfl rfl ?_
    refine G.aload_n (pc := 166) dm_X11_operands_166 rfl ?_
    refine G.bipush (pc := 167) (v := (40 : Int32)) dm_X11_operands_167 qb_40 ?_
    obtain ⟨z12_0, z12_1, hz12⟩ := g_ex2 (f_X11_need (40 : Int32) length z11_1 z11_2 text)
    refine G.callV0 (pc := 169) (rest := []) (st1 := []) dm_X11_operands_169 gc_X11_operands_224 (k_X11_need (c := (40 : Int32)) (refusal := refusal) (wheel := wheel) (now := now) (length := length) (at_ := z11_1) (fault := fault) (faultLine := faultLine) (line := line) (words := words) (labels := labels) (targets := targets) (wrong := z11_2) (unfit := z11_3) (text := text) (code_ := code_) (label := label) (labelWord := labelWord) (target := target) (targetWord := targetWord) (targetLine := targetLine) (store := store) (common := common) (low := low) (high := high) (register := register) (address := address) (status := status) (did := did) (ready := ready) (timer := timer) (trace := trace) (by first | assumption | exact q_31 _ | exact q_7 _) (by first | assumption | exact q_31 _ | exact q_7 _) hz12) rfl rfl rfl rfl rfl rfl rfl rfl ?_
    have hat := (a_need hz12 (by decide) hln hat).1
    replace hres : (r_0, r_1, r_2, r_3, r_4, r_5, r_6, r_7) = f_X11_operands_c169 form length targets text target targetWord targetLine z9_0 z11_0 z11_3 z12_0 z12_1 := hres.trans (by rw [← hz12])
    rw [f_X11_operands_c169] at hres
    refine G.aload_n (pc := 172) dm_X11_operands_172 rfl ?_
    obtain ⟨z13_0, z13_1, z13_2, hz13⟩ := g_ex3 (f_X11_takeRegister length z12_0 z12_1 text)
    refine G.callV0 (pc := 173) (rest := []) (st1 := [.int z13_0]) dm_X11_operands_173 gc_X11_operands_220 (k_X11_takeRegister (refusal := refusal) (wheel := wheel) (now := now) (length := length) (at_ := z12_0) (fault := fault) (faultLine := faultLine) (line := line) (words := words) (labels := labels) (targets := targets) (wrong := z12_1) (unfit := z11_3) (text := text) (code_ := code_) (label := label) (labelWord := labelWord) (target := target) (targetWord := targetWord) (targetLine := targetLine) (store := store) (common := common) (low := low) (high := high) (register := register) (address := address) (status := status) (did := did) (ready := ready) (timer := timer) (trace := trace) (by first | assumption | exact q_31 _ | exact q_7 _) (by first | assumption | exact q_31 _ | exact q_7 _) hz13) rfl rfl rfl rfl rfl rfl rfl rfl ?_
    have hat := (a_takeRegister hz13 hln hat).1
    replace hres : (r_0, r_1, r_2, r_3, r_4, r_5, r_6, r_7) = f_X11_operands_c173 form length targets text target targetWord targetLine z9_0 z11_0 z11_3 z13_0 z13_1 z13_2 := hres.trans (by rw [← hz13])
    rw [f_X11_operands_c173] at hres
    refine G.istore (pc := 176) (lv1 := [(5, .int z13_0), (3, .long z11_0), (2, .int z9_0), (0, .ref 0), (1, .int form)]) dm_X11_operands_176 rfl rfl ?_
    refine G.aload_n (pc := 178) dm_X11_operands_178 rfl ?_
    refine G.bipush (pc := 179) (v := (41 : Int32)) dm_X11_operands_179 qb_41 ?_
    obtain ⟨z14_0, z14_1, hz14⟩ := g_ex2 (f_X11_need (41 : Int32) length z13_1 z13_2 text)
    refine G.callV0 (pc := 181) (rest := []) (st1 := []) dm_X11_operands_181 gc_X11_operands_224 (k_X11_need (c := (41 : Int32)) (refusal := refusal) (wheel := wheel) (now := now) (length := length) (at_ := z13_1) (fault := fault) (faultLine := faultLine) (line := line) (words := words) (labels := labels) (targets := targets) (wrong := z13_2) (unfit := z11_3) (text := text) (code_ := code_) (label := label) (labelWord := labelWord) (target := target) (targetWord := targetWord) (targetLine := targetLine) (store := store) (common := common) (low := low) (high := high) (register := register) (address := address) (status := status) (did := did) (ready := ready) (timer := timer) (trace := trace) (by first | assumption | exact q_31 _ | exact q_7 _) (by first | assumption | exact q_31 _ | exact q_7 _) hz14) rfl rfl rfl rfl rfl rfl rfl rfl ?_
    have hat := (a_need hz14 (by decide) hln hat).1
    replace hres : (r_0, r_1, r_2, r_3, r_4, r_5, r_6, r_7) = f_X11_operands_c181 form targets target targetWord targetLine z9_0 z11_0 z11_3 z13_0 z14_0 z14_1 := hres.trans (by rw [← hz14])
    rw [f_X11_operands_c181] at hres
    refine G.iload_n (pc := 184) dm_X11_operands_184 rfl ?_
    refine G.iconst (pc := 185) (v := (3 : Int32)) dm_X11_operands_185 qi_3 ?_
    refine G.icmp_ne (pc := 186) (tgt := 208) dm_X11_operands_186 (by decide) (fun c186 => ?_) (fun c186 => ?_)
    · rw [if_neg c186] at hres
      refine G.iload_n (pc := 208) dm_X11_operands_208 rfl ?_
      refine G.bipush (pc := 209) (v := (20 : Int32)) dm_X11_operands_209 qb_20 ?_
      refine G.ishl (pc := 211) dm_X11_operands_211 ?_
      refine G.iload (pc := 212) dm_X11_operands_212 rfl ?_
      refine G.bipush (pc := 214) (v := (15 : Int32)) dm_X11_operands_214 qb_15 ?_
      refine G.ishl (pc := 216) dm_X11_operands_216 ?_
      refine G.ior (pc := 217) dm_X11_operands_217 ?_
      refine G.lload_n (pc := 218) dm_X11_operands_218 rfl ?_
      refine G.l2i (pc := 219) dm_X11_operands_219 ?_
      obtain ⟨z15_0, hz15⟩ := g_ex1 (f_X11_storing (Int64.toInt32 z11_0))
      refine G.callS (pc := 220) (rest := [.int ((z9_0 <<< ((20 : Int32) &&& 31)) ||| (z13_0 <<< ((15 : Int32) &&& 31)))]) (st1 := [.int z15_0, .int ((z9_0 <<< ((20 : Int32) &&& 31)) ||| (z13_0 <<< ((15 : Int32) &&& 31)))]) (ws1 := (w_M refusal wheel now length z14_0 fault faultLine line words labels targets z14_1 z11_3 text code_ label labelWord target targetWord targetLine store common low high register address status did ready timer trace)) [] dm_X11_operands_220 gc_X11_operands_241 (k_X11_storing (n := (Int64.toInt32 z11_0)) hz15) rfl rfl rfl rfl rfl rfl rfl rfl ?_
      replace hres : (r_0, r_1, r_2, r_3, r_4, r_5, r_6, r_7) = f_X11_operands_c220 targets target targetWord targetLine z9_0 z11_3 z13_0 z14_0 z14_1 z15_0 := hres.trans (by rw [← hz15])
      rw [f_X11_operands_c220] at hres
      refine G.ior (pc := 223) dm_X11_operands_223 ?_
      cases hres
      exact G.ireturn (pc := 224) dm_X11_operands_224 rfl rfl rfl
    · rw [if_pos c186] at hres
      refine G.iload_n (pc := 189) dm_X11_operands_189 rfl ?_
      refine G.bipush (pc := 190) (v := (7 : Int32)) dm_X11_operands_190 qb_7 ?_
      refine G.ishl (pc := 192) dm_X11_operands_192 ?_
      refine G.iload (pc := 193) dm_X11_operands_193 rfl ?_
      refine G.bipush (pc := 195) (v := (15 : Int32)) dm_X11_operands_195 qb_15 ?_
      refine G.ishl (pc := 197) dm_X11_operands_197 ?_
      refine G.ior (pc := 198) dm_X11_operands_198 ?_
      refine G.lload_n (pc := 199) dm_X11_operands_199 rfl ?_
      refine G.l2i (pc := 200) dm_X11_operands_200 ?_
      obtain ⟨z16_0, hz16⟩ := g_ex1 (f_X11_immediate (Int64.toInt32 z11_0))
      refine G.callS (pc := 201) (rest := [.int ((z9_0 <<< ((7 : Int32) &&& 31)) ||| (z13_0 <<< ((15 : Int32) &&& 31)))]) (st1 := [.int z16_0, .int ((z9_0 <<< ((7 : Int32) &&& 31)) ||| (z13_0 <<< ((15 : Int32) &&& 31)))]) (ws1 := (w_M refusal wheel now length z14_0 fault faultLine line words labels targets z14_1 z11_3 text code_ label labelWord target targetWord targetLine store common low high register address status did ready timer trace)) [] dm_X11_operands_201 gc_X11_operands_238 (k_X11_immediate (n := (Int64.toInt32 z11_0)) hz16) rfl rfl rfl rfl rfl rfl rfl rfl ?_
      replace hres : (r_0, r_1, r_2, r_3, r_4, r_5, r_6, r_7) = f_X11_operands_c201 targets target targetWord targetLine z9_0 z11_3 z13_0 z14_0 z14_1 z16_0 := hres.trans (by rw [← hz16])
      rw [f_X11_operands_c201] at hres
      refine G.ior (pc := 204) dm_X11_operands_204 ?_
      refine G.goto (pc := 205) (tgt := 224) dm_X11_operands_205 (by decide) ?_
      cases hres
      exact G.ireturn (pc := 224) dm_X11_operands_224 rfl rfl rfl
  rw [if_neg c5_2] at hres
  by_cases c5_3 : form = (4 : Int32)
  · rw [if_pos c5_3] at hres
    refine G.tabIn (pc := 5) (tgt := 144) dm_X11_operands_5 c5_3 (by decide) (by decide) rfl (by decide) ?_
    refine G.aload_n (pc := 144) dm_X11_operands_144 rfl ?_
    obtain ⟨z17_0, z17_1, z17_2, hz17⟩ := g_ex3 (f_X11_takeRegister length at_ wrong text)
    refine G.callV0 (pc := 145) (rest := []) (st1 := [.int z17_0]) dm_X11_operands_145 gc_X11_operands_220 (k_X11_takeRegister (refusal := refusal) (wheel := wheel) (now := now) (length := length) (at_ := at_) (fault := fault) (faultLine := faultLine) (line := line) (words := words) (labels := labels) (targets := targets) (wrong := wrong) (unfit := unfit) (text := text) (code_ := code_) (label := label) (labelWord := labelWord) (target := target) (targetWord := targetWord) (targetLine := targetLine) (store := store) (common := common) (low := low) (high := high) (register := register) (address := address) (status := status) (did := did) (ready := ready) (timer := timer) (trace := trace) (by first | assumption | exact q_31 _ | exact q_7 _) (by first | assumption | exact q_31 _ | exact q_7 _) hz17) rfl rfl rfl rfl rfl rfl rfl rfl ?_
    have hat := (a_takeRegister hz17 hln hat).1
    replace hres : (r_0, r_1, r_2, r_3, r_4, r_5, r_6, r_7) = f_X11_operands_c145_17 form length targets unfit text target targetWord targetLine z17_0 z17_1 z17_2 := hres.trans (by rw [← hz17])
    rw [f_X11_operands_c145_17] at hres
    refine G.istore_n (pc := 148) (lv1 := [(2, .int z17_0), (3, .long (0 : Int64)), (0, .ref 0), (1, .int form)]) dm_X11_operands_148 rfl rfl ?_
    refine G.aload_n (pc := 149) dm_X11_operands_149 rfl ?_
    refine G.bipush (pc := 150) (v := (44 : Int32)) dm_X11_operands_150 qb_44 ?_
    obtain ⟨z18_0, z18_1, hz18⟩ := g_ex2 (f_X11_need (44 : Int32) length z17_1 z17_2 text)
    refine G.callV0 (pc := 152) (rest := []) (st1 := []) dm_X11_operands_152 gc_X11_operands_224 (k_X11_need (c := (44 : Int32)) (refusal := refusal) (wheel := wheel) (now := now) (length := length) (at_ := z17_1) (fault := fault) (faultLine := faultLine) (line := line) (words := words) (labels := labels) (targets := targets) (wrong := z17_2) (unfit := unfit) (text := text) (code_ := code_) (label := label) (labelWord := labelWord) (target := target) (targetWord := targetWord) (targetLine := targetLine) (store := store) (common := common) (low := low) (high := high) (register := register) (address := address) (status := status) (did := did) (ready := ready) (timer := timer) (trace := trace) (by first | assumption | exact q_31 _ | exact q_7 _) (by first | assumption | exact q_31 _ | exact q_7 _) hz18) rfl rfl rfl rfl rfl rfl rfl rfl ?_
    have hat := (a_need hz18 (by decide) hln hat).1
    replace hres : (r_0, r_1, r_2, r_3, r_4, r_5, r_6, r_7) = f_X11_operands_c152_18 form length targets unfit text target targetWord targetLine z17_0 z18_0 z18_1 := hres.trans (by rw [← hz18])
    rw [f_X11_operands_c152_18] at hres
    refine G.aload_n (pc := 155) dm_X11_operands_155 rfl ?_
    refine G.ldc2 (pc := 156) dm_X11_operands_156 tw488 ?_
    refine G.ldc2 (pc := 159) dm_X11_operands_159 tw489 ?_
    obtain ⟨z19_0, z19_1, z19_2, z19_3, hz19⟩ := g_ex4 (f_X11_number (-2048 : Int64) (2047 : Int64) length z18_0 z18_1 unfit text)
    refine G.callV0 (pc := 162) (rest := []) (st1 := [.long z19_0]) dm_X11_operands_162 gc_X11_operands_210 (k_X11_number (least := (-2048 : Int64)) (most := (2047 : Int64)) (refusal := refusal) (wheel := wheel) (now := now) (length := length) (at_ := z18_0) (fault := fault) (faultLine := faultLine) (line := line) (words := words) (labels := labels) (targets := targets) (wrong := z18_1) (unfit := unfit) (text := text) (code_ := code_) (label := label) (labelWord := labelWord) (target := target) (targetWord := targetWord) (targetLine := targetLine) (store := store) (common := common) (low := low) (high := high) (register := register) (address := address) (status := status) (did := did) (ready := ready) (timer := timer) (trace := trace) (by first | assumption | exact q_31 _ | exact q_7 _) (by first | assumption | exact q_31 _ | exact q_7 _) hz19) rfl rfl rfl rfl rfl rfl rfl rfl ?_
    have hat := (a_number hz19 hln hat).1
    replace hres : (r_0, r_1, r_2, r_3, r_4, r_5, r_6, r_7) = f_X11_operands_c162_19 form length targets text target targetWord targetLine z17_0 z19_0 z19_1 z19_2 z19_3 := hres.trans (by rw [← hz19])
    rw [f_X11_operands_c162_19] at hres
    refine G.lstore_n (pc := 165) (lv1 := [(3, .long z19_0), (2, .int z17_0), (0, .ref 0), (1, .int form)]) dm_X11_operands_165 rfl rfl ?_
    refine G.aload_n (pc := 166) dm_X11_operands_166 rfl ?_
    refine G.bipush (pc := 167) (v := (40 : Int32)) dm_X11_operands_167 qb_40 ?_
    obtain ⟨z20_0, z20_1, hz20⟩ := g_ex2 (f_X11_need (40 : Int32) length z19_1 z19_2 text)
    refine G.callV0 (pc := 169) (rest := []) (st1 := []) dm_X11_operands_169 gc_X11_operands_224 (k_X11_need (c := (40 : Int32)) (refusal := refusal) (wheel := wheel) (now := now) (length := length) (at_ := z19_1) (fault := fault) (faultLine := faultLine) (line := line) (words := words) (labels := labels) (targets := targets) (wrong := z19_2) (unfit := z19_3) (text := text) (code_ := code_) (label := label) (labelWord := labelWord) (target := target) (targetWord := targetWord) (targetLine := targetLine) (store := store) (common := common) (low := low) (high := high) (register := register) (address := address) (status := status) (did := did) (ready := ready) (timer := timer) (trace := trace) (by first | assumption | exact q_31 _ | exact q_7 _) (by first | assumption | exact q_31 _ | exact q_7 _) hz20) rfl rfl rfl rfl rfl rfl rfl rfl ?_
    have hat := (a_need hz20 (by decide) hln hat).1
    replace hres : (r_0, r_1, r_2, r_3, r_4, r_5, r_6, r_7) = f_X11_operands_c169_20 form length targets text target targetWord targetLine z17_0 z19_0 z19_3 z20_0 z20_1 := hres.trans (by rw [← hz20])
    rw [f_X11_operands_c169_20] at hres
    refine G.aload_n (pc := 172) dm_X11_operands_172 rfl ?_
    obtain ⟨z21_0, z21_1, z21_2, hz21⟩ := g_ex3 (f_X11_takeRegister length z20_0 z20_1 text)
    refine G.callV0 (pc := 173) (rest := []) (st1 := [.int z21_0]) dm_X11_operands_173 gc_X11_operands_220 (k_X11_takeRegister (refusal := refusal) (wheel := wheel) (now := now) (length := length) (at_ := z20_0) (fault := fault) (faultLine := faultLine) (line := line) (words := words) (labels := labels) (targets := targets) (wrong := z20_1) (unfit := z19_3) (text := text) (code_ := code_) (label := label) (labelWord := labelWord) (target := target) (targetWord := targetWord) (targetLine := targetLine) (store := store) (common := common) (low := low) (high := high) (register := register) (address := address) (status := status) (did := did) (ready := ready) (timer := timer) (trace := trace) (by first | assumption | exact q_31 _ | exact q_7 _) (by first | assumption | exact q_31 _ | exact q_7 _) hz21) rfl rfl rfl rfl rfl rfl rfl rfl ?_
    have hat := (a_takeRegister hz21 hln hat).1
    replace hres : (r_0, r_1, r_2, r_3, r_4, r_5, r_6, r_7) = f_X11_operands_c173_21 form length targets text target targetWord targetLine z17_0 z19_0 z19_3 z21_0 z21_1 z21_2 := hres.trans (by rw [← hz21])
    rw [f_X11_operands_c173_21] at hres
    refine G.istore (pc := 176) (lv1 := [(5, .int z21_0), (3, .long z19_0), (2, .int z17_0), (0, .ref 0), (1, .int form)]) dm_X11_operands_176 rfl rfl ?_
    refine G.aload_n (pc := 178) dm_X11_operands_178 rfl ?_
    refine G.bipush (pc := 179) (v := (41 : Int32)) dm_X11_operands_179 qb_41 ?_
    obtain ⟨z22_0, z22_1, hz22⟩ := g_ex2 (f_X11_need (41 : Int32) length z21_1 z21_2 text)
    refine G.callV0 (pc := 181) (rest := []) (st1 := []) dm_X11_operands_181 gc_X11_operands_224 (k_X11_need (c := (41 : Int32)) (refusal := refusal) (wheel := wheel) (now := now) (length := length) (at_ := z21_1) (fault := fault) (faultLine := faultLine) (line := line) (words := words) (labels := labels) (targets := targets) (wrong := z21_2) (unfit := z19_3) (text := text) (code_ := code_) (label := label) (labelWord := labelWord) (target := target) (targetWord := targetWord) (targetLine := targetLine) (store := store) (common := common) (low := low) (high := high) (register := register) (address := address) (status := status) (did := did) (ready := ready) (timer := timer) (trace := trace) (by first | assumption | exact q_31 _ | exact q_7 _) (by first | assumption | exact q_31 _ | exact q_7 _) hz22) rfl rfl rfl rfl rfl rfl rfl rfl ?_
    have hat := (a_need hz22 (by decide) hln hat).1
    replace hres : (r_0, r_1, r_2, r_3, r_4, r_5, r_6, r_7) = f_X11_operands_c181_22 form targets target targetWord targetLine z17_0 z19_0 z19_3 z21_0 z22_0 z22_1 := hres.trans (by rw [← hz22])
    rw [f_X11_operands_c181_22] at hres
    refine G.iload_n (pc := 184) dm_X11_operands_184 rfl ?_
    refine G.iconst (pc := 185) (v := (3 : Int32)) dm_X11_operands_185 qi_3 ?_
    refine G.icmp_ne (pc := 186) (tgt := 208) dm_X11_operands_186 (by decide) (fun c186 => ?_) (fun c186 => ?_)
    · rw [if_neg c186] at hres
      refine G.iload_n (pc := 208) dm_X11_operands_208 rfl ?_
      refine G.bipush (pc := 209) (v := (20 : Int32)) dm_X11_operands_209 qb_20 ?_
      refine G.ishl (pc := 211) dm_X11_operands_211 ?_
      refine G.iload (pc := 212) dm_X11_operands_212 rfl ?_
      refine G.bipush (pc := 214) (v := (15 : Int32)) dm_X11_operands_214 qb_15 ?_
      refine G.ishl (pc := 216) dm_X11_operands_216 ?_
      refine G.ior (pc := 217) dm_X11_operands_217 ?_
      refine G.lload_n (pc := 218) dm_X11_operands_218 rfl ?_
      refine G.l2i (pc := 219) dm_X11_operands_219 ?_
      obtain ⟨z23_0, hz23⟩ := g_ex1 (f_X11_storing (Int64.toInt32 z19_0))
      refine G.callS (pc := 220) (rest := [.int ((z17_0 <<< ((20 : Int32) &&& 31)) ||| (z21_0 <<< ((15 : Int32) &&& 31)))]) (st1 := [.int z23_0, .int ((z17_0 <<< ((20 : Int32) &&& 31)) ||| (z21_0 <<< ((15 : Int32) &&& 31)))]) (ws1 := (w_M refusal wheel now length z22_0 fault faultLine line words labels targets z22_1 z19_3 text code_ label labelWord target targetWord targetLine store common low high register address status did ready timer trace)) [] dm_X11_operands_220 gc_X11_operands_241 (k_X11_storing (n := (Int64.toInt32 z19_0)) hz23) rfl rfl rfl rfl rfl rfl rfl rfl ?_
      replace hres : (r_0, r_1, r_2, r_3, r_4, r_5, r_6, r_7) = f_X11_operands_c220_23 targets target targetWord targetLine z17_0 z19_3 z21_0 z22_0 z22_1 z23_0 := hres.trans (by rw [← hz23])
      rw [f_X11_operands_c220_23] at hres
      refine G.ior (pc := 223) dm_X11_operands_223 ?_
      cases hres
      exact G.ireturn (pc := 224) dm_X11_operands_224 rfl rfl rfl
    · rw [if_pos c186] at hres
      refine G.iload_n (pc := 189) dm_X11_operands_189 rfl ?_
      refine G.bipush (pc := 190) (v := (7 : Int32)) dm_X11_operands_190 qb_7 ?_
      refine G.ishl (pc := 192) dm_X11_operands_192 ?_
      refine G.iload (pc := 193) dm_X11_operands_193 rfl ?_
      refine G.bipush (pc := 195) (v := (15 : Int32)) dm_X11_operands_195 qb_15 ?_
      refine G.ishl (pc := 197) dm_X11_operands_197 ?_
      refine G.ior (pc := 198) dm_X11_operands_198 ?_
      refine G.lload_n (pc := 199) dm_X11_operands_199 rfl ?_
      refine G.l2i (pc := 200) dm_X11_operands_200 ?_
      obtain ⟨z24_0, hz24⟩ := g_ex1 (f_X11_immediate (Int64.toInt32 z19_0))
      refine G.callS (pc := 201) (rest := [.int ((z17_0 <<< ((7 : Int32) &&& 31)) ||| (z21_0 <<< ((15 : Int32) &&& 31)))]) (st1 := [.int z24_0, .int ((z17_0 <<< ((7 : Int32) &&& 31)) ||| (z21_0 <<< ((15 : Int32) &&& 31)))]) (ws1 := (w_M refusal wheel now length z22_0 fault faultLine line words labels targets z22_1 z19_3 text code_ label labelWord target targetWord targetLine store common low high register address status did ready timer trace)) [] dm_X11_operands_201 gc_X11_operands_238 (k_X11_immediate (n := (Int64.toInt32 z19_0)) hz24) rfl rfl rfl rfl rfl rfl rfl rfl ?_
      replace hres : (r_0, r_1, r_2, r_3, r_4, r_5, r_6, r_7) = f_X11_operands_c201_24 targets target targetWord targetLine z17_0 z19_3 z21_0 z22_0 z22_1 z24_0 := hres.trans (by rw [← hz24])
      rw [f_X11_operands_c201_24] at hres
      refine G.ior (pc := 204) dm_X11_operands_204 ?_
      refine G.goto (pc := 205) (tgt := 224) dm_X11_operands_205 (by decide) ?_
      cases hres
      exact G.ireturn (pc := 224) dm_X11_operands_224 rfl rfl rfl
  rw [if_neg c5_3] at hres
  by_cases c5_4 : form = (5 : Int32)
  · rw [if_pos c5_4] at hres
    refine G.tabIn (pc := 5) (tgt := 225) dm_X11_operands_5 c5_4 (by decide) (by decide) rfl (by decide) ?_
    refine G.aload_n (pc := 225) dm_X11_operands_225 rfl ?_
    refine G.bipush (pc := 226) (v := (15 : Int32)) dm_X11_operands_226 qb_15 ?_
    refine G.bipush (pc := 228) (v := (20 : Int32)) dm_X11_operands_228 qb_20 ?_
    obtain ⟨z25_0, z25_1, z25_2, hz25⟩ := g_ex3 (f_X11_pair (15 : Int32) (20 : Int32) length at_ wrong text)
    refine G.callV0 (pc := 230) (rest := []) (st1 := [.int z25_0]) dm_X11_operands_230 gc_X11_operands_228 (k_X11_pair (shift := (15 : Int32)) (other := (20 : Int32)) (refusal := refusal) (wheel := wheel) (now := now) (length := length) (at_ := at_) (fault := fault) (faultLine := faultLine) (line := line) (words := words) (labels := labels) (targets := targets) (wrong := wrong) (unfit := unfit) (text := text) (code_ := code_) (label := label) (labelWord := labelWord) (target := target) (targetWord := targetWord) (targetLine := targetLine) (store := store) (common := common) (low := low) (high := high) (register := register) (address := address) (status := status) (did := did) (ready := ready) (timer := timer) (trace := trace) (by first | assumption | exact q_31 _ | exact q_7 _) (by first | assumption | exact q_31 _ | exact q_7 _) hz25) rfl rfl rfl rfl rfl rfl rfl rfl ?_
    have hat := (a_X11_pair (a0 := 0) hz25 hln ⟨hat, hat.1⟩).1
    replace hres : (r_0, r_1, r_2, r_3, r_4, r_5, r_6, r_7) = f_X11_operands_c230 length line words targets unfit text target targetWord targetLine z25_0 z25_1 z25_2 := hres.trans (by rw [← hz25])
    rw [f_X11_operands_c230] at hres
    refine G.istore_n (pc := 233) (lv1 := [(2, .int z25_0), (3, .long (0 : Int64)), (0, .ref 0), (1, .int form)]) dm_X11_operands_233 rfl rfl ?_
    refine G.aload_n (pc := 234) dm_X11_operands_234 rfl ?_
    refine G.bipush (pc := 235) (v := (44 : Int32)) dm_X11_operands_235 qb_44 ?_
    obtain ⟨z26_0, z26_1, hz26⟩ := g_ex2 (f_X11_need (44 : Int32) length z25_1 z25_2 text)
    refine G.callV0 (pc := 237) (rest := []) (st1 := []) dm_X11_operands_237 gc_X11_operands_224 (k_X11_need (c := (44 : Int32)) (refusal := refusal) (wheel := wheel) (now := now) (length := length) (at_ := z25_1) (fault := fault) (faultLine := faultLine) (line := line) (words := words) (labels := labels) (targets := targets) (wrong := z25_2) (unfit := unfit) (text := text) (code_ := code_) (label := label) (labelWord := labelWord) (target := target) (targetWord := targetWord) (targetLine := targetLine) (store := store) (common := common) (low := low) (high := high) (register := register) (address := address) (status := status) (did := did) (ready := ready) (timer := timer) (trace := trace) (by first | assumption | exact q_31 _ | exact q_7 _) (by first | assumption | exact q_31 _ | exact q_7 _) hz26) rfl rfl rfl rfl rfl rfl rfl rfl ?_
    have hat := (a_need hz26 (by decide) hln hat).1
    replace hres : (r_0, r_1, r_2, r_3, r_4, r_5, r_6, r_7) = f_X11_operands_c237 length line words targets unfit text target targetWord targetLine z25_0 z26_0 z26_1 := hres.trans (by rw [← hz26])
    rw [f_X11_operands_c237] at hres
    refine G.iload_n (pc := 240) dm_X11_operands_240 rfl ?_
    refine G.aload_n (pc := 241) dm_X11_operands_241 rfl ?_
    refine G.iconst (pc := 242) (v := (0 : Int32)) dm_X11_operands_242 qi_0 ?_
    obtain ⟨z27_0, z27_1, z27_2, z27_3, z27_4, z27_5, z27_6, z27_7, hz27⟩ := g_ex8 (f_X11_distance (0 : Int32) length z26_0 line words targets z26_1 unfit text target targetWord targetLine)
    refine G.callV0 (pc := 243) (rest := [.int z25_0]) (st1 := [.int z27_0, .int z25_0]) dm_X11_operands_243 gc_X11_operands_244 (k_X11_distance (jumps := (0 : Int32)) (refusal := refusal) (wheel := wheel) (now := now) (length := length) (at_ := z26_0) (fault := fault) (faultLine := faultLine) (line := line) (words := words) (labels := labels) (targets := targets) (wrong := z26_1) (unfit := unfit) (text := text) (code_ := code_) (label := label) (labelWord := labelWord) (target := target) (targetWord := targetWord) (targetLine := targetLine) (store := store) (common := common) (low := low) (high := high) (register := register) (address := address) (status := status) (did := did) (ready := ready) (timer := timer) (trace := trace) (by first | assumption | exact q_31 _ | exact q_7 _) (by first | assumption | exact q_31 _ | exact q_7 _) (by first | assumption | exact q_31 _ | exact q_7 _) hz27) rfl rfl rfl rfl rfl rfl rfl rfl ?_
    have hat := (a_X11_distance (a0 := 0) hz27 hln ⟨hat, hat.1⟩).1
    replace hres : (r_0, r_1, r_2, r_3, r_4, r_5, r_6, r_7) = f_X11_operands_c243 z25_0 z27_0 z27_1 z27_2 z27_3 z27_4 z27_5 z27_6 z27_7 := hres.trans (by rw [← hz27])
    rw [f_X11_operands_c243] at hres
    refine G.ior (pc := 246) dm_X11_operands_246 ?_
    cases hres
    exact G.ireturn (pc := 247) dm_X11_operands_247 rfl rfl rfl
  rw [if_neg c5_4] at hres
  by_cases c5_5 : form = (6 : Int32)
  · rw [if_pos c5_5] at hres
    refine G.tabIn (pc := 5) (tgt := 248) dm_X11_operands_5 c5_5 (by decide) (by decide) rfl (by decide) ?_
    refine G.aload_n (pc := 248) dm_X11_operands_248 rfl ?_
    obtain ⟨z28_0, z28_1, z28_2, hz28⟩ := g_ex3 (f_X11_takeRegister length at_ wrong text)
    refine G.callV0 (pc := 249) (rest := []) (st1 := [.int z28_0]) dm_X11_operands_249 gc_X11_operands_220 (k_X11_takeRegister (refusal := refusal) (wheel := wheel) (now := now) (length := length) (at_ := at_) (fault := fault) (faultLine := faultLine) (line := line) (words := words) (labels := labels) (targets := targets) (wrong := wrong) (unfit := unfit) (text := text) (code_ := code_) (label := label) (labelWord := labelWord) (target := target) (targetWord := targetWord) (targetLine := targetLine) (store := store) (common := common) (low := low) (high := high) (register := register) (address := address) (status := status) (did := did) (ready := ready) (timer := timer) (trace := trace) (by first | assumption | exact q_31 _ | exact q_7 _) (by first | assumption | exact q_31 _ | exact q_7 _) hz28) rfl rfl rfl rfl rfl rfl rfl rfl ?_
    have hat := (a_takeRegister hz28 hln hat).1
    replace hres : (r_0, r_1, r_2, r_3, r_4, r_5, r_6, r_7) = f_X11_operands_c249 length line words targets unfit text target targetWord targetLine z28_0 z28_1 z28_2 := hres.trans (by rw [← hz28])
    rw [f_X11_operands_c249] at hres
    refine G.bipush (pc := 252) (v := (7 : Int32)) dm_X11_operands_252 qb_7 ?_
    refine G.ishl (pc := 254) dm_X11_operands_254 ?_
    refine G.istore_n (pc := 255) (lv1 := [(2, .int (z28_0 <<< ((7 : Int32) &&& 31))), (3, .long (0 : Int64)), (0, .ref 0), (1, .int form)]) dm_X11_operands_255 rfl rfl ?_
    refine G.aload_n (pc := 256) dm_X11_operands_256 rfl ?_
    refine G.bipush (pc := 257) (v := (44 : Int32)) dm_X11_operands_257 qb_44 ?_
    obtain ⟨z29_0, z29_1, hz29⟩ := g_ex2 (f_X11_need (44 : Int32) length z28_1 z28_2 text)
    refine G.callV0 (pc := 259) (rest := []) (st1 := []) dm_X11_operands_259 gc_X11_operands_224 (k_X11_need (c := (44 : Int32)) (refusal := refusal) (wheel := wheel) (now := now) (length := length) (at_ := z28_1) (fault := fault) (faultLine := faultLine) (line := line) (words := words) (labels := labels) (targets := targets) (wrong := z28_2) (unfit := unfit) (text := text) (code_ := code_) (label := label) (labelWord := labelWord) (target := target) (targetWord := targetWord) (targetLine := targetLine) (store := store) (common := common) (low := low) (high := high) (register := register) (address := address) (status := status) (did := did) (ready := ready) (timer := timer) (trace := trace) (by first | assumption | exact q_31 _ | exact q_7 _) (by first | assumption | exact q_31 _ | exact q_7 _) hz29) rfl rfl rfl rfl rfl rfl rfl rfl ?_
    have hat := (a_need hz29 (by decide) hln hat).1
    replace hres : (r_0, r_1, r_2, r_3, r_4, r_5, r_6, r_7) = f_X11_operands_c259 length line words targets unfit text target targetWord targetLine z28_0 z29_0 z29_1 := hres.trans (by rw [← hz29])
    rw [f_X11_operands_c259] at hres
    refine G.iload_n (pc := 262) dm_X11_operands_262 rfl ?_
    refine G.aload_n (pc := 263) dm_X11_operands_263 rfl ?_
    refine G.iconst (pc := 264) (v := (1 : Int32)) dm_X11_operands_264 qi_1 ?_
    obtain ⟨z30_0, z30_1, z30_2, z30_3, z30_4, z30_5, z30_6, z30_7, hz30⟩ := g_ex8 (f_X11_distance (1 : Int32) length z29_0 line words targets z29_1 unfit text target targetWord targetLine)
    refine G.callV0 (pc := 265) (rest := [.int (z28_0 <<< ((7 : Int32) &&& 31))]) (st1 := [.int z30_0, .int (z28_0 <<< ((7 : Int32) &&& 31))]) dm_X11_operands_265 gc_X11_operands_244 (k_X11_distance (jumps := (1 : Int32)) (refusal := refusal) (wheel := wheel) (now := now) (length := length) (at_ := z29_0) (fault := fault) (faultLine := faultLine) (line := line) (words := words) (labels := labels) (targets := targets) (wrong := z29_1) (unfit := unfit) (text := text) (code_ := code_) (label := label) (labelWord := labelWord) (target := target) (targetWord := targetWord) (targetLine := targetLine) (store := store) (common := common) (low := low) (high := high) (register := register) (address := address) (status := status) (did := did) (ready := ready) (timer := timer) (trace := trace) (by first | assumption | exact q_31 _ | exact q_7 _) (by first | assumption | exact q_31 _ | exact q_7 _) (by first | assumption | exact q_31 _ | exact q_7 _) hz30) rfl rfl rfl rfl rfl rfl rfl rfl ?_
    have hat := (a_X11_distance (a0 := 0) hz30 hln ⟨hat, hat.1⟩).1
    replace hres : (r_0, r_1, r_2, r_3, r_4, r_5, r_6, r_7) = f_X11_operands_c265 z28_0 z30_0 z30_1 z30_2 z30_3 z30_4 z30_5 z30_6 z30_7 := hres.trans (by rw [← hz30])
    rw [f_X11_operands_c265] at hres
    refine G.ior (pc := 268) dm_X11_operands_268 ?_
    cases hres
    exact G.ireturn (pc := 269) dm_X11_operands_269 rfl rfl rfl
  rw [if_neg c5_5] at hres
  by_cases c5_6 : form = (7 : Int32)
  · rw [if_pos c5_6] at hres
    refine G.tabIn (pc := 5) (tgt := 270) dm_X11_operands_5 c5_6 (by decide) (by decide) rfl (by decide) ?_
    refine G.aload_n (pc := 270) dm_X11_operands_270 rfl ?_
    obtain ⟨z31_0, z31_1, z31_2, hz31⟩ := g_ex3 (f_X11_takeRegister length at_ wrong text)
    refine G.callV0 (pc := 271) (rest := []) (st1 := [.int z31_0]) dm_X11_operands_271 gc_X11_operands_220 (k_X11_takeRegister (refusal := refusal) (wheel := wheel) (now := now) (length := length) (at_ := at_) (fault := fault) (faultLine := faultLine) (line := line) (words := words) (labels := labels) (targets := targets) (wrong := wrong) (unfit := unfit) (text := text) (code_ := code_) (label := label) (labelWord := labelWord) (target := target) (targetWord := targetWord) (targetLine := targetLine) (store := store) (common := common) (low := low) (high := high) (register := register) (address := address) (status := status) (did := did) (ready := ready) (timer := timer) (trace := trace) (by first | assumption | exact q_31 _ | exact q_7 _) (by first | assumption | exact q_31 _ | exact q_7 _) hz31) rfl rfl rfl rfl rfl rfl rfl rfl ?_
    have hat := (a_takeRegister hz31 hln hat).1
    replace hres : (r_0, r_1, r_2, r_3, r_4, r_5, r_6, r_7) = f_X11_operands_c271 length targets unfit text target targetWord targetLine z31_0 z31_1 z31_2 := hres.trans (by rw [← hz31])
    rw [f_X11_operands_c271] at hres
    refine G.bipush (pc := 274) (v := (7 : Int32)) dm_X11_operands_274 qb_7 ?_
    refine G.ishl (pc := 276) dm_X11_operands_276 ?_
    refine G.istore_n (pc := 277) (lv1 := [(2, .int (z31_0 <<< ((7 : Int32) &&& 31))), (3, .long (0 : Int64)), (0, .ref 0), (1, .int form)]) dm_X11_operands_277 rfl rfl ?_
    refine G.aload_n (pc := 278) dm_X11_operands_278 rfl ?_
    refine G.bipush (pc := 279) (v := (44 : Int32)) dm_X11_operands_279 qb_44 ?_
    obtain ⟨z32_0, z32_1, hz32⟩ := g_ex2 (f_X11_need (44 : Int32) length z31_1 z31_2 text)
    refine G.callV0 (pc := 281) (rest := []) (st1 := []) dm_X11_operands_281 gc_X11_operands_224 (k_X11_need (c := (44 : Int32)) (refusal := refusal) (wheel := wheel) (now := now) (length := length) (at_ := z31_1) (fault := fault) (faultLine := faultLine) (line := line) (words := words) (labels := labels) (targets := targets) (wrong := z31_2) (unfit := unfit) (text := text) (code_ := code_) (label := label) (labelWord := labelWord) (target := target) (targetWord := targetWord) (targetLine := targetLine) (store := store) (common := common) (low := low) (high := high) (register := register) (address := address) (status := status) (did := did) (ready := ready) (timer := timer) (trace := trace) (by first | assumption | exact q_31 _ | exact q_7 _) (by first | assumption | exact q_31 _ | exact q_7 _) hz32) rfl rfl rfl rfl rfl rfl rfl rfl ?_
    have hat := (a_need hz32 (by decide) hln hat).1
    replace hres : (r_0, r_1, r_2, r_3, r_4, r_5, r_6, r_7) = f_X11_operands_c281 length targets unfit text target targetWord targetLine z31_0 z32_0 z32_1 := hres.trans (by rw [← hz32])
    rw [f_X11_operands_c281] at hres
    refine G.iload_n (pc := 284) dm_X11_operands_284 rfl ?_
    refine G.aload_n (pc := 285) dm_X11_operands_285 rfl ?_
    refine G.lconst (pc := 286) (v := (0 : Int64)) dm_X11_operands_286 (by decide) ?_
    refine G.ldc2 (pc := 287) dm_X11_operands_287 tw490 ?_
    obtain ⟨z33_0, z33_1, z33_2, z33_3, hz33⟩ := g_ex4 (f_X11_number (0 : Int64) (1048575 : Int64) length z32_0 z32_1 unfit text)
    refine G.callV0 (pc := 290) (rest := [.int (z31_0 <<< ((7 : Int32) &&& 31))]) (st1 := [.long z33_0, .int (z31_0 <<< ((7 : Int32) &&& 31))]) dm_X11_operands_290 gc_X11_operands_210 (k_X11_number (least := (0 : Int64)) (most := (1048575 : Int64)) (refusal := refusal) (wheel := wheel) (now := now) (length := length) (at_ := z32_0) (fault := fault) (faultLine := faultLine) (line := line) (words := words) (labels := labels) (targets := targets) (wrong := z32_1) (unfit := unfit) (text := text) (code_ := code_) (label := label) (labelWord := labelWord) (target := target) (targetWord := targetWord) (targetLine := targetLine) (store := store) (common := common) (low := low) (high := high) (register := register) (address := address) (status := status) (did := did) (ready := ready) (timer := timer) (trace := trace) (by first | assumption | exact q_31 _ | exact q_7 _) (by first | assumption | exact q_31 _ | exact q_7 _) hz33) rfl rfl rfl rfl rfl rfl rfl rfl ?_
    have hat := (a_number hz33 hln hat).1
    replace hres : (r_0, r_1, r_2, r_3, r_4, r_5, r_6, r_7) = f_X11_operands_c290 targets target targetWord targetLine z31_0 z33_0 z33_1 z33_2 z33_3 := hres.trans (by rw [← hz33])
    rw [f_X11_operands_c290] at hres
    refine G.l2i (pc := 293) dm_X11_operands_293 ?_
    refine G.bipush (pc := 294) (v := (12 : Int32)) dm_X11_operands_294 qb_12 ?_
    refine G.ishl (pc := 296) dm_X11_operands_296 ?_
    refine G.ior (pc := 297) dm_X11_operands_297 ?_
    cases hres
    exact G.ireturn (pc := 298) dm_X11_operands_298 rfl rfl rfl
  rw [if_neg c5_6] at hres
  by_cases c5_7 : form = (8 : Int32)
  · rw [if_pos c5_7] at hres
    refine G.tabIn (pc := 5) (tgt := 93) dm_X11_operands_5 c5_7 (by decide) (by decide) rfl (by decide) ?_
    refine G.aload_n (pc := 93) dm_X11_operands_93 rfl ?_
    refine G.bipush (pc := 94) (v := (7 : Int32)) dm_X11_operands_94 qb_7 ?_
    refine G.bipush (pc := 96) (v := (15 : Int32)) dm_X11_operands_96 qb_15 ?_
    obtain ⟨z34_0, z34_1, z34_2, hz34⟩ := g_ex3 (f_X11_pair (7 : Int32) (15 : Int32) length at_ wrong text)
    refine G.callV0 (pc := 98) (rest := []) (st1 := [.int z34_0]) dm_X11_operands_98 gc_X11_operands_228 (k_X11_pair (shift := (7 : Int32)) (other := (15 : Int32)) (refusal := refusal) (wheel := wheel) (now := now) (length := length) (at_ := at_) (fault := fault) (faultLine := faultLine) (line := line) (words := words) (labels := labels) (targets := targets) (wrong := wrong) (unfit := unfit) (text := text) (code_ := code_) (label := label) (labelWord := labelWord) (target := target) (targetWord := targetWord) (targetLine := targetLine) (store := store) (common := common) (low := low) (high := high) (register := register) (address := address) (status := status) (did := did) (ready := ready) (timer := timer) (trace := trace) (by first | assumption | exact q_31 _ | exact q_7 _) (by first | assumption | exact q_31 _ | exact q_7 _) hz34) rfl rfl rfl rfl rfl rfl rfl rfl ?_
    have hat := (a_X11_pair (a0 := 0) hz34 hln ⟨hat, hat.1⟩).1
    replace hres : (r_0, r_1, r_2, r_3, r_4, r_5, r_6, r_7) = f_X11_operands_c98_34 form length targets unfit text target targetWord targetLine z34_0 z34_1 z34_2 := hres.trans (by rw [← hz34])
    rw [f_X11_operands_c98_34] at hres
    refine G.istore_n (pc := 101) (lv1 := [(2, .int z34_0), (3, .long (0 : Int64)), (0, .ref 0), (1, .int form)]) dm_X11_operands_101 rfl rfl ?_
    refine G.aload_n (pc := 102) dm_X11_operands_102 rfl ?_
    refine G.bipush (pc := 103) (v := (44 : Int32)) dm_X11_operands_103 qb_44 ?_
    obtain ⟨z35_0, z35_1, hz35⟩ := g_ex2 (f_X11_need (44 : Int32) length z34_1 z34_2 text)
    refine G.callV0 (pc := 105) (rest := []) (st1 := []) dm_X11_operands_105 gc_X11_operands_224 (k_X11_need (c := (44 : Int32)) (refusal := refusal) (wheel := wheel) (now := now) (length := length) (at_ := z34_1) (fault := fault) (faultLine := faultLine) (line := line) (words := words) (labels := labels) (targets := targets) (wrong := z34_2) (unfit := unfit) (text := text) (code_ := code_) (label := label) (labelWord := labelWord) (target := target) (targetWord := targetWord) (targetLine := targetLine) (store := store) (common := common) (low := low) (high := high) (register := register) (address := address) (status := status) (did := did) (ready := ready) (timer := timer) (trace := trace) (by first | assumption | exact q_31 _ | exact q_7 _) (by first | assumption | exact q_31 _ | exact q_7 _) hz35) rfl rfl rfl rfl rfl rfl rfl rfl ?_
    have hat := (a_need hz35 (by decide) hln hat).1
    replace hres : (r_0, r_1, r_2, r_3, r_4, r_5, r_6, r_7) = f_X11_operands_c105_35 form length targets unfit text target targetWord targetLine z34_0 z35_0 z35_1 := hres.trans (by rw [← hz35])
    rw [f_X11_operands_c105_35] at hres
    refine G.iload_n (pc := 108) dm_X11_operands_108 rfl ?_
    refine G.bipush (pc := 109) (v := (8 : Int32)) dm_X11_operands_109 qb_8 ?_
    refine G.icmp_ne (pc := 111) (tgt := 125) dm_X11_operands_111 (by decide) (fun c111 => ?_) (fun c111 => ?_)
    · rw [if_neg c111] at hres
      refine G.aload_n (pc := 125) dm_X11_operands_125 rfl ?_
      refine G.ldc2 (pc := 126) dm_X11_operands_126 tw488 ?_
      refine G.ldc2 (pc := 129) dm_X11_operands_129 tw489 ?_
      obtain ⟨z36_0, z36_1, z36_2, z36_3, hz36⟩ := g_ex4 (f_X11_number (-2048 : Int64) (2047 : Int64) length z35_0 z35_1 unfit text)
      refine G.callV0 (pc := 132) (rest := []) (st1 := [.long z36_0]) dm_X11_operands_132 gc_X11_operands_210 (k_X11_number (least := (-2048 : Int64)) (most := (2047 : Int64)) (refusal := refusal) (wheel := wheel) (now := now) (length := length) (at_ := z35_0) (fault := fault) (faultLine := faultLine) (line := line) (words := words) (labels := labels) (targets := targets) (wrong := z35_1) (unfit := unfit) (text := text) (code_ := code_) (label := label) (labelWord := labelWord) (target := target) (targetWord := targetWord) (targetLine := targetLine) (store := store) (common := common) (low := low) (high := high) (register := register) (address := address) (status := status) (did := did) (ready := ready) (timer := timer) (trace := trace) (by first | assumption | exact q_31 _ | exact q_7 _) (by first | assumption | exact q_31 _ | exact q_7 _) hz36) rfl rfl rfl rfl rfl rfl rfl rfl ?_
      have hat := (a_number hz36 hln hat).1
      replace hres : (r_0, r_1, r_2, r_3, r_4, r_5, r_6, r_7) = f_X11_operands_c132_36 targets target targetWord targetLine z34_0 z36_0 z36_1 z36_2 z36_3 := hres.trans (by rw [← hz36])
      rw [f_X11_operands_c132_36] at hres
      refine G.lvp [0] rfl ?_
      exact j_X11_operands_135 hres 
    · rw [if_pos c111] at hres
      refine G.aload_n (pc := 114) dm_X11_operands_114 rfl ?_
      refine G.lconst (pc := 115) (v := (0 : Int64)) dm_X11_operands_115 (by decide) ?_
      refine G.ldc2 (pc := 116) dm_X11_operands_116 tw487 ?_
      obtain ⟨z37_0, z37_1, z37_2, z37_3, hz37⟩ := g_ex4 (f_X11_number (0 : Int64) (31 : Int64) length z35_0 z35_1 unfit text)
      refine G.callV0 (pc := 119) (rest := []) (st1 := [.long z37_0]) dm_X11_operands_119 gc_X11_operands_210 (k_X11_number (least := (0 : Int64)) (most := (31 : Int64)) (refusal := refusal) (wheel := wheel) (now := now) (length := length) (at_ := z35_0) (fault := fault) (faultLine := faultLine) (line := line) (words := words) (labels := labels) (targets := targets) (wrong := z35_1) (unfit := unfit) (text := text) (code_ := code_) (label := label) (labelWord := labelWord) (target := target) (targetWord := targetWord) (targetLine := targetLine) (store := store) (common := common) (low := low) (high := high) (register := register) (address := address) (status := status) (did := did) (ready := ready) (timer := timer) (trace := trace) (by first | assumption | exact q_31 _ | exact q_7 _) (by first | assumption | exact q_31 _ | exact q_7 _) hz37) rfl rfl rfl rfl rfl rfl rfl rfl ?_
      have hat := (a_number hz37 hln hat).1
      replace hres : (r_0, r_1, r_2, r_3, r_4, r_5, r_6, r_7) = f_X11_operands_c119_37 targets target targetWord targetLine z34_0 z37_0 z37_1 z37_2 z37_3 := hres.trans (by rw [← hz37])
      rw [f_X11_operands_c119_37] at hres
      refine G.goto (pc := 122) (tgt := 135) dm_X11_operands_122 (by decide) ?_
      refine G.lvp [0] rfl ?_
      exact j_X11_operands_135 hres 
  rw [if_neg c5_7] at hres
  by_cases c5_8 : form = (9 : Int32)
  · rw [if_pos c5_8] at hres
    refine G.tabIn (pc := 5) (tgt := 299) dm_X11_operands_5 c5_8 (by decide) (by decide) rfl (by decide) ?_
    refine G.aload_n (pc := 299) dm_X11_operands_299 rfl ?_
    refine G.lconst (pc := 300) (v := (0 : Int64)) dm_X11_operands_300 (by decide) ?_
    refine G.ldc2 (pc := 301) dm_X11_operands_301 tw491 ?_
    obtain ⟨z38_0, z38_1, z38_2, z38_3, hz38⟩ := g_ex4 (f_X11_number (0 : Int64) (3 : Int64) length at_ wrong unfit text)
    refine G.callV0 (pc := 304) (rest := []) (st1 := [.long z38_0]) dm_X11_operands_304 gc_X11_operands_210 (k_X11_number (least := (0 : Int64)) (most := (3 : Int64)) (refusal := refusal) (wheel := wheel) (now := now) (length := length) (at_ := at_) (fault := fault) (faultLine := faultLine) (line := line) (words := words) (labels := labels) (targets := targets) (wrong := wrong) (unfit := unfit) (text := text) (code_ := code_) (label := label) (labelWord := labelWord) (target := target) (targetWord := targetWord) (targetLine := targetLine) (store := store) (common := common) (low := low) (high := high) (register := register) (address := address) (status := status) (did := did) (ready := ready) (timer := timer) (trace := trace) (by first | assumption | exact q_31 _ | exact q_7 _) (by first | assumption | exact q_31 _ | exact q_7 _) hz38) rfl rfl rfl rfl rfl rfl rfl rfl ?_
    have hat := (a_number hz38 hln hat).1
    replace hres : (r_0, r_1, r_2, r_3, r_4, r_5, r_6, r_7) = f_X11_operands_c304 length targets text target targetWord targetLine z38_0 z38_1 z38_2 z38_3 := hres.trans (by rw [← hz38])
    rw [f_X11_operands_c304] at hres
    refine G.lstore_n (pc := 307) (lv1 := [(3, .long z38_0), (2, .int (0 : Int32)), (0, .ref 0), (1, .int form)]) dm_X11_operands_307 rfl rfl ?_
    refine G.aload_n (pc := 308) dm_X11_operands_308 rfl ?_
    refine G.bipush (pc := 309) (v := (44 : Int32)) dm_X11_operands_309 qb_44 ?_
    obtain ⟨z39_0, z39_1, hz39⟩ := g_ex2 (f_X11_need (44 : Int32) length z38_1 z38_2 text)
    refine G.callV0 (pc := 311) (rest := []) (st1 := []) dm_X11_operands_311 gc_X11_operands_224 (k_X11_need (c := (44 : Int32)) (refusal := refusal) (wheel := wheel) (now := now) (length := length) (at_ := z38_1) (fault := fault) (faultLine := faultLine) (line := line) (words := words) (labels := labels) (targets := targets) (wrong := z38_2) (unfit := z38_3) (text := text) (code_ := code_) (label := label) (labelWord := labelWord) (target := target) (targetWord := targetWord) (targetLine := targetLine) (store := store) (common := common) (low := low) (high := high) (register := register) (address := address) (status := status) (did := did) (ready := ready) (timer := timer) (trace := trace) (by first | assumption | exact q_31 _ | exact q_7 _) (by first | assumption | exact q_31 _ | exact q_7 _) hz39) rfl rfl rfl rfl rfl rfl rfl rfl ?_
    have hat := (a_need hz39 (by decide) hln hat).1
    replace hres : (r_0, r_1, r_2, r_3, r_4, r_5, r_6, r_7) = f_X11_operands_c311 length targets text target targetWord targetLine z38_0 z38_3 z39_0 z39_1 := hres.trans (by rw [← hz39])
    rw [f_X11_operands_c311] at hres
    refine G.lload_n (pc := 314) dm_X11_operands_314 rfl ?_
    refine G.l2i (pc := 315) dm_X11_operands_315 ?_
    refine G.bipush (pc := 316) (v := (7 : Int32)) dm_X11_operands_316 qb_7 ?_
    refine G.ishl (pc := 318) dm_X11_operands_318 ?_
    refine G.aload_n (pc := 319) dm_X11_operands_319 rfl ?_
    obtain ⟨z40_0, z40_1, z40_2, hz40⟩ := g_ex3 (f_X11_takeRegister length z39_0 z39_1 text)
    refine G.callV0 (pc := 320) (rest := [.int ((Int64.toInt32 z38_0) <<< ((7 : Int32) &&& 31))]) (st1 := [.int z40_0, .int ((Int64.toInt32 z38_0) <<< ((7 : Int32) &&& 31))]) dm_X11_operands_320 gc_X11_operands_220 (k_X11_takeRegister (refusal := refusal) (wheel := wheel) (now := now) (length := length) (at_ := z39_0) (fault := fault) (faultLine := faultLine) (line := line) (words := words) (labels := labels) (targets := targets) (wrong := z39_1) (unfit := z38_3) (text := text) (code_ := code_) (label := label) (labelWord := labelWord) (target := target) (targetWord := targetWord) (targetLine := targetLine) (store := store) (common := common) (low := low) (high := high) (register := register) (address := address) (status := status) (did := did) (ready := ready) (timer := timer) (trace := trace) (by first | assumption | exact q_31 _ | exact q_7 _) (by first | assumption | exact q_31 _ | exact q_7 _) hz40) rfl rfl rfl rfl rfl rfl rfl rfl ?_
    have hat := (a_takeRegister hz40 hln hat).1
    replace hres : (r_0, r_1, r_2, r_3, r_4, r_5, r_6, r_7) = f_X11_operands_c320 length targets text target targetWord targetLine z38_0 z38_3 z40_0 z40_1 z40_2 := hres.trans (by rw [← hz40])
    rw [f_X11_operands_c320] at hres
    refine G.bipush (pc := 323) (v := (15 : Int32)) dm_X11_operands_323 qb_15 ?_
    refine G.ishl (pc := 325) dm_X11_operands_325 ?_
    refine G.ior (pc := 326) dm_X11_operands_326 ?_
    refine G.istore_n (pc := 327) (lv1 := [(2, .int (((Int64.toInt32 z38_0) <<< ((7 : Int32) &&& 31)) ||| (z40_0 <<< ((15 : Int32) &&& 31)))), (3, .long z38_0), (0, .ref 0), (1, .int form)]) dm_X11_operands_327 rfl rfl ?_
    refine G.aload_n (pc := 328) dm_X11_operands_328 rfl ?_
    refine G.bipush (pc := 329) (v := (44 : Int32)) dm_X11_operands_329 qb_44 ?_
    obtain ⟨z41_0, z41_1, hz41⟩ := g_ex2 (f_X11_need (44 : Int32) length z40_1 z40_2 text)
    refine G.callV0 (pc := 331) (rest := []) (st1 := []) dm_X11_operands_331 gc_X11_operands_224 (k_X11_need (c := (44 : Int32)) (refusal := refusal) (wheel := wheel) (now := now) (length := length) (at_ := z40_1) (fault := fault) (faultLine := faultLine) (line := line) (words := words) (labels := labels) (targets := targets) (wrong := z40_2) (unfit := z38_3) (text := text) (code_ := code_) (label := label) (labelWord := labelWord) (target := target) (targetWord := targetWord) (targetLine := targetLine) (store := store) (common := common) (low := low) (high := high) (register := register) (address := address) (status := status) (did := did) (ready := ready) (timer := timer) (trace := trace) (by first | assumption | exact q_31 _ | exact q_7 _) (by first | assumption | exact q_31 _ | exact q_7 _) hz41) rfl rfl rfl rfl rfl rfl rfl rfl ?_
    have hat := (a_need hz41 (by decide) hln hat).1
    replace hres : (r_0, r_1, r_2, r_3, r_4, r_5, r_6, r_7) = f_X11_operands_c331 length targets text target targetWord targetLine z38_0 z38_3 z40_0 z41_0 z41_1 := hres.trans (by rw [← hz41])
    rw [f_X11_operands_c331] at hres
    refine G.iload_n (pc := 334) dm_X11_operands_334 rfl ?_
    refine G.aload_n (pc := 335) dm_X11_operands_335 rfl ?_
    refine G.ldc2 (pc := 336) dm_X11_operands_336 tw488 ?_
    refine G.ldc2 (pc := 339) dm_X11_operands_339 tw489 ?_
    obtain ⟨z42_0, z42_1, z42_2, z42_3, hz42⟩ := g_ex4 (f_X11_number (-2048 : Int64) (2047 : Int64) length z41_0 z41_1 z38_3 text)
    refine G.callV0 (pc := 342) (rest := [.int (((Int64.toInt32 z38_0) <<< ((7 : Int32) &&& 31)) ||| (z40_0 <<< ((15 : Int32) &&& 31)))]) (st1 := [.long z42_0, .int (((Int64.toInt32 z38_0) <<< ((7 : Int32) &&& 31)) ||| (z40_0 <<< ((15 : Int32) &&& 31)))]) dm_X11_operands_342 gc_X11_operands_210 (k_X11_number (least := (-2048 : Int64)) (most := (2047 : Int64)) (refusal := refusal) (wheel := wheel) (now := now) (length := length) (at_ := z41_0) (fault := fault) (faultLine := faultLine) (line := line) (words := words) (labels := labels) (targets := targets) (wrong := z41_1) (unfit := z38_3) (text := text) (code_ := code_) (label := label) (labelWord := labelWord) (target := target) (targetWord := targetWord) (targetLine := targetLine) (store := store) (common := common) (low := low) (high := high) (register := register) (address := address) (status := status) (did := did) (ready := ready) (timer := timer) (trace := trace) (by first | assumption | exact q_31 _ | exact q_7 _) (by first | assumption | exact q_31 _ | exact q_7 _) hz42) rfl rfl rfl rfl rfl rfl rfl rfl ?_
    have hat := (a_number hz42 hln hat).1
    replace hres : (r_0, r_1, r_2, r_3, r_4, r_5, r_6, r_7) = f_X11_operands_c342 targets target targetWord targetLine z38_0 z40_0 z42_0 z42_1 z42_2 z42_3 := hres.trans (by rw [← hz42])
    rw [f_X11_operands_c342] at hres
    refine G.l2i (pc := 345) dm_X11_operands_345 ?_
    obtain ⟨z43_0, hz43⟩ := g_ex1 (f_X11_immediate (Int64.toInt32 z42_0))
    refine G.callS (pc := 346) (rest := [.int (((Int64.toInt32 z38_0) <<< ((7 : Int32) &&& 31)) ||| (z40_0 <<< ((15 : Int32) &&& 31)))]) (st1 := [.int z43_0, .int (((Int64.toInt32 z38_0) <<< ((7 : Int32) &&& 31)) ||| (z40_0 <<< ((15 : Int32) &&& 31)))]) (ws1 := (w_M refusal wheel now length z42_1 fault faultLine line words labels targets z42_2 z42_3 text code_ label labelWord target targetWord targetLine store common low high register address status did ready timer trace)) [] dm_X11_operands_346 gc_X11_operands_238 (k_X11_immediate (n := (Int64.toInt32 z42_0)) hz43) rfl rfl rfl rfl rfl rfl rfl rfl ?_
    replace hres : (r_0, r_1, r_2, r_3, r_4, r_5, r_6, r_7) = f_X11_operands_c346 targets target targetWord targetLine z38_0 z40_0 z42_1 z42_2 z42_3 z43_0 := hres.trans (by rw [← hz43])
    rw [f_X11_operands_c346] at hres
    refine G.ior (pc := 349) dm_X11_operands_349 ?_
    cases hres
    exact G.ireturn (pc := 350) dm_X11_operands_350 rfl rfl rfl
  rw [if_neg c5_8] at hres
  by_cases c5_9 : form = (10 : Int32)
  · rw [if_pos c5_9] at hres
    refine G.tabIn (pc := 5) (tgt := 351) dm_X11_operands_5 c5_9 (by decide) (by decide) rfl (by decide) ?_
    refine G.aload_n (pc := 351) dm_X11_operands_351 rfl ?_
    obtain ⟨z44_0, z44_1, z44_2, hz44⟩ := g_ex3 (f_X11_takeRegister length at_ wrong text)
    refine G.callV0 (pc := 352) (rest := []) (st1 := [.int z44_0]) dm_X11_operands_352 gc_X11_operands_220 (k_X11_takeRegister (refusal := refusal) (wheel := wheel) (now := now) (length := length) (at_ := at_) (fault := fault) (faultLine := faultLine) (line := line) (words := words) (labels := labels) (targets := targets) (wrong := wrong) (unfit := unfit) (text := text) (code_ := code_) (label := label) (labelWord := labelWord) (target := target) (targetWord := targetWord) (targetLine := targetLine) (store := store) (common := common) (low := low) (high := high) (register := register) (address := address) (status := status) (did := did) (ready := ready) (timer := timer) (trace := trace) (by first | assumption | exact q_31 _ | exact q_7 _) (by first | assumption | exact q_31 _ | exact q_7 _) hz44) rfl rfl rfl rfl rfl rfl rfl rfl ?_
    have hat := (a_takeRegister hz44 hln hat).1
    replace hres : (r_0, r_1, r_2, r_3, r_4, r_5, r_6, r_7) = f_X11_operands_c352 targets unfit target targetWord targetLine z44_0 z44_1 z44_2 := hres.trans (by rw [← hz44])
    rw [f_X11_operands_c352] at hres
    refine G.bipush (pc := 355) (v := (7 : Int32)) dm_X11_operands_355 qb_7 ?_
    refine G.ishl (pc := 357) dm_X11_operands_357 ?_
    cases hres
    exact G.ireturn (pc := 358) dm_X11_operands_358 rfl rfl rfl
  rw [if_neg c5_9] at hres
  by_cases c5_10 : form = (12 : Int32)
  · rw [if_pos c5_10] at hres
    refine G.tabIn (pc := 5) (tgt := 359) dm_X11_operands_5 c5_10 (by decide) (by decide) rfl (by decide) ?_
    refine G.aload_n (pc := 359) dm_X11_operands_359 rfl ?_
    refine G.ldc2 (pc := 360) dm_X11_operands_360 tw492 ?_
    refine G.ldc2 (pc := 363) dm_X11_operands_363 tw493 ?_
    obtain ⟨z45_0, z45_1, z45_2, z45_3, hz45⟩ := g_ex4 (f_X11_number (-2147483648 : Int64) (4294967295 : Int64) length at_ wrong unfit text)
    refine G.callV0 (pc := 366) (rest := []) (st1 := [.long z45_0]) dm_X11_operands_366 gc_X11_operands_210 (k_X11_number (least := (-2147483648 : Int64)) (most := (4294967295 : Int64)) (refusal := refusal) (wheel := wheel) (now := now) (length := length) (at_ := at_) (fault := fault) (faultLine := faultLine) (line := line) (words := words) (labels := labels) (targets := targets) (wrong := wrong) (unfit := unfit) (text := text) (code_ := code_) (label := label) (labelWord := labelWord) (target := target) (targetWord := targetWord) (targetLine := targetLine) (store := store) (common := common) (low := low) (high := high) (register := register) (address := address) (status := status) (did := did) (ready := ready) (timer := timer) (trace := trace) (by first | assumption | exact q_31 _ | exact q_7 _) (by first | assumption | exact q_31 _ | exact q_7 _) hz45) rfl rfl rfl rfl rfl rfl rfl rfl ?_
    have hat := (a_number hz45 hln hat).1
    replace hres : (r_0, r_1, r_2, r_3, r_4, r_5, r_6, r_7) = f_X11_operands_c366 targets target targetWord targetLine z45_0 z45_1 z45_2 z45_3 := hres.trans (by rw [← hz45])
    rw [f_X11_operands_c366] at hres
    refine G.l2i (pc := 369) dm_X11_operands_369 ?_
    cases hres
    exact G.ireturn (pc := 370) dm_X11_operands_370 rfl rfl rfl
  rw [if_neg c5_10] at hres
  by_cases e5_11 : form = (11 : Int32)
  · refine G.tabIn (pc := 5) (tgt := 371) dm_X11_operands_5 e5_11 (by decide) (by decide) rfl (by decide) ?_
    refine G.iconst (pc := 371) (v := (0 : Int32)) dm_X11_operands_371 qi_0 ?_
    cases hres
    exact G.ireturn (pc := 372) dm_X11_operands_372 rfl rfl rfl
  refine G.tabOut (pc := 5) (tgt := 371) dm_X11_operands_5 (g_tabmiss (by decide) (by decide) (fun v h1 h2 => by rcases (show v = 1 ∨ v = 2 ∨ v = 3 ∨ v = 4 ∨ v = 5 ∨ v = 6 ∨ v = 7 ∨ v = 8 ∨ v = 9 ∨ v = 10 ∨ v = 11 ∨ v = 12 by omega) with rfl | rfl | rfl | rfl | rfl | rfl | rfl | rfl | rfl | rfl | rfl | rfl <;> intro h <;> first | exact c5_0 (by rw [h]; decide) | exact c5_1 (by rw [h]; decide) | exact c5_2 (by rw [h]; decide) | exact c5_3 (by rw [h]; decide) | exact c5_4 (by rw [h]; decide) | exact c5_5 (by rw [h]; decide) | exact c5_6 (by rw [h]; decide) | exact c5_7 (by rw [h]; decide) | exact c5_8 (by rw [h]; decide) | exact c5_9 (by rw [h]; decide) | exact c5_10 (by rw [h]; decide) | exact e5_11 (by rw [h]; decide))) (by decide) ?_
  refine G.iconst (pc := 371) (v := (0 : Int32)) dm_X11_operands_371 qi_0 ?_
  cases hres
  exact G.ireturn (pc := 372) dm_X11_operands_372 rfl rfl rfl
theorem a_X11_operands_135 {l2 : Int32} {s0 : Int64} {length : Int32} {at_ : Int32} {targets : Int32} {wrong : Int32} {unfit : Int32} {target : Nat → Int64} {targetWord : Nat → Int32} {targetLine : Nat → Int32} {r_0 : Int32} {r_1 : Int32} {r_2 : Int32} {r_3 : Int32} {r_4 : Int32} {r_5 : (Nat → Int64)} {r_6 : (Nat → Int32)} {r_7 : (Nat → Int32)} {a0 : Int32} (hres : (r_0, r_1, r_2, r_3, r_4, r_5, r_6, r_7) = (f_X11_operands_135 at_ targets wrong unfit target targetWord targetLine l2 s0)) (hln : 0 ≤ length.toInt ∧ length.toInt ≤ 400) (hat : (0 ≤ at_.toInt ∧ at_.toInt ≤ 400) ∧ a0.toInt ≤ at_.toInt) : (0 ≤ r_1.toInt ∧ r_1.toInt ≤ 400) ∧ a0.toInt ≤ r_1.toInt := by
  rw [f_X11_operands_135] at hres
  obtain ⟨z7_0, hz7⟩ := g_ex1 (f_X11_immediate (Int64.toInt32 s0))
  replace hres : (r_0, r_1, r_2, r_3, r_4, r_5, r_6, r_7) = f_X11_operands_c139 at_ targets wrong unfit target targetWord targetLine l2 z7_0 := hres.trans (by rw [← hz7])
  rw [f_X11_operands_c139] at hres
  cases hres
  exact hat
theorem a_X11_operands {form : Int32} {length : Int32} {at_ : Int32} {line : Int32} {words : Int32} {targets : Int32} {wrong : Int32} {unfit : Int32} {text : Nat → Int32} {target : Nat → Int64} {targetWord : Nat → Int32} {targetLine : Nat → Int32} {r_0 : Int32} {r_1 : Int32} {r_2 : Int32} {r_3 : Int32} {r_4 : Int32} {r_5 : (Nat → Int64)} {r_6 : (Nat → Int32)} {r_7 : (Nat → Int32)} {a0 : Int32} (hres : (r_0, r_1, r_2, r_3, r_4, r_5, r_6, r_7) = f_X11_operands form length at_ line words targets wrong unfit text target targetWord targetLine) (hln : 0 ≤ length.toInt ∧ length.toInt ≤ 400) (hat : (0 ≤ at_.toInt ∧ at_.toInt ≤ 400) ∧ a0.toInt ≤ at_.toInt) : (0 ≤ r_1.toInt ∧ r_1.toInt ≤ 400) ∧ a0.toInt ≤ r_1.toInt := by
  rw [f_X11_operands] at hres
  by_cases c5_0 : form = (1 : Int32)
  · rw [if_pos c5_0] at hres
    obtain ⟨z1_0, z1_1, z1_2, hz1⟩ := g_ex3 (f_X11_pair (7 : Int32) (15 : Int32) length at_ wrong text)
    have hat := q_tr1 hat (a_X11_pair hz1 hln ⟨hat.1, Int.le_refl _⟩)
    replace hres : (r_0, r_1, r_2, r_3, r_4, r_5, r_6, r_7) = f_X11_operands_c73 length targets unfit text target targetWord targetLine z1_0 z1_1 z1_2 := hres.trans (by rw [← hz1])
    rw [f_X11_operands_c73] at hres
    obtain ⟨z2_0, z2_1, hz2⟩ := g_ex2 (f_X11_need (44 : Int32) length z1_1 z1_2 text)
    have hat := q_tr1 hat (a_need hz2 (by decide) hln hat.1)
    replace hres : (r_0, r_1, r_2, r_3, r_4, r_5, r_6, r_7) = f_X11_operands_c80 length targets unfit text target targetWord targetLine z1_0 z2_0 z2_1 := hres.trans (by rw [← hz2])
    rw [f_X11_operands_c80] at hres
    obtain ⟨z3_0, z3_1, z3_2, hz3⟩ := g_ex3 (f_X11_takeRegister length z2_0 z2_1 text)
    have hat := q_tr1 hat (a_takeRegister hz3 hln hat.1)
    replace hres : (r_0, r_1, r_2, r_3, r_4, r_5, r_6, r_7) = f_X11_operands_c85 targets unfit target targetWord targetLine z1_0 z3_0 z3_1 z3_2 := hres.trans (by rw [← hz3])
    rw [f_X11_operands_c85] at hres
    cases hres
    exact hat
  rw [if_neg c5_0] at hres
  by_cases c5_1 : form = (2 : Int32)
  · rw [if_pos c5_1] at hres
    obtain ⟨z4_0, z4_1, z4_2, hz4⟩ := g_ex3 (f_X11_pair (7 : Int32) (15 : Int32) length at_ wrong text)
    have hat := q_tr1 hat (a_X11_pair hz4 hln ⟨hat.1, Int.le_refl _⟩)
    replace hres : (r_0, r_1, r_2, r_3, r_4, r_5, r_6, r_7) = f_X11_operands_c98 form length targets unfit text target targetWord targetLine z4_0 z4_1 z4_2 := hres.trans (by rw [← hz4])
    rw [f_X11_operands_c98] at hres
    obtain ⟨z5_0, z5_1, hz5⟩ := g_ex2 (f_X11_need (44 : Int32) length z4_1 z4_2 text)
    have hat := q_tr1 hat (a_need hz5 (by decide) hln hat.1)
    replace hres : (r_0, r_1, r_2, r_3, r_4, r_5, r_6, r_7) = f_X11_operands_c105 form length targets unfit text target targetWord targetLine z4_0 z5_0 z5_1 := hres.trans (by rw [← hz5])
    rw [f_X11_operands_c105] at hres
    by_cases c111 : form = (8 : Int32)
    · rw [if_pos c111] at hres
      obtain ⟨z8_0, z8_1, z8_2, z8_3, hz8⟩ := g_ex4 (f_X11_number (0 : Int64) (31 : Int64) length z5_0 z5_1 unfit text)
      have hat := q_tr1 hat (a_number hz8 hln hat.1)
      replace hres : (r_0, r_1, r_2, r_3, r_4, r_5, r_6, r_7) = f_X11_operands_c119 targets target targetWord targetLine z4_0 z8_0 z8_1 z8_2 z8_3 := hres.trans (by rw [← hz8])
      rw [f_X11_operands_c119] at hres
      exact a_X11_operands_135 hres (by assumption) (by assumption)
    · rw [if_neg c111] at hres
      obtain ⟨z6_0, z6_1, z6_2, z6_3, hz6⟩ := g_ex4 (f_X11_number (-2048 : Int64) (2047 : Int64) length z5_0 z5_1 unfit text)
      have hat := q_tr1 hat (a_number hz6 hln hat.1)
      replace hres : (r_0, r_1, r_2, r_3, r_4, r_5, r_6, r_7) = f_X11_operands_c132 targets target targetWord targetLine z4_0 z6_0 z6_1 z6_2 z6_3 := hres.trans (by rw [← hz6])
      rw [f_X11_operands_c132] at hres
      exact a_X11_operands_135 hres (by assumption) (by assumption)
  rw [if_neg c5_1] at hres
  by_cases c5_2 : form = (3 : Int32)
  · rw [if_pos c5_2] at hres
    obtain ⟨z9_0, z9_1, z9_2, hz9⟩ := g_ex3 (f_X11_takeRegister length at_ wrong text)
    have hat := q_tr1 hat (a_takeRegister hz9 hln hat.1)
    replace hres : (r_0, r_1, r_2, r_3, r_4, r_5, r_6, r_7) = f_X11_operands_c145 form length targets unfit text target targetWord targetLine z9_0 z9_1 z9_2 := hres.trans (by rw [← hz9])
    rw [f_X11_operands_c145] at hres
    obtain ⟨z10_0, z10_1, hz10⟩ := g_ex2 (f_X11_need (44 : Int32) length z9_1 z9_2 text)
    have hat := q_tr1 hat (a_need hz10 (by decide) hln hat.1)
    replace hres : (r_0, r_1, r_2, r_3, r_4, r_5, r_6, r_7) = f_X11_operands_c152 form length targets unfit text target targetWord targetLine z9_0 z10_0 z10_1 := hres.trans (by rw [← hz10])
    rw [f_X11_operands_c152] at hres
    obtain ⟨z11_0, z11_1, z11_2, z11_3, hz11⟩ := g_ex4 (f_X11_number (-2048 : Int64) (2047 : Int64) length z10_0 z10_1 unfit text)
    have hat := q_tr1 hat (a_number hz11 hln hat.1)
    replace hres : (r_0, r_1, r_2, r_3, r_4, r_5, r_6, r_7) = f_X11_operands_c162 form length targets text target targetWord targetLine z9_0 z11_0 z11_1 z11_2 z11_3 := hres.trans (by rw [← hz11])
    rw [f_X11_operands_c162] at hres
    obtain ⟨z12_0, z12_1, hz12⟩ := g_ex2 (f_X11_need (40 : Int32) length z11_1 z11_2 text)
    have hat := q_tr1 hat (a_need hz12 (by decide) hln hat.1)
    replace hres : (r_0, r_1, r_2, r_3, r_4, r_5, r_6, r_7) = f_X11_operands_c169 form length targets text target targetWord targetLine z9_0 z11_0 z11_3 z12_0 z12_1 := hres.trans (by rw [← hz12])
    rw [f_X11_operands_c169] at hres
    obtain ⟨z13_0, z13_1, z13_2, hz13⟩ := g_ex3 (f_X11_takeRegister length z12_0 z12_1 text)
    have hat := q_tr1 hat (a_takeRegister hz13 hln hat.1)
    replace hres : (r_0, r_1, r_2, r_3, r_4, r_5, r_6, r_7) = f_X11_operands_c173 form length targets text target targetWord targetLine z9_0 z11_0 z11_3 z13_0 z13_1 z13_2 := hres.trans (by rw [← hz13])
    rw [f_X11_operands_c173] at hres
    obtain ⟨z14_0, z14_1, hz14⟩ := g_ex2 (f_X11_need (41 : Int32) length z13_1 z13_2 text)
    have hat := q_tr1 hat (a_need hz14 (by decide) hln hat.1)
    replace hres : (r_0, r_1, r_2, r_3, r_4, r_5, r_6, r_7) = f_X11_operands_c181 form targets target targetWord targetLine z9_0 z11_0 z11_3 z13_0 z14_0 z14_1 := hres.trans (by rw [← hz14])
    rw [f_X11_operands_c181] at hres
    by_cases c186 : form = (3 : Int32)
    · rw [if_pos c186] at hres
      obtain ⟨z16_0, hz16⟩ := g_ex1 (f_X11_immediate (Int64.toInt32 z11_0))
      replace hres : (r_0, r_1, r_2, r_3, r_4, r_5, r_6, r_7) = f_X11_operands_c201 targets target targetWord targetLine z9_0 z11_3 z13_0 z14_0 z14_1 z16_0 := hres.trans (by rw [← hz16])
      rw [f_X11_operands_c201] at hres
      cases hres
      exact hat
    · rw [if_neg c186] at hres
      obtain ⟨z15_0, hz15⟩ := g_ex1 (f_X11_storing (Int64.toInt32 z11_0))
      replace hres : (r_0, r_1, r_2, r_3, r_4, r_5, r_6, r_7) = f_X11_operands_c220 targets target targetWord targetLine z9_0 z11_3 z13_0 z14_0 z14_1 z15_0 := hres.trans (by rw [← hz15])
      rw [f_X11_operands_c220] at hres
      cases hres
      exact hat
  rw [if_neg c5_2] at hres
  by_cases c5_3 : form = (4 : Int32)
  · rw [if_pos c5_3] at hres
    obtain ⟨z17_0, z17_1, z17_2, hz17⟩ := g_ex3 (f_X11_takeRegister length at_ wrong text)
    have hat := q_tr1 hat (a_takeRegister hz17 hln hat.1)
    replace hres : (r_0, r_1, r_2, r_3, r_4, r_5, r_6, r_7) = f_X11_operands_c145_17 form length targets unfit text target targetWord targetLine z17_0 z17_1 z17_2 := hres.trans (by rw [← hz17])
    rw [f_X11_operands_c145_17] at hres
    obtain ⟨z18_0, z18_1, hz18⟩ := g_ex2 (f_X11_need (44 : Int32) length z17_1 z17_2 text)
    have hat := q_tr1 hat (a_need hz18 (by decide) hln hat.1)
    replace hres : (r_0, r_1, r_2, r_3, r_4, r_5, r_6, r_7) = f_X11_operands_c152_18 form length targets unfit text target targetWord targetLine z17_0 z18_0 z18_1 := hres.trans (by rw [← hz18])
    rw [f_X11_operands_c152_18] at hres
    obtain ⟨z19_0, z19_1, z19_2, z19_3, hz19⟩ := g_ex4 (f_X11_number (-2048 : Int64) (2047 : Int64) length z18_0 z18_1 unfit text)
    have hat := q_tr1 hat (a_number hz19 hln hat.1)
    replace hres : (r_0, r_1, r_2, r_3, r_4, r_5, r_6, r_7) = f_X11_operands_c162_19 form length targets text target targetWord targetLine z17_0 z19_0 z19_1 z19_2 z19_3 := hres.trans (by rw [← hz19])
    rw [f_X11_operands_c162_19] at hres
    obtain ⟨z20_0, z20_1, hz20⟩ := g_ex2 (f_X11_need (40 : Int32) length z19_1 z19_2 text)
    have hat := q_tr1 hat (a_need hz20 (by decide) hln hat.1)
    replace hres : (r_0, r_1, r_2, r_3, r_4, r_5, r_6, r_7) = f_X11_operands_c169_20 form length targets text target targetWord targetLine z17_0 z19_0 z19_3 z20_0 z20_1 := hres.trans (by rw [← hz20])
    rw [f_X11_operands_c169_20] at hres
    obtain ⟨z21_0, z21_1, z21_2, hz21⟩ := g_ex3 (f_X11_takeRegister length z20_0 z20_1 text)
    have hat := q_tr1 hat (a_takeRegister hz21 hln hat.1)
    replace hres : (r_0, r_1, r_2, r_3, r_4, r_5, r_6, r_7) = f_X11_operands_c173_21 form length targets text target targetWord targetLine z17_0 z19_0 z19_3 z21_0 z21_1 z21_2 := hres.trans (by rw [← hz21])
    rw [f_X11_operands_c173_21] at hres
    obtain ⟨z22_0, z22_1, hz22⟩ := g_ex2 (f_X11_need (41 : Int32) length z21_1 z21_2 text)
    have hat := q_tr1 hat (a_need hz22 (by decide) hln hat.1)
    replace hres : (r_0, r_1, r_2, r_3, r_4, r_5, r_6, r_7) = f_X11_operands_c181_22 form targets target targetWord targetLine z17_0 z19_0 z19_3 z21_0 z22_0 z22_1 := hres.trans (by rw [← hz22])
    rw [f_X11_operands_c181_22] at hres
    by_cases c186 : form = (3 : Int32)
    · rw [if_pos c186] at hres
      obtain ⟨z24_0, hz24⟩ := g_ex1 (f_X11_immediate (Int64.toInt32 z19_0))
      replace hres : (r_0, r_1, r_2, r_3, r_4, r_5, r_6, r_7) = f_X11_operands_c201_24 targets target targetWord targetLine z17_0 z19_3 z21_0 z22_0 z22_1 z24_0 := hres.trans (by rw [← hz24])
      rw [f_X11_operands_c201_24] at hres
      cases hres
      exact hat
    · rw [if_neg c186] at hres
      obtain ⟨z23_0, hz23⟩ := g_ex1 (f_X11_storing (Int64.toInt32 z19_0))
      replace hres : (r_0, r_1, r_2, r_3, r_4, r_5, r_6, r_7) = f_X11_operands_c220_23 targets target targetWord targetLine z17_0 z19_3 z21_0 z22_0 z22_1 z23_0 := hres.trans (by rw [← hz23])
      rw [f_X11_operands_c220_23] at hres
      cases hres
      exact hat
  rw [if_neg c5_3] at hres
  by_cases c5_4 : form = (5 : Int32)
  · rw [if_pos c5_4] at hres
    obtain ⟨z25_0, z25_1, z25_2, hz25⟩ := g_ex3 (f_X11_pair (15 : Int32) (20 : Int32) length at_ wrong text)
    have hat := q_tr1 hat (a_X11_pair hz25 hln ⟨hat.1, Int.le_refl _⟩)
    replace hres : (r_0, r_1, r_2, r_3, r_4, r_5, r_6, r_7) = f_X11_operands_c230 length line words targets unfit text target targetWord targetLine z25_0 z25_1 z25_2 := hres.trans (by rw [← hz25])
    rw [f_X11_operands_c230] at hres
    obtain ⟨z26_0, z26_1, hz26⟩ := g_ex2 (f_X11_need (44 : Int32) length z25_1 z25_2 text)
    have hat := q_tr1 hat (a_need hz26 (by decide) hln hat.1)
    replace hres : (r_0, r_1, r_2, r_3, r_4, r_5, r_6, r_7) = f_X11_operands_c237 length line words targets unfit text target targetWord targetLine z25_0 z26_0 z26_1 := hres.trans (by rw [← hz26])
    rw [f_X11_operands_c237] at hres
    obtain ⟨z27_0, z27_1, z27_2, z27_3, z27_4, z27_5, z27_6, z27_7, hz27⟩ := g_ex8 (f_X11_distance (0 : Int32) length z26_0 line words targets z26_1 unfit text target targetWord targetLine)
    have hat := q_tr1 hat (a_X11_distance hz27 hln ⟨hat.1, Int.le_refl _⟩)
    replace hres : (r_0, r_1, r_2, r_3, r_4, r_5, r_6, r_7) = f_X11_operands_c243 z25_0 z27_0 z27_1 z27_2 z27_3 z27_4 z27_5 z27_6 z27_7 := hres.trans (by rw [← hz27])
    rw [f_X11_operands_c243] at hres
    cases hres
    exact hat
  rw [if_neg c5_4] at hres
  by_cases c5_5 : form = (6 : Int32)
  · rw [if_pos c5_5] at hres
    obtain ⟨z28_0, z28_1, z28_2, hz28⟩ := g_ex3 (f_X11_takeRegister length at_ wrong text)
    have hat := q_tr1 hat (a_takeRegister hz28 hln hat.1)
    replace hres : (r_0, r_1, r_2, r_3, r_4, r_5, r_6, r_7) = f_X11_operands_c249 length line words targets unfit text target targetWord targetLine z28_0 z28_1 z28_2 := hres.trans (by rw [← hz28])
    rw [f_X11_operands_c249] at hres
    obtain ⟨z29_0, z29_1, hz29⟩ := g_ex2 (f_X11_need (44 : Int32) length z28_1 z28_2 text)
    have hat := q_tr1 hat (a_need hz29 (by decide) hln hat.1)
    replace hres : (r_0, r_1, r_2, r_3, r_4, r_5, r_6, r_7) = f_X11_operands_c259 length line words targets unfit text target targetWord targetLine z28_0 z29_0 z29_1 := hres.trans (by rw [← hz29])
    rw [f_X11_operands_c259] at hres
    obtain ⟨z30_0, z30_1, z30_2, z30_3, z30_4, z30_5, z30_6, z30_7, hz30⟩ := g_ex8 (f_X11_distance (1 : Int32) length z29_0 line words targets z29_1 unfit text target targetWord targetLine)
    have hat := q_tr1 hat (a_X11_distance hz30 hln ⟨hat.1, Int.le_refl _⟩)
    replace hres : (r_0, r_1, r_2, r_3, r_4, r_5, r_6, r_7) = f_X11_operands_c265 z28_0 z30_0 z30_1 z30_2 z30_3 z30_4 z30_5 z30_6 z30_7 := hres.trans (by rw [← hz30])
    rw [f_X11_operands_c265] at hres
    cases hres
    exact hat
  rw [if_neg c5_5] at hres
  by_cases c5_6 : form = (7 : Int32)
  · rw [if_pos c5_6] at hres
    obtain ⟨z31_0, z31_1, z31_2, hz31⟩ := g_ex3 (f_X11_takeRegister length at_ wrong text)
    have hat := q_tr1 hat (a_takeRegister hz31 hln hat.1)
    replace hres : (r_0, r_1, r_2, r_3, r_4, r_5, r_6, r_7) = f_X11_operands_c271 length targets unfit text target targetWord targetLine z31_0 z31_1 z31_2 := hres.trans (by rw [← hz31])
    rw [f_X11_operands_c271] at hres
    obtain ⟨z32_0, z32_1, hz32⟩ := g_ex2 (f_X11_need (44 : Int32) length z31_1 z31_2 text)
    have hat := q_tr1 hat (a_need hz32 (by decide) hln hat.1)
    replace hres : (r_0, r_1, r_2, r_3, r_4, r_5, r_6, r_7) = f_X11_operands_c281 length targets unfit text target targetWord targetLine z31_0 z32_0 z32_1 := hres.trans (by rw [← hz32])
    rw [f_X11_operands_c281] at hres
    obtain ⟨z33_0, z33_1, z33_2, z33_3, hz33⟩ := g_ex4 (f_X11_number (0 : Int64) (1048575 : Int64) length z32_0 z32_1 unfit text)
    have hat := q_tr1 hat (a_number hz33 hln hat.1)
    replace hres : (r_0, r_1, r_2, r_3, r_4, r_5, r_6, r_7) = f_X11_operands_c290 targets target targetWord targetLine z31_0 z33_0 z33_1 z33_2 z33_3 := hres.trans (by rw [← hz33])
    rw [f_X11_operands_c290] at hres
    cases hres
    exact hat
  rw [if_neg c5_6] at hres
  by_cases c5_7 : form = (8 : Int32)
  · rw [if_pos c5_7] at hres
    obtain ⟨z34_0, z34_1, z34_2, hz34⟩ := g_ex3 (f_X11_pair (7 : Int32) (15 : Int32) length at_ wrong text)
    have hat := q_tr1 hat (a_X11_pair hz34 hln ⟨hat.1, Int.le_refl _⟩)
    replace hres : (r_0, r_1, r_2, r_3, r_4, r_5, r_6, r_7) = f_X11_operands_c98_34 form length targets unfit text target targetWord targetLine z34_0 z34_1 z34_2 := hres.trans (by rw [← hz34])
    rw [f_X11_operands_c98_34] at hres
    obtain ⟨z35_0, z35_1, hz35⟩ := g_ex2 (f_X11_need (44 : Int32) length z34_1 z34_2 text)
    have hat := q_tr1 hat (a_need hz35 (by decide) hln hat.1)
    replace hres : (r_0, r_1, r_2, r_3, r_4, r_5, r_6, r_7) = f_X11_operands_c105_35 form length targets unfit text target targetWord targetLine z34_0 z35_0 z35_1 := hres.trans (by rw [← hz35])
    rw [f_X11_operands_c105_35] at hres
    by_cases c111 : form = (8 : Int32)
    · rw [if_pos c111] at hres
      obtain ⟨z37_0, z37_1, z37_2, z37_3, hz37⟩ := g_ex4 (f_X11_number (0 : Int64) (31 : Int64) length z35_0 z35_1 unfit text)
      have hat := q_tr1 hat (a_number hz37 hln hat.1)
      replace hres : (r_0, r_1, r_2, r_3, r_4, r_5, r_6, r_7) = f_X11_operands_c119_37 targets target targetWord targetLine z34_0 z37_0 z37_1 z37_2 z37_3 := hres.trans (by rw [← hz37])
      rw [f_X11_operands_c119_37] at hres
      exact a_X11_operands_135 hres (by assumption) (by assumption)
    · rw [if_neg c111] at hres
      obtain ⟨z36_0, z36_1, z36_2, z36_3, hz36⟩ := g_ex4 (f_X11_number (-2048 : Int64) (2047 : Int64) length z35_0 z35_1 unfit text)
      have hat := q_tr1 hat (a_number hz36 hln hat.1)
      replace hres : (r_0, r_1, r_2, r_3, r_4, r_5, r_6, r_7) = f_X11_operands_c132_36 targets target targetWord targetLine z34_0 z36_0 z36_1 z36_2 z36_3 := hres.trans (by rw [← hz36])
      rw [f_X11_operands_c132_36] at hres
      exact a_X11_operands_135 hres (by assumption) (by assumption)
  rw [if_neg c5_7] at hres
  by_cases c5_8 : form = (9 : Int32)
  · rw [if_pos c5_8] at hres
    obtain ⟨z38_0, z38_1, z38_2, z38_3, hz38⟩ := g_ex4 (f_X11_number (0 : Int64) (3 : Int64) length at_ wrong unfit text)
    have hat := q_tr1 hat (a_number hz38 hln hat.1)
    replace hres : (r_0, r_1, r_2, r_3, r_4, r_5, r_6, r_7) = f_X11_operands_c304 length targets text target targetWord targetLine z38_0 z38_1 z38_2 z38_3 := hres.trans (by rw [← hz38])
    rw [f_X11_operands_c304] at hres
    obtain ⟨z39_0, z39_1, hz39⟩ := g_ex2 (f_X11_need (44 : Int32) length z38_1 z38_2 text)
    have hat := q_tr1 hat (a_need hz39 (by decide) hln hat.1)
    replace hres : (r_0, r_1, r_2, r_3, r_4, r_5, r_6, r_7) = f_X11_operands_c311 length targets text target targetWord targetLine z38_0 z38_3 z39_0 z39_1 := hres.trans (by rw [← hz39])
    rw [f_X11_operands_c311] at hres
    obtain ⟨z40_0, z40_1, z40_2, hz40⟩ := g_ex3 (f_X11_takeRegister length z39_0 z39_1 text)
    have hat := q_tr1 hat (a_takeRegister hz40 hln hat.1)
    replace hres : (r_0, r_1, r_2, r_3, r_4, r_5, r_6, r_7) = f_X11_operands_c320 length targets text target targetWord targetLine z38_0 z38_3 z40_0 z40_1 z40_2 := hres.trans (by rw [← hz40])
    rw [f_X11_operands_c320] at hres
    obtain ⟨z41_0, z41_1, hz41⟩ := g_ex2 (f_X11_need (44 : Int32) length z40_1 z40_2 text)
    have hat := q_tr1 hat (a_need hz41 (by decide) hln hat.1)
    replace hres : (r_0, r_1, r_2, r_3, r_4, r_5, r_6, r_7) = f_X11_operands_c331 length targets text target targetWord targetLine z38_0 z38_3 z40_0 z41_0 z41_1 := hres.trans (by rw [← hz41])
    rw [f_X11_operands_c331] at hres
    obtain ⟨z42_0, z42_1, z42_2, z42_3, hz42⟩ := g_ex4 (f_X11_number (-2048 : Int64) (2047 : Int64) length z41_0 z41_1 z38_3 text)
    have hat := q_tr1 hat (a_number hz42 hln hat.1)
    replace hres : (r_0, r_1, r_2, r_3, r_4, r_5, r_6, r_7) = f_X11_operands_c342 targets target targetWord targetLine z38_0 z40_0 z42_0 z42_1 z42_2 z42_3 := hres.trans (by rw [← hz42])
    rw [f_X11_operands_c342] at hres
    obtain ⟨z43_0, hz43⟩ := g_ex1 (f_X11_immediate (Int64.toInt32 z42_0))
    replace hres : (r_0, r_1, r_2, r_3, r_4, r_5, r_6, r_7) = f_X11_operands_c346 targets target targetWord targetLine z38_0 z40_0 z42_1 z42_2 z42_3 z43_0 := hres.trans (by rw [← hz43])
    rw [f_X11_operands_c346] at hres
    cases hres
    exact hat
  rw [if_neg c5_8] at hres
  by_cases c5_9 : form = (10 : Int32)
  · rw [if_pos c5_9] at hres
    obtain ⟨z44_0, z44_1, z44_2, hz44⟩ := g_ex3 (f_X11_takeRegister length at_ wrong text)
    have hat := q_tr1 hat (a_takeRegister hz44 hln hat.1)
    replace hres : (r_0, r_1, r_2, r_3, r_4, r_5, r_6, r_7) = f_X11_operands_c352 targets unfit target targetWord targetLine z44_0 z44_1 z44_2 := hres.trans (by rw [← hz44])
    rw [f_X11_operands_c352] at hres
    cases hres
    exact hat
  rw [if_neg c5_9] at hres
  by_cases c5_10 : form = (12 : Int32)
  · rw [if_pos c5_10] at hres
    obtain ⟨z45_0, z45_1, z45_2, z45_3, hz45⟩ := g_ex4 (f_X11_number (-2147483648 : Int64) (4294967295 : Int64) length at_ wrong unfit text)
    have hat := q_tr1 hat (a_number hz45 hln hat.1)
    replace hres : (r_0, r_1, r_2, r_3, r_4, r_5, r_6, r_7) = f_X11_operands_c366 targets target targetWord targetLine z45_0 z45_1 z45_2 z45_3 := hres.trans (by rw [← hz45])
    rw [f_X11_operands_c366] at hres
    cases hres
    exact hat
  rw [if_neg c5_10] at hres
  cases hres
  exact hat
theorem t_X11_operands_135 {l2 : Int32} {s0 : Int64} {at_ : Int32} {words : Int32} {targets : Int32} {wrong : Int32} {unfit : Int32} {target : Nat → Int64} {targetWord : Nat → Int32} {targetLine : Nat → Int32} {r_0 : Int32} {r_1 : Int32} {r_2 : Int32} {r_3 : Int32} {r_4 : Int32} {r_5 : (Nat → Int64)} {r_6 : (Nat → Int32)} {r_7 : (Nat → Int32)} (hres : (r_0, r_1, r_2, r_3, r_4, r_5, r_6, r_7) = (f_X11_operands_135 at_ targets wrong unfit target targetWord targetLine l2 s0)) (hwd : 0 ≤ words.toInt ∧ words.toInt ≤ 128) (htg : 0 ≤ targets.toInt ∧ targets.toInt ≤ 128) (htw : ∀ j, j < targets.toInt.toNat → 0 ≤ (targetWord j).toInt ∧ (targetWord j).toInt ≤ words.toInt) : (0 ≤ r_2.toInt ∧ r_2.toInt ≤ 128) ∧ ∀ j, j < r_2.toInt.toNat → 0 ≤ (r_6 j).toInt ∧ (r_6 j).toInt ≤ words.toInt := by
  rw [f_X11_operands_135] at hres
  obtain ⟨z7_0, hz7⟩ := g_ex1 (f_X11_immediate (Int64.toInt32 s0))
  replace hres : (r_0, r_1, r_2, r_3, r_4, r_5, r_6, r_7) = f_X11_operands_c139 at_ targets wrong unfit target targetWord targetLine l2 z7_0 := hres.trans (by rw [← hz7])
  rw [f_X11_operands_c139] at hres
  cases hres
  exact ⟨htg, htw⟩
theorem t_X11_operands {form : Int32} {length : Int32} {at_ : Int32} {line : Int32} {words : Int32} {targets : Int32} {wrong : Int32} {unfit : Int32} {text : Nat → Int32} {target : Nat → Int64} {targetWord : Nat → Int32} {targetLine : Nat → Int32} {r_0 : Int32} {r_1 : Int32} {r_2 : Int32} {r_3 : Int32} {r_4 : Int32} {r_5 : (Nat → Int64)} {r_6 : (Nat → Int32)} {r_7 : (Nat → Int32)} (hres : (r_0, r_1, r_2, r_3, r_4, r_5, r_6, r_7) = f_X11_operands form length at_ line words targets wrong unfit text target targetWord targetLine) (hwd : 0 ≤ words.toInt ∧ words.toInt ≤ 128) (htg : 0 ≤ targets.toInt ∧ targets.toInt ≤ 128) (htw : ∀ j, j < targets.toInt.toNat → 0 ≤ (targetWord j).toInt ∧ (targetWord j).toInt ≤ words.toInt) : (0 ≤ r_2.toInt ∧ r_2.toInt ≤ 128) ∧ ∀ j, j < r_2.toInt.toNat → 0 ≤ (r_6 j).toInt ∧ (r_6 j).toInt ≤ words.toInt := by
  rw [f_X11_operands] at hres
  by_cases c5_0 : form = (1 : Int32)
  · rw [if_pos c5_0] at hres
    obtain ⟨z1_0, z1_1, z1_2, hz1⟩ := g_ex3 (f_X11_pair (7 : Int32) (15 : Int32) length at_ wrong text)
    replace hres : (r_0, r_1, r_2, r_3, r_4, r_5, r_6, r_7) = f_X11_operands_c73 length targets unfit text target targetWord targetLine z1_0 z1_1 z1_2 := hres.trans (by rw [← hz1])
    rw [f_X11_operands_c73] at hres
    obtain ⟨z2_0, z2_1, hz2⟩ := g_ex2 (f_X11_need (44 : Int32) length z1_1 z1_2 text)
    replace hres : (r_0, r_1, r_2, r_3, r_4, r_5, r_6, r_7) = f_X11_operands_c80 length targets unfit text target targetWord targetLine z1_0 z2_0 z2_1 := hres.trans (by rw [← hz2])
    rw [f_X11_operands_c80] at hres
    obtain ⟨z3_0, z3_1, z3_2, hz3⟩ := g_ex3 (f_X11_takeRegister length z2_0 z2_1 text)
    replace hres : (r_0, r_1, r_2, r_3, r_4, r_5, r_6, r_7) = f_X11_operands_c85 targets unfit target targetWord targetLine z1_0 z3_0 z3_1 z3_2 := hres.trans (by rw [← hz3])
    rw [f_X11_operands_c85] at hres
    cases hres
    exact ⟨htg, htw⟩
  rw [if_neg c5_0] at hres
  by_cases c5_1 : form = (2 : Int32)
  · rw [if_pos c5_1] at hres
    obtain ⟨z4_0, z4_1, z4_2, hz4⟩ := g_ex3 (f_X11_pair (7 : Int32) (15 : Int32) length at_ wrong text)
    replace hres : (r_0, r_1, r_2, r_3, r_4, r_5, r_6, r_7) = f_X11_operands_c98 form length targets unfit text target targetWord targetLine z4_0 z4_1 z4_2 := hres.trans (by rw [← hz4])
    rw [f_X11_operands_c98] at hres
    obtain ⟨z5_0, z5_1, hz5⟩ := g_ex2 (f_X11_need (44 : Int32) length z4_1 z4_2 text)
    replace hres : (r_0, r_1, r_2, r_3, r_4, r_5, r_6, r_7) = f_X11_operands_c105 form length targets unfit text target targetWord targetLine z4_0 z5_0 z5_1 := hres.trans (by rw [← hz5])
    rw [f_X11_operands_c105] at hres
    by_cases c111 : form = (8 : Int32)
    · rw [if_pos c111] at hres
      obtain ⟨z8_0, z8_1, z8_2, z8_3, hz8⟩ := g_ex4 (f_X11_number (0 : Int64) (31 : Int64) length z5_0 z5_1 unfit text)
      replace hres : (r_0, r_1, r_2, r_3, r_4, r_5, r_6, r_7) = f_X11_operands_c119 targets target targetWord targetLine z4_0 z8_0 z8_1 z8_2 z8_3 := hres.trans (by rw [← hz8])
      rw [f_X11_operands_c119] at hres
      exact t_X11_operands_135 hres (by assumption) (by assumption) (by assumption)
    · rw [if_neg c111] at hres
      obtain ⟨z6_0, z6_1, z6_2, z6_3, hz6⟩ := g_ex4 (f_X11_number (-2048 : Int64) (2047 : Int64) length z5_0 z5_1 unfit text)
      replace hres : (r_0, r_1, r_2, r_3, r_4, r_5, r_6, r_7) = f_X11_operands_c132 targets target targetWord targetLine z4_0 z6_0 z6_1 z6_2 z6_3 := hres.trans (by rw [← hz6])
      rw [f_X11_operands_c132] at hres
      exact t_X11_operands_135 hres (by assumption) (by assumption) (by assumption)
  rw [if_neg c5_1] at hres
  by_cases c5_2 : form = (3 : Int32)
  · rw [if_pos c5_2] at hres
    obtain ⟨z9_0, z9_1, z9_2, hz9⟩ := g_ex3 (f_X11_takeRegister length at_ wrong text)
    replace hres : (r_0, r_1, r_2, r_3, r_4, r_5, r_6, r_7) = f_X11_operands_c145 form length targets unfit text target targetWord targetLine z9_0 z9_1 z9_2 := hres.trans (by rw [← hz9])
    rw [f_X11_operands_c145] at hres
    obtain ⟨z10_0, z10_1, hz10⟩ := g_ex2 (f_X11_need (44 : Int32) length z9_1 z9_2 text)
    replace hres : (r_0, r_1, r_2, r_3, r_4, r_5, r_6, r_7) = f_X11_operands_c152 form length targets unfit text target targetWord targetLine z9_0 z10_0 z10_1 := hres.trans (by rw [← hz10])
    rw [f_X11_operands_c152] at hres
    obtain ⟨z11_0, z11_1, z11_2, z11_3, hz11⟩ := g_ex4 (f_X11_number (-2048 : Int64) (2047 : Int64) length z10_0 z10_1 unfit text)
    replace hres : (r_0, r_1, r_2, r_3, r_4, r_5, r_6, r_7) = f_X11_operands_c162 form length targets text target targetWord targetLine z9_0 z11_0 z11_1 z11_2 z11_3 := hres.trans (by rw [← hz11])
    rw [f_X11_operands_c162] at hres
    obtain ⟨z12_0, z12_1, hz12⟩ := g_ex2 (f_X11_need (40 : Int32) length z11_1 z11_2 text)
    replace hres : (r_0, r_1, r_2, r_3, r_4, r_5, r_6, r_7) = f_X11_operands_c169 form length targets text target targetWord targetLine z9_0 z11_0 z11_3 z12_0 z12_1 := hres.trans (by rw [← hz12])
    rw [f_X11_operands_c169] at hres
    obtain ⟨z13_0, z13_1, z13_2, hz13⟩ := g_ex3 (f_X11_takeRegister length z12_0 z12_1 text)
    replace hres : (r_0, r_1, r_2, r_3, r_4, r_5, r_6, r_7) = f_X11_operands_c173 form length targets text target targetWord targetLine z9_0 z11_0 z11_3 z13_0 z13_1 z13_2 := hres.trans (by rw [← hz13])
    rw [f_X11_operands_c173] at hres
    obtain ⟨z14_0, z14_1, hz14⟩ := g_ex2 (f_X11_need (41 : Int32) length z13_1 z13_2 text)
    replace hres : (r_0, r_1, r_2, r_3, r_4, r_5, r_6, r_7) = f_X11_operands_c181 form targets target targetWord targetLine z9_0 z11_0 z11_3 z13_0 z14_0 z14_1 := hres.trans (by rw [← hz14])
    rw [f_X11_operands_c181] at hres
    by_cases c186 : form = (3 : Int32)
    · rw [if_pos c186] at hres
      obtain ⟨z16_0, hz16⟩ := g_ex1 (f_X11_immediate (Int64.toInt32 z11_0))
      replace hres : (r_0, r_1, r_2, r_3, r_4, r_5, r_6, r_7) = f_X11_operands_c201 targets target targetWord targetLine z9_0 z11_3 z13_0 z14_0 z14_1 z16_0 := hres.trans (by rw [← hz16])
      rw [f_X11_operands_c201] at hres
      cases hres
      exact ⟨htg, htw⟩
    · rw [if_neg c186] at hres
      obtain ⟨z15_0, hz15⟩ := g_ex1 (f_X11_storing (Int64.toInt32 z11_0))
      replace hres : (r_0, r_1, r_2, r_3, r_4, r_5, r_6, r_7) = f_X11_operands_c220 targets target targetWord targetLine z9_0 z11_3 z13_0 z14_0 z14_1 z15_0 := hres.trans (by rw [← hz15])
      rw [f_X11_operands_c220] at hres
      cases hres
      exact ⟨htg, htw⟩
  rw [if_neg c5_2] at hres
  by_cases c5_3 : form = (4 : Int32)
  · rw [if_pos c5_3] at hres
    obtain ⟨z17_0, z17_1, z17_2, hz17⟩ := g_ex3 (f_X11_takeRegister length at_ wrong text)
    replace hres : (r_0, r_1, r_2, r_3, r_4, r_5, r_6, r_7) = f_X11_operands_c145_17 form length targets unfit text target targetWord targetLine z17_0 z17_1 z17_2 := hres.trans (by rw [← hz17])
    rw [f_X11_operands_c145_17] at hres
    obtain ⟨z18_0, z18_1, hz18⟩ := g_ex2 (f_X11_need (44 : Int32) length z17_1 z17_2 text)
    replace hres : (r_0, r_1, r_2, r_3, r_4, r_5, r_6, r_7) = f_X11_operands_c152_18 form length targets unfit text target targetWord targetLine z17_0 z18_0 z18_1 := hres.trans (by rw [← hz18])
    rw [f_X11_operands_c152_18] at hres
    obtain ⟨z19_0, z19_1, z19_2, z19_3, hz19⟩ := g_ex4 (f_X11_number (-2048 : Int64) (2047 : Int64) length z18_0 z18_1 unfit text)
    replace hres : (r_0, r_1, r_2, r_3, r_4, r_5, r_6, r_7) = f_X11_operands_c162_19 form length targets text target targetWord targetLine z17_0 z19_0 z19_1 z19_2 z19_3 := hres.trans (by rw [← hz19])
    rw [f_X11_operands_c162_19] at hres
    obtain ⟨z20_0, z20_1, hz20⟩ := g_ex2 (f_X11_need (40 : Int32) length z19_1 z19_2 text)
    replace hres : (r_0, r_1, r_2, r_3, r_4, r_5, r_6, r_7) = f_X11_operands_c169_20 form length targets text target targetWord targetLine z17_0 z19_0 z19_3 z20_0 z20_1 := hres.trans (by rw [← hz20])
    rw [f_X11_operands_c169_20] at hres
    obtain ⟨z21_0, z21_1, z21_2, hz21⟩ := g_ex3 (f_X11_takeRegister length z20_0 z20_1 text)
    replace hres : (r_0, r_1, r_2, r_3, r_4, r_5, r_6, r_7) = f_X11_operands_c173_21 form length targets text target targetWord targetLine z17_0 z19_0 z19_3 z21_0 z21_1 z21_2 := hres.trans (by rw [← hz21])
    rw [f_X11_operands_c173_21] at hres
    obtain ⟨z22_0, z22_1, hz22⟩ := g_ex2 (f_X11_need (41 : Int32) length z21_1 z21_2 text)
    replace hres : (r_0, r_1, r_2, r_3, r_4, r_5, r_6, r_7) = f_X11_operands_c181_22 form targets target targetWord targetLine z17_0 z19_0 z19_3 z21_0 z22_0 z22_1 := hres.trans (by rw [← hz22])
    rw [f_X11_operands_c181_22] at hres
    by_cases c186 : form = (3 : Int32)
    · rw [if_pos c186] at hres
      obtain ⟨z24_0, hz24⟩ := g_ex1 (f_X11_immediate (Int64.toInt32 z19_0))
      replace hres : (r_0, r_1, r_2, r_3, r_4, r_5, r_6, r_7) = f_X11_operands_c201_24 targets target targetWord targetLine z17_0 z19_3 z21_0 z22_0 z22_1 z24_0 := hres.trans (by rw [← hz24])
      rw [f_X11_operands_c201_24] at hres
      cases hres
      exact ⟨htg, htw⟩
    · rw [if_neg c186] at hres
      obtain ⟨z23_0, hz23⟩ := g_ex1 (f_X11_storing (Int64.toInt32 z19_0))
      replace hres : (r_0, r_1, r_2, r_3, r_4, r_5, r_6, r_7) = f_X11_operands_c220_23 targets target targetWord targetLine z17_0 z19_3 z21_0 z22_0 z22_1 z23_0 := hres.trans (by rw [← hz23])
      rw [f_X11_operands_c220_23] at hres
      cases hres
      exact ⟨htg, htw⟩
  rw [if_neg c5_3] at hres
  by_cases c5_4 : form = (5 : Int32)
  · rw [if_pos c5_4] at hres
    obtain ⟨z25_0, z25_1, z25_2, hz25⟩ := g_ex3 (f_X11_pair (15 : Int32) (20 : Int32) length at_ wrong text)
    replace hres : (r_0, r_1, r_2, r_3, r_4, r_5, r_6, r_7) = f_X11_operands_c230 length line words targets unfit text target targetWord targetLine z25_0 z25_1 z25_2 := hres.trans (by rw [← hz25])
    rw [f_X11_operands_c230] at hres
    obtain ⟨z26_0, z26_1, hz26⟩ := g_ex2 (f_X11_need (44 : Int32) length z25_1 z25_2 text)
    replace hres : (r_0, r_1, r_2, r_3, r_4, r_5, r_6, r_7) = f_X11_operands_c237 length line words targets unfit text target targetWord targetLine z25_0 z26_0 z26_1 := hres.trans (by rw [← hz26])
    rw [f_X11_operands_c237] at hres
    obtain ⟨z27_0, z27_1, z27_2, z27_3, z27_4, z27_5, z27_6, z27_7, hz27⟩ := g_ex8 (f_X11_distance (0 : Int32) length z26_0 line words targets z26_1 unfit text target targetWord targetLine)
    have hh := t_X11_distance hz27 hwd htg htw
    have htg := hh.1
    have htw := hh.2
    replace hres : (r_0, r_1, r_2, r_3, r_4, r_5, r_6, r_7) = f_X11_operands_c243 z25_0 z27_0 z27_1 z27_2 z27_3 z27_4 z27_5 z27_6 z27_7 := hres.trans (by rw [← hz27])
    rw [f_X11_operands_c243] at hres
    cases hres
    exact ⟨htg, htw⟩
  rw [if_neg c5_4] at hres
  by_cases c5_5 : form = (6 : Int32)
  · rw [if_pos c5_5] at hres
    obtain ⟨z28_0, z28_1, z28_2, hz28⟩ := g_ex3 (f_X11_takeRegister length at_ wrong text)
    replace hres : (r_0, r_1, r_2, r_3, r_4, r_5, r_6, r_7) = f_X11_operands_c249 length line words targets unfit text target targetWord targetLine z28_0 z28_1 z28_2 := hres.trans (by rw [← hz28])
    rw [f_X11_operands_c249] at hres
    obtain ⟨z29_0, z29_1, hz29⟩ := g_ex2 (f_X11_need (44 : Int32) length z28_1 z28_2 text)
    replace hres : (r_0, r_1, r_2, r_3, r_4, r_5, r_6, r_7) = f_X11_operands_c259 length line words targets unfit text target targetWord targetLine z28_0 z29_0 z29_1 := hres.trans (by rw [← hz29])
    rw [f_X11_operands_c259] at hres
    obtain ⟨z30_0, z30_1, z30_2, z30_3, z30_4, z30_5, z30_6, z30_7, hz30⟩ := g_ex8 (f_X11_distance (1 : Int32) length z29_0 line words targets z29_1 unfit text target targetWord targetLine)
    have hh := t_X11_distance hz30 hwd htg htw
    have htg := hh.1
    have htw := hh.2
    replace hres : (r_0, r_1, r_2, r_3, r_4, r_5, r_6, r_7) = f_X11_operands_c265 z28_0 z30_0 z30_1 z30_2 z30_3 z30_4 z30_5 z30_6 z30_7 := hres.trans (by rw [← hz30])
    rw [f_X11_operands_c265] at hres
    cases hres
    exact ⟨htg, htw⟩
  rw [if_neg c5_5] at hres
  by_cases c5_6 : form = (7 : Int32)
  · rw [if_pos c5_6] at hres
    obtain ⟨z31_0, z31_1, z31_2, hz31⟩ := g_ex3 (f_X11_takeRegister length at_ wrong text)
    replace hres : (r_0, r_1, r_2, r_3, r_4, r_5, r_6, r_7) = f_X11_operands_c271 length targets unfit text target targetWord targetLine z31_0 z31_1 z31_2 := hres.trans (by rw [← hz31])
    rw [f_X11_operands_c271] at hres
    obtain ⟨z32_0, z32_1, hz32⟩ := g_ex2 (f_X11_need (44 : Int32) length z31_1 z31_2 text)
    replace hres : (r_0, r_1, r_2, r_3, r_4, r_5, r_6, r_7) = f_X11_operands_c281 length targets unfit text target targetWord targetLine z31_0 z32_0 z32_1 := hres.trans (by rw [← hz32])
    rw [f_X11_operands_c281] at hres
    obtain ⟨z33_0, z33_1, z33_2, z33_3, hz33⟩ := g_ex4 (f_X11_number (0 : Int64) (1048575 : Int64) length z32_0 z32_1 unfit text)
    replace hres : (r_0, r_1, r_2, r_3, r_4, r_5, r_6, r_7) = f_X11_operands_c290 targets target targetWord targetLine z31_0 z33_0 z33_1 z33_2 z33_3 := hres.trans (by rw [← hz33])
    rw [f_X11_operands_c290] at hres
    cases hres
    exact ⟨htg, htw⟩
  rw [if_neg c5_6] at hres
  by_cases c5_7 : form = (8 : Int32)
  · rw [if_pos c5_7] at hres
    obtain ⟨z34_0, z34_1, z34_2, hz34⟩ := g_ex3 (f_X11_pair (7 : Int32) (15 : Int32) length at_ wrong text)
    replace hres : (r_0, r_1, r_2, r_3, r_4, r_5, r_6, r_7) = f_X11_operands_c98_34 form length targets unfit text target targetWord targetLine z34_0 z34_1 z34_2 := hres.trans (by rw [← hz34])
    rw [f_X11_operands_c98_34] at hres
    obtain ⟨z35_0, z35_1, hz35⟩ := g_ex2 (f_X11_need (44 : Int32) length z34_1 z34_2 text)
    replace hres : (r_0, r_1, r_2, r_3, r_4, r_5, r_6, r_7) = f_X11_operands_c105_35 form length targets unfit text target targetWord targetLine z34_0 z35_0 z35_1 := hres.trans (by rw [← hz35])
    rw [f_X11_operands_c105_35] at hres
    by_cases c111 : form = (8 : Int32)
    · rw [if_pos c111] at hres
      obtain ⟨z37_0, z37_1, z37_2, z37_3, hz37⟩ := g_ex4 (f_X11_number (0 : Int64) (31 : Int64) length z35_0 z35_1 unfit text)
      replace hres : (r_0, r_1, r_2, r_3, r_4, r_5, r_6, r_7) = f_X11_operands_c119_37 targets target targetWord targetLine z34_0 z37_0 z37_1 z37_2 z37_3 := hres.trans (by rw [← hz37])
      rw [f_X11_operands_c119_37] at hres
      exact t_X11_operands_135 hres (by assumption) (by assumption) (by assumption)
    · rw [if_neg c111] at hres
      obtain ⟨z36_0, z36_1, z36_2, z36_3, hz36⟩ := g_ex4 (f_X11_number (-2048 : Int64) (2047 : Int64) length z35_0 z35_1 unfit text)
      replace hres : (r_0, r_1, r_2, r_3, r_4, r_5, r_6, r_7) = f_X11_operands_c132_36 targets target targetWord targetLine z34_0 z36_0 z36_1 z36_2 z36_3 := hres.trans (by rw [← hz36])
      rw [f_X11_operands_c132_36] at hres
      exact t_X11_operands_135 hres (by assumption) (by assumption) (by assumption)
  rw [if_neg c5_7] at hres
  by_cases c5_8 : form = (9 : Int32)
  · rw [if_pos c5_8] at hres
    obtain ⟨z38_0, z38_1, z38_2, z38_3, hz38⟩ := g_ex4 (f_X11_number (0 : Int64) (3 : Int64) length at_ wrong unfit text)
    replace hres : (r_0, r_1, r_2, r_3, r_4, r_5, r_6, r_7) = f_X11_operands_c304 length targets text target targetWord targetLine z38_0 z38_1 z38_2 z38_3 := hres.trans (by rw [← hz38])
    rw [f_X11_operands_c304] at hres
    obtain ⟨z39_0, z39_1, hz39⟩ := g_ex2 (f_X11_need (44 : Int32) length z38_1 z38_2 text)
    replace hres : (r_0, r_1, r_2, r_3, r_4, r_5, r_6, r_7) = f_X11_operands_c311 length targets text target targetWord targetLine z38_0 z38_3 z39_0 z39_1 := hres.trans (by rw [← hz39])
    rw [f_X11_operands_c311] at hres
    obtain ⟨z40_0, z40_1, z40_2, hz40⟩ := g_ex3 (f_X11_takeRegister length z39_0 z39_1 text)
    replace hres : (r_0, r_1, r_2, r_3, r_4, r_5, r_6, r_7) = f_X11_operands_c320 length targets text target targetWord targetLine z38_0 z38_3 z40_0 z40_1 z40_2 := hres.trans (by rw [← hz40])
    rw [f_X11_operands_c320] at hres
    obtain ⟨z41_0, z41_1, hz41⟩ := g_ex2 (f_X11_need (44 : Int32) length z40_1 z40_2 text)
    replace hres : (r_0, r_1, r_2, r_3, r_4, r_5, r_6, r_7) = f_X11_operands_c331 length targets text target targetWord targetLine z38_0 z38_3 z40_0 z41_0 z41_1 := hres.trans (by rw [← hz41])
    rw [f_X11_operands_c331] at hres
    obtain ⟨z42_0, z42_1, z42_2, z42_3, hz42⟩ := g_ex4 (f_X11_number (-2048 : Int64) (2047 : Int64) length z41_0 z41_1 z38_3 text)
    replace hres : (r_0, r_1, r_2, r_3, r_4, r_5, r_6, r_7) = f_X11_operands_c342 targets target targetWord targetLine z38_0 z40_0 z42_0 z42_1 z42_2 z42_3 := hres.trans (by rw [← hz42])
    rw [f_X11_operands_c342] at hres
    obtain ⟨z43_0, hz43⟩ := g_ex1 (f_X11_immediate (Int64.toInt32 z42_0))
    replace hres : (r_0, r_1, r_2, r_3, r_4, r_5, r_6, r_7) = f_X11_operands_c346 targets target targetWord targetLine z38_0 z40_0 z42_1 z42_2 z42_3 z43_0 := hres.trans (by rw [← hz43])
    rw [f_X11_operands_c346] at hres
    cases hres
    exact ⟨htg, htw⟩
  rw [if_neg c5_8] at hres
  by_cases c5_9 : form = (10 : Int32)
  · rw [if_pos c5_9] at hres
    obtain ⟨z44_0, z44_1, z44_2, hz44⟩ := g_ex3 (f_X11_takeRegister length at_ wrong text)
    replace hres : (r_0, r_1, r_2, r_3, r_4, r_5, r_6, r_7) = f_X11_operands_c352 targets unfit target targetWord targetLine z44_0 z44_1 z44_2 := hres.trans (by rw [← hz44])
    rw [f_X11_operands_c352] at hres
    cases hres
    exact ⟨htg, htw⟩
  rw [if_neg c5_9] at hres
  by_cases c5_10 : form = (12 : Int32)
  · rw [if_pos c5_10] at hres
    obtain ⟨z45_0, z45_1, z45_2, z45_3, hz45⟩ := g_ex4 (f_X11_number (-2147483648 : Int64) (4294967295 : Int64) length at_ wrong unfit text)
    replace hres : (r_0, r_1, r_2, r_3, r_4, r_5, r_6, r_7) = f_X11_operands_c366 targets target targetWord targetLine z45_0 z45_1 z45_2 z45_3 := hres.trans (by rw [← hz45])
    rw [f_X11_operands_c366] at hres
    cases hres
    exact ⟨htg, htw⟩
  rw [if_neg c5_10] at hres
  cases hres
  exact ⟨htg, htw⟩
abbrev M_X11_labelOf : g_M := (cX11_labelOf, 5, RX11, (some .int), { frames := 0, cells := 0, slots := 0, locals := 0 }, 0, 0)
theorem dm_X11_labelOf_0 : decode M_X11_labelOf.1 0 = .ok (.iconst (-1), 1) := by decide +kernel
theorem dm_X11_labelOf_1 : decode M_X11_labelOf.1 1 = .ok (.istore_n 3, 1) := by decide +kernel
theorem dm_X11_labelOf_2 : decode M_X11_labelOf.1 2 = .ok (.iconst 0, 1) := by decide +kernel
theorem dm_X11_labelOf_3 : decode M_X11_labelOf.1 3 = .ok (.istore 4, 2) := by decide +kernel
theorem dm_X11_labelOf_5 : decode M_X11_labelOf.1 5 = .ok (.iload 4, 2) := by decide +kernel
theorem dm_X11_labelOf_7 : decode M_X11_labelOf.1 7 = .ok (.aload_n 0, 1) := by decide +kernel
theorem dm_X11_labelOf_8 : decode M_X11_labelOf.1 8 = .ok (.getfield 256, 3) := by decide +kernel
theorem dm_X11_labelOf_11 : decode M_X11_labelOf.1 11 = .ok (.if_icmp .ge 28, 3) := by decide +kernel
theorem dm_X11_labelOf_14 : decode M_X11_labelOf.1 14 = .ok (.aload_n 0, 1) := by decide +kernel
theorem dm_X11_labelOf_15 : decode M_X11_labelOf.1 15 = .ok (.getfield 17, 3) := by decide +kernel
theorem dm_X11_labelOf_18 : decode M_X11_labelOf.1 18 = .ok (.iload 4, 2) := by decide +kernel
theorem dm_X11_labelOf_20 : decode M_X11_labelOf.1 20 = .ok (.laload, 1) := by decide +kernel
theorem dm_X11_labelOf_21 : decode M_X11_labelOf.1 21 = .ok (.lload_n 1, 1) := by decide +kernel
theorem dm_X11_labelOf_22 : decode M_X11_labelOf.1 22 = .ok (.lcmp, 1) := by decide +kernel
theorem dm_X11_labelOf_23 : decode M_X11_labelOf.1 23 = .ok (.ifCond .ne 8, 3) := by decide +kernel
theorem dm_X11_labelOf_26 : decode M_X11_labelOf.1 26 = .ok (.iload 4, 2) := by decide +kernel
theorem dm_X11_labelOf_28 : decode M_X11_labelOf.1 28 = .ok (.goto 4, 3) := by decide +kernel
theorem dm_X11_labelOf_31 : decode M_X11_labelOf.1 31 = .ok (.iload_n 3, 1) := by decide +kernel
theorem dm_X11_labelOf_32 : decode M_X11_labelOf.1 32 = .ok (.istore_n 3, 1) := by decide +kernel
theorem dm_X11_labelOf_33 : decode M_X11_labelOf.1 33 = .ok (.iinc 4 1, 3) := by decide +kernel
theorem dm_X11_labelOf_36 : decode M_X11_labelOf.1 36 = .ok (.goto (-31), 3) := by decide +kernel
theorem dm_X11_labelOf_39 : decode M_X11_labelOf.1 39 = .ok (.iload_n 3, 1) := by decide +kernel
theorem dm_X11_labelOf_40 : decode M_X11_labelOf.1 40 = .ok (.ireturn, 1) := by decide +kernel
def f_X11_labelOf_32 (l1 : Int64) (l4 : Int32) (kL5 : Int64 → Int32 → Int32 → Int32) (s0 : Int32) : Int32 := (kL5 l1 s0 (l4 + (1 : Int32)))
set_option maxRecDepth 20000 in
theorem j_X11_labelOf_32 {l1 : Int64} {l4 : Int32} {s0 : Int32} {refusal : Int32} {wheel : Int32} {now : Int32} {length : Int32} {at_ : Int32} {fault : Int32} {faultLine : Int32} {line : Int32} {words : Int32} {labels : Int32} {targets : Int32} {wrong : Int32} {unfit : Int32} {text : Nat → Int32} {code_ : Nat → Int32} {label : Nat → Int64} {labelWord : Nat → Int32} {target : Nat → Int64} {targetWord : Nat → Int32} {targetLine : Nat → Int32} {store : Nat → Int32} {common : Nat → Int32} {low : Nat → Int32} {high : Nat → Int32} {register : Nat → Int32} {address : Nat → Int32} {status : Nat → Int32} {did : Nat → Int32} {ready : Nat → Int32} {timer : Nat → Int32} {trace : Nat → Int32} {kL5 : Int64 → Int32 → Int32 → Int32} {r_0 : Int32} (hres : r_0 = (f_X11_labelOf_32 l1 l4 kL5 s0)) (hlb : 0 ≤ labels.toInt ∧ labels.toInt ≤ 16) (h4 : 0 ≤ l4.toInt) (hlt : l4.toInt < labels.toInt) {mu : Nat} (hmu : (16 - l4.toInt.toNat) = mu) (hk5 : ∀ {l1 : Int64} {l3 : Int32} {l4 : Int32}, (0 ≤ labels.toInt ∧ labels.toInt ≤ 16) → (0 ≤ l4.toInt) → (16 - l4.toInt.toNat) < mu → r_0 = kL5 l1 l3 l4 → G M_X11_labelOf 0 0 5 [(0, .ref 0), (1, .long l1), (3, .int l3), (4, .int l4)] [] (w_M refusal wheel now length at_ fault faultLine line words labels targets wrong unfit text code_ label labelWord target targetWord targetLine store common low high register address status did ready timer trace) (some (.int r_0)) (w_M refusal wheel now length at_ fault faultLine line words labels targets wrong unfit text code_ label labelWord target targetWord targetLine store common low high register address status did ready timer trace)) : G M_X11_labelOf 0 0 32 [(0, .ref 0), (1, .long l1), (4, .int l4)] [.int s0] (w_M refusal wheel now length at_ fault faultLine line words labels targets wrong unfit text code_ label labelWord target targetWord targetLine store common low high register address status did ready timer trace) (some (.int r_0)) (w_M refusal wheel now length at_ fault faultLine line words labels targets wrong unfit text code_ label labelWord target targetWord targetLine store common low high register address status did ready timer trace) := by
  rw [f_X11_labelOf_32] at hres
  refine G.istore_n (pc := 32) (lv1 := [(3, .int s0), (0, .ref 0), (1, .long l1), (4, .int l4)]) dm_X11_labelOf_32 rfl rfl ?_
  refine G.iinc (pc := 33) (v := (l4 + (1 : Int32))) (lv1 := [(4, .int (l4 + (1 : Int32))), (3, .int s0), (0, .ref 0), (1, .long l1)]) dm_X11_labelOf_33 rfl rfl rfl rfl ?_
  refine G.goto (pc := 36) (tgt := 5) dm_X11_labelOf_36 (by decide) ?_
  refine G.lvp [2, 3, 1, 0] rfl ?_
  exact hk5 hlb (by rw [q_inc (by omega)]; omega) (by rw [q_inc (by omega)]; omega) hres
def f_X11_labelOf_5 (labels : Int32) (label : Nat → Int64) : Nat → Int64 → Int32 → Int32 → Int32
  | 0, l1, l3, l4 => 0
  | n + 1, l1, l3, l4 => (if labels ≤ l4 then l3 else (if (lg_cmp (label (Int32.toNatClampNeg l4)) l1) = 0 then (f_X11_labelOf_32 l1 l4 (f_X11_labelOf_5 labels label n) l4) else (f_X11_labelOf_32 l1 l4 (f_X11_labelOf_5 labels label n) l3)))
set_option maxRecDepth 20000 in
theorem j_X11_labelOf_5 : ∀ (n : Nat) {l1 : Int64} {l3 : Int32} {l4 : Int32} {refusal : Int32} {wheel : Int32} {now : Int32} {length : Int32} {at_ : Int32} {fault : Int32} {faultLine : Int32} {line : Int32} {words : Int32} {labels : Int32} {targets : Int32} {wrong : Int32} {unfit : Int32} {text : Nat → Int32} {code_ : Nat → Int32} {label : Nat → Int64} {labelWord : Nat → Int32} {target : Nat → Int64} {targetWord : Nat → Int32} {targetLine : Nat → Int32} {store : Nat → Int32} {common : Nat → Int32} {low : Nat → Int32} {high : Nat → Int32} {register : Nat → Int32} {address : Nat → Int32} {status : Nat → Int32} {did : Nat → Int32} {ready : Nat → Int32} {timer : Nat → Int32} {trace : Nat → Int32} {r_0 : Int32}, (hlb : 0 ≤ labels.toInt ∧ labels.toInt ≤ 16) → (h4 : 0 ≤ l4.toInt) → (16 - l4.toInt.toNat) < n → r_0 = f_X11_labelOf_5 labels label n l1 l3 l4 → G M_X11_labelOf 0 0 5 [(0, .ref 0), (1, .long l1), (3, .int l3), (4, .int l4)] [] (w_M refusal wheel now length at_ fault faultLine line words labels targets wrong unfit text code_ label labelWord target targetWord targetLine store common low high register address status did ready timer trace) (some (.int r_0)) (w_M refusal wheel now length at_ fault faultLine line words labels targets wrong unfit text code_ label labelWord target targetWord targetLine store common low high register address status did ready timer trace) := by
  intro n
  induction n with
  | zero =>
    intro l1 l3 l4 refusal wheel now length at_ fault faultLine line words labels targets wrong unfit text code_ label labelWord target targetWord targetLine store common low high register address status did ready timer trace r_0 hlb h4 hm hres
    exact absurd hm (Nat.not_lt_zero _)
  | succ n ih =>
    intro l1 l3 l4 refusal wheel now length at_ fault faultLine line words labels targets wrong unfit text code_ label labelWord target targetWord targetLine store common low high register address status did ready timer trace r_0 hlb h4 hm hres
    obtain ⟨mu, hmu⟩ : ∃ z, (16 - l4.toInt.toNat) = z := ⟨_, rfl⟩
    rw [hmu] at hm
    have hk5 : ∀ {l1 : Int64} {l3 : Int32} {l4 : Int32}, (0 ≤ labels.toInt ∧ labels.toInt ≤ 16) → (0 ≤ l4.toInt) → (16 - l4.toInt.toNat) < mu → r_0 = (f_X11_labelOf_5 labels label n) l1 l3 l4 → G M_X11_labelOf 0 0 5 [(0, .ref 0), (1, .long l1), (3, .int l3), (4, .int l4)] [] (w_M refusal wheel now length at_ fault faultLine line words labels targets wrong unfit text code_ label labelWord target targetWord targetLine store common low high register address status did ready timer trace) (some (.int r_0)) (w_M refusal wheel now length at_ fault faultLine line words labels targets wrong unfit text code_ label labelWord target targetWord targetLine store common low high register address status did ready timer trace) := fun hlb h4 hlt he => ih hlb h4 (Nat.lt_of_lt_of_le hlt (Nat.le_of_lt_succ hm)) he
    rw [f_X11_labelOf_5] at hres
    refine G.iload (pc := 5) dm_X11_labelOf_5 rfl ?_
    refine G.aload_n (pc := 7) dm_X11_labelOf_7 rfl ?_
    refine G.getfield (pc := 8) dm_X11_labelOf_8 gf_X11_256 rfl rfl ?_
    refine G.icmp_ge (pc := 11) (tgt := 39) dm_X11_labelOf_11 (by decide) (fun c11 => ?_) (fun c11 => ?_)
    · rw [if_pos c11] at hres
      refine G.iload_n (pc := 39) dm_X11_labelOf_39 rfl ?_
      subst hres
      exact G.ireturn (pc := 40) dm_X11_labelOf_40 rfl rfl rfl
    · rw [if_neg c11] at hres
      have hlt := q_nle c11
      refine G.aload_n (pc := 14) dm_X11_labelOf_14 rfl ?_
      refine G.getfield (pc := 15) dm_X11_labelOf_15 gf_X11_17 rfl rfl ?_
      refine G.iload (pc := 18) dm_X11_labelOf_18 rfl ?_
      refine G.laload (pc := 20) dm_X11_labelOf_20 rfl (q_in h4 (by have := q_nle c11; omega)) ?_
      refine G.lload_n (pc := 21) dm_X11_labelOf_21 rfl ?_
      refine G.lcmp (pc := 22) dm_X11_labelOf_22 ?_
      refine G.if_ne (pc := 23) (tgt := 31) dm_X11_labelOf_23 (by decide) (fun c23 => ?_) (fun c23 => ?_)
      · rw [if_neg c23] at hres
        refine G.iload_n (pc := 31) dm_X11_labelOf_31 rfl ?_
        refine G.lvp [0, 1, 3] rfl ?_
        exact j_X11_labelOf_32 hres (by first | assumption | exact q_31 _ | exact q_7 _) (by first | assumption | exact q_31 _ | exact q_7 _) (by first | assumption | exact q_31 _ | exact q_7 _) hmu hk5
      · rw [if_pos c23] at hres
        refine G.iload (pc := 26) dm_X11_labelOf_26 rfl ?_
        refine G.goto (pc := 28) (tgt := 32) dm_X11_labelOf_28 (by decide) ?_
        refine G.lvp [0, 1, 3] rfl ?_
        exact j_X11_labelOf_32 hres (by first | assumption | exact q_31 _ | exact q_7 _) (by first | assumption | exact q_31 _ | exact q_7 _) (by first | assumption | exact q_31 _ | exact q_7 _) hmu hk5
def f_X11_labelOf (w : Int64) (labels : Int32) (label : Nat → Int64) : Int32 := (f_X11_labelOf_5 labels label (17) w (-1 : Int32) (0 : Int32))
set_option maxRecDepth 20000 in
theorem k_X11_labelOf {w : Int64} {refusal : Int32} {wheel : Int32} {now : Int32} {length : Int32} {at_ : Int32} {fault : Int32} {faultLine : Int32} {line : Int32} {words : Int32} {labels : Int32} {targets : Int32} {wrong : Int32} {unfit : Int32} {text : Nat → Int32} {code_ : Nat → Int32} {label : Nat → Int64} {labelWord : Nat → Int32} {target : Nat → Int64} {targetWord : Nat → Int32} {targetLine : Nat → Int32} {store : Nat → Int32} {common : Nat → Int32} {low : Nat → Int32} {high : Nat → Int32} {register : Nat → Int32} {address : Nat → Int32} {status : Nat → Int32} {did : Nat → Int32} {ready : Nat → Int32} {timer : Nat → Int32} {trace : Nat → Int32} (hlb : 0 ≤ labels.toInt ∧ labels.toInt ≤ 16) {r_0 : Int32} (hres : r_0 = f_X11_labelOf w labels label) : K M_X11_labelOf yX11_labelOf [.ref 0, .long w] (w_M refusal wheel now length at_ fault faultLine line words labels targets wrong unfit text code_ label labelWord target targetWord targetLine store common low high register address status did ready timer trace) (some (.int r_0)) (w_M refusal wheel now length at_ fault faultLine line words labels targets wrong unfit text code_ label labelWord target targetWord targetLine store common low high register address status did ready timer trace) := by
  refine K.of (lv := [(0, .ref 0), (1, .long w)]) (by decide +kernel) rfl rfl rfl ?_
  rw [f_X11_labelOf] at hres
  refine G.iconst (pc := 0) (v := (-1 : Int32)) dm_X11_labelOf_0 qi_m1 ?_
  refine G.istore_n (pc := 1) (lv1 := [(3, .int (-1 : Int32)), (0, .ref 0), (1, .long w)]) dm_X11_labelOf_1 rfl rfl ?_
  refine G.iconst (pc := 2) (v := (0 : Int32)) dm_X11_labelOf_2 qi_0 ?_
  refine G.istore (pc := 3) (lv1 := [(4, .int (0 : Int32)), (3, .int (-1 : Int32)), (0, .ref 0), (1, .long w)]) dm_X11_labelOf_3 rfl rfl ?_
  refine G.lvp [2, 3, 1, 0] rfl ?_
  exact j_X11_labelOf_5 _ hlb (by decide) (by decide) hres
