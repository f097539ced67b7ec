theorem dm_L_law_0 : decode M_L_law.1 0 = .ok (.new 8, 3) := by decide +kernel
theorem dm_L_law_3 : decode M_L_law.1 3 = .ok (.dup, 1) := by decide +kernel
theorem dm_L_law_4 : decode M_L_law.1 4 = .ok (.aload_n 0, 1) := by decide +kernel
theorem dm_L_law_5 : decode M_L_law.1 5 = .ok (.iconst 0, 1) := by decide +kernel
theorem dm_L_law_6 : decode M_L_law.1 6 = .ok (.invokestatic 23, 3) := by decide +kernel
theorem dm_L_law_9 : decode M_L_law.1 9 = .ok (.invokespecial 29, 3) := by decide +kernel
theorem dm_L_law_12 : decode M_L_law.1 12 = .ok (.astore_n 1, 1) := by decide +kernel
theorem dm_L_law_13 : decode M_L_law.1 13 = .ok (.new 32, 3) := by decide +kernel
theorem dm_L_law_16 : decode M_L_law.1 16 = .ok (.dup, 1) := by decide +kernel
theorem dm_L_law_17 : decode M_L_law.1 17 = .ok (.aload_n 0, 1) := by decide +kernel
theorem dm_L_law_18 : decode M_L_law.1 18 = .ok (.iconst 0, 1) := by decide +kernel
theorem dm_L_law_19 : decode M_L_law.1 19 = .ok (.invokestatic 23, 3) := by decide +kernel
theorem dm_L_law_22 : decode M_L_law.1 22 = .ok (.invokespecial 34, 3) := by decide +kernel
theorem dm_L_law_25 : decode M_L_law.1 25 = .ok (.astore_n 2, 1) := by decide +kernel
theorem dm_L_law_26 : decode M_L_law.1 26 = .ok (.iconst 1, 1) := by decide +kernel
theorem dm_L_law_27 : decode M_L_law.1 27 = .ok (.newarray .long, 2) := by decide +kernel
theorem dm_L_law_29 : decode M_L_law.1 29 = .ok (.astore_n 3, 1) := by decide +kernel
theorem dm_L_law_30 : decode M_L_law.1 30 = .ok (.iconst 1, 1) := by decide +kernel
theorem dm_L_law_31 : decode M_L_law.1 31 = .ok (.istore 4, 2) := by decide +kernel
theorem dm_L_law_33 : decode M_L_law.1 33 = .ok (.iload 4, 2) := by decide +kernel
theorem dm_L_law_35 : decode M_L_law.1 35 = .ok (.aload_n 0, 1) := by decide +kernel
theorem dm_L_law_36 : decode M_L_law.1 36 = .ok (.arraylength, 1) := by decide +kernel
theorem dm_L_law_37 : decode M_L_law.1 37 = .ok (.iconst 4, 1) := by decide +kernel
theorem dm_L_law_38 : decode M_L_law.1 38 = .ok (.isub, 1) := by decide +kernel
theorem dm_L_law_39 : decode M_L_law.1 39 = .ok (.if_icmp .gt 651, 3) := by decide +kernel
theorem dm_L_law_42 : decode M_L_law.1 42 = .ok (.aload_n 0, 1) := by decide +kernel
theorem dm_L_law_43 : decode M_L_law.1 43 = .ok (.iload 4, 2) := by decide +kernel
theorem dm_L_law_45 : decode M_L_law.1 45 = .ok (.iaload, 1) := by decide +kernel
theorem dm_L_law_46 : decode M_L_law.1 46 = .ok (.bipush 15, 2) := by decide +kernel
theorem dm_L_law_48 : decode M_L_law.1 48 = .ok (.iand, 1) := by decide +kernel
theorem dm_L_law_49 : decode M_L_law.1 49 = .ok (.tableswitch 635 0 13 #[71, 171, 184, 252, 277, 314, 363, 388, 437, 474, 499, 512, 549, 586], 71) := by decide +kernel
theorem dm_L_law_120 : decode M_L_law.1 120 = .ok (.aload_n 1, 1) := by decide +kernel
theorem dm_L_law_121 : decode M_L_law.1 121 = .ok (.aload_n 0, 1) := by decide +kernel
theorem dm_L_law_122 : decode M_L_law.1 122 = .ok (.iload 4, 2) := by decide +kernel
theorem dm_L_law_124 : decode M_L_law.1 124 = .ok (.iconst 1, 1) := by decide +kernel
theorem dm_L_law_125 : decode M_L_law.1 125 = .ok (.iadd, 1) := by decide +kernel
theorem dm_L_law_126 : decode M_L_law.1 126 = .ok (.iaload, 1) := by decide +kernel
theorem dm_L_law_127 : decode M_L_law.1 127 = .ok (.i2l, 1) := by decide +kernel
theorem dm_L_law_128 : decode M_L_law.1 128 = .ok (.bipush 32, 2) := by decide +kernel
theorem dm_L_law_130 : decode M_L_law.1 130 = .ok (.lshl, 1) := by decide +kernel
theorem dm_L_law_131 : decode M_L_law.1 131 = .ok (.aload_n 0, 1) := by decide +kernel
theorem dm_L_law_132 : decode M_L_law.1 132 = .ok (.iload 4, 2) := by decide +kernel
theorem dm_L_law_134 : decode M_L_law.1 134 = .ok (.iconst 2, 1) := by decide +kernel
theorem dm_L_law_135 : decode M_L_law.1 135 = .ok (.iadd, 1) := by decide +kernel
theorem dm_L_law_136 : decode M_L_law.1 136 = .ok (.iaload, 1) := by decide +kernel
theorem dm_L_law_137 : decode M_L_law.1 137 = .ok (.i2l, 1) := by decide +kernel
theorem dm_L_law_138 : decode M_L_law.1 138 = .ok (.ldc2_w 35, 3) := by decide +kernel
theorem dm_L_law_141 : decode M_L_law.1 141 = .ok (.land, 1) := by decide +kernel
theorem dm_L_law_142 : decode M_L_law.1 142 = .ok (.lor, 1) := by decide +kernel
theorem dm_L_law_143 : decode M_L_law.1 143 = .ok (.aload_n 0, 1) := by decide +kernel
theorem dm_L_law_144 : decode M_L_law.1 144 = .ok (.iload 4, 2) := by decide +kernel
theorem dm_L_law_146 : decode M_L_law.1 146 = .ok (.iconst 3, 1) := by decide +kernel
theorem dm_L_law_147 : decode M_L_law.1 147 = .ok (.iadd, 1) := by decide +kernel
theorem dm_L_law_148 : decode M_L_law.1 148 = .ok (.iaload, 1) := by decide +kernel
theorem dm_L_law_149 : decode M_L_law.1 149 = .ok (.aload_n 3, 1) := by decide +kernel
theorem dm_L_law_150 : decode M_L_law.1 150 = .ok (.invokestatic 37, 3) := by decide +kernel
theorem dm_L_law_153 : decode M_L_law.1 153 = .ok (.istore 5, 2) := by decide +kernel
theorem dm_L_law_155 : decode M_L_law.1 155 = .ok (.aload_n 2, 1) := by decide +kernel
theorem dm_L_law_156 : decode M_L_law.1 156 = .ok (.aload_n 0, 1) := by decide +kernel
theorem dm_L_law_157 : decode M_L_law.1 157 = .ok (.iload 4, 2) := by decide +kernel
theorem dm_L_law_159 : decode M_L_law.1 159 = .ok (.iconst 1, 1) := by decide +kernel
theorem dm_L_law_160 : decode M_L_law.1 160 = .ok (.iadd, 1) := by decide +kernel
theorem dm_L_law_161 : decode M_L_law.1 161 = .ok (.iaload, 1) := by decide +kernel
theorem dm_L_law_162 : decode M_L_law.1 162 = .ok (.i2l, 1) := by decide +kernel
theorem dm_L_law_163 : decode M_L_law.1 163 = .ok (.bipush 32, 2) := by decide +kernel
theorem dm_L_law_165 : decode M_L_law.1 165 = .ok (.lshl, 1) := by decide +kernel
theorem dm_L_law_166 : decode M_L_law.1 166 = .ok (.aload_n 0, 1) := by decide +kernel
theorem dm_L_law_167 : decode M_L_law.1 167 = .ok (.iload 4, 2) := by decide +kernel
theorem dm_L_law_169 : decode M_L_law.1 169 = .ok (.iconst 2, 1) := by decide +kernel
theorem dm_L_law_170 : decode M_L_law.1 170 = .ok (.iadd, 1) := by decide +kernel
theorem dm_L_law_171 : decode M_L_law.1 171 = .ok (.iaload, 1) := by decide +kernel
theorem dm_L_law_172 : decode M_L_law.1 172 = .ok (.i2l, 1) := by decide +kernel
theorem dm_L_law_173 : decode M_L_law.1 173 = .ok (.ldc2_w 35, 3) := by decide +kernel
theorem dm_L_law_176 : decode M_L_law.1 176 = .ok (.land, 1) := by decide +kernel
theorem dm_L_law_177 : decode M_L_law.1 177 = .ok (.lor, 1) := by decide +kernel
theorem dm_L_law_178 : decode M_L_law.1 178 = .ok (.aload_n 0, 1) := by decide +kernel
theorem dm_L_law_179 : decode M_L_law.1 179 = .ok (.iload 4, 2) := by decide +kernel
theorem dm_L_law_181 : decode M_L_law.1 181 = .ok (.iconst 3, 1) := by decide +kernel
theorem dm_L_law_182 : decode M_L_law.1 182 = .ok (.iadd, 1) := by decide +kernel
theorem dm_L_law_183 : decode M_L_law.1 183 = .ok (.iaload, 1) := by decide +kernel
theorem dm_L_law_184 : decode M_L_law.1 184 = .ok (.invokevirtual 40, 3) := by decide +kernel
theorem dm_L_law_187 : decode M_L_law.1 187 = .ok (.istore 6, 2) := by decide +kernel
theorem dm_L_law_189 : decode M_L_law.1 189 = .ok (.aload_n 2, 1) := by decide +kernel
theorem dm_L_law_190 : decode M_L_law.1 190 = .ok (.invokevirtual 41, 3) := by decide +kernel
theorem dm_L_law_193 : decode M_L_law.1 193 = .ok (.iload 5, 2) := by decide +kernel
theorem dm_L_law_195 : decode M_L_law.1 195 = .ok (.if_icmp .eq 5, 3) := by decide +kernel
theorem dm_L_law_198 : decode M_L_law.1 198 = .ok (.iconst 0, 1) := by decide +kernel
theorem dm_L_law_199 : decode M_L_law.1 199 = .ok (.ireturn, 1) := by decide +kernel
theorem dm_L_law_200 : decode M_L_law.1 200 = .ok (.iload 5, 2) := by decide +kernel
theorem dm_L_law_202 : decode M_L_law.1 202 = .ok (.ifCond .ne 15, 3) := by decide +kernel
theorem dm_L_law_205 : decode M_L_law.1 205 = .ok (.aload_n 3, 1) := by decide +kernel
theorem dm_L_law_206 : decode M_L_law.1 206 = .ok (.iconst 0, 1) := by decide +kernel
theorem dm_L_law_207 : decode M_L_law.1 207 = .ok (.laload, 1) := by decide +kernel
theorem dm_L_law_208 : decode M_L_law.1 208 = .ok (.iload 6, 2) := by decide +kernel
theorem dm_L_law_210 : decode M_L_law.1 210 = .ok (.i2l, 1) := by decide +kernel
theorem dm_L_law_211 : decode M_L_law.1 211 = .ok (.lcmp, 1) := by decide +kernel
theorem dm_L_law_212 : decode M_L_law.1 212 = .ok (.ifCond .eq 5, 3) := by decide +kernel
theorem dm_L_law_215 : decode M_L_law.1 215 = .ok (.iconst 0, 1) := by decide +kernel
theorem dm_L_law_216 : decode M_L_law.1 216 = .ok (.ireturn, 1) := by decide +kernel
theorem dm_L_law_217 : decode M_L_law.1 217 = .ok (.goto 467, 3) := by decide +kernel
theorem dm_L_law_220 : decode M_L_law.1 220 = .ok (.aload_n 1, 1) := by decide +kernel
theorem dm_L_law_221 : decode M_L_law.1 221 = .ok (.invokevirtual 45, 3) := by decide +kernel
theorem dm_L_law_224 : decode M_L_law.1 224 = .ok (.aload_n 2, 1) := by decide +kernel
theorem dm_L_law_225 : decode M_L_law.1 225 = .ok (.invokevirtual 48, 3) := by decide +kernel
theorem dm_L_law_228 : decode M_L_law.1 228 = .ok (.if_icmp .eq 456, 3) := by decide +kernel
theorem dm_L_law_231 : decode M_L_law.1 231 = .ok (.iconst 0, 1) := by decide +kernel
theorem dm_L_law_232 : decode M_L_law.1 232 = .ok (.ireturn, 1) := by decide +kernel
theorem dm_L_law_233 : decode M_L_law.1 233 = .ok (.aload_n 1, 1) := by decide +kernel
theorem dm_L_law_234 : decode M_L_law.1 234 = .ok (.aload_n 0, 1) := by decide +kernel
theorem dm_L_law_235 : decode M_L_law.1 235 = .ok (.iload 4, 2) := by decide +kernel
theorem dm_L_law_237 : decode M_L_law.1 237 = .ok (.iconst 1, 1) := by decide +kernel
theorem dm_L_law_238 : decode M_L_law.1 238 = .ok (.iadd, 1) := by decide +kernel
theorem dm_L_law_239 : decode M_L_law.1 239 = .ok (.iaload, 1) := by decide +kernel
theorem dm_L_law_240 : decode M_L_law.1 240 = .ok (.aload_n 0, 1) := by decide +kernel
theorem dm_L_law_241 : decode M_L_law.1 241 = .ok (.iload 4, 2) := by decide +kernel
theorem dm_L_law_243 : decode M_L_law.1 243 = .ok (.iconst 2, 1) := by decide +kernel
theorem dm_L_law_244 : decode M_L_law.1 244 = .ok (.iadd, 1) := by decide +kernel
theorem dm_L_law_245 : decode M_L_law.1 245 = .ok (.iaload, 1) := by decide +kernel
theorem dm_L_law_246 : decode M_L_law.1 246 = .ok (.aload_n 3, 1) := by decide +kernel
theorem dm_L_law_247 : decode M_L_law.1 247 = .ok (.invokestatic 49, 3) := by decide +kernel
theorem dm_L_law_250 : decode M_L_law.1 250 = .ok (.istore 5, 2) := by decide +kernel
theorem dm_L_law_252 : decode M_L_law.1 252 = .ok (.aload_n 2, 1) := by decide +kernel
theorem dm_L_law_253 : decode M_L_law.1 253 = .ok (.aload_n 0, 1) := by decide +kernel
theorem dm_L_law_254 : decode M_L_law.1 254 = .ok (.iload 4, 2) := by decide +kernel
theorem dm_L_law_256 : decode M_L_law.1 256 = .ok (.iconst 1, 1) := by decide +kernel
theorem dm_L_law_257 : decode M_L_law.1 257 = .ok (.iadd, 1) := by decide +kernel
theorem dm_L_law_258 : decode M_L_law.1 258 = .ok (.iaload, 1) := by decide +kernel
theorem dm_L_law_259 : decode M_L_law.1 259 = .ok (.aload_n 0, 1) := by decide +kernel
theorem dm_L_law_260 : decode M_L_law.1 260 = .ok (.iload 4, 2) := by decide +kernel
theorem dm_L_law_262 : decode M_L_law.1 262 = .ok (.iconst 2, 1) := by decide +kernel
theorem dm_L_law_263 : decode M_L_law.1 263 = .ok (.iadd, 1) := by decide +kernel
theorem dm_L_law_264 : decode M_L_law.1 264 = .ok (.iaload, 1) := by decide +kernel
theorem dm_L_law_265 : decode M_L_law.1 265 = .ok (.invokevirtual 52, 3) := by decide +kernel
theorem dm_L_law_268 : decode M_L_law.1 268 = .ok (.istore 6, 2) := by decide +kernel
theorem dm_L_law_270 : decode M_L_law.1 270 = .ok (.aload_n 2, 1) := by decide +kernel
theorem dm_L_law_271 : decode M_L_law.1 271 = .ok (.invokevirtual 41, 3) := by decide +kernel
theorem dm_L_law_274 : decode M_L_law.1 274 = .ok (.iload 5, 2) := by decide +kernel
theorem dm_L_law_276 : decode M_L_law.1 276 = .ok (.if_icmp .eq 5, 3) := by decide +kernel
theorem dm_L_law_279 : decode M_L_law.1 279 = .ok (.iconst 0, 1) := by decide +kernel
theorem dm_L_law_280 : decode M_L_law.1 280 = .ok (.ireturn, 1) := by decide +kernel
theorem dm_L_law_281 : decode M_L_law.1 281 = .ok (.iload 5, 2) := by decide +kernel
theorem dm_L_law_283 : decode M_L_law.1 283 = .ok (.ifCond .ne 15, 3) := by decide +kernel
theorem dm_L_law_286 : decode M_L_law.1 286 = .ok (.aload_n 3, 1) := by decide +kernel
theorem dm_L_law_287 : decode M_L_law.1 287 = .ok (.iconst 0, 1) := by decide +kernel
theorem dm_L_law_288 : decode M_L_law.1 288 = .ok (.laload, 1) := by decide +kernel
theorem dm_L_law_289 : decode M_L_law.1 289 = .ok (.iload 6, 2) := by decide +kernel
theorem dm_L_law_291 : decode M_L_law.1 291 = .ok (.i2l, 1) := by decide +kernel
theorem dm_L_law_292 : decode M_L_law.1 292 = .ok (.lcmp, 1) := by decide +kernel
theorem dm_L_law_293 : decode M_L_law.1 293 = .ok (.ifCond .eq 5, 3) := by decide +kernel
theorem dm_L_law_296 : decode M_L_law.1 296 = .ok (.iconst 0, 1) := by decide +kernel
theorem dm_L_law_297 : decode M_L_law.1 297 = .ok (.ireturn, 1) := by decide +kernel
theorem dm_L_law_298 : decode M_L_law.1 298 = .ok (.goto 386, 3) := by decide +kernel
theorem dm_L_law_301 : decode M_L_law.1 301 = .ok (.aload_n 1, 1) := by decide +kernel
theorem dm_L_law_302 : decode M_L_law.1 302 = .ok (.aload_n 0, 1) := by decide +kernel
theorem dm_L_law_303 : decode M_L_law.1 303 = .ok (.iload 4, 2) := by decide +kernel
theorem dm_L_law_305 : decode M_L_law.1 305 = .ok (.iconst 1, 1) := by decide +kernel
theorem dm_L_law_306 : decode M_L_law.1 306 = .ok (.iadd, 1) := by decide +kernel
theorem dm_L_law_307 : decode M_L_law.1 307 = .ok (.iaload, 1) := by decide +kernel
theorem dm_L_law_308 : decode M_L_law.1 308 = .ok (.invokevirtual 53, 3) := by decide +kernel
theorem dm_L_law_311 : decode M_L_law.1 311 = .ok (.aload_n 2, 1) := by decide +kernel
theorem dm_L_law_312 : decode M_L_law.1 312 = .ok (.aload_n 0, 1) := by decide +kernel
theorem dm_L_law_313 : decode M_L_law.1 313 = .ok (.iload 4, 2) := by decide +kernel
theorem dm_L_law_315 : decode M_L_law.1 315 = .ok (.iconst 1, 1) := by decide +kernel
theorem dm_L_law_316 : decode M_L_law.1 316 = .ok (.iadd, 1) := by decide +kernel
theorem dm_L_law_317 : decode M_L_law.1 317 = .ok (.iaload, 1) := by decide +kernel
theorem dm_L_law_318 : decode M_L_law.1 318 = .ok (.invokevirtual 57, 3) := by decide +kernel
theorem dm_L_law_321 : decode M_L_law.1 321 = .ok (.if_icmp .eq 363, 3) := by decide +kernel
theorem dm_L_law_324 : decode M_L_law.1 324 = .ok (.iconst 0, 1) := by decide +kernel
theorem dm_L_law_325 : decode M_L_law.1 325 = .ok (.ireturn, 1) := by decide +kernel
theorem dm_L_law_326 : decode M_L_law.1 326 = .ok (.aload_n 1, 1) := by decide +kernel
theorem dm_L_law_327 : decode M_L_law.1 327 = .ok (.aload_n 0, 1) := by decide +kernel
theorem dm_L_law_328 : decode M_L_law.1 328 = .ok (.iload 4, 2) := by decide +kernel
theorem dm_L_law_330 : decode M_L_law.1 330 = .ok (.iconst 1, 1) := by decide +kernel
theorem dm_L_law_331 : decode M_L_law.1 331 = .ok (.iadd, 1) := by decide +kernel
theorem dm_L_law_332 : decode M_L_law.1 332 = .ok (.iaload, 1) := by decide +kernel
theorem dm_L_law_333 : decode M_L_law.1 333 = .ok (.aload_n 0, 1) := by decide +kernel
theorem dm_L_law_334 : decode M_L_law.1 334 = .ok (.iload 4, 2) := by decide +kernel
theorem dm_L_law_336 : decode M_L_law.1 336 = .ok (.iconst 2, 1) := by decide +kernel
theorem dm_L_law_337 : decode M_L_law.1 337 = .ok (.iadd, 1) := by decide +kernel
theorem dm_L_law_338 : decode M_L_law.1 338 = .ok (.iaload, 1) := by decide +kernel
theorem dm_L_law_339 : decode M_L_law.1 339 = .ok (.invokevirtual 58, 3) := by decide +kernel
theorem dm_L_law_342 : decode M_L_law.1 342 = .ok (.aload_n 2, 1) := by decide +kernel
theorem dm_L_law_343 : decode M_L_law.1 343 = .ok (.aload_n 0, 1) := by decide +kernel
theorem dm_L_law_344 : decode M_L_law.1 344 = .ok (.iload 4, 2) := by decide +kernel
theorem dm_L_law_346 : decode M_L_law.1 346 = .ok (.iconst 1, 1) := by decide +kernel
theorem dm_L_law_347 : decode M_L_law.1 347 = .ok (.iadd, 1) := by decide +kernel
theorem dm_L_law_348 : decode M_L_law.1 348 = .ok (.iaload, 1) := by decide +kernel
theorem dm_L_law_349 : decode M_L_law.1 349 = .ok (.aload_n 0, 1) := by decide +kernel
theorem dm_L_law_350 : decode M_L_law.1 350 = .ok (.iload 4, 2) := by decide +kernel
theorem dm_L_law_352 : decode M_L_law.1 352 = .ok (.iconst 2, 1) := by decide +kernel
theorem dm_L_law_353 : decode M_L_law.1 353 = .ok (.iadd, 1) := by decide +kernel
theorem dm_L_law_354 : decode M_L_law.1 354 = .ok (.iaload, 1) := by decide +kernel
theorem dm_L_law_355 : decode M_L_law.1 355 = .ok (.invokevirtual 61, 3) := by decide +kernel
theorem dm_L_law_358 : decode M_L_law.1 358 = .ok (.if_icmp .eq 326, 3) := by decide +kernel
theorem dm_L_law_361 : decode M_L_law.1 361 = .ok (.iconst 0, 1) := by decide +kernel
theorem dm_L_law_362 : decode M_L_law.1 362 = .ok (.ireturn, 1) := by decide +kernel
theorem dm_L_law_363 : decode M_L_law.1 363 = .ok (.aload_n 1, 1) := by decide +kernel
theorem dm_L_law_364 : decode M_L_law.1 364 = .ok (.aload_n 0, 1) := by decide +kernel
theorem dm_L_law_365 : decode M_L_law.1 365 = .ok (.iload 4, 2) := by decide +kernel
theorem dm_L_law_367 : decode M_L_law.1 367 = .ok (.iconst 1, 1) := by decide +kernel
theorem dm_L_law_368 : decode M_L_law.1 368 = .ok (.iadd, 1) := by decide +kernel
theorem dm_L_law_369 : decode M_L_law.1 369 = .ok (.iaload, 1) := by decide +kernel
theorem dm_L_law_370 : decode M_L_law.1 370 = .ok (.aload_n 0, 1) := by decide +kernel
theorem dm_L_law_371 : decode M_L_law.1 371 = .ok (.iload 4, 2) := by decide +kernel
theorem dm_L_law_373 : decode M_L_law.1 373 = .ok (.iconst 2, 1) := by decide +kernel
theorem dm_L_law_374 : decode M_L_law.1 374 = .ok (.iadd, 1) := by decide +kernel
theorem dm_L_law_375 : decode M_L_law.1 375 = .ok (.iaload, 1) := by decide +kernel
theorem dm_L_law_376 : decode M_L_law.1 376 = .ok (.aload_n 0, 1) := by decide +kernel
theorem dm_L_law_377 : decode M_L_law.1 377 = .ok (.iload 4, 2) := by decide +kernel
theorem dm_L_law_379 : decode M_L_law.1 379 = .ok (.iconst 3, 1) := by decide +kernel
theorem dm_L_law_380 : decode M_L_law.1 380 = .ok (.iadd, 1) := by decide +kernel
theorem dm_L_law_381 : decode M_L_law.1 381 = .ok (.iaload, 1) := by decide +kernel
theorem dm_L_law_382 : decode M_L_law.1 382 = .ok (.invokevirtual 62, 3) := by decide +kernel
theorem dm_L_law_385 : decode M_L_law.1 385 = .ok (.aload_n 2, 1) := by decide +kernel
theorem dm_L_law_386 : decode M_L_law.1 386 = .ok (.aload_n 0, 1) := by decide +kernel
theorem dm_L_law_387 : decode M_L_law.1 387 = .ok (.iload 4, 2) := by decide +kernel
theorem dm_L_law_389 : decode M_L_law.1 389 = .ok (.iconst 1, 1) := by decide +kernel
theorem dm_L_law_390 : decode M_L_law.1 390 = .ok (.iadd, 1) := by decide +kernel
theorem dm_L_law_391 : decode M_L_law.1 391 = .ok (.iaload, 1) := by decide +kernel
theorem dm_L_law_392 : decode M_L_law.1 392 = .ok (.aload_n 0, 1) := by decide +kernel
theorem dm_L_law_393 : decode M_L_law.1 393 = .ok (.iload 4, 2) := by decide +kernel
theorem dm_L_law_395 : decode M_L_law.1 395 = .ok (.iconst 2, 1) := by decide +kernel
theorem dm_L_law_396 : decode M_L_law.1 396 = .ok (.iadd, 1) := by decide +kernel
theorem dm_L_law_397 : decode M_L_law.1 397 = .ok (.iaload, 1) := by decide +kernel
theorem dm_L_law_398 : decode M_L_law.1 398 = .ok (.aload_n 0, 1) := by decide +kernel
theorem dm_L_law_399 : decode M_L_law.1 399 = .ok (.iload 4, 2) := by decide +kernel
theorem dm_L_law_401 : decode M_L_law.1 401 = .ok (.iconst 3, 1) := by decide +kernel
theorem dm_L_law_402 : decode M_L_law.1 402 = .ok (.iadd, 1) := by decide +kernel
theorem dm_L_law_403 : decode M_L_law.1 403 = .ok (.iaload, 1) := by decide +kernel
theorem dm_L_law_404 : decode M_L_law.1 404 = .ok (.invokevirtual 66, 3) := by decide +kernel
theorem dm_L_law_407 : decode M_L_law.1 407 = .ok (.if_icmp .eq 277, 3) := by decide +kernel
theorem dm_L_law_410 : decode M_L_law.1 410 = .ok (.iconst 0, 1) := by decide +kernel
theorem dm_L_law_411 : decode M_L_law.1 411 = .ok (.ireturn, 1) := by decide +kernel
theorem dm_L_law_412 : decode M_L_law.1 412 = .ok (.aload_n 1, 1) := by decide +kernel
theorem dm_L_law_413 : decode M_L_law.1 413 = .ok (.aload_n 0, 1) := by decide +kernel
theorem dm_L_law_414 : decode M_L_law.1 414 = .ok (.iload 4, 2) := by decide +kernel
theorem dm_L_law_416 : decode M_L_law.1 416 = .ok (.iconst 1, 1) := by decide +kernel
theorem dm_L_law_417 : decode M_L_law.1 417 = .ok (.iadd, 1) := by decide +kernel
theorem dm_L_law_418 : decode M_L_law.1 418 = .ok (.iaload, 1) := by decide +kernel
theorem dm_L_law_419 : decode M_L_law.1 419 = .ok (.invokevirtual 67, 3) := by decide +kernel
theorem dm_L_law_422 : decode M_L_law.1 422 = .ok (.aload_n 2, 1) := by decide +kernel
theorem dm_L_law_423 : decode M_L_law.1 423 = .ok (.aload_n 0, 1) := by decide +kernel
theorem dm_L_law_424 : decode M_L_law.1 424 = .ok (.iload 4, 2) := by decide +kernel
theorem dm_L_law_426 : decode M_L_law.1 426 = .ok (.iconst 1, 1) := by decide +kernel
theorem dm_L_law_427 : decode M_L_law.1 427 = .ok (.iadd, 1) := by decide +kernel
theorem dm_L_law_428 : decode M_L_law.1 428 = .ok (.iaload, 1) := by decide +kernel
theorem dm_L_law_429 : decode M_L_law.1 429 = .ok (.invokevirtual 70, 3) := by decide +kernel
theorem dm_L_law_432 : decode M_L_law.1 432 = .ok (.if_icmp .eq 252, 3) := by decide +kernel
theorem dm_L_law_435 : decode M_L_law.1 435 = .ok (.iconst 0, 1) := by decide +kernel
theorem dm_L_law_436 : decode M_L_law.1 436 = .ok (.ireturn, 1) := by decide +kernel
theorem dm_L_law_437 : decode M_L_law.1 437 = .ok (.aload_n 1, 1) := by decide +kernel
theorem dm_L_law_438 : decode M_L_law.1 438 = .ok (.aload_n 0, 1) := by decide +kernel
theorem dm_L_law_439 : decode M_L_law.1 439 = .ok (.iload 4, 2) := by decide +kernel
theorem dm_L_law_441 : decode M_L_law.1 441 = .ok (.iconst 1, 1) := by decide +kernel
theorem dm_L_law_442 : decode M_L_law.1 442 = .ok (.iadd, 1) := by decide +kernel
theorem dm_L_law_443 : decode M_L_law.1 443 = .ok (.iaload, 1) := by decide +kernel
theorem dm_L_law_444 : decode M_L_law.1 444 = .ok (.aload_n 0, 1) := by decide +kernel
theorem dm_L_law_445 : decode M_L_law.1 445 = .ok (.iload 4, 2) := by decide +kernel
theorem dm_L_law_447 : decode M_L_law.1 447 = .ok (.iconst 2, 1) := by decide +kernel
theorem dm_L_law_448 : decode M_L_law.1 448 = .ok (.iadd, 1) := by decide +kernel
theorem dm_L_law_449 : decode M_L_law.1 449 = .ok (.iaload, 1) := by decide +kernel
theorem dm_L_law_450 : decode M_L_law.1 450 = .ok (.aload_n 0, 1) := by decide +kernel
theorem dm_L_law_451 : decode M_L_law.1 451 = .ok (.iload 4, 2) := by decide +kernel
theorem dm_L_law_453 : decode M_L_law.1 453 = .ok (.iconst 3, 1) := by decide +kernel
theorem dm_L_law_454 : decode M_L_law.1 454 = .ok (.iadd, 1) := by decide +kernel
theorem dm_L_law_455 : decode M_L_law.1 455 = .ok (.iaload, 1) := by decide +kernel
theorem dm_L_law_456 : decode M_L_law.1 456 = .ok (.invokevirtual 71, 3) := by decide +kernel
theorem dm_L_law_459 : decode M_L_law.1 459 = .ok (.aload_n 2, 1) := by decide +kernel
theorem dm_L_law_460 : decode M_L_law.1 460 = .ok (.aload_n 0, 1) := by decide +kernel
theorem dm_L_law_461 : decode M_L_law.1 461 = .ok (.iload 4, 2) := by decide +kernel
theorem dm_L_law_463 : decode M_L_law.1 463 = .ok (.iconst 1, 1) := by decide +kernel
theorem dm_L_law_464 : decode M_L_law.1 464 = .ok (.iadd, 1) := by decide +kernel
theorem dm_L_law_465 : decode M_L_law.1 465 = .ok (.iaload, 1) := by decide +kernel
theorem dm_L_law_466 : decode M_L_law.1 466 = .ok (.aload_n 0, 1) := by decide +kernel
theorem dm_L_law_467 : decode M_L_law.1 467 = .ok (.iload 4, 2) := by decide +kernel
theorem dm_L_law_469 : decode M_L_law.1 469 = .ok (.iconst 2, 1) := by decide +kernel
theorem dm_L_law_470 : decode M_L_law.1 470 = .ok (.iadd, 1) := by decide +kernel
theorem dm_L_law_471 : decode M_L_law.1 471 = .ok (.iaload, 1) := by decide +kernel
theorem dm_L_law_472 : decode M_L_law.1 472 = .ok (.aload_n 0, 1) := by decide +kernel
theorem dm_L_law_473 : decode M_L_law.1 473 = .ok (.iload 4, 2) := by decide +kernel
theorem dm_L_law_475 : decode M_L_law.1 475 = .ok (.iconst 3, 1) := by decide +kernel
theorem dm_L_law_476 : decode M_L_law.1 476 = .ok (.iadd, 1) := by decide +kernel
theorem dm_L_law_477 : decode M_L_law.1 477 = .ok (.iaload, 1) := by decide +kernel
theorem dm_L_law_478 : decode M_L_law.1 478 = .ok (.invokevirtual 74, 3) := by decide +kernel
theorem dm_L_law_481 : decode M_L_law.1 481 = .ok (.if_icmp .eq 203, 3) := by decide +kernel
theorem dm_L_law_484 : decode M_L_law.1 484 = .ok (.iconst 0, 1) := by decide +kernel
theorem dm_L_law_485 : decode M_L_law.1 485 = .ok (.ireturn, 1) := by decide +kernel
theorem dm_L_law_486 : decode M_L_law.1 486 = .ok (.aload_n 1, 1) := by decide +kernel
theorem dm_L_law_487 : decode M_L_law.1 487 = .ok (.aload_n 0, 1) := by decide +kernel
theorem dm_L_law_488 : decode M_L_law.1 488 = .ok (.iload 4, 2) := by decide +kernel
theorem dm_L_law_490 : decode M_L_law.1 490 = .ok (.iconst 1, 1) := by decide +kernel
theorem dm_L_law_491 : decode M_L_law.1 491 = .ok (.iadd, 1) := by decide +kernel
theorem dm_L_law_492 : decode M_L_law.1 492 = .ok (.iaload, 1) := by decide +kernel
theorem dm_L_law_493 : decode M_L_law.1 493 = .ok (.aload_n 0, 1) := by decide +kernel
theorem dm_L_law_494 : decode M_L_law.1 494 = .ok (.iload 4, 2) := by decide +kernel
theorem dm_L_law_496 : decode M_L_law.1 496 = .ok (.iconst 2, 1) := by decide +kernel
theorem dm_L_law_497 : decode M_L_law.1 497 = .ok (.iadd, 1) := by decide +kernel
theorem dm_L_law_498 : decode M_L_law.1 498 = .ok (.iaload, 1) := by decide +kernel
theorem dm_L_law_499 : decode M_L_law.1 499 = .ok (.invokevirtual 75, 3) := by decide +kernel
theorem dm_L_law_502 : decode M_L_law.1 502 = .ok (.aload_n 2, 1) := by decide +kernel
theorem dm_L_law_503 : decode M_L_law.1 503 = .ok (.aload_n 0, 1) := by decide +kernel
theorem dm_L_law_504 : decode M_L_law.1 504 = .ok (.iload 4, 2) := by decide +kernel
theorem dm_L_law_506 : decode M_L_law.1 506 = .ok (.iconst 1, 1) := by decide +kernel
theorem dm_L_law_507 : decode M_L_law.1 507 = .ok (.iadd, 1) := by decide +kernel
theorem dm_L_law_508 : decode M_L_law.1 508 = .ok (.iaload, 1) := by decide +kernel
theorem dm_L_law_509 : decode M_L_law.1 509 = .ok (.aload_n 0, 1) := by decide +kernel
theorem dm_L_law_510 : decode M_L_law.1 510 = .ok (.iload 4, 2) := by decide +kernel
theorem dm_L_law_512 : decode M_L_law.1 512 = .ok (.iconst 2, 1) := by decide +kernel
theorem dm_L_law_513 : decode M_L_law.1 513 = .ok (.iadd, 1) := by decide +kernel
theorem dm_L_law_514 : decode M_L_law.1 514 = .ok (.iaload, 1) := by decide +kernel
theorem dm_L_law_515 : decode M_L_law.1 515 = .ok (.invokevirtual 79, 3) := by decide +kernel
theorem dm_L_law_518 : decode M_L_law.1 518 = .ok (.if_icmp .eq 166, 3) := by decide +kernel
theorem dm_L_law_521 : decode M_L_law.1 521 = .ok (.iconst 0, 1) := by decide +kernel
theorem dm_L_law_522 : decode M_L_law.1 522 = .ok (.ireturn, 1) := by decide +kernel
theorem dm_L_law_523 : decode M_L_law.1 523 = .ok (.aload_n 1, 1) := by decide +kernel
theorem dm_L_law_524 : decode M_L_law.1 524 = .ok (.aload_n 0, 1) := by decide +kernel
theorem dm_L_law_525 : decode M_L_law.1 525 = .ok (.iload 4, 2) := by decide +kernel
theorem dm_L_law_527 : decode M_L_law.1 527 = .ok (.iconst 1, 1) := by decide +kernel
theorem dm_L_law_528 : decode M_L_law.1 528 = .ok (.iadd, 1) := by decide +kernel
theorem dm_L_law_529 : decode M_L_law.1 529 = .ok (.iaload, 1) := by decide +kernel
theorem dm_L_law_530 : decode M_L_law.1 530 = .ok (.invokevirtual 80, 3) := by decide +kernel
theorem dm_L_law_533 : decode M_L_law.1 533 = .ok (.aload_n 2, 1) := by decide +kernel
theorem dm_L_law_534 : decode M_L_law.1 534 = .ok (.aload_n 0, 1) := by decide +kernel
theorem dm_L_law_535 : decode M_L_law.1 535 = .ok (.iload 4, 2) := by decide +kernel
theorem dm_L_law_537 : decode M_L_law.1 537 = .ok (.iconst 1, 1) := by decide +kernel
theorem dm_L_law_538 : decode M_L_law.1 538 = .ok (.iadd, 1) := by decide +kernel
theorem dm_L_law_539 : decode M_L_law.1 539 = .ok (.iaload, 1) := by decide +kernel
theorem dm_L_law_540 : decode M_L_law.1 540 = .ok (.invokevirtual 83, 3) := by decide +kernel
theorem dm_L_law_543 : decode M_L_law.1 543 = .ok (.if_icmp .eq 141, 3) := by decide +kernel
theorem dm_L_law_546 : decode M_L_law.1 546 = .ok (.iconst 0, 1) := by decide +kernel
theorem dm_L_law_547 : decode M_L_law.1 547 = .ok (.ireturn, 1) := by decide +kernel
theorem dm_L_law_548 : decode M_L_law.1 548 = .ok (.aload_n 1, 1) := by decide +kernel
theorem dm_L_law_549 : decode M_L_law.1 549 = .ok (.invokevirtual 84, 3) := by decide +kernel
theorem dm_L_law_552 : decode M_L_law.1 552 = .ok (.aload_n 2, 1) := by decide +kernel
theorem dm_L_law_553 : decode M_L_law.1 553 = .ok (.invokevirtual 87, 3) := by decide +kernel
theorem dm_L_law_556 : decode M_L_law.1 556 = .ok (.if_icmp .eq 128, 3) := by decide +kernel
theorem dm_L_law_559 : decode M_L_law.1 559 = .ok (.iconst 0, 1) := by decide +kernel
theorem dm_L_law_560 : decode M_L_law.1 560 = .ok (.ireturn, 1) := by decide +kernel
theorem dm_L_law_561 : decode M_L_law.1 561 = .ok (.aload_n 1, 1) := by decide +kernel
theorem dm_L_law_562 : decode M_L_law.1 562 = .ok (.aload_n 0, 1) := by decide +kernel
theorem dm_L_law_563 : decode M_L_law.1 563 = .ok (.iload 4, 2) := by decide +kernel
theorem dm_L_law_565 : decode M_L_law.1 565 = .ok (.iconst 1, 1) := by decide +kernel
theorem dm_L_law_566 : decode M_L_law.1 566 = .ok (.iadd, 1) := by decide +kernel
theorem dm_L_law_567 : decode M_L_law.1 567 = .ok (.iaload, 1) := by decide +kernel
theorem dm_L_law_568 : decode M_L_law.1 568 = .ok (.aload_n 0, 1) := by decide +kernel
theorem dm_L_law_569 : decode M_L_law.1 569 = .ok (.iload 4, 2) := by decide +kernel
theorem dm_L_law_571 : decode M_L_law.1 571 = .ok (.iconst 2, 1) := by decide +kernel
theorem dm_L_law_572 : decode M_L_law.1 572 = .ok (.iadd, 1) := by decide +kernel
theorem dm_L_law_573 : decode M_L_law.1 573 = .ok (.iaload, 1) := by decide +kernel
theorem dm_L_law_574 : decode M_L_law.1 574 = .ok (.invokevirtual 88, 3) := by decide +kernel
theorem dm_L_law_577 : decode M_L_law.1 577 = .ok (.aload_n 2, 1) := by decide +kernel
theorem dm_L_law_578 : decode M_L_law.1 578 = .ok (.aload_n 0, 1) := by decide +kernel
theorem dm_L_law_579 : decode M_L_law.1 579 = .ok (.iload 4, 2) := by decide +kernel
theorem dm_L_law_581 : decode M_L_law.1 581 = .ok (.iconst 1, 1) := by decide +kernel
theorem dm_L_law_582 : decode M_L_law.1 582 = .ok (.iadd, 1) := by decide +kernel
theorem dm_L_law_583 : decode M_L_law.1 583 = .ok (.iaload, 1) := by decide +kernel
theorem dm_L_law_584 : decode M_L_law.1 584 = .ok (.aload_n 0, 1) := by decide +kernel
theorem dm_L_law_585 : decode M_L_law.1 585 = .ok (.iload 4, 2) := by decide +kernel
theorem dm_L_law_587 : decode M_L_law.1 587 = .ok (.iconst 2, 1) := by decide +kernel
theorem dm_L_law_588 : decode M_L_law.1 588 = .ok (.iadd, 1) := by decide +kernel
theorem dm_L_law_589 : decode M_L_law.1 589 = .ok (.iaload, 1) := by decide +kernel
theorem dm_L_law_590 : decode M_L_law.1 590 = .ok (.invokevirtual 91, 3) := by decide +kernel
theorem dm_L_law_593 : decode M_L_law.1 593 = .ok (.if_icmp .eq 91, 3) := by decide +kernel
theorem dm_L_law_596 : decode M_L_law.1 596 = .ok (.iconst 0, 1) := by decide +kernel
theorem dm_L_law_597 : decode M_L_law.1 597 = .ok (.ireturn, 1) := by decide +kernel
theorem dm_L_law_598 : decode M_L_law.1 598 = .ok (.aload_n 1, 1) := by decide +kernel
theorem dm_L_law_599 : decode M_L_law.1 599 = .ok (.aload_n 0, 1) := by decide +kernel
theorem dm_L_law_600 : decode M_L_law.1 600 = .ok (.iload 4, 2) := by decide +kernel
theorem dm_L_law_602 : decode M_L_law.1 602 = .ok (.iconst 1, 1) := by decide +kernel
theorem dm_L_law_603 : decode M_L_law.1 603 = .ok (.iadd, 1) := by decide +kernel
theorem dm_L_law_604 : decode M_L_law.1 604 = .ok (.iaload, 1) := by decide +kernel
theorem dm_L_law_605 : decode M_L_law.1 605 = .ok (.aload_n 0, 1) := by decide +kernel
theorem dm_L_law_606 : decode M_L_law.1 606 = .ok (.iload 4, 2) := by decide +kernel
theorem dm_L_law_608 : decode M_L_law.1 608 = .ok (.iconst 2, 1) := by decide +kernel
theorem dm_L_law_609 : decode M_L_law.1 609 = .ok (.iadd, 1) := by decide +kernel
theorem dm_L_law_610 : decode M_L_law.1 610 = .ok (.iaload, 1) := by decide +kernel
theorem dm_L_law_611 : decode M_L_law.1 611 = .ok (.invokevirtual 92, 3) := by decide +kernel
theorem dm_L_law_614 : decode M_L_law.1 614 = .ok (.aload_n 2, 1) := by decide +kernel
theorem dm_L_law_615 : decode M_L_law.1 615 = .ok (.aload_n 0, 1) := by decide +kernel
theorem dm_L_law_616 : decode M_L_law.1 616 = .ok (.iload 4, 2) := by decide +kernel
theorem dm_L_law_618 : decode M_L_law.1 618 = .ok (.iconst 1, 1) := by decide +kernel
theorem dm_L_law_619 : decode M_L_law.1 619 = .ok (.iadd, 1) := by decide +kernel
theorem dm_L_law_620 : decode M_L_law.1 620 = .ok (.iaload, 1) := by decide +kernel
theorem dm_L_law_621 : decode M_L_law.1 621 = .ok (.aload_n 0, 1) := by decide +kernel
theorem dm_L_law_622 : decode M_L_law.1 622 = .ok (.iload 4, 2) := by decide +kernel
theorem dm_L_law_624 : decode M_L_law.1 624 = .ok (.iconst 2, 1) := by decide +kernel
theorem dm_L_law_625 : decode M_L_law.1 625 = .ok (.iadd, 1) := by decide +kernel
theorem dm_L_law_626 : decode M_L_law.1 626 = .ok (.iaload, 1) := by decide +kernel
theorem dm_L_law_627 : decode M_L_law.1 627 = .ok (.invokevirtual 95, 3) := by decide +kernel
theorem dm_L_law_630 : decode M_L_law.1 630 = .ok (.if_icmp .eq 54, 3) := by decide +kernel
theorem dm_L_law_633 : decode M_L_law.1 633 = .ok (.iconst 0, 1) := by decide +kernel
theorem dm_L_law_634 : decode M_L_law.1 634 = .ok (.ireturn, 1) := by decide +kernel
theorem dm_L_law_635 : decode M_L_law.1 635 = .ok (.aload_n 1, 1) := by decide +kernel
theorem dm_L_law_636 : decode M_L_law.1 636 = .ok (.aload_n 0, 1) := by decide +kernel
theorem dm_L_law_637 : decode M_L_law.1 637 = .ok (.iload 4, 2) := by decide +kernel
theorem dm_L_law_639 : decode M_L_law.1 639 = .ok (.iconst 1, 1) := by decide +kernel
theorem dm_L_law_640 : decode M_L_law.1 640 = .ok (.iadd, 1) := by decide +kernel
theorem dm_L_law_641 : decode M_L_law.1 641 = .ok (.iaload, 1) := by decide +kernel
theorem dm_L_law_642 : decode M_L_law.1 642 = .ok (.aload_n 0, 1) := by decide +kernel
theorem dm_L_law_643 : decode M_L_law.1 643 = .ok (.iload 4, 2) := by decide +kernel
theorem dm_L_law_645 : decode M_L_law.1 645 = .ok (.iconst 2, 1) := by decide +kernel
theorem dm_L_law_646 : decode M_L_law.1 646 = .ok (.iadd, 1) := by decide +kernel
theorem dm_L_law_647 : decode M_L_law.1 647 = .ok (.iaload, 1) := by decide +kernel
theorem dm_L_law_648 : decode M_L_law.1 648 = .ok (.aload_n 0, 1) := by decide +kernel
theorem dm_L_law_649 : decode M_L_law.1 649 = .ok (.iload 4, 2) := by decide +kernel
theorem dm_L_law_651 : decode M_L_law.1 651 = .ok (.iconst 3, 1) := by decide +kernel
theorem dm_L_law_652 : decode M_L_law.1 652 = .ok (.iadd, 1) := by decide +kernel
theorem dm_L_law_653 : decode M_L_law.1 653 = .ok (.iaload, 1) := by decide +kernel
theorem dm_L_law_654 : decode M_L_law.1 654 = .ok (.invokevirtual 96, 3) := by decide +kernel
theorem dm_L_law_657 : decode M_L_law.1 657 = .ok (.aload_n 2, 1) := by decide +kernel
theorem dm_L_law_658 : decode M_L_law.1 658 = .ok (.aload_n 0, 1) := by decide +kernel
theorem dm_L_law_659 : decode M_L_law.1 659 = .ok (.iload 4, 2) := by decide +kernel
theorem dm_L_law_661 : decode M_L_law.1 661 = .ok (.iconst 1, 1) := by decide +kernel
theorem dm_L_law_662 : decode M_L_law.1 662 = .ok (.iadd, 1) := by decide +kernel
theorem dm_L_law_663 : decode M_L_law.1 663 = .ok (.iaload, 1) := by decide +kernel
theorem dm_L_law_664 : decode M_L_law.1 664 = .ok (.aload_n 0, 1) := by decide +kernel
theorem dm_L_law_665 : decode M_L_law.1 665 = .ok (.iload 4, 2) := by decide +kernel
theorem dm_L_law_667 : decode M_L_law.1 667 = .ok (.iconst 2, 1) := by decide +kernel
theorem dm_L_law_668 : decode M_L_law.1 668 = .ok (.iadd, 1) := by decide +kernel
theorem dm_L_law_669 : decode M_L_law.1 669 = .ok (.iaload, 1) := by decide +kernel
theorem dm_L_law_670 : decode M_L_law.1 670 = .ok (.aload_n 0, 1) := by decide +kernel
theorem dm_L_law_671 : decode M_L_law.1 671 = .ok (.iload 4, 2) := by decide +kernel
theorem dm_L_law_673 : decode M_L_law.1 673 = .ok (.iconst 3, 1) := by decide +kernel
theorem dm_L_law_674 : decode M_L_law.1 674 = .ok (.iadd, 1) := by decide +kernel
theorem dm_L_law_675 : decode M_L_law.1 675 = .ok (.iaload, 1) := by decide +kernel
theorem dm_L_law_676 : decode M_L_law.1 676 = .ok (.invokevirtual 100, 3) := by decide +kernel
theorem dm_L_law_679 : decode M_L_law.1 679 = .ok (.if_icmp .eq 5, 3) := by decide +kernel
theorem dm_L_law_682 : decode M_L_law.1 682 = .ok (.iconst 0, 1) := by decide +kernel
theorem dm_L_law_683 : decode M_L_law.1 683 = .ok (.ireturn, 1) := by decide +kernel
theorem dm_L_law_684 : decode M_L_law.1 684 = .ok (.iinc 4 4, 3) := by decide +kernel
theorem dm_L_law_687 : decode M_L_law.1 687 = .ok (.goto (-654), 3) := by decide +kernel
theorem dm_L_law_690 : decode M_L_law.1 690 = .ok (.iconst 1, 1) := by decide +kernel
theorem dm_L_law_691 : decode M_L_law.1 691 = .ok (.ireturn, 1) := by decide +kernel
theorem gc_L_law_40 : g_cv M_L_law 40 M_X11_type yX11_type 2 := ⟨tw148, tw149, tw150, tw5, tw151, ⟨rfl, rfl, rfl, rfl⟩, gd_X11_type, ⟨by decide, by decide⟩⟩
theorem gc_L_law_41 : g_cv M_L_law 41 M_X11_thrown yX11_thrown 0 := ⟨tw161, tw162, tw163, tw5, tw164, ⟨rfl, rfl, rfl, rfl⟩, gd_X11_thrown, ⟨by decide, by decide⟩⟩
theorem gc_L_law_45 : g_cv M_L_law 45 M_X10_clear yX10_clear 0 := ⟨tw165, tw166, tw167, tw2, tw168, ⟨rfl, rfl, rfl, rfl⟩, gd_X10_clear, ⟨by decide, by decide⟩⟩
theorem gc_L_law_48 : g_cv M_L_law 48 M_X11_clear yX11_clear 0 := ⟨tw169, tw170, tw171, tw5, tw172, ⟨rfl, rfl, rfl, rfl⟩, gd_X11_clear, ⟨by decide, by decide⟩⟩
theorem gc_L_law_52 : g_cv M_L_law 52 M_X11_assemble yX11_assemble 2 := ⟨tw400, tw401, tw402, tw5, tw403, ⟨rfl, rfl, rfl, rfl⟩, gd_X11_assemble, ⟨by decide, by decide⟩⟩
theorem gc_L_law_53 : g_cv M_L_law 53 M_X10_fault yX10_fault 1 := ⟨tw541, tw542, tw543, tw2, tw544, ⟨rfl, rfl, rfl, rfl⟩, gd_X10_fault, ⟨by decide, by decide⟩⟩
theorem gc_L_law_57 : g_cv M_L_law 57 M_X11_fault yX11_fault 1 := ⟨tw546, tw547, tw548, tw5, tw549, ⟨rfl, rfl, rfl, rfl⟩, gd_X11_fault, ⟨by decide, by decide⟩⟩
theorem gc_L_law_58 : g_cv M_L_law 58 M_X10_peek yX10_peek 2 := ⟨tw550, tw551, tw552, tw2, tw553, ⟨rfl, rfl, rfl, rfl⟩, gd_X10_peek, ⟨by decide, by decide⟩⟩
theorem gc_L_law_61 : g_cv M_L_law 61 M_X11_peek yX11_peek 2 := ⟨tw554, tw555, tw556, tw5, tw557, ⟨rfl, rfl, rfl, rfl⟩, gd_X11_peek, ⟨by decide, by decide⟩⟩
theorem gc_L_law_62 : g_cv M_L_law 62 M_X10_poke yX10_poke 3 := ⟨tw558, tw559, tw560, tw2, tw561, ⟨rfl, rfl, rfl, rfl⟩, gd_X10_poke, ⟨by decide, by decide⟩⟩
theorem gc_L_law_66 : g_cv M_L_law 66 M_X11_poke yX11_poke 3 := ⟨tw562, tw563, tw564, tw5, tw565, ⟨rfl, rfl, rfl, rfl⟩, gd_X11_poke, ⟨by decide, by decide⟩⟩
theorem gc_L_law_67 : g_cv M_L_law 67 M_X10_shared yX10_shared 1 := ⟨tw566, tw567, tw568, tw2, tw569, ⟨rfl, rfl, rfl, rfl⟩, gd_X10_shared, ⟨by decide, by decide⟩⟩
theorem gc_L_law_70 : g_cv M_L_law 70 M_X11_shared yX11_shared 1 := ⟨tw571, tw572, tw573, tw5, tw574, ⟨rfl, rfl, rfl, rfl⟩, gd_X11_shared, ⟨by decide, by decide⟩⟩
theorem gc_L_law_71 : g_cv M_L_law 71 M_X10_part yX10_part 3 := ⟨tw575, tw576, tw577, tw2, tw578, ⟨rfl, rfl, rfl, rfl⟩, gd_X10_part, ⟨by decide, by decide⟩⟩
theorem gc_L_law_74 : g_cv M_L_law 74 M_X11_part yX11_part 3 := ⟨tw581, tw582, tw583, tw5, tw584, ⟨rfl, rfl, rfl, rfl⟩, gd_X11_part, ⟨by decide, by decide⟩⟩
theorem gc_L_law_75 : g_cv M_L_law 75 M_X10_start yX10_start 2 := ⟨tw585, tw586, tw587, tw2, tw588, ⟨rfl, rfl, rfl, rfl⟩, gd_X10_start, ⟨by decide, by decide⟩⟩
theorem gc_L_law_79 : g_cv M_L_law 79 M_X11_start yX11_start 2 := ⟨tw596, tw597, tw598, tw5, tw599, ⟨rfl, rfl, rfl, rfl⟩, gd_X11_start, ⟨by decide, by decide⟩⟩
theorem gc_L_law_80 : g_cv M_L_law 80 M_X10_run yX10_run 1 := ⟨tw601, tw602, tw603, tw2, tw604, ⟨rfl, rfl, rfl, rfl⟩, gd_X10_run, ⟨by decide, by decide⟩⟩
theorem gc_L_law_83 : g_cv M_L_law 83 M_X11_run yX11_run 1 := ⟨tw762, tw763, tw764, tw5, tw765, ⟨rfl, rfl, rfl, rfl⟩, gd_X11_run, ⟨by decide, by decide⟩⟩
theorem gc_L_law_84 : g_cv M_L_law 84 M_X10_now yX10_now 0 := ⟨tw833, tw834, tw835, tw2, tw836, ⟨rfl, rfl, rfl, rfl⟩, gd_X10_now, ⟨by decide, by decide⟩⟩
theorem gc_L_law_87 : g_cv M_L_law 87 M_X11_now yX11_now 0 := ⟨tw837, tw838, tw839, tw5, tw840, ⟨rfl, rfl, rfl, rfl⟩, gd_X11_now, ⟨by decide, by decide⟩⟩
theorem gc_L_law_88 : g_cv M_L_law 88 M_X10_register yX10_register 2 := ⟨tw841, tw842, tw843, tw2, tw844, ⟨rfl, rfl, rfl, rfl⟩, gd_X10_register, ⟨by decide, by decide⟩⟩
theorem gc_L_law_91 : g_cv M_L_law 91 M_X11_register yX11_register 2 := ⟨tw847, tw848, tw849, tw5, tw850, ⟨rfl, rfl, rfl, rfl⟩, gd_X11_register, ⟨by decide, by decide⟩⟩
theorem gc_L_law_92 : g_cv M_L_law 92 M_X10_state yX10_state 2 := ⟨tw851, tw852, tw853, tw2, tw854, ⟨rfl, rfl, rfl, rfl⟩, gd_X10_state, ⟨by decide, by decide⟩⟩
theorem gc_L_law_95 : g_cv M_L_law 95 M_X11_state yX11_state 2 := ⟨tw860, tw861, tw862, tw5, tw863, ⟨rfl, rfl, rfl, rfl⟩, gd_X11_state, ⟨by decide, by decide⟩⟩
theorem gc_L_law_96 : g_cv M_L_law 96 M_X10_trace yX10_trace 3 := ⟨tw864, tw865, tw866, tw2, tw867, ⟨rfl, rfl, rfl, rfl⟩, gd_X10_trace, ⟨by decide, by decide⟩⟩
theorem gc_L_law_100 : g_cv M_L_law 100 M_X11_trace yX11_trace 3 := ⟨tw873, tw874, tw875, tw5, tw876, ⟨rfl, rfl, rfl, rfl⟩, gd_X11_trace, ⟨by decide, by decide⟩⟩
theorem gc_L_law_23 : g_cs M_L_law 23 M_L_cell yL_cell 2 := ⟨tw8, tw9, tw10, tw11, ⟨rfl, rfl, rfl, rfl⟩, gd_L_cell, ⟨by decide, by decide⟩⟩
theorem ge_L_law_37 : g_ce M_L_law 37 M_L_type [(0, 11, 14, 13), (0, 11, 18, 15)] yL_type 4 := ⟨tw122, tw123, tw10, tw124, ⟨rfl, rfl⟩, gd_L_type, ⟨by decide, by decide⟩⟩
theorem ge_L_law_49 : g_ce M_L_law 49 M_L_assemble [(0, 10, 13, 21), (0, 10, 17, 13)] yL_assemble 4 := ⟨tw173, tw174, tw10, tw175, ⟨rfl, rfl⟩, gd_L_assemble, ⟨by decide, by decide⟩⟩
theorem nd48 : va_nd (List.range 48) = true := by decide
theorem nd68 : va_nd (List.range 68) = true := by decide
theorem ndM : (va_nd (g_iB 48 19) && Nat.ble (g_iB 48 19).length 1000) = true := by decide
def gBn (it : Nat) (length wheel now : Int32) (low high did : Nat → Int32) (kinds : Nat → Int32) : Prop := (0 ≤ length.toInt ∧ length.toInt ≤ 400) ∧ (1 ≤ wheel.toInt ∧ wheel.toInt ≤ 8) ∧ (0 ≤ now.toInt ∧ now.toInt ≤ 2000 * it) ∧ (∀ j, j < 4 → 0 ≤ (low j).toInt ∧ (low j).toInt ≤ (high j).toInt ∧ (high j).toInt ≤ 64) ∧ (∀ j, j < 4 → 0 ≤ (did j).toInt ∧ (did j).toInt ≤ now.toInt) ∧ q_ch kinds
theorem gBn.up {it : Nat} {length wheel now : Int32} {low high did : Nat → Int32} {kinds : Nat → Int32} (h : gBn it length wheel now low high did kinds) : gBn (it + 1) length wheel now low high did kinds := ⟨h.1, h.2.1, ⟨h.2.2.1.1, by have := h.2.2.1.2; omega⟩, h.2.2.2⟩
/-- from this place of the law, whatever the two hold so far, it comes to its end with true */ -/
def gLP (L : Nat) (xs : Nat → Int32) (it k n pc : Nat) (i : Int32) : Prop := ∀ (refusal : Int32) (wheel : Int32) (now : Int32) (length : Int32) (at_ : Int32) (fault : Int32) (faultLine : Int32) (line : Int32) (words : Int32) (labels : Int32) (targets : Int32) (wrong : Int32) (unfit : Int32) (text : Nat → Int32) (code_ : Nat → Int32) (label : Nat → Int64) (labelWord : Nat → Int32) (target : Nat → Int64) (targetWord : Nat → Int32) (targetLine : Nat → Int32) (store : Nat → Int32) (common : Nat → Int32) (low : Nat → Int32) (high : Nat → Int32) (register : Nat → Int32) (address : Nat → Int32) (status : Nat → Int32) (did : Nat → Int32) (ready : Nat → Int32) (timer : Nat → Int32) (trace : Nat → Int32) (xnext : Nat → Int32) (xret : Nat → Int32) (acount : Int32) (aat : Int32) (alabel : Int64) (ahas : Int32) (aword : Int32) (atarget : Int64) (amal : Int32) (amis : Int32) (awords : Nat → Int32) (atargets : Nat → Int64) (alines : Nat → Int32) (lcount : Int32) (lkeys : Nat → Int64) (lplaces : Nat → Int32) (kcount : Int32) (kat : Int32) (kinds : Nat → Int32) (kvals : Nat → Int64) (out : Nat → Int64), gBn it length wheel now low high did kinds → GX (g_gd (g_PL L xs) g_QL) M_L_law k n pc [(4, .int i), (0, .ref 2000), (1, .ref 0), (2, .ref 48), (3, .ref 67)] [] ((w_C now wheel common low high (fun j => Int32.ofNat j) status address ready xnext xret (V2 16 register) (V2 128 store) did (V3 0 trace) (V3 1 trace) (V3 2 trace) (V2 4 timer) length text acount fault faultLine aat alabel ahas aword atarget amal amis awords atargets alines lcount lkeys lplaces kcount kat kinds kvals) ++ ((w_M refusal wheel now length at_ fault faultLine line words labels targets wrong unfit text code_ label labelWord target targetWord targetLine store common low high register address status did ready timer trace).map (g_re (g_iB 48 19)) ++ [.inl (2, 1, .inr (.inl out))]))
theorem q_bleK {k m : Nat} (h : k ≤ m) : Nat.ble k m = true := Nat.ble_eq_true_of_le h
theorem q_sc {i j : Int32} {L : Nat} (hi : 1 ≤ i.toInt ∧ i.toInt + 4 ≤ L) (hL : L ≤ 2049) (hj : 0 ≤ j.toInt ∧ j.toInt ≤ 3) : vp_in (i + j) L := by
  have h1 : (i + j).toInt = i.toInt + j.toInt := q_add (by omega) (by omega)
  exact q_in (by omega) (by omega)
theorem b_part {t a b z0 z1 : Int32} {low high z2 z3 : Nat → Int32} (hz : (z0, z1, z2, z3) = f_X11_part t a b low high) (h : ∀ j, j < 4 → 0 ≤ (low j).toInt ∧ (low j).toInt ≤ (high j).toInt ∧ (high j).toInt ≤ 64) : ∀ j, j < 4 → 0 ≤ (z2 j).toInt ∧ (z2 j).toInt ≤ (z3 j).toInt ∧ (z3 j).toInt ≤ 64 := by
  unfold f_X11_part at hz
  by_cases h1 : t < 0
  · rw [if_pos h1] at hz
    cases hz
    exact h
  · rw [if_neg h1] at hz
    by_cases h2 : (3 : Int32) < t
    · rw [if_pos h2] at hz
      cases hz
      exact h
    · rw [if_neg h2] at hz
      by_cases h3 : a < 0
      · rw [if_pos h3] at hz
        cases hz
        exact h
      · rw [if_neg h3] at hz
        by_cases h4 : b < a
        · rw [if_pos h4] at hz
          cases hz
          exact h
        · rw [if_neg h4] at hz
          by_cases h5 : b ≤ 64
          · rw [if_pos h5] at hz
            cases hz
            intro j hj
            rw [upd_at, upd_at]
            by_cases h6 : j = Int32.toNatClampNeg t
            · rw [if_pos h6, if_pos h6]
              have g1 := q_nlt h3
              have g2 := q_nlt h4
              have g3 := q_le h5
              have e1 := e_64
              have e2 := e_0
              omega
            · rw [if_neg h6, if_neg h6]
              exact h j hj
          · rw [if_neg h5] at hz
            cases hz
            exact h
set_option maxRecDepth 20000 in
theorem law_clear {L : Nat} {xs : Nat → Int32} {it k n : Nat} {i : Int32} (hL : L ≤ 2049) (hi : 1 ≤ i.toInt ∧ i.toInt + 4 ≤ L) (hk : k ≤ 600000) (hn : n ≤ 7000000) (hit : it ≤ 512) (nxt : ∀ k1 n1 : Nat, k1 ≤ k + 1 → n1 ≤ n + 6 → gLP L xs (it + 1) k1 n1 684 i) : gLP L xs it k n 220 i := by
  intro refusal wheel now length at_ fault faultLine line words labels targets wrong unfit text code_ label labelWord target targetWord targetLine store common low high register address status did ready timer trace xnext xret acount aat alabel ahas aword atarget amal amis awords atargets alines lcount lkeys lplaces kcount kat kinds kvals out hB
  refine G.aload_n (pc := 220) dm_L_law_220 rfl ?_
  obtain ⟨z0, z1, z2, hz⟩ := g_ex3 (f_X11_clear length)
  have hc : (z0, z2) = f_X10_clear length := by rw [e_clear, ← hz]
  have e0 : z2 = 0 := congrArg (fun q => q.2.2) hz
  subst e0
  refine G.callVp (pc := 221) (n9 := 48) (rest := []) (st1 := [.int z0]) nd48 rfl rfl rfl dm_L_law_221 gc_L_law_45 (k_X10_clear  hc) rfl rfl rfl rfl (q_bleK (show k ≤ 601024 by omega)) (q_bleK (show n ≤ 7293000 by omega)) rfl rfl ?_
  refine G.aload_n (pc := 224) dm_L_law_224 rfl ?_
  refine G.callVm (pc := 225) (n9 := 48) (k9 := 19) (rest := [.int z0]) (st1 := [.int z0, .int z0]) ndM rfl rfl rfl dm_L_law_225 gc_L_law_48 (k_X11_clear  hz) rfl rfl rfl rfl (q_bleK (show k ≤ 601024 by omega)) (q_bleK (show n ≤ 7293000 by omega)) rfl rfl ?_
  refine G.icmp_eq (pc := 228) (tgt := 684) dm_L_law_228 (by decide) (fun _ => ?_) (fun c => absurd rfl c)
  exact nxt k n (by omega) (by omega) _ _ _ _ _ _ _ _ _ _ _ _ _ _ _ _ _ _ _ _ _ _ _ _ _ _ _ _ _ _ _ _ _ _ _ _ _ _ _ _ _ _ _ _ _ _ _ _ _ _ _ _ ⟨by decide, hB.up.2⟩
set_option maxRecDepth 20000 in
theorem law_fault {L : Nat} {xs : Nat → Int32} {it k n : Nat} {i : Int32} (hL : L ≤ 2049) (hi : 1 ≤ i.toInt ∧ i.toInt + 4 ≤ L) (hk : k ≤ 600000) (hn : n ≤ 7000000) (hit : it ≤ 512) (nxt : ∀ k1 n1 : Nat, k1 ≤ k + 1 → n1 ≤ n + 6 → gLP L xs (it + 1) k1 n1 684 i) : gLP L xs it k n 301 i := by
  intro refusal wheel now length at_ fault faultLine line words labels targets wrong unfit text code_ label labelWord target targetWord targetLine store common low high register address status did ready timer trace xnext xret acount aat alabel ahas aword atarget amal amis awords atargets alines lcount lkeys lplaces kcount kat kinds kvals out hB
  refine G.aload_n (pc := 301) dm_L_law_301 rfl ?_
  refine G.aload_n (pc := 302) dm_L_law_302 rfl ?_
  refine G.iload (pc := 303) dm_L_law_303 rfl ?_
  refine G.iconst (pc := 305) (v := (1 : Int32)) dm_L_law_305 qi_1 ?_
  refine G.iadd (pc := 306) dm_L_law_306 ?_
  refine G.sld (pc := 307) (g_PL_s L xs) dm_L_law_307 (q_sc hi hL (by decide)) ?_
  obtain ⟨z0, z1, hz⟩ := g_ex2 (f_X11_fault (xs (Int32.toNatClampNeg (i + (1 : Int32)))) fault faultLine)
  have hc : z0 = f_X10_fault (xs (Int32.toNatClampNeg (i + (1 : Int32)))) fault faultLine := by rw [e_fault, ← hz]
  refine G.callVp (pc := 308) (n9 := 48) (rest := []) (st1 := [.int z0]) nd48 rfl rfl rfl dm_L_law_308 gc_L_law_53 (k_X10_fault (what := (xs (Int32.toNatClampNeg (i + (1 : Int32))))) hc) rfl rfl rfl rfl (q_bleK (show k ≤ 601024 by omega)) (q_bleK (show n ≤ 7293000 by omega)) rfl rfl ?_
  refine G.aload_n (pc := 311) dm_L_law_311 rfl ?_
  refine G.aload_n (pc := 312) dm_L_law_312 rfl ?_
  refine G.iload (pc := 313) dm_L_law_313 rfl ?_
  refine G.iconst (pc := 315) (v := (1 : Int32)) dm_L_law_315 qi_1 ?_
  refine G.iadd (pc := 316) dm_L_law_316 ?_
  refine G.sld (pc := 317) (g_PL_s L xs) dm_L_law_317 (q_sc hi hL (by decide)) ?_
  refine G.callVm (pc := 318) (n9 := 48) (k9 := 19) (rest := [.int z0]) (st1 := [.int z0, .int z0]) ndM rfl rfl rfl dm_L_law_318 gc_L_law_57 (k_X11_fault (what := (xs (Int32.toNatClampNeg (i + (1 : Int32))))) hz) rfl rfl rfl rfl (q_bleK (show k ≤ 601024 by omega)) (q_bleK (show n ≤ 7293000 by omega)) rfl rfl ?_
  refine G.icmp_eq (pc := 321) (tgt := 684) dm_L_law_321 (by decide) (fun _ => ?_) (fun c => absurd rfl c)
  exact nxt k n (by omega) (by omega) _ _ _ _ _ _ _ _ _ _ _ _ _ _ _ _ _ _ _ _ _ _ _ _ _ _ _ _ _ _ _ _ _ _ _ _ _ _ _ _ _ _ _ _ _ _ _ _ _ _ _ _ hB.up
set_option maxRecDepth 20000 in
theorem law_peek {L : Nat} {xs : Nat → Int32} {it k n : Nat} {i : Int32} (hL : L ≤ 2049) (hi : 1 ≤ i.toInt ∧ i.toInt + 4 ≤ L) (hk : k ≤ 600000) (hn : n ≤ 7000000) (hit : it ≤ 512) (nxt : ∀ k1 n1 : Nat, k1 ≤ k + 1 → n1 ≤ n + 6 → gLP L xs (it + 1) k1 n1 684 i) : gLP L xs it k n 326 i := by
  intro refusal wheel now length at_ fault faultLine line words labels targets wrong unfit text code_ label labelWord target targetWord targetLine store common low high register address status did ready timer trace xnext xret acount aat alabel ahas aword atarget amal amis awords atargets alines lcount lkeys lplaces kcount kat kinds kvals out hB
  refine G.aload_n (pc := 326) dm_L_law_326 rfl ?_
  refine G.aload_n (pc := 327) dm_L_law_327 rfl ?_
  refine G.iload (pc := 328) dm_L_law_328 rfl ?_
  refine G.iconst (pc := 330) (v := (1 : Int32)) dm_L_law_330 qi_1 ?_
  refine G.iadd (pc := 331) dm_L_law_331 ?_
  refine G.sld (pc := 332) (g_PL_s L xs) dm_L_law_332 (q_sc hi hL (by decide)) ?_
  refine G.aload_n (pc := 333) dm_L_law_333 rfl ?_
  refine G.iload (pc := 334) dm_L_law_334 rfl ?_
  refine G.iconst (pc := 336) (v := (2 : Int32)) dm_L_law_336 qi_2 ?_
  refine G.iadd (pc := 337) dm_L_law_337 ?_
  refine G.sld (pc := 338) (g_PL_s L xs) dm_L_law_338 (q_sc hi hL (by decide)) ?_
  obtain ⟨z0, z1, hz⟩ := g_ex2 (f_X11_peek (xs (Int32.toNatClampNeg (i + (1 : Int32)))) (xs (Int32.toNatClampNeg (i + (2 : Int32)))) store)
  have hc : z0 = f_X10_peek (xs (Int32.toNatClampNeg (i + (1 : Int32)))) (xs (Int32.toNatClampNeg (i + (2 : Int32)))) (V2 128 store) := by rw [e_peek, ← hz]
  refine G.callVp (pc := 339) (n9 := 48) (rest := []) (st1 := [.int z0]) nd48 rfl rfl rfl dm_L_law_339 gc_L_law_58 (k_X10_peek (thread := (xs (Int32.toNatClampNeg (i + (1 : Int32))))) (word := (xs (Int32.toNatClampNeg (i + (2 : Int32))))) hc) rfl rfl rfl rfl (q_bleK (show k ≤ 601024 by omega)) (q_bleK (show n ≤ 7293000 by omega)) rfl rfl ?_
  refine G.aload_n (pc := 342) dm_L_law_342 rfl ?_
  refine G.aload_n (pc := 343) dm_L_law_343 rfl ?_
  refine G.iload (pc := 344) dm_L_law_344 rfl ?_
  refine G.iconst (pc := 346) (v := (1 : Int32)) dm_L_law_346 qi_1 ?_
  refine G.iadd (pc := 347) dm_L_law_347 ?_
  refine G.sld (pc := 348) (g_PL_s L xs) dm_L_law_348 (q_sc hi hL (by decide)) ?_
  refine G.aload_n (pc := 349) dm_L_law_349 rfl ?_
  refine G.iload (pc := 350) dm_L_law_350 rfl ?_
  refine G.iconst (pc := 352) (v := (2 : Int32)) dm_L_law_352 qi_2 ?_
  refine G.iadd (pc := 353) dm_L_law_353 ?_
  refine G.sld (pc := 354) (g_PL_s L xs) dm_L_law_354 (q_sc hi hL (by decide)) ?_
  refine G.callVm (pc := 355) (n9 := 48) (k9 := 19) (rest := [.int z0]) (st1 := [.int z0, .int z0]) ndM rfl rfl rfl dm_L_law_355 gc_L_law_61 (k_X11_peek (t := (xs (Int32.toNatClampNeg (i + (1 : Int32))))) (w := (xs (Int32.toNatClampNeg (i + (2 : Int32))))) hz) rfl rfl rfl rfl (q_bleK (show k ≤ 601024 by omega)) (q_bleK (show n ≤ 7293000 by omega)) rfl rfl ?_
  refine G.icmp_eq (pc := 358) (tgt := 684) dm_L_law_358 (by decide) (fun _ => ?_) (fun c => absurd rfl c)
  exact nxt k n (by omega) (by omega) _ _ _ _ _ _ _ _ _ _ _ _ _ _ _ _ _ _ _ _ _ _ _ _ _ _ _ _ _ _ _ _ _ _ _ _ _ _ _ _ _ _ _ _ _ _ _ _ _ _ _ _ hB.up
set_option maxRecDepth 20000 in
theorem law_poke {L : Nat} {xs : Nat → Int32} {it k n : Nat} {i : Int32} (hL : L ≤ 2049) (hi : 1 ≤ i.toInt ∧ i.toInt + 4 ≤ L) (hk : k ≤ 600000) (hn : n ≤ 7000000) (hit : it ≤ 512) (nxt : ∀ k1 n1 : Nat, k1 ≤ k + 1 → n1 ≤ n + 6 → gLP L xs (it + 1) k1 n1 684 i) : gLP L xs it k n 363 i := by
  intro refusal wheel now length at_ fault faultLine line words labels targets wrong unfit text code_ label labelWord target targetWord targetLine store common low high register address status did ready timer trace xnext xret acount aat alabel ahas aword atarget amal amis awords atargets alines lcount lkeys lplaces kcount kat kinds kvals out hB
  refine G.aload_n (pc := 363) dm_L_law_363 rfl ?_
  refine G.aload_n (pc := 364) dm_L_law_364 rfl ?_
  refine G.iload (pc := 365) dm_L_law_365 rfl ?_
  refine G.iconst (pc := 367) (v := (1 : Int32)) dm_L_law_367 qi_1 ?_
  refine G.iadd (pc := 368) dm_L_law_368 ?_
  refine G.sld (pc := 369) (g_PL_s L xs) dm_L_law_369 (q_sc hi hL (by decide)) ?_
  refine G.aload_n (pc := 370) dm_L_law_370 rfl ?_
  refine G.iload (pc := 371) dm_L_law_371 rfl ?_
  refine G.iconst (pc := 373) (v := (2 : Int32)) dm_L_law_373 qi_2 ?_
  refine G.iadd (pc := 374) dm_L_law_374 ?_
  refine G.sld (pc := 375) (g_PL_s L xs) dm_L_law_375 (q_sc hi hL (by decide)) ?_
  refine G.aload_n (pc := 376) dm_L_law_376 rfl ?_
  refine G.iload (pc := 377) dm_L_law_377 rfl ?_
  refine G.iconst (pc := 379) (v := (3 : Int32)) dm_L_law_379 qi_3 ?_
  refine G.iadd (pc := 380) dm_L_law_380 ?_
  refine G.sld (pc := 381) (g_PL_s L xs) dm_L_law_381 (q_sc hi hL (by decide)) ?_
  obtain ⟨z0, z1, z2, hz⟩ := g_ex3 (f_X11_poke (xs (Int32.toNatClampNeg (i + (1 : Int32)))) (xs (Int32.toNatClampNeg (i + (2 : Int32)))) (xs (Int32.toNatClampNeg (i + (3 : Int32)))) store)
  have hc : (z0, V2 128 z2) = f_X10_poke (xs (Int32.toNatClampNeg (i + (1 : Int32)))) (xs (Int32.toNatClampNeg (i + (2 : Int32)))) (xs (Int32.toNatClampNeg (i + (3 : Int32)))) (V2 128 store) := by rw [e_poke, ← hz]
  refine G.callVp (pc := 382) (n9 := 48) (rest := []) (st1 := [.int z0]) nd48 rfl rfl rfl dm_L_law_382 gc_L_law_62 (k_X10_poke (thread := (xs (Int32.toNatClampNeg (i + (1 : Int32))))) (word := (xs (Int32.toNatClampNeg (i + (2 : Int32))))) (value := (xs (Int32.toNatClampNeg (i + (3 : Int32))))) hc) rfl rfl rfl rfl (q_bleK (show k ≤ 601024 by omega)) (q_bleK (show n ≤ 7293000 by omega)) rfl rfl ?_
  refine G.aload_n (pc := 385) dm_L_law_385 rfl ?_
  refine G.aload_n (pc := 386) dm_L_law_386 rfl ?_
  refine G.iload (pc := 387) dm_L_law_387 rfl ?_
  refine G.iconst (pc := 389) (v := (1 : Int32)) dm_L_law_389 qi_1 ?_
  refine G.iadd (pc := 390) dm_L_law_390 ?_
  refine G.sld (pc := 391) (g_PL_s L xs) dm_L_law_391 (q_sc hi hL (by decide)) ?_
  refine G.aload_n (pc := 392) dm_L_law_392 rfl ?_
  refine G.iload (pc := 393) dm_L_law_393 rfl ?_
  refine G.iconst (pc := 395) (v := (2 : Int32)) dm_L_law_395 qi_2 ?_
  refine G.iadd (pc := 396) dm_L_law_396 ?_
  refine G.sld (pc := 397) (g_PL_s L xs) dm_L_law_397 (q_sc hi hL (by decide)) ?_
  refine G.aload_n (pc := 398) dm_L_law_398 rfl ?_
  refine G.iload (pc := 399) dm_L_law_399 rfl ?_
  refine G.iconst (pc := 401) (v := (3 : Int32)) dm_L_law_401 qi_3 ?_
  refine G.iadd (pc := 402) dm_L_law_402 ?_
  refine G.sld (pc := 403) (g_PL_s L xs) dm_L_law_403 (q_sc hi hL (by decide)) ?_
  refine G.callVm (pc := 404) (n9 := 48) (k9 := 19) (rest := [.int z0]) (st1 := [.int z0, .int z0]) ndM rfl rfl rfl dm_L_law_404 gc_L_law_66 (k_X11_poke (t := (xs (Int32.toNatClampNeg (i + (1 : Int32))))) (w := (xs (Int32.toNatClampNeg (i + (2 : Int32))))) (v := (xs (Int32.toNatClampNeg (i + (3 : Int32))))) hz) rfl rfl rfl rfl (q_bleK (show k ≤ 601024 by omega)) (q_bleK (show n ≤ 7293000 by omega)) rfl rfl ?_
  refine G.icmp_eq (pc := 407) (tgt := 684) dm_L_law_407 (by decide) (fun _ => ?_) (fun c => absurd rfl c)
  exact nxt k n (by omega) (by omega) _ _ _ _ _ _ _ _ _ _ _ _ _ _ _ _ _ _ _ _ _ _ _ _ _ _ _ _ _ _ _ _ _ _ _ _ _ _ _ _ _ _ _ _ _ _ _ _ _ _ _ _ hB.up
set_option maxRecDepth 20000 in
theorem law_shared {L : Nat} {xs : Nat → Int32} {it k n : Nat} {i : Int32} (hL : L ≤ 2049) (hi : 1 ≤ i.toInt ∧ i.toInt + 4 ≤ L) (hk : k ≤ 600000) (hn : n ≤ 7000000) (hit : it ≤ 512) (nxt : ∀ k1 n1 : Nat, k1 ≤ k + 1 → n1 ≤ n + 6 → gLP L xs (it + 1) k1 n1 684 i) : gLP L xs it k n 412 i := by
  intro refusal wheel now length at_ fault faultLine line words labels targets wrong unfit text code_ label labelWord target targetWord targetLine store common low high register address status did ready timer trace xnext xret acount aat alabel ahas aword atarget amal amis awords atargets alines lcount lkeys lplaces kcount kat kinds kvals out hB
  refine G.aload_n (pc := 412) dm_L_law_412 rfl ?_
  refine G.aload_n (pc := 413) dm_L_law_413 rfl ?_
  refine G.iload (pc := 414) dm_L_law_414 rfl ?_
  refine G.iconst (pc := 416) (v := (1 : Int32)) dm_L_law_416 qi_1 ?_
  refine G.iadd (pc := 417) dm_L_law_417 ?_
  refine G.sld (pc := 418) (g_PL_s L xs) dm_L_law_418 (q_sc hi hL (by decide)) ?_
  obtain ⟨z0, z1, hz⟩ := g_ex2 (f_X11_shared (xs (Int32.toNatClampNeg (i + (1 : Int32)))) common)
  have hc : z0 = f_X10_shared (xs (Int32.toNatClampNeg (i + (1 : Int32)))) common := by rw [e_shared, ← hz]
  refine G.callVp (pc := 419) (n9 := 48) (rest := []) (st1 := [.int z0]) nd48 rfl rfl rfl dm_L_law_419 gc_L_law_67 (k_X10_shared (word := (xs (Int32.toNatClampNeg (i + (1 : Int32))))) hc) rfl rfl rfl rfl (q_bleK (show k ≤ 601024 by omega)) (q_bleK (show n ≤ 7293000 by omega)) rfl rfl ?_
  refine G.aload_n (pc := 422) dm_L_law_422 rfl ?_
  refine G.aload_n (pc := 423) dm_L_law_423 rfl ?_
  refine G.iload (pc := 424) dm_L_law_424 rfl ?_
  refine G.iconst (pc := 426) (v := (1 : Int32)) dm_L_law_426 qi_1 ?_
  refine G.iadd (pc := 427) dm_L_law_427 ?_
  refine G.sld (pc := 428) (g_PL_s L xs) dm_L_law_428 (q_sc hi hL (by decide)) ?_
  refine G.callVm (pc := 429) (n9 := 48) (k9 := 19) (rest := [.int z0]) (st1 := [.int z0, .int z0]) ndM rfl rfl rfl dm_L_law_429 gc_L_law_70 (k_X11_shared (w := (xs (Int32.toNatClampNeg (i + (1 : Int32))))) hz) rfl rfl rfl rfl (q_bleK (show k ≤ 601024 by omega)) (q_bleK (show n ≤ 7293000 by omega)) rfl rfl ?_
  refine G.icmp_eq (pc := 432) (tgt := 684) dm_L_law_432 (by decide) (fun _ => ?_) (fun c => absurd rfl c)
  exact nxt k n (by omega) (by omega) _ _ _ _ _ _ _ _ _ _ _ _ _ _ _ _ _ _ _ _ _ _ _ _ _ _ _ _ _ _ _ _ _ _ _ _ _ _ _ _ _ _ _ _ _ _ _ _ _ _ _ _ hB.up
set_option maxRecDepth 20000 in
theorem law_part {L : Nat} {xs : Nat → Int32} {it k n : Nat} {i : Int32} (hL : L ≤ 2049) (hi : 1 ≤ i.toInt ∧ i.toInt + 4 ≤ L) (hk : k ≤ 600000) (hn : n ≤ 7000000) (hit : it ≤ 512) (nxt : ∀ k1 n1 : Nat, k1 ≤ k + 1 → n1 ≤ n + 6 → gLP L xs (it + 1) k1 n1 684 i) : gLP L xs it k n 437 i := by
  intro refusal wheel now length at_ fault faultLine line words labels targets wrong unfit text code_ label labelWord target targetWord targetLine store common low high register address status did ready timer trace xnext xret acount aat alabel ahas aword atarget amal amis awords atargets alines lcount lkeys lplaces kcount kat kinds kvals out hB
  refine G.aload_n (pc := 437) dm_L_law_437 rfl ?_
  refine G.aload_n (pc := 438) dm_L_law_438 rfl ?_
  refine G.iload (pc := 439) dm_L_law_439 rfl ?_
  refine G.iconst (pc := 441) (v := (1 : Int32)) dm_L_law_441 qi_1 ?_
  refine G.iadd (pc := 442) dm_L_law_442 ?_
  refine G.sld (pc := 443) (g_PL_s L xs) dm_L_law_443 (q_sc hi hL (by decide)) ?_
  refine G.aload_n (pc := 444) dm_L_law_444 rfl ?_
  refine G.iload (pc := 445) dm_L_law_445 rfl ?_
  refine G.iconst (pc := 447) (v := (2 : Int32)) dm_L_law_447 qi_2 ?_
  refine G.iadd (pc := 448) dm_L_law_448 ?_
  refine G.sld (pc := 449) (g_PL_s L xs) dm_L_law_449 (q_sc hi hL (by decide)) ?_
  refine G.aload_n (pc := 450) dm_L_law_450 rfl ?_
  refine G.iload (pc := 451) dm_L_law_451 rfl ?_
  refine G.iconst (pc := 453) (v := (3 : Int32)) dm_L_law_453 qi_3 ?_
  refine G.iadd (pc := 454) dm_L_law_454 ?_
  refine G.sld (pc := 455) (g_PL_s L xs) dm_L_law_455 (q_sc hi hL (by decide)) ?_
  obtain ⟨z0, z1, z2, z3, hz⟩ := g_ex4 (f_X11_part (xs (Int32.toNatClampNeg (i + (1 : Int32)))) (xs (Int32.toNatClampNeg (i + (2 : Int32)))) (xs (Int32.toNatClampNeg (i + (3 : Int32)))) low high)
  have hc : (z0, z2, z3) = f_X10_part (xs (Int32.toNatClampNeg (i + (1 : Int32)))) (xs (Int32.toNatClampNeg (i + (2 : Int32)))) (xs (Int32.toNatClampNeg (i + (3 : Int32)))) low high := by rw [e_part, ← hz]
  refine G.callVp (pc := 456) (n9 := 48) (rest := []) (st1 := [.int z0]) nd48 rfl rfl rfl dm_L_law_456 gc_L_law_71 (k_X10_part (thread := (xs (Int32.toNatClampNeg (i + (1 : Int32))))) (low := (xs (Int32.toNatClampNeg (i + (2 : Int32))))) (high := (xs (Int32.toNatClampNeg (i + (3 : Int32))))) hc) rfl rfl rfl rfl (q_bleK (show k ≤ 601024 by omega)) (q_bleK (show n ≤ 7293000 by omega)) rfl rfl ?_
  refine G.aload_n (pc := 459) dm_L_law_459 rfl ?_
  refine G.aload_n (pc := 460) dm_L_law_460 rfl ?_
  refine G.iload (pc := 461) dm_L_law_461 rfl ?_
  refine G.iconst (pc := 463) (v := (1 : Int32)) dm_L_law_463 qi_1 ?_
  refine G.iadd (pc := 464) dm_L_law_464 ?_
  refine G.sld (pc := 465) (g_PL_s L xs) dm_L_law_465 (q_sc hi hL (by decide)) ?_
  refine G.aload_n (pc := 466) dm_L_law_466 rfl ?_
  refine G.iload (pc := 467) dm_L_law_467 rfl ?_
  refine G.iconst (pc := 469) (v := (2 : Int32)) dm_L_law_469 qi_2 ?_
  refine G.iadd (pc := 470) dm_L_law_470 ?_
  refine G.sld (pc := 471) (g_PL_s L xs) dm_L_law_471 (q_sc hi hL (by decide)) ?_
  refine G.aload_n (pc := 472) dm_L_law_472 rfl ?_
  refine G.iload (pc := 473) dm_L_law_473 rfl ?_
  refine G.iconst (pc := 475) (v := (3 : Int32)) dm_L_law_475 qi_3 ?_
  refine G.iadd (pc := 476) dm_L_law_476 ?_
  refine G.sld (pc := 477) (g_PL_s L xs) dm_L_law_477 (q_sc hi hL (by decide)) ?_
  refine G.callVm (pc := 478) (n9 := 48) (k9 := 19) (rest := [.int z0]) (st1 := [.int z0, .int z0]) ndM rfl rfl rfl dm_L_law_478 gc_L_law_74 (k_X11_part (t := (xs (Int32.toNatClampNeg (i + (1 : Int32))))) (from_ := (xs (Int32.toNatClampNeg (i + (2 : Int32))))) (to_ := (xs (Int32.toNatClampNeg (i + (3 : Int32))))) hz) rfl rfl rfl rfl (q_bleK (show k ≤ 601024 by omega)) (q_bleK (show n ≤ 7293000 by omega)) rfl rfl ?_
  refine G.icmp_eq (pc := 481) (tgt := 684) dm_L_law_481 (by decide) (fun _ => ?_) (fun c => absurd rfl c)
  exact nxt k n (by omega) (by omega) _ _ _ _ _ _ _ _ _ _ _ _ _ _ _ _ _ _ _ _ _ _ _ _ _ _ _ _ _ _ _ _ _ _ _ _ _ _ _ _ _ _ _ _ _ _ _ _ _ _ _ _ ⟨hB.up.1, hB.up.2.1, hB.up.2.2.1, b_part hz hB.2.2.2.1, hB.up.2.2.2.2⟩
set_option maxRecDepth 20000 in
theorem law_start {L : Nat} {xs : Nat → Int32} {it k n : Nat} {i : Int32} (hL : L ≤ 2049) (hi : 1 ≤ i.toInt ∧ i.toInt + 4 ≤ L) (hk : k ≤ 600000) (hn : n ≤ 7000000) (hit : it ≤ 512) (nxt : ∀ k1 n1 : Nat, k1 ≤ k + 1 → n1 ≤ n + 6 → gLP L xs (it + 1) k1 n1 684 i) : gLP L xs it k n 486 i := by
  intro refusal wheel now length at_ fault faultLine line words labels targets wrong unfit text code_ label labelWord target targetWord targetLine store common low high register address status did ready timer trace xnext xret acount aat alabel ahas aword atarget amal amis awords atargets alines lcount lkeys lplaces kcount kat kinds kvals out hB
  refine G.aload_n (pc := 486) dm_L_law_486 rfl ?_
  refine G.aload_n (pc := 487) dm_L_law_487 rfl ?_
  refine G.iload (pc := 488) dm_L_law_488 rfl ?_
  refine G.iconst (pc := 490) (v := (1 : Int32)) dm_L_law_490 qi_1 ?_
  refine G.iadd (pc := 491) dm_L_law_491 ?_
  refine G.sld (pc := 492) (g_PL_s L xs) dm_L_law_492 (q_sc hi hL (by decide)) ?_
  refine G.aload_n (pc := 493) dm_L_law_493 rfl ?_
  refine G.iload (pc := 494) dm_L_law_494 rfl ?_
  refine G.iconst (pc := 496) (v := (2 : Int32)) dm_L_law_496 qi_2 ?_
  refine G.iadd (pc := 497) dm_L_law_497 ?_
  refine G.sld (pc := 498) (g_PL_s L xs) dm_L_law_498 (q_sc hi hL (by decide)) ?_
  obtain ⟨z0, z1, z2, z3, z4, hz⟩ := g_ex5 (f_X11_start (xs (Int32.toNatClampNeg (i + (1 : Int32)))) (xs (Int32.toNatClampNeg (i + (2 : Int32)))) now address status ready)
  have hc : (z0, z3, z2, z4) = f_X10_start (xs (Int32.toNatClampNeg (i + (1 : Int32)))) (xs (Int32.toNatClampNeg (i + (2 : Int32)))) now status address ready := by rw [e_start, ← hz]
  refine G.callVp (pc := 499) (n9 := 48) (rest := []) (st1 := [.int z0]) nd48 rfl rfl rfl dm_L_law_499 gc_L_law_75 (k_X10_start (thread := (xs (Int32.toNatClampNeg (i + (1 : Int32))))) (address := (xs (Int32.toNatClampNeg (i + (2 : Int32))))) hc) rfl rfl rfl rfl (q_bleK (show k ≤ 601024 by omega)) (q_bleK (show n ≤ 7293000 by omega)) rfl rfl ?_
  refine G.aload_n (pc := 502) dm_L_law_502 rfl ?_
  refine G.aload_n (pc := 503) dm_L_law_503 rfl ?_
  refine G.iload (pc := 504) dm_L_law_504 rfl ?_
  refine G.iconst (pc := 506) (v := (1 : Int32)) dm_L_law_506 qi_1 ?_
  refine G.iadd (pc := 507) dm_L_law_507 ?_
  refine G.sld (pc := 508) (g_PL_s L xs) dm_L_law_508 (q_sc hi hL (by decide)) ?_
  refine G.aload_n (pc := 509) dm_L_law_509 rfl ?_
  refine G.iload (pc := 510) dm_L_law_510 rfl ?_
  refine G.iconst (pc := 512) (v := (2 : Int32)) dm_L_law_512 qi_2 ?_
  refine G.iadd (pc := 513) dm_L_law_513 ?_
  refine G.sld (pc := 514) (g_PL_s L xs) dm_L_law_514 (q_sc hi hL (by decide)) ?_
  refine G.callVm (pc := 515) (n9 := 48) (k9 := 19) (rest := [.int z0]) (st1 := [.int z0, .int z0]) ndM rfl rfl rfl dm_L_law_515 gc_L_law_79 (k_X11_start (t := (xs (Int32.toNatClampNeg (i + (1 : Int32))))) (a := (xs (Int32.toNatClampNeg (i + (2 : Int32))))) hz) rfl rfl rfl rfl (q_bleK (show k ≤ 601024 by omega)) (q_bleK (show n ≤ 7293000 by omega)) rfl rfl ?_
  refine G.icmp_eq (pc := 518) (tgt := 684) dm_L_law_518 (by decide) (fun _ => ?_) (fun c => absurd rfl c)
  exact nxt k n (by omega) (by omega) _ _ _ _ _ _ _ _ _ _ _ _ _ _ _ _ _ _ _ _ _ _ _ _ _ _ _ _ _ _ _ _ _ _ _ _ _ _ _ _ _ _ _ _ _ _ _ _ _ _ _ _ hB.up
set_option maxRecDepth 20000 in
theorem law_now {L : Nat} {xs : Nat → Int32} {it k n : Nat} {i : Int32} (hL : L ≤ 2049) (hi : 1 ≤ i.toInt ∧ i.toInt + 4 ≤ L) (hk : k ≤ 600000) (hn : n ≤ 7000000) (hit : it ≤ 512) (nxt : ∀ k1 n1 : Nat, k1 ≤ k + 1 → n1 ≤ n + 6 → gLP L xs (it + 1) k1 n1 684 i) : gLP L xs it k n 548 i := by
  intro refusal wheel now length at_ fault faultLine line words labels targets wrong unfit text code_ label labelWord target targetWord targetLine store common low high register address status did ready timer trace xnext xret acount aat alabel ahas aword atarget amal amis awords atargets alines lcount lkeys lplaces kcount kat kinds kvals out hB
  refine G.aload_n (pc := 548) dm_L_law_548 rfl ?_
  obtain ⟨z0, z1, hz⟩ := g_ex2 (f_X11_now now)
  have hc : z0 = f_X10_now now := by rw [e_now, ← hz]
  refine G.callVp (pc := 549) (n9 := 48) (rest := []) (st1 := [.int z0]) nd48 rfl rfl rfl dm_L_law_549 gc_L_law_84 (k_X10_now  hc) rfl rfl rfl rfl (q_bleK (show k ≤ 601024 by omega)) (q_bleK (show n ≤ 7293000 by omega)) rfl rfl ?_
  refine G.aload_n (pc := 552) dm_L_law_552 rfl ?_
  refine G.callVm (pc := 553) (n9 := 48) (k9 := 19) (rest := [.int z0]) (st1 := [.int z0, .int z0]) ndM rfl rfl rfl dm_L_law_553 gc_L_law_87 (k_X11_now  hz) rfl rfl rfl rfl (q_bleK (show k ≤ 601024 by omega)) (q_bleK (show n ≤ 7293000 by omega)) rfl rfl ?_
  refine G.icmp_eq (pc := 556) (tgt := 684) dm_L_law_556 (by decide) (fun _ => ?_) (fun c => absurd rfl c)
  exact nxt k n (by omega) (by omega) _ _ _ _ _ _ _ _ _ _ _ _ _ _ _ _ _ _ _ _ _ _ _ _ _ _ _ _ _ _ _ _ _ _ _ _ _ _ _ _ _ _ _ _ _ _ _ _ _ _ _ _ hB.up
set_option maxRecDepth 20000 in
theorem law_register {L : Nat} {xs : Nat → Int32} {it k n : Nat} {i : Int32} (hL : L ≤ 2049) (hi : 1 ≤ i.toInt ∧ i.toInt + 4 ≤ L) (hk : k ≤ 600000) (hn : n ≤ 7000000) (hit : it ≤ 512) (nxt : ∀ k1 n1 : Nat, k1 ≤ k + 1 → n1 ≤ n + 6 → gLP L xs (it + 1) k1 n1 684 i) : gLP L xs it k n 561 i := by
  intro refusal wheel now length at_ fault faultLine line words labels targets wrong unfit text code_ label labelWord target targetWord targetLine store common low high register address status did ready timer trace xnext xret acount aat alabel ahas aword atarget amal amis awords atargets alines lcount lkeys lplaces kcount kat kinds kvals out hB
  refine G.aload_n (pc := 561) dm_L_law_561 rfl ?_
  refine G.aload_n (pc := 562) dm_L_law_562 rfl ?_
  refine G.iload (pc := 563) dm_L_law_563 rfl ?_
  refine G.iconst (pc := 565) (v := (1 : Int32)) dm_L_law_565 qi_1 ?_
  refine G.iadd (pc := 566) dm_L_law_566 ?_
  refine G.sld (pc := 567) (g_PL_s L xs) dm_L_law_567 (q_sc hi hL (by decide)) ?_
  refine G.aload_n (pc := 568) dm_L_law_568 rfl ?_
  refine G.iload (pc := 569) dm_L_law_569 rfl ?_
  refine G.iconst (pc := 571) (v := (2 : Int32)) dm_L_law_571 qi_2 ?_
  refine G.iadd (pc := 572) dm_L_law_572 ?_
  refine G.sld (pc := 573) (g_PL_s L xs) dm_L_law_573 (q_sc hi hL (by decide)) ?_
  obtain ⟨z0, z1, hz⟩ := g_ex2 (f_X11_register (xs (Int32.toNatClampNeg (i + (1 : Int32)))) (xs (Int32.toNatClampNeg (i + (2 : Int32)))) register)
  have hc : z0 = f_X10_register (xs (Int32.toNatClampNeg (i + (1 : Int32)))) (xs (Int32.toNatClampNeg (i + (2 : Int32)))) (V2 16 register) := by rw [e_register, ← hz]
  refine G.callVp (pc := 574) (n9 := 48) (rest := []) (st1 := [.int z0]) nd48 rfl rfl rfl dm_L_law_574 gc_L_law_88 (k_X10_register (thread := (xs (Int32.toNatClampNeg (i + (1 : Int32))))) (k := (xs (Int32.toNatClampNeg (i + (2 : Int32))))) hc) rfl rfl rfl rfl (q_bleK (show k ≤ 601024 by omega)) (q_bleK (show n ≤ 7293000 by omega)) rfl rfl ?_
  refine G.aload_n (pc := 577) dm_L_law_577 rfl ?_
  refine G.aload_n (pc := 578) dm_L_law_578 rfl ?_
  refine G.iload (pc := 579) dm_L_law_579 rfl ?_
  refine G.iconst (pc := 581) (v := (1 : Int32)) dm_L_law_581 qi_1 ?_
  refine G.iadd (pc := 582) dm_L_law_582 ?_
  refine G.sld (pc := 583) (g_PL_s L xs) dm_L_law_583 (q_sc hi hL (by decide)) ?_
  refine G.aload_n (pc := 584) dm_L_law_584 rfl ?_
  refine G.iload (pc := 585) dm_L_law_585 rfl ?_
  refine G.iconst (pc := 587) (v := (2 : Int32)) dm_L_law_587 qi_2 ?_
  refine G.iadd (pc := 588) dm_L_law_588 ?_
  refine G.sld (pc := 589) (g_PL_s L xs) dm_L_law_589 (q_sc hi hL (by decide)) ?_
  refine G.callVm (pc := 590) (n9 := 48) (k9 := 19) (rest := [.int z0]) (st1 := [.int z0, .int z0]) ndM rfl rfl rfl dm_L_law_590 gc_L_law_91 (k_X11_register (t := (xs (Int32.toNatClampNeg (i + (1 : Int32))))) (k := (xs (Int32.toNatClampNeg (i + (2 : Int32))))) hz) rfl rfl rfl rfl (q_bleK (show k ≤ 601024 by omega)) (q_bleK (show n ≤ 7293000 by omega)) rfl rfl ?_
  refine G.icmp_eq (pc := 593) (tgt := 684) dm_L_law_593 (by decide) (fun _ => ?_) (fun c => absurd rfl c)
  exact nxt k n (by omega) (by omega) _ _ _ _ _ _ _ _ _ _ _ _ _ _ _ _ _ _ _ _ _ _ _ _ _ _ _ _ _ _ _ _ _ _ _ _ _ _ _ _ _ _ _ _ _ _ _ _ _ _ _ _ hB.up
set_option maxRecDepth 20000 in
theorem law_state {L : Nat} {xs : Nat → Int32} {it k n : Nat} {i : Int32} (hL : L ≤ 2049) (hi : 1 ≤ i.toInt ∧ i.toInt + 4 ≤ L) (hk : k ≤ 600000) (hn : n ≤ 7000000) (hit : it ≤ 512) (nxt : ∀ k1 n1 : Nat, k1 ≤ k + 1 → n1 ≤ n + 6 → gLP L xs (it + 1) k1 n1 684 i) : gLP L xs it k n 598 i := by
  intro refusal wheel now length at_ fault faultLine line words labels targets wrong unfit text code_ label labelWord target targetWord targetLine store common low high register address status did ready timer trace xnext xret acount aat alabel ahas aword atarget amal amis awords atargets alines lcount lkeys lplaces kcount kat kinds kvals out hB
  refine G.aload_n (pc := 598) dm_L_law_598 rfl ?_
  refine G.aload_n (pc := 599) dm_L_law_599 rfl ?_
  refine G.iload (pc := 600) dm_L_law_600 rfl ?_
  refine G.iconst (pc := 602) (v := (1 : Int32)) dm_L_law_602 qi_1 ?_
  refine G.iadd (pc := 603) dm_L_law_603 ?_
  refine G.sld (pc := 604) (g_PL_s L xs) dm_L_law_604 (q_sc hi hL (by decide)) ?_
  refine G.aload_n (pc := 605) dm_L_law_605 rfl ?_
  refine G.iload (pc := 606) dm_L_law_606 rfl ?_
  refine G.iconst (pc := 608) (v := (2 : Int32)) dm_L_law_608 qi_2 ?_
  refine G.iadd (pc := 609) dm_L_law_609 ?_
  refine G.sld (pc := 610) (g_PL_s L xs) dm_L_law_610 (q_sc hi hL (by decide)) ?_
  obtain ⟨z0, z1, hz⟩ := g_ex2 (f_X11_state (xs (Int32.toNatClampNeg (i + (1 : Int32)))) (xs (Int32.toNatClampNeg (i + (2 : Int32)))) address status did ready timer)
  have hc : z0 = f_X10_state (xs (Int32.toNatClampNeg (i + (1 : Int32)))) (xs (Int32.toNatClampNeg (i + (2 : Int32)))) status address ready did (V2 4 timer) := by rw [e_state, ← hz]
  refine G.callVp (pc := 611) (n9 := 48) (rest := []) (st1 := [.int z0]) nd48 rfl rfl rfl dm_L_law_611 gc_L_law_92 (k_X10_state (thread := (xs (Int32.toNatClampNeg (i + (1 : Int32))))) (what := (xs (Int32.toNatClampNeg (i + (2 : Int32))))) hc) rfl rfl rfl rfl (q_bleK (show k ≤ 601024 by omega)) (q_bleK (show n ≤ 7293000 by omega)) rfl rfl ?_
  refine G.aload_n (pc := 614) dm_L_law_614 rfl ?_
  refine G.aload_n (pc := 615) dm_L_law_615 rfl ?_
  refine G.iload (pc := 616) dm_L_law_616 rfl ?_
  refine G.iconst (pc := 618) (v := (1 : Int32)) dm_L_law_618 qi_1 ?_
  refine G.iadd (pc := 619) dm_L_law_619 ?_
  refine G.sld (pc := 620) (g_PL_s L xs) dm_L_law_620 (q_sc hi hL (by decide)) ?_
  refine G.aload_n (pc := 621) dm_L_law_621 rfl ?_
  refine G.iload (pc := 622) dm_L_law_622 rfl ?_
  refine G.iconst (pc := 624) (v := (2 : Int32)) dm_L_law_624 qi_2 ?_
  refine G.iadd (pc := 625) dm_L_law_625 ?_
  refine G.sld (pc := 626) (g_PL_s L xs) dm_L_law_626 (q_sc hi hL (by decide)) ?_
  refine G.callVm (pc := 627) (n9 := 48) (k9 := 19) (rest := [.int z0]) (st1 := [.int z0, .int z0]) ndM rfl rfl rfl dm_L_law_627 gc_L_law_95 (k_X11_state (t := (xs (Int32.toNatClampNeg (i + (1 : Int32))))) (what := (xs (Int32.toNatClampNeg (i + (2 : Int32))))) hz) rfl rfl rfl rfl (q_bleK (show k ≤ 601024 by omega)) (q_bleK (show n ≤ 7293000 by omega)) rfl rfl ?_
  refine G.icmp_eq (pc := 630) (tgt := 684) dm_L_law_630 (by decide) (fun _ => ?_) (fun c => absurd rfl c)
  exact nxt k n (by omega) (by omega) _ _ _ _ _ _ _ _ _ _ _ _ _ _ _ _ _ _ _ _ _ _ _ _ _ _ _ _ _ _ _ _ _ _ _ _ _ _ _ _ _ _ _ _ _ _ _ _ _ _ _ _ hB.up
set_option maxRecDepth 20000 in
theorem law_trace {L : Nat} {xs : Nat → Int32} {it k n : Nat} {i : Int32} (hL : L ≤ 2049) (hi : 1 ≤ i.toInt ∧ i.toInt + 4 ≤ L) (hk : k ≤ 600000) (hn : n ≤ 7000000) (hit : it ≤ 512) (nxt : ∀ k1 n1 : Nat, k1 ≤ k + 1 → n1 ≤ n + 6 → gLP L xs (it + 1) k1 n1 684 i) : gLP L xs it k n 635 i := by
  intro refusal wheel now length at_ fault faultLine line words labels targets wrong unfit text code_ label labelWord target targetWord targetLine store common low high register address status did ready timer trace xnext xret acount aat alabel ahas aword atarget amal amis awords atargets alines lcount lkeys lplaces kcount kat kinds kvals out hB
  refine G.aload_n (pc := 635) dm_L_law_635 rfl ?_
  refine G.aload_n (pc := 636) dm_L_law_636 rfl ?_
  refine G.iload (pc := 637) dm_L_law_637 rfl ?_
  refine G.iconst (pc := 639) (v := (1 : Int32)) dm_L_law_639 qi_1 ?_
  refine G.iadd (pc := 640) dm_L_law_640 ?_
  refine G.sld (pc := 641) (g_PL_s L xs) dm_L_law_641 (q_sc hi hL (by decide)) ?_
  refine G.aload_n (pc := 642) dm_L_law_642 rfl ?_
  refine G.iload (pc := 643) dm_L_law_643 rfl ?_
  refine G.iconst (pc := 645) (v := (2 : Int32)) dm_L_law_645 qi_2 ?_
  refine G.iadd (pc := 646) dm_L_law_646 ?_
  refine G.sld (pc := 647) (g_PL_s L xs) dm_L_law_647 (q_sc hi hL (by decide)) ?_
  refine G.aload_n (pc := 648) dm_L_law_648 rfl ?_
  refine G.iload (pc := 649) dm_L_law_649 rfl ?_
  refine G.iconst (pc := 651) (v := (3 : Int32)) dm_L_law_651 qi_3 ?_
  refine G.iadd (pc := 652) dm_L_law_652 ?_
  refine G.sld (pc := 653) (g_PL_s L xs) dm_L_law_653 (q_sc hi hL (by decide)) ?_
  have hd9 : ∀ j, j < 4 → 0 ≤ (did j).toInt ∧ (did j).toInt ≤ 2000000 := fun j hj => ⟨(hB.2.2.2.2.1 j hj).1, by have h1 := (hB.2.2.2.2.1 j hj).2; have h2 := hB.2.2.1.2; omega⟩
  obtain ⟨z0, z1, hz⟩ := g_ex2 (f_X11_trace (xs (Int32.toNatClampNeg (i + (1 : Int32)))) (xs (Int32.toNatClampNeg (i + (2 : Int32)))) (xs (Int32.toNatClampNeg (i + (3 : Int32)))) did trace)
  have hc : z0 = f_X10_trace (xs (Int32.toNatClampNeg (i + (1 : Int32)))) (xs (Int32.toNatClampNeg (i + (2 : Int32)))) (xs (Int32.toNatClampNeg (i + (3 : Int32)))) did (V3 0 trace) (V3 1 trace) (V3 2 trace) := by rw [e_trace _ _ _ _ _ hd9, ← hz]
  refine G.callVp (pc := 654) (n9 := 48) (rest := []) (st1 := [.int z0]) nd48 rfl rfl rfl dm_L_law_654 gc_L_law_96 (k_X10_trace (thread := (xs (Int32.toNatClampNeg (i + (1 : Int32))))) (k := (xs (Int32.toNatClampNeg (i + (2 : Int32))))) (what := (xs (Int32.toNatClampNeg (i + (3 : Int32))))) hc) rfl rfl rfl rfl (q_bleK (show k ≤ 601024 by omega)) (q_bleK (show n ≤ 7293000 by omega)) rfl rfl ?_
  refine G.aload_n (pc := 657) dm_L_law_657 rfl ?_
  refine G.aload_n (pc := 658) dm_L_law_658 rfl ?_
  refine G.iload (pc := 659) dm_L_law_659 rfl ?_
  refine G.iconst (pc := 661) (v := (1 : Int32)) dm_L_law_661 qi_1 ?_
  refine G.iadd (pc := 662) dm_L_law_662 ?_
  refine G.sld (pc := 663) (g_PL_s L xs) dm_L_law_663 (q_sc hi hL (by decide)) ?_
  refine G.aload_n (pc := 664) dm_L_law_664 rfl ?_
  refine G.iload (pc := 665) dm_L_law_665 rfl ?_
  refine G.iconst (pc := 667) (v := (2 : Int32)) dm_L_law_667 qi_2 ?_
  refine G.iadd (pc := 668) dm_L_law_668 ?_
  refine G.sld (pc := 669) (g_PL_s L xs) dm_L_law_669 (q_sc hi hL (by decide)) ?_
  refine G.aload_n (pc := 670) dm_L_law_670 rfl ?_
  refine G.iload (pc := 671) dm_L_law_671 rfl ?_
  refine G.iconst (pc := 673) (v := (3 : Int32)) dm_L_law_673 qi_3 ?_
  refine G.iadd (pc := 674) dm_L_law_674 ?_
  refine G.sld (pc := 675) (g_PL_s L xs) dm_L_law_675 (q_sc hi hL (by decide)) ?_
  refine G.callVm (pc := 676) (n9 := 48) (k9 := 19) (rest := [.int z0]) (st1 := [.int z0, .int z0]) ndM rfl rfl rfl dm_L_law_676 gc_L_law_100 (k_X11_trace (t := (xs (Int32.toNatClampNeg (i + (1 : Int32))))) (k := (xs (Int32.toNatClampNeg (i + (2 : Int32))))) (what := (xs (Int32.toNatClampNeg (i + (3 : Int32))))) hz) rfl rfl rfl rfl (q_bleK (show k ≤ 601024 by omega)) (q_bleK (show n ≤ 7293000 by omega)) rfl rfl ?_
  refine G.icmp_eq (pc := 679) (tgt := 684) dm_L_law_679 (by decide) (fun _ => ?_) (fun c => absurd rfl c)
  exact nxt k n (by omega) (by omega) _ _ _ _ _ _ _ _ _ _ _ _ _ _ _ _ _ _ _ _ _ _ _ _ _ _ _ _ _ _ _ _ _ _ _ _ _ _ _ _ _ _ _ _ _ _ _ _ _ _ _ _ hB.up
set_option maxRecDepth 20000 in
theorem law_run {L : Nat} {xs : Nat → Int32} {it k n : Nat} {i : Int32} (hL : L ≤ 2049) (hi : 1 ≤ i.toInt ∧ i.toInt + 4 ≤ L) (hk : k ≤ 600000) (hn : n ≤ 7000000) (hit : it ≤ 512) (nxt : ∀ k1 n1 : Nat, k1 ≤ k + 1 → n1 ≤ n + 6 → gLP L xs (it + 1) k1 n1 684 i) : gLP L xs it k n 523 i := by
  intro refusal wheel now length at_ fault faultLine line words labels targets wrong unfit text code_ label labelWord target targetWord targetLine store common low high register address status did ready timer trace xnext xret acount aat alabel ahas aword atarget amal amis awords atargets alines lcount lkeys lplaces kcount kat kinds kvals out hB
  refine G.aload_n (pc := 523) dm_L_law_523 rfl ?_
  refine G.aload_n (pc := 524) dm_L_law_524 rfl ?_
  refine G.iload (pc := 525) dm_L_law_525 rfl ?_
  refine G.iconst (pc := 527) (v := (1 : Int32)) dm_L_law_527 qi_1 ?_
  refine G.iadd (pc := 528) dm_L_law_528 ?_
  refine G.sld (pc := 529) (g_PL_s L xs) dm_L_law_529 (q_sc hi hL (by decide)) ?_
  have hnow : 0 ≤ now.toInt ∧ now.toInt ≤ 1098000 := ⟨hB.2.2.1.1, by have h2 := hB.2.2.1.2; omega⟩
  obtain ⟨z0, z1, z2, z3, z4, z5, z6, z7, z8, z9, z10, z11, hz⟩ := g_ex12 (f_X11_run (xs (Int32.toNatClampNeg (i + (1 : Int32)))) wheel now store common low high register address status did ready timer trace)
  obtain ⟨⟨ra, rb, hc⟩, hr2, hr3⟩ := e_run xnext xret hB.2.2.2.1 hB.2.1 hnow hB.2.2.2.2.1 hz
  refine G.callVp (pc := 530) (n9 := 48) (rest := []) (st1 := [.int z0]) nd48 rfl rfl rfl dm_L_law_530 gc_L_law_80 (k_X10_run (n := (xs (Int32.toNatClampNeg (i + (1 : Int32))))) (xnum := fun j => Int32.ofNat j) hB.2.2.2.1 hB.2.1 hc) rfl rfl rfl rfl (q_bleK (show k ≤ 601024 by omega)) (q_bleK (show n ≤ 7293000 by omega)) rfl rfl ?_
  refine G.aload_n (pc := 533) dm_L_law_533 rfl ?_
  refine G.aload_n (pc := 534) dm_L_law_534 rfl ?_
  refine G.iload (pc := 535) dm_L_law_535 rfl ?_
  refine G.iconst (pc := 537) (v := (1 : Int32)) dm_L_law_537 qi_1 ?_
  refine G.iadd (pc := 538) dm_L_law_538 ?_
  refine G.sld (pc := 539) (g_PL_s L xs) dm_L_law_539 (q_sc hi hL (by decide)) ?_
  refine G.callVm (pc := 540) (n9 := 48) (k9 := 19) (rest := [.int z0]) (st1 := [.int z0, .int z0]) ndM rfl rfl rfl dm_L_law_540 gc_L_law_83 (k_X11_run (n := (xs (Int32.toNatClampNeg (i + (1 : Int32))))) hB.2.2.2.1 hB.2.1 hnow hB.2.2.2.2.1 hz) rfl rfl rfl rfl (q_bleK (show k ≤ 601024 by omega)) (q_bleK (show n ≤ 7293000 by omega)) rfl rfl ?_
  refine G.icmp_eq (pc := 543) (tgt := 684) dm_L_law_543 (by decide) (fun _ => ?_) (fun c => absurd rfl c)
  exact nxt k n (by omega) (by omega) _ _ _ _ _ _ _ _ _ _ _ _ _ _ _ _ _ _ _ _ _ _ _ _ _ _ _ _ _ _ _ _ _ _ _ _ _ _ _ _ _ _ _ _ _ _ _ _ _ _ _ _ ⟨hB.1, hB.2.1, ⟨hr2.1, by have h1 := hr2.2; have h2 := hB.2.2.1.2; omega⟩, hB.2.2.2.1, hr3, hB.2.2.2.2.2⟩
