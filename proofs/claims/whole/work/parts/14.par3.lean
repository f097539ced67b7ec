abbrev M_X11_takeLine : g_M := (cX11_takeLine, 10, RX11, none, { frames := 5, cells := 0, slots := 0, locals := 120 }, 0, 0)
theorem dm_X11_takeLine_0 : decode M_X11_takeLine.1 0 = .ok (.aload_n 0, 1) := by decide +kernel
theorem dm_X11_takeLine_1 : decode M_X11_takeLine.1 1 = .ok (.iconst 0, 1) := by decide +kernel
theorem dm_X11_takeLine_2 : decode M_X11_takeLine.1 2 = .ok (.putfield 102, 3) := by decide +kernel
theorem dm_X11_takeLine_5 : decode M_X11_takeLine.1 5 = .ok (.aload_n 0, 1) := by decide +kernel
theorem dm_X11_takeLine_6 : decode M_X11_takeLine.1 6 = .ok (.iconst 0, 1) := by decide +kernel
theorem dm_X11_takeLine_7 : decode M_X11_takeLine.1 7 = .ok (.putfield 111, 3) := by decide +kernel
theorem dm_X11_takeLine_10 : decode M_X11_takeLine.1 10 = .ok (.iconst 0, 1) := by decide +kernel
theorem dm_X11_takeLine_11 : decode M_X11_takeLine.1 11 = .ok (.istore_n 2, 1) := by decide +kernel
theorem dm_X11_takeLine_12 : decode M_X11_takeLine.1 12 = .ok (.iconst 0, 1) := by decide +kernel
theorem dm_X11_takeLine_13 : decode M_X11_takeLine.1 13 = .ok (.istore_n 3, 1) := by decide +kernel
theorem dm_X11_takeLine_14 : decode M_X11_takeLine.1 14 = .ok (.aload_n 0, 1) := by decide +kernel
theorem dm_X11_takeLine_15 : decode M_X11_takeLine.1 15 = .ok (.invokevirtual 95, 3) := by decide +kernel
theorem dm_X11_takeLine_18 : decode M_X11_takeLine.1 18 = .ok (.aload_n 0, 1) := by decide +kernel
theorem dm_X11_takeLine_19 : decode M_X11_takeLine.1 19 = .ok (.getfield 88, 3) := by decide +kernel
theorem dm_X11_takeLine_22 : decode M_X11_takeLine.1 22 = .ok (.istore 4, 2) := by decide +kernel
theorem dm_X11_takeLine_24 : decode M_X11_takeLine.1 24 = .ok (.aload_n 0, 1) := by decide +kernel
theorem dm_X11_takeLine_25 : decode M_X11_takeLine.1 25 = .ok (.invokevirtual 195, 3) := by decide +kernel
theorem dm_X11_takeLine_28 : decode M_X11_takeLine.1 28 = .ok (.lstore 5, 2) := by decide +kernel
theorem dm_X11_takeLine_30 : decode M_X11_takeLine.1 30 = .ok (.aload_n 0, 1) := by decide +kernel
theorem dm_X11_takeLine_31 : decode M_X11_takeLine.1 31 = .ok (.getfield 88, 3) := by decide +kernel
theorem dm_X11_takeLine_34 : decode M_X11_takeLine.1 34 = .ok (.iload 4, 2) := by decide +kernel
theorem dm_X11_takeLine_36 : decode M_X11_takeLine.1 36 = .ok (.if_icmp .le 7, 3) := by decide +kernel
theorem dm_X11_takeLine_39 : decode M_X11_takeLine.1 39 = .ok (.iconst 1, 1) := by decide +kernel
theorem dm_X11_takeLine_40 : decode M_X11_takeLine.1 40 = .ok (.goto 4, 3) := by decide +kernel
theorem dm_X11_takeLine_43 : decode M_X11_takeLine.1 43 = .ok (.iconst 0, 1) := by decide +kernel
theorem dm_X11_takeLine_44 : decode M_X11_takeLine.1 44 = .ok (.istore 7, 2) := by decide +kernel
theorem dm_X11_takeLine_46 : decode M_X11_takeLine.1 46 = .ok (.aload_n 0, 1) := by decide +kernel
theorem dm_X11_takeLine_47 : decode M_X11_takeLine.1 47 = .ok (.invokevirtual 95, 3) := by decide +kernel
theorem dm_X11_takeLine_50 : decode M_X11_takeLine.1 50 = .ok (.iload 7, 2) := by decide +kernel
theorem dm_X11_takeLine_52 : decode M_X11_takeLine.1 52 = .ok (.ifCond .eq 151, 3) := by decide +kernel
theorem dm_X11_takeLine_55 : decode M_X11_takeLine.1 55 = .ok (.aload_n 0, 1) := by decide +kernel
theorem dm_X11_takeLine_56 : decode M_X11_takeLine.1 56 = .ok (.aload_n 0, 1) := by decide +kernel
theorem dm_X11_takeLine_57 : decode M_X11_takeLine.1 57 = .ok (.getfield 88, 3) := by decide +kernel
theorem dm_X11_takeLine_60 : decode M_X11_takeLine.1 60 = .ok (.invokevirtual 91, 3) := by decide +kernel
theorem dm_X11_takeLine_63 : decode M_X11_takeLine.1 63 = .ok (.bipush 58, 2) := by decide +kernel
theorem dm_X11_takeLine_65 : decode M_X11_takeLine.1 65 = .ok (.if_icmp .ne 138, 3) := by decide +kernel
theorem dm_X11_takeLine_68 : decode M_X11_takeLine.1 68 = .ok (.aload_n 0, 1) := by decide +kernel
theorem dm_X11_takeLine_69 : decode M_X11_takeLine.1 69 = .ok (.dup, 1) := by decide +kernel
theorem dm_X11_takeLine_70 : decode M_X11_takeLine.1 70 = .ok (.getfield 88, 3) := by decide +kernel
theorem dm_X11_takeLine_73 : decode M_X11_takeLine.1 73 = .ok (.iconst 1, 1) := by decide +kernel
theorem dm_X11_takeLine_74 : decode M_X11_takeLine.1 74 = .ok (.iadd, 1) := by decide +kernel
theorem dm_X11_takeLine_75 : decode M_X11_takeLine.1 75 = .ok (.putfield 88, 3) := by decide +kernel
theorem dm_X11_takeLine_78 : decode M_X11_takeLine.1 78 = .ok (.aload_n 0, 1) := by decide +kernel
theorem dm_X11_takeLine_79 : decode M_X11_takeLine.1 79 = .ok (.lload 5, 2) := by decide +kernel
theorem dm_X11_takeLine_81 : decode M_X11_takeLine.1 81 = .ok (.lconst 0, 1) := by decide +kernel
theorem dm_X11_takeLine_82 : decode M_X11_takeLine.1 82 = .ok (.lcmp, 1) := by decide +kernel
theorem dm_X11_takeLine_83 : decode M_X11_takeLine.1 83 = .ok (.ifCond .ne 7, 3) := by decide +kernel
theorem dm_X11_takeLine_86 : decode M_X11_takeLine.1 86 = .ok (.iconst 1, 1) := by decide +kernel
theorem dm_X11_takeLine_87 : decode M_X11_takeLine.1 87 = .ok (.goto 4, 3) := by decide +kernel
theorem dm_X11_takeLine_90 : decode M_X11_takeLine.1 90 = .ok (.iconst 0, 1) := by decide +kernel
theorem dm_X11_takeLine_91 : decode M_X11_takeLine.1 91 = .ok (.putfield 102, 3) := by decide +kernel
theorem dm_X11_takeLine_94 : decode M_X11_takeLine.1 94 = .ok (.aload_n 0, 1) := by decide +kernel
theorem dm_X11_takeLine_95 : decode M_X11_takeLine.1 95 = .ok (.getfield 256, 3) := by decide +kernel
theorem dm_X11_takeLine_98 : decode M_X11_takeLine.1 98 = .ok (.bipush 16, 2) := by decide +kernel
theorem dm_X11_takeLine_100 : decode M_X11_takeLine.1 100 = .ok (.if_icmp .ne 7, 3) := by decide +kernel
theorem dm_X11_takeLine_103 : decode M_X11_takeLine.1 103 = .ok (.iconst 1, 1) := by decide +kernel
theorem dm_X11_takeLine_104 : decode M_X11_takeLine.1 104 = .ok (.goto 4, 3) := by decide +kernel
theorem dm_X11_takeLine_107 : decode M_X11_takeLine.1 107 = .ok (.iconst 0, 1) := by decide +kernel
theorem dm_X11_takeLine_108 : decode M_X11_takeLine.1 108 = .ok (.istore_n 2, 1) := by decide +kernel
theorem dm_X11_takeLine_109 : decode M_X11_takeLine.1 109 = .ok (.aload_n 0, 1) := by decide +kernel
theorem dm_X11_takeLine_110 : decode M_X11_takeLine.1 110 = .ok (.lload 5, 2) := by decide +kernel
theorem dm_X11_takeLine_112 : decode M_X11_takeLine.1 112 = .ok (.invokevirtual 259, 3) := by decide +kernel
theorem dm_X11_takeLine_115 : decode M_X11_takeLine.1 115 = .ok (.ifCond .lt 7, 3) := by decide +kernel
theorem dm_X11_takeLine_118 : decode M_X11_takeLine.1 118 = .ok (.iconst 1, 1) := by decide +kernel
theorem dm_X11_takeLine_119 : decode M_X11_takeLine.1 119 = .ok (.goto 4, 3) := by decide +kernel
theorem dm_X11_takeLine_122 : decode M_X11_takeLine.1 122 = .ok (.iconst 0, 1) := by decide +kernel
theorem dm_X11_takeLine_123 : decode M_X11_takeLine.1 123 = .ok (.istore_n 3, 1) := by decide +kernel
theorem dm_X11_takeLine_124 : decode M_X11_takeLine.1 124 = .ok (.aload_n 0, 1) := by decide +kernel
theorem dm_X11_takeLine_125 : decode M_X11_takeLine.1 125 = .ok (.getfield 102, 3) := by decide +kernel
theorem dm_X11_takeLine_128 : decode M_X11_takeLine.1 128 = .ok (.ifCond .ne 43, 3) := by decide +kernel
theorem dm_X11_takeLine_131 : decode M_X11_takeLine.1 131 = .ok (.iload_n 2, 1) := by decide +kernel
theorem dm_X11_takeLine_132 : decode M_X11_takeLine.1 132 = .ok (.ifCond .ne 39, 3) := by decide +kernel
theorem dm_X11_takeLine_135 : decode M_X11_takeLine.1 135 = .ok (.aload_n 0, 1) := by decide +kernel
theorem dm_X11_takeLine_136 : decode M_X11_takeLine.1 136 = .ok (.getfield 17, 3) := by decide +kernel
theorem dm_X11_takeLine_139 : decode M_X11_takeLine.1 139 = .ok (.aload_n 0, 1) := by decide +kernel
theorem dm_X11_takeLine_140 : decode M_X11_takeLine.1 140 = .ok (.getfield 256, 3) := by decide +kernel
theorem dm_X11_takeLine_143 : decode M_X11_takeLine.1 143 = .ok (.lload 5, 2) := by decide +kernel
theorem dm_X11_takeLine_145 : decode M_X11_takeLine.1 145 = .ok (.lastore, 1) := by decide +kernel
theorem dm_X11_takeLine_146 : decode M_X11_takeLine.1 146 = .ok (.aload_n 0, 1) := by decide +kernel
theorem dm_X11_takeLine_147 : decode M_X11_takeLine.1 147 = .ok (.getfield 21, 3) := by decide +kernel
theorem dm_X11_takeLine_150 : decode M_X11_takeLine.1 150 = .ok (.aload_n 0, 1) := by decide +kernel
theorem dm_X11_takeLine_151 : decode M_X11_takeLine.1 151 = .ok (.getfield 256, 3) := by decide +kernel
theorem dm_X11_takeLine_154 : decode M_X11_takeLine.1 154 = .ok (.iload_n 1, 1) := by decide +kernel
theorem dm_X11_takeLine_155 : decode M_X11_takeLine.1 155 = .ok (.aload_n 0, 1) := by decide +kernel
theorem dm_X11_takeLine_156 : decode M_X11_takeLine.1 156 = .ok (.getfield 202, 3) := by decide +kernel
theorem dm_X11_takeLine_159 : decode M_X11_takeLine.1 159 = .ok (.iadd, 1) := by decide +kernel
theorem dm_X11_takeLine_160 : decode M_X11_takeLine.1 160 = .ok (.iastore, 1) := by decide +kernel
theorem dm_X11_takeLine_161 : decode M_X11_takeLine.1 161 = .ok (.aload_n 0, 1) := by decide +kernel
theorem dm_X11_takeLine_162 : decode M_X11_takeLine.1 162 = .ok (.dup, 1) := by decide +kernel
theorem dm_X11_takeLine_163 : decode M_X11_takeLine.1 163 = .ok (.getfield 256, 3) := by decide +kernel
theorem dm_X11_takeLine_166 : decode M_X11_takeLine.1 166 = .ok (.iconst 1, 1) := by decide +kernel
theorem dm_X11_takeLine_167 : decode M_X11_takeLine.1 167 = .ok (.iadd, 1) := by decide +kernel
theorem dm_X11_takeLine_168 : decode M_X11_takeLine.1 168 = .ok (.putfield 256, 3) := by decide +kernel
theorem dm_X11_takeLine_171 : decode M_X11_takeLine.1 171 = .ok (.aload_n 0, 1) := by decide +kernel
theorem dm_X11_takeLine_172 : decode M_X11_takeLine.1 172 = .ok (.invokevirtual 95, 3) := by decide +kernel
theorem dm_X11_takeLine_175 : decode M_X11_takeLine.1 175 = .ok (.aload_n 0, 1) := by decide +kernel
theorem dm_X11_takeLine_176 : decode M_X11_takeLine.1 176 = .ok (.getfield 88, 3) := by decide +kernel
theorem dm_X11_takeLine_179 : decode M_X11_takeLine.1 179 = .ok (.istore 4, 2) := by decide +kernel
theorem dm_X11_takeLine_181 : decode M_X11_takeLine.1 181 = .ok (.aload_n 0, 1) := by decide +kernel
theorem dm_X11_takeLine_182 : decode M_X11_takeLine.1 182 = .ok (.invokevirtual 195, 3) := by decide +kernel
theorem dm_X11_takeLine_185 : decode M_X11_takeLine.1 185 = .ok (.lstore 5, 2) := by decide +kernel
theorem dm_X11_takeLine_187 : decode M_X11_takeLine.1 187 = .ok (.aload_n 0, 1) := by decide +kernel
theorem dm_X11_takeLine_188 : decode M_X11_takeLine.1 188 = .ok (.getfield 88, 3) := by decide +kernel
theorem dm_X11_takeLine_191 : decode M_X11_takeLine.1 191 = .ok (.iload 4, 2) := by decide +kernel
theorem dm_X11_takeLine_193 : decode M_X11_takeLine.1 193 = .ok (.if_icmp .le 7, 3) := by decide +kernel
theorem dm_X11_takeLine_196 : decode M_X11_takeLine.1 196 = .ok (.iconst 1, 1) := by decide +kernel
theorem dm_X11_takeLine_197 : decode M_X11_takeLine.1 197 = .ok (.goto 4, 3) := by decide +kernel
theorem dm_X11_takeLine_200 : decode M_X11_takeLine.1 200 = .ok (.iconst 0, 1) := by decide +kernel
theorem dm_X11_takeLine_201 : decode M_X11_takeLine.1 201 = .ok (.istore 7, 2) := by decide +kernel
theorem dm_X11_takeLine_203 : decode M_X11_takeLine.1 203 = .ok (.iload 7, 2) := by decide +kernel
theorem dm_X11_takeLine_205 : decode M_X11_takeLine.1 205 = .ok (.ifCond .eq 137, 3) := by decide +kernel
theorem dm_X11_takeLine_208 : decode M_X11_takeLine.1 208 = .ok (.aload_n 0, 1) := by decide +kernel
theorem dm_X11_takeLine_209 : decode M_X11_takeLine.1 209 = .ok (.getfield 102, 3) := by decide +kernel
theorem dm_X11_takeLine_212 : decode M_X11_takeLine.1 212 = .ok (.ifCond .ne 130, 3) := by decide +kernel
theorem dm_X11_takeLine_215 : decode M_X11_takeLine.1 215 = .ok (.lload 5, 2) := by decide +kernel
theorem dm_X11_takeLine_217 : decode M_X11_takeLine.1 217 = .ok (.invokestatic 263, 3) := by decide +kernel
theorem dm_X11_takeLine_220 : decode M_X11_takeLine.1 220 = .ok (.istore 8, 2) := by decide +kernel
theorem dm_X11_takeLine_222 : decode M_X11_takeLine.1 222 = .ok (.aload_n 0, 1) := by decide +kernel
theorem dm_X11_takeLine_223 : decode M_X11_takeLine.1 223 = .ok (.iload 8, 2) := by decide +kernel
theorem dm_X11_takeLine_225 : decode M_X11_takeLine.1 225 = .ok (.ifCond .ne 7, 3) := by decide +kernel
theorem dm_X11_takeLine_228 : decode M_X11_takeLine.1 228 = .ok (.iconst 1, 1) := by decide +kernel
theorem dm_X11_takeLine_229 : decode M_X11_takeLine.1 229 = .ok (.goto 4, 3) := by decide +kernel
theorem dm_X11_takeLine_232 : decode M_X11_takeLine.1 232 = .ok (.iconst 0, 1) := by decide +kernel
theorem dm_X11_takeLine_233 : decode M_X11_takeLine.1 233 = .ok (.putfield 102, 3) := by decide +kernel
theorem dm_X11_takeLine_236 : decode M_X11_takeLine.1 236 = .ok (.aload_n 0, 1) := by decide +kernel
theorem dm_X11_takeLine_237 : decode M_X11_takeLine.1 237 = .ok (.getfield 102, 3) := by decide +kernel
theorem dm_X11_takeLine_240 : decode M_X11_takeLine.1 240 = .ok (.ifCond .eq 7, 3) := by decide +kernel
theorem dm_X11_takeLine_243 : decode M_X11_takeLine.1 243 = .ok (.iconst 0, 1) := by decide +kernel
theorem dm_X11_takeLine_244 : decode M_X11_takeLine.1 244 = .ok (.goto 12, 3) := by decide +kernel
theorem dm_X11_takeLine_247 : decode M_X11_takeLine.1 247 = .ok (.aload_n 0, 1) := by decide +kernel
theorem dm_X11_takeLine_248 : decode M_X11_takeLine.1 248 = .ok (.iload 8, 2) := by decide +kernel
theorem dm_X11_takeLine_250 : decode M_X11_takeLine.1 250 = .ok (.bipush 15, 2) := by decide +kernel
theorem dm_X11_takeLine_252 : decode M_X11_takeLine.1 252 = .ok (.iand, 1) := by decide +kernel
theorem dm_X11_takeLine_253 : decode M_X11_takeLine.1 253 = .ok (.invokevirtual 266, 3) := by decide +kernel
theorem dm_X11_takeLine_256 : decode M_X11_takeLine.1 256 = .ok (.istore 9, 2) := by decide +kernel
theorem dm_X11_takeLine_258 : decode M_X11_takeLine.1 258 = .ok (.iload_n 2, 1) := by decide +kernel
theorem dm_X11_takeLine_259 : decode M_X11_takeLine.1 259 = .ok (.ifCond .ne 15, 3) := by decide +kernel
theorem dm_X11_takeLine_262 : decode M_X11_takeLine.1 262 = .ok (.iload_n 1, 1) := by decide +kernel
theorem dm_X11_takeLine_263 : decode M_X11_takeLine.1 263 = .ok (.aload_n 0, 1) := by decide +kernel
theorem dm_X11_takeLine_264 : decode M_X11_takeLine.1 264 = .ok (.getfield 202, 3) := by decide +kernel
theorem dm_X11_takeLine_267 : decode M_X11_takeLine.1 267 = .ok (.iadd, 1) := by decide +kernel
theorem dm_X11_takeLine_268 : decode M_X11_takeLine.1 268 = .ok (.sipush 128, 3) := by decide +kernel
theorem dm_X11_takeLine_271 : decode M_X11_takeLine.1 271 = .ok (.if_icmp .lt 7, 3) := by decide +kernel
theorem dm_X11_takeLine_274 : decode M_X11_takeLine.1 274 = .ok (.iconst 1, 1) := by decide +kernel
theorem dm_X11_takeLine_275 : decode M_X11_takeLine.1 275 = .ok (.goto 4, 3) := by decide +kernel
theorem dm_X11_takeLine_278 : decode M_X11_takeLine.1 278 = .ok (.iconst 0, 1) := by decide +kernel
theorem dm_X11_takeLine_279 : decode M_X11_takeLine.1 279 = .ok (.istore_n 2, 1) := by decide +kernel
theorem dm_X11_takeLine_280 : decode M_X11_takeLine.1 280 = .ok (.iload_n 1, 1) := by decide +kernel
theorem dm_X11_takeLine_281 : decode M_X11_takeLine.1 281 = .ok (.aload_n 0, 1) := by decide +kernel
theorem dm_X11_takeLine_282 : decode M_X11_takeLine.1 282 = .ok (.getfield 202, 3) := by decide +kernel
theorem dm_X11_takeLine_285 : decode M_X11_takeLine.1 285 = .ok (.iadd, 1) := by decide +kernel
theorem dm_X11_takeLine_286 : decode M_X11_takeLine.1 286 = .ok (.sipush 128, 3) := by decide +kernel
theorem dm_X11_takeLine_289 : decode M_X11_takeLine.1 289 = .ok (.if_icmp .ge 43, 3) := by decide +kernel
theorem dm_X11_takeLine_292 : decode M_X11_takeLine.1 292 = .ok (.aload_n 0, 1) := by decide +kernel
theorem dm_X11_takeLine_293 : decode M_X11_takeLine.1 293 = .ok (.getfield 13, 3) := by decide +kernel
theorem dm_X11_takeLine_296 : decode M_X11_takeLine.1 296 = .ok (.aload_n 0, 1) := by decide +kernel
theorem dm_X11_takeLine_297 : decode M_X11_takeLine.1 297 = .ok (.getfield 202, 3) := by decide +kernel
theorem dm_X11_takeLine_300 : decode M_X11_takeLine.1 300 = .ok (.iload 9, 2) := by decide +kernel
theorem dm_X11_takeLine_302 : decode M_X11_takeLine.1 302 = .ok (.iload 8, 2) := by decide +kernel
theorem dm_X11_takeLine_304 : decode M_X11_takeLine.1 304 = .ok (.iconst 4, 1) := by decide +kernel
theorem dm_X11_takeLine_305 : decode M_X11_takeLine.1 305 = .ok (.ishr, 1) := by decide +kernel
theorem dm_X11_takeLine_306 : decode M_X11_takeLine.1 306 = .ok (.bipush 127, 2) := by decide +kernel
theorem dm_X11_takeLine_308 : decode M_X11_takeLine.1 308 = .ok (.iand, 1) := by decide +kernel
theorem dm_X11_takeLine_309 : decode M_X11_takeLine.1 309 = .ok (.ior, 1) := by decide +kernel
theorem dm_X11_takeLine_310 : decode M_X11_takeLine.1 310 = .ok (.iload 8, 2) := by decide +kernel
theorem dm_X11_takeLine_312 : decode M_X11_takeLine.1 312 = .ok (.bipush 11, 2) := by decide +kernel
theorem dm_X11_takeLine_314 : decode M_X11_takeLine.1 314 = .ok (.ishr, 1) := by decide +kernel
theorem dm_X11_takeLine_315 : decode M_X11_takeLine.1 315 = .ok (.bipush 7, 2) := by decide +kernel
theorem dm_X11_takeLine_317 : decode M_X11_takeLine.1 317 = .ok (.iand, 1) := by decide +kernel
theorem dm_X11_takeLine_318 : decode M_X11_takeLine.1 318 = .ok (.bipush 12, 2) := by decide +kernel
theorem dm_X11_takeLine_320 : decode M_X11_takeLine.1 320 = .ok (.ishl, 1) := by decide +kernel
theorem dm_X11_takeLine_321 : decode M_X11_takeLine.1 321 = .ok (.ior, 1) := by decide +kernel
theorem dm_X11_takeLine_322 : decode M_X11_takeLine.1 322 = .ok (.iload 8, 2) := by decide +kernel
theorem dm_X11_takeLine_324 : decode M_X11_takeLine.1 324 = .ok (.bipush 14, 2) := by decide +kernel
theorem dm_X11_takeLine_326 : decode M_X11_takeLine.1 326 = .ok (.ishr, 1) := by decide +kernel
theorem dm_X11_takeLine_327 : decode M_X11_takeLine.1 327 = .ok (.bipush 25, 2) := by decide +kernel
theorem dm_X11_takeLine_329 : decode M_X11_takeLine.1 329 = .ok (.ishl, 1) := by decide +kernel
theorem dm_X11_takeLine_330 : decode M_X11_takeLine.1 330 = .ok (.ior, 1) := by decide +kernel
theorem dm_X11_takeLine_331 : decode M_X11_takeLine.1 331 = .ok (.iastore, 1) := by decide +kernel
theorem dm_X11_takeLine_332 : decode M_X11_takeLine.1 332 = .ok (.aload_n 0, 1) := by decide +kernel
theorem dm_X11_takeLine_333 : decode M_X11_takeLine.1 333 = .ok (.dup, 1) := by decide +kernel
theorem dm_X11_takeLine_334 : decode M_X11_takeLine.1 334 = .ok (.getfield 202, 3) := by decide +kernel
theorem dm_X11_takeLine_337 : decode M_X11_takeLine.1 337 = .ok (.iconst 1, 1) := by decide +kernel
theorem dm_X11_takeLine_338 : decode M_X11_takeLine.1 338 = .ok (.iadd, 1) := by decide +kernel
theorem dm_X11_takeLine_339 : decode M_X11_takeLine.1 339 = .ok (.putfield 202, 3) := by decide +kernel
theorem dm_X11_takeLine_342 : decode M_X11_takeLine.1 342 = .ok (.aload_n 0, 1) := by decide +kernel
theorem dm_X11_takeLine_343 : decode M_X11_takeLine.1 343 = .ok (.invokevirtual 95, 3) := by decide +kernel
theorem dm_X11_takeLine_346 : decode M_X11_takeLine.1 346 = .ok (.aload_n 0, 1) := by decide +kernel
theorem dm_X11_takeLine_347 : decode M_X11_takeLine.1 347 = .ok (.aload_n 0, 1) := by decide +kernel
theorem dm_X11_takeLine_348 : decode M_X11_takeLine.1 348 = .ok (.getfield 102, 3) := by decide +kernel
theorem dm_X11_takeLine_351 : decode M_X11_takeLine.1 351 = .ok (.ifCond .ne 10, 3) := by decide +kernel
theorem dm_X11_takeLine_354 : decode M_X11_takeLine.1 354 = .ok (.aload_n 0, 1) := by decide +kernel
theorem dm_X11_takeLine_355 : decode M_X11_takeLine.1 355 = .ok (.invokevirtual 269, 3) := by decide +kernel
theorem dm_X11_takeLine_358 : decode M_X11_takeLine.1 358 = .ok (.ifCond .ne 7, 3) := by decide +kernel
theorem dm_X11_takeLine_361 : decode M_X11_takeLine.1 361 = .ok (.iconst 1, 1) := by decide +kernel
theorem dm_X11_takeLine_362 : decode M_X11_takeLine.1 362 = .ok (.goto 4, 3) := by decide +kernel
theorem dm_X11_takeLine_365 : decode M_X11_takeLine.1 365 = .ok (.iconst 0, 1) := by decide +kernel
theorem dm_X11_takeLine_366 : decode M_X11_takeLine.1 366 = .ok (.putfield 102, 3) := by decide +kernel
theorem dm_X11_takeLine_369 : decode M_X11_takeLine.1 369 = .ok (.aload_n 0, 1) := by decide +kernel
theorem dm_X11_takeLine_370 : decode M_X11_takeLine.1 370 = .ok (.aload_n 0, 1) := by decide +kernel
theorem dm_X11_takeLine_371 : decode M_X11_takeLine.1 371 = .ok (.getfield 102, 3) := by decide +kernel
theorem dm_X11_takeLine_374 : decode M_X11_takeLine.1 374 = .ok (.ifCond .eq 7, 3) := by decide +kernel
theorem dm_X11_takeLine_377 : decode M_X11_takeLine.1 377 = .ok (.iconst 1, 1) := by decide +kernel
theorem dm_X11_takeLine_378 : decode M_X11_takeLine.1 378 = .ok (.goto 31, 3) := by decide +kernel
theorem dm_X11_takeLine_381 : decode M_X11_takeLine.1 381 = .ok (.aload_n 0, 1) := by decide +kernel
theorem dm_X11_takeLine_382 : decode M_X11_takeLine.1 382 = .ok (.getfield 111, 3) := by decide +kernel
theorem dm_X11_takeLine_385 : decode M_X11_takeLine.1 385 = .ok (.ifCond .eq 7, 3) := by decide +kernel
theorem dm_X11_takeLine_388 : decode M_X11_takeLine.1 388 = .ok (.iconst 2, 1) := by decide +kernel
theorem dm_X11_takeLine_389 : decode M_X11_takeLine.1 389 = .ok (.goto 20, 3) := by decide +kernel
theorem dm_X11_takeLine_392 : decode M_X11_takeLine.1 392 = .ok (.iload_n 2, 1) := by decide +kernel
theorem dm_X11_takeLine_393 : decode M_X11_takeLine.1 393 = .ok (.ifCond .eq 7, 3) := by decide +kernel
theorem dm_X11_takeLine_396 : decode M_X11_takeLine.1 396 = .ok (.iconst 4, 1) := by decide +kernel
theorem dm_X11_takeLine_397 : decode M_X11_takeLine.1 397 = .ok (.goto 12, 3) := by decide +kernel
theorem dm_X11_takeLine_400 : decode M_X11_takeLine.1 400 = .ok (.iload_n 3, 1) := by decide +kernel
theorem dm_X11_takeLine_401 : decode M_X11_takeLine.1 401 = .ok (.ifCond .eq 7, 3) := by decide +kernel
theorem dm_X11_takeLine_404 : decode M_X11_takeLine.1 404 = .ok (.iconst 3, 1) := by decide +kernel
theorem dm_X11_takeLine_405 : decode M_X11_takeLine.1 405 = .ok (.goto 4, 3) := by decide +kernel
theorem dm_X11_takeLine_408 : decode M_X11_takeLine.1 408 = .ok (.iconst 0, 1) := by decide +kernel
theorem dm_X11_takeLine_409 : decode M_X11_takeLine.1 409 = .ok (.putfield 273, 3) := by decide +kernel
theorem dm_X11_takeLine_412 : decode M_X11_takeLine.1 412 = .ok (.return_, 1) := by decide +kernel
theorem gc_X11_takeLine_95 : g_cv M_X11_takeLine 95 M_X11_skip yX11_skip 0 := ⟨tw421, tw422, tw423, tw5, tw424, ⟨rfl, rfl, rfl, rfl⟩, gd_X11_skip, ⟨by decide, by decide⟩⟩
theorem gc_X11_takeLine_195 : g_cv M_X11_takeLine 195 M_X11_letters yX11_letters 0 := ⟨tw429, tw430, tw431, tw5, tw432, ⟨rfl, rfl, rfl, rfl⟩, gd_X11_letters, ⟨by decide, by decide⟩⟩
theorem gc_X11_takeLine_91 : g_cv M_X11_takeLine 91 M_X11_character yX11_character 1 := ⟨tw425, tw426, tw427, tw5, tw428, ⟨rfl, rfl, rfl, rfl⟩, gd_X11_character, ⟨by decide, by decide⟩⟩
theorem gc_X11_takeLine_259 : g_cv M_X11_takeLine 259 M_X11_labelOf yX11_labelOf 1 := ⟨tw436, tw437, tw438, tw5, tw439, ⟨rfl, rfl, rfl, rfl⟩, gd_X11_labelOf, ⟨by decide, by decide⟩⟩
theorem gc_X11_takeLine_263 : g_cs M_X11_takeLine 263 M_X11_lookup yX11_lookup 1 := ⟨tw440, tw441, tw5, tw442, ⟨rfl, rfl, rfl, rfl⟩, gd_X11_lookup, ⟨by decide, by decide⟩⟩
theorem gc_X11_takeLine_266 : g_cv M_X11_takeLine 266 M_X11_operands yX11_operands 1 := ⟨tw483, tw484, tw485, tw5, tw486, ⟨rfl, rfl, rfl, rfl⟩, gd_X11_operands, ⟨by decide, by decide⟩⟩
theorem gc_X11_takeLine_269 : g_cv M_X11_takeLine 269 M_X11_isEnd yX11_isEnd 0 := ⟨tw533, tw534, tw535, tw5, tw536, ⟨rfl, rfl, rfl, rfl⟩, gd_X11_isEnd, ⟨by decide, by decide⟩⟩
def f_X11_takeLine_c355 (words : Int32) (labels : Int32) (targets : Int32) (unfit : Int32) (code_ : Nat → Int32) (label : Nat → Int64) (labelWord : Nat → Int32) (target : Nat → Int64) (targetWord : Nat → Int32) (targetLine : Nat → Int32) (l2 : Int32) (l3 : Int32) (z4_0 : Int32) (z5_0 : Int32) : Int32 × Int32 × Int32 × Int32 × Int32 × Int32 × Int32 × (Nat → Int32) × (Nat → Int64) × (Nat → Int32) × (Nat → Int64) × (Nat → Int32) × (Nat → Int32) := (if z5_0 = 0 then (z4_0, (1 : Int32), words, labels, targets, (1 : Int32), unfit, code_, label, labelWord, target, targetWord, targetLine) else (if unfit = 0 then (if l2 = 0 then (if l3 = 0 then (z4_0, (0 : Int32), words, labels, targets, (0 : Int32), unfit, code_, label, labelWord, target, targetWord, targetLine) else (z4_0, (3 : Int32), words, labels, targets, (0 : Int32), unfit, code_, label, labelWord, target, targetWord, targetLine)) else (z4_0, (4 : Int32), words, labels, targets, (0 : Int32), unfit, code_, label, labelWord, target, targetWord, targetLine)) else (z4_0, (2 : Int32), words, labels, targets, (0 : Int32), unfit, code_, label, labelWord, target, targetWord, targetLine)))
def f_X11_takeLine_c343 (length : Int32) (words : Int32) (labels : Int32) (targets : Int32) (wrong : Int32) (unfit : Int32) (text : Nat → Int32) (code_ : Nat → Int32) (label : Nat → Int64) (labelWord : Nat → Int32) (target : Nat → Int64) (targetWord : Nat → Int32) (targetLine : Nat → Int32) (l2 : Int32) (l3 : Int32) (z4_0 : Int32) : Int32 × Int32 × Int32 × Int32 × Int32 × Int32 × Int32 × (Nat → Int32) × (Nat → Int64) × (Nat → Int32) × (Nat → Int64) × (Nat → Int32) × (Nat → Int32) := (if wrong = 0 then (f_X11_takeLine_c355 words labels targets unfit code_ label labelWord target targetWord targetLine l2 l3 z4_0 (f_X11_isEnd length z4_0 text)) else (z4_0, (1 : Int32), words, labels, targets, (1 : Int32), unfit, code_, label, labelWord, target, targetWord, targetLine))
def f_X11_takeLine_342 (length : Int32) (at_ : Int32) (words : Int32) (labels : Int32) (targets : Int32) (wrong : Int32) (unfit : Int32) (text : Nat → Int32) (code_ : Nat → Int32) (label : Nat → Int64) (labelWord : Nat → Int32) (target : Nat → Int64) (targetWord : Nat → Int32) (targetLine : Nat → Int32) (l2 : Int32) (l3 : Int32) : Int32 × Int32 × Int32 × Int32 × Int32 × Int32 × Int32 × (Nat → Int32) × (Nat → Int64) × (Nat → Int32) × (Nat → Int64) × (Nat → Int32) × (Nat → Int32) := (f_X11_takeLine_c343 length words labels targets wrong unfit text code_ label labelWord target targetWord targetLine l2 l3 (f_X11_skip length at_ text))
set_option maxRecDepth 20000 in
theorem j_X11_takeLine_342 {l2 : Int32} {l3 : Int32} {refusal : Int32} {wheel : Int32} {now : Int32} {length : Int32} {at_ : Int32} {fault : Int32} {faultLine : Int32} {line : Int32} {words : Int32} {labels : Int32} {targets : Int32} {wrong : Int32} {unfit : Int32} {text : Nat → Int32} {code_ : Nat → Int32} {label : Nat → Int64} {labelWord : Nat → Int32} {target : Nat → Int64} {targetWord : Nat → Int32} {targetLine : Nat → Int32} {store : Nat → Int32} {common : Nat → Int32} {low : Nat → Int32} {high : Nat → Int32} {register : Nat → Int32} {address : Nat → Int32} {status : Nat → Int32} {did : Nat → Int32} {ready : Nat → Int32} {timer : Nat → Int32} {trace : Nat → Int32} {r_0 : Int32} {r_1 : Int32} {r_2 : Int32} {r_3 : Int32} {r_4 : Int32} {r_5 : Int32} {r_6 : Int32} {r_7 : (Nat → Int32)} {r_8 : (Nat → Int64)} {r_9 : (Nat → Int32)} {r_10 : (Nat → Int64)} {r_11 : (Nat → Int32)} {r_12 : (Nat → Int32)} (hres : (r_0, r_1, r_2, r_3, r_4, r_5, r_6, r_7, r_8, r_9, r_10, r_11, r_12) = (f_X11_takeLine_342 length at_ words labels targets wrong unfit text code_ label labelWord target targetWord targetLine l2 l3)) (hln : 0 ≤ length.toInt ∧ length.toInt ≤ 400) (hat : 0 ≤ at_.toInt ∧ at_.toInt ≤ 400) : G M_X11_takeLine 0 0 342 [(0, .ref 0), (2, .int l2), (3, .int l3)] [] (w_M refusal wheel now length at_ fault faultLine line words labels targets wrong unfit text code_ label labelWord target targetWord targetLine store common low high register address status did ready timer trace) (none) (w_M refusal wheel now length r_0 r_1 faultLine line r_2 r_3 r_4 r_5 r_6 text r_7 r_8 r_9 r_10 r_11 r_12 store common low high register address status did ready timer trace) := by
  rw [f_X11_takeLine_342] at hres
  refine G.aload_n (pc := 342) dm_X11_takeLine_342 rfl ?_
  obtain ⟨z4_0, hz4⟩ := g_ex1 (f_X11_skip length at_ text)
  refine G.callV0 (pc := 343) (rest := []) (st1 := []) dm_X11_takeLine_343 gc_X11_takeLine_95 (k_X11_skip (refusal := refusal) (wheel := wheel) (now := now) (length := length) (at_ := at_) (fault := fault) (faultLine := faultLine) (line := line) (words := words) (labels := labels) (targets := targets) (wrong := wrong) (unfit := unfit) (text := text) (code_ := code_) (label := label) (labelWord := labelWord) (target := target) (targetWord := targetWord) (targetLine := targetLine) (store := store) (common := common) (low := low) (high := high) (register := register) (address := address) (status := status) (did := did) (ready := ready) (timer := timer) (trace := trace) (by first | assumption | exact q_31 _ | exact q_7 _) (by first | assumption | exact q_31 _ | exact q_7 _) hz4) rfl rfl rfl rfl rfl rfl rfl rfl ?_
  have hat := (a_skip hz4 hln hat).1
  replace hres : (r_0, r_1, r_2, r_3, r_4, r_5, r_6, r_7, r_8, r_9, r_10, r_11, r_12) = f_X11_takeLine_c343 length words labels targets wrong unfit text code_ label labelWord target targetWord targetLine l2 l3 z4_0 := hres.trans (by rw [← hz4])
  rw [f_X11_takeLine_c343] at hres
  refine G.aload_n (pc := 346) dm_X11_takeLine_346 rfl ?_
  refine G.aload_n (pc := 347) dm_X11_takeLine_347 rfl ?_
  refine G.getfield (pc := 348) dm_X11_takeLine_348 gf_X11_102 rfl rfl ?_
  refine G.if_ne (pc := 351) (tgt := 361) dm_X11_takeLine_351 (by decide) (fun c351 => ?_) (fun c351 => ?_)
  · rw [if_neg c351] at hres
    refine G.iconst (pc := 361) (v := (1 : Int32)) dm_X11_takeLine_361 qi_1 ?_
    refine G.goto (pc := 362) (tgt := 366) dm_X11_takeLine_362 (by decide) ?_
    refine G.putfield (pc := 366) (ws1 := (w_M refusal wheel now length z4_0 fault faultLine line words labels targets (1 : Int32) unfit text code_ label labelWord target targetWord targetLine store common low high register address status did ready timer trace)) dm_X11_takeLine_366 gw_X11_102 rfl (g_fit_z (Or.inr rfl)) rfl rfl ?_
    refine G.aload_n (pc := 369) dm_X11_takeLine_369 rfl ?_
    refine G.aload_n (pc := 370) dm_X11_takeLine_370 rfl ?_
    refine G.getfield (pc := 371) dm_X11_takeLine_371 gf_X11_102 rfl rfl ?_
    refine G.if_eq (pc := 374) (tgt := 381) dm_X11_takeLine_374 (by decide) (fun c374 => absurd c374 (by decide)) (fun c374 => ?_)
    refine G.iconst (pc := 377) (v := (1 : Int32)) dm_X11_takeLine_377 qi_1 ?_
    refine G.goto (pc := 378) (tgt := 409) dm_X11_takeLine_378 (by decide) ?_
    refine G.putfield (pc := 409) (ws1 := (w_M refusal wheel now length z4_0 (1 : Int32) faultLine line words labels targets (1 : Int32) unfit text code_ label labelWord target targetWord targetLine store common low high register address status did ready timer trace)) dm_X11_takeLine_409 gw_X11_273 rfl (g_fit_i _) rfl rfl ?_
    cases hres
    exact G.vreturn (pc := 412) dm_X11_takeLine_412 rfl rfl rfl
  · rw [if_pos c351] at hres
    refine G.aload_n (pc := 354) dm_X11_takeLine_354 rfl ?_
    obtain ⟨z5_0, hz5⟩ := g_ex1 (f_X11_isEnd length z4_0 text)
    refine G.callV0 (pc := 355) (rest := [.ref 0]) (st1 := [.int z5_0, .ref 0]) dm_X11_takeLine_355 gc_X11_takeLine_269 (k_X11_isEnd (refusal := refusal) (wheel := wheel) (now := now) (length := length) (at_ := z4_0) (fault := fault) (faultLine := faultLine) (line := line) (words := words) (labels := labels) (targets := targets) (wrong := wrong) (unfit := unfit) (text := text) (code_ := code_) (label := label) (labelWord := labelWord) (target := target) (targetWord := targetWord) (targetLine := targetLine) (store := store) (common := common) (low := low) (high := high) (register := register) (address := address) (status := status) (did := did) (ready := ready) (timer := timer) (trace := trace) (by first | assumption | exact q_31 _ | exact q_7 _) (by first | assumption | exact q_31 _ | exact q_7 _) hz5) rfl rfl rfl rfl rfl rfl rfl rfl ?_
    replace hres : (r_0, r_1, r_2, r_3, r_4, r_5, r_6, r_7, r_8, r_9, r_10, r_11, r_12) = f_X11_takeLine_c355 words labels targets unfit code_ label labelWord target targetWord targetLine l2 l3 z4_0 z5_0 := hres.trans (by rw [← hz5])
    rw [f_X11_takeLine_c355] at hres
    refine G.if_ne (pc := 358) (tgt := 365) dm_X11_takeLine_358 (by decide) (fun c358 => ?_) (fun c358 => ?_)
    · rw [if_neg c358] at hres
      refine G.iconst (pc := 365) (v := (0 : Int32)) dm_X11_takeLine_365 qi_0 ?_
      refine G.putfield (pc := 366) (ws1 := (w_M refusal wheel now length z4_0 fault faultLine line words labels targets (0 : Int32) unfit text code_ label labelWord target targetWord targetLine store common low high register address status did ready timer trace)) dm_X11_takeLine_366 gw_X11_102 rfl (g_fit_z (Or.inl rfl)) rfl rfl ?_
      refine G.aload_n (pc := 369) dm_X11_takeLine_369 rfl ?_
      refine G.aload_n (pc := 370) dm_X11_takeLine_370 rfl ?_
      refine G.getfield (pc := 371) dm_X11_takeLine_371 gf_X11_102 rfl rfl ?_
      refine G.if_eq (pc := 374) (tgt := 381) dm_X11_takeLine_374 (by decide) (fun c374 => ?_) (fun c374 => absurd rfl c374)
      refine G.aload_n (pc := 381) dm_X11_takeLine_381 rfl ?_
      refine G.getfield (pc := 382) dm_X11_takeLine_382 gf_X11_111 rfl rfl ?_
      refine G.if_eq (pc := 385) (tgt := 392) dm_X11_takeLine_385 (by decide) (fun c385 => ?_) (fun c385 => ?_)
      · rw [if_pos c385] at hres
        refine G.iload_n (pc := 392) dm_X11_takeLine_392 rfl ?_
        refine G.if_eq (pc := 393) (tgt := 400) dm_X11_takeLine_393 (by decide) (fun c393 => ?_) (fun c393 => ?_)
        · rw [if_pos c393] at hres
          refine G.iload_n (pc := 400) dm_X11_takeLine_400 rfl ?_
          refine G.if_eq (pc := 401) (tgt := 408) dm_X11_takeLine_401 (by decide) (fun c401 => ?_) (fun c401 => ?_)
          · rw [if_pos c401] at hres
            refine G.iconst (pc := 408) (v := (0 : Int32)) dm_X11_takeLine_408 qi_0 ?_
            refine G.putfield (pc := 409) (ws1 := (w_M refusal wheel now length z4_0 (0 : Int32) faultLine line words labels targets (0 : Int32) unfit text code_ label labelWord target targetWord targetLine store common low high register address status did ready timer trace)) dm_X11_takeLine_409 gw_X11_273 rfl (g_fit_i _) rfl rfl ?_
            cases hres
            exact G.vreturn (pc := 412) dm_X11_takeLine_412 rfl rfl rfl
          · rw [if_neg c401] at hres
            refine G.iconst (pc := 404) (v := (3 : Int32)) dm_X11_takeLine_404 qi_3 ?_
            refine G.goto (pc := 405) (tgt := 409) dm_X11_takeLine_405 (by decide) ?_
            refine G.putfield (pc := 409) (ws1 := (w_M refusal wheel now length z4_0 (3 : Int32) faultLine line words labels targets (0 : Int32) unfit text code_ label labelWord target targetWord targetLine store common low high register address status did ready timer trace)) dm_X11_takeLine_409 gw_X11_273 rfl (g_fit_i _) rfl rfl ?_
            cases hres
            exact G.vreturn (pc := 412) dm_X11_takeLine_412 rfl rfl rfl
        · rw [if_neg c393] at hres
          refine G.iconst (pc := 396) (v := (4 : Int32)) dm_X11_takeLine_396 qi_4 ?_
          refine G.goto (pc := 397) (tgt := 409) dm_X11_takeLine_397 (by decide) ?_
          refine G.putfield (pc := 409) (ws1 := (w_M refusal wheel now length z4_0 (4 : Int32) faultLine line words labels targets (0 : Int32) unfit text code_ label labelWord target targetWord targetLine store common low high register address status did ready timer trace)) dm_X11_takeLine_409 gw_X11_273 rfl (g_fit_i _) rfl rfl ?_
          cases hres
          exact G.vreturn (pc := 412) dm_X11_takeLine_412 rfl rfl rfl
      · rw [if_neg c385] at hres
        refine G.iconst (pc := 388) (v := (2 : Int32)) dm_X11_takeLine_388 qi_2 ?_
        refine G.goto (pc := 389) (tgt := 409) dm_X11_takeLine_389 (by decide) ?_
        refine G.putfield (pc := 409) (ws1 := (w_M refusal wheel now length z4_0 (2 : Int32) faultLine line words labels targets (0 : Int32) unfit text code_ label labelWord target targetWord targetLine store common low high register address status did ready timer trace)) dm_X11_takeLine_409 gw_X11_273 rfl (g_fit_i _) rfl rfl ?_
        cases hres
        exact G.vreturn (pc := 412) dm_X11_takeLine_412 rfl rfl rfl
    · rw [if_pos c358] at hres
      refine G.iconst (pc := 361) (v := (1 : Int32)) dm_X11_takeLine_361 qi_1 ?_
      refine G.goto (pc := 362) (tgt := 366) dm_X11_takeLine_362 (by decide) ?_
      refine G.putfield (pc := 366) (ws1 := (w_M refusal wheel now length z4_0 fault faultLine line words labels targets (1 : Int32) unfit text code_ label labelWord target targetWord targetLine store common low high register address status did ready timer trace)) dm_X11_takeLine_366 gw_X11_102 rfl (g_fit_z (Or.inr rfl)) rfl rfl ?_
      refine G.aload_n (pc := 369) dm_X11_takeLine_369 rfl ?_
      refine G.aload_n (pc := 370) dm_X11_takeLine_370 rfl ?_
      refine G.getfield (pc := 371) dm_X11_takeLine_371 gf_X11_102 rfl rfl ?_
      refine G.if_eq (pc := 374) (tgt := 381) dm_X11_takeLine_374 (by decide) (fun c374 => absurd c374 (by decide)) (fun c374 => ?_)
      refine G.iconst (pc := 377) (v := (1 : Int32)) dm_X11_takeLine_377 qi_1 ?_
      refine G.goto (pc := 378) (tgt := 409) dm_X11_takeLine_378 (by decide) ?_
      refine G.putfield (pc := 409) (ws1 := (w_M refusal wheel now length z4_0 (1 : Int32) faultLine line words labels targets (1 : Int32) unfit text code_ label labelWord target targetWord targetLine store common low high register address status did ready timer trace)) dm_X11_takeLine_409 gw_X11_273 rfl (g_fit_i _) rfl rfl ?_
      cases hres
      exact G.vreturn (pc := 412) dm_X11_takeLine_412 rfl rfl rfl
def f_X11_takeLine_332 (length : Int32) (at_ : Int32) (words : Int32) (labels : Int32) (targets : Int32) (wrong : Int32) (unfit : Int32) (text : Nat → Int32) (code_ : Nat → Int32) (label : Nat → Int64) (labelWord : Nat → Int32) (target : Nat → Int64) (targetWord : Nat → Int32) (targetLine : Nat → Int32) (l2 : Int32) (l3 : Int32) : Int32 × Int32 × Int32 × Int32 × Int32 × Int32 × Int32 × (Nat → Int32) × (Nat → Int64) × (Nat → Int32) × (Nat → Int64) × (Nat → Int32) × (Nat → Int32) := (f_X11_takeLine_342 length at_ (words + (1 : Int32)) labels targets wrong unfit text code_ label labelWord target targetWord targetLine l2 l3)
set_option maxRecDepth 20000 in
theorem j_X11_takeLine_332 {l2 : Int32} {l3 : Int32} {refusal : Int32} {wheel : Int32} {now : Int32} {length : Int32} {at_ : Int32} {fault : Int32} {faultLine : Int32} {line : Int32} {words : Int32} {labels : Int32} {targets : Int32} {wrong : Int32} {unfit : Int32} {text : Nat → Int32} {code_ : Nat → Int32} {label : Nat → Int64} {labelWord : Nat → Int32} {target : Nat → Int64} {targetWord : Nat → Int32} {targetLine : Nat → Int32} {store : Nat → Int32} {common : Nat → Int32} {low : Nat → Int32} {high : Nat → Int32} {register : Nat → Int32} {address : Nat → Int32} {status : Nat → Int32} {did : Nat → Int32} {ready : Nat → Int32} {timer : Nat → Int32} {trace : Nat → Int32} {r_0 : Int32} {r_1 : Int32} {r_2 : Int32} {r_3 : Int32} {r_4 : Int32} {r_5 : Int32} {r_6 : Int32} {r_7 : (Nat → Int32)} {r_8 : (Nat → Int64)} {r_9 : (Nat → Int32)} {r_10 : (Nat → Int64)} {r_11 : (Nat → Int32)} {r_12 : (Nat → Int32)} (hres : (r_0, r_1, r_2, r_3, r_4, r_5, r_6, r_7, r_8, r_9, r_10, r_11, r_12) = (f_X11_takeLine_332 length at_ words labels targets wrong unfit text code_ label labelWord target targetWord targetLine l2 l3)) (hln : 0 ≤ length.toInt ∧ length.toInt ≤ 400) (hat : 0 ≤ at_.toInt ∧ at_.toInt ≤ 400) : G M_X11_takeLine 0 0 332 [(0, .ref 0), (2, .int l2), (3, .int l3)] [] (w_M refusal wheel now length at_ fault faultLine line words labels targets wrong unfit text code_ label labelWord target targetWord targetLine store common low high register address status did ready timer trace) (none) (w_M refusal wheel now length r_0 r_1 faultLine line r_2 r_3 r_4 r_5 r_6 text r_7 r_8 r_9 r_10 r_11 r_12 store common low high register address status did ready timer trace) := by
  rw [f_X11_takeLine_332] at hres
  refine G.aload_n (pc := 332) dm_X11_takeLine_332 rfl ?_
  refine G.dup (pc := 333) dm_X11_takeLine_333 rfl ?_
  refine G.getfield (pc := 334) dm_X11_takeLine_334 gf_X11_202 rfl rfl ?_
  refine G.iconst (pc := 337) (v := (1 : Int32)) dm_X11_takeLine_337 qi_1 ?_
  refine G.iadd (pc := 338) dm_X11_takeLine_338 ?_
  refine G.putfield (pc := 339) (ws1 := (w_M refusal wheel now length at_ fault faultLine line (words + (1 : Int32)) labels targets wrong unfit text code_ label labelWord target targetWord targetLine store common low high register address status did ready timer trace)) dm_X11_takeLine_339 gw_X11_202 rfl (g_fit_i _) rfl rfl ?_
  exact j_X11_takeLine_342 hres (by first | assumption | exact q_31 _ | exact q_7 _) (by first | assumption | exact q_31 _ | exact q_7 _)
def f_X11_takeLine_279 (length : Int32) (at_ : Int32) (words : Int32) (labels : Int32) (targets : Int32) (wrong : Int32) (unfit : Int32) (text : Nat → Int32) (code_ : Nat → Int32) (label : Nat → Int64) (labelWord : Nat → Int32) (target : Nat → Int64) (targetWord : Nat → Int32) (targetLine : Nat → Int32) (l1 : Int32) (l3 : Int32) (s0 : Int32) (l8 : Int32) (l9 : Int32) : Int32 × Int32 × Int32 × Int32 × Int32 × Int32 × Int32 × (Nat → Int32) × (Nat → Int64) × (Nat → Int32) × (Nat → Int64) × (Nat → Int32) × (Nat → Int32) := (if (128 : Int32) ≤ (l1 + words) then (f_X11_takeLine_332 length at_ words labels targets wrong unfit text code_ label labelWord target targetWord targetLine s0 l3) else (f_X11_takeLine_332 length at_ words labels targets wrong unfit text (upd code_ (Int32.toNatClampNeg words) (((l9 ||| ((l8 >>> ((4 : Int32) &&& 31)) &&& (127 : Int32))) ||| (((l8 >>> ((11 : Int32) &&& 31)) &&& (7 : Int32)) <<< ((12 : Int32) &&& 31))) ||| ((l8 >>> ((14 : Int32) &&& 31)) <<< ((25 : Int32) &&& 31)))) label labelWord target targetWord targetLine s0 l3))
set_option maxRecDepth 20000 in
theorem j_X11_takeLine_279 {l1 : Int32} {l3 : Int32} {l8 : Int32} {l9 : Int32} {s0 : Int32} {refusal : Int32} {wheel : Int32} {now : Int32} {length : Int32} {at_ : Int32} {fault : Int32} {faultLine : Int32} {line : Int32} {words : Int32} {labels : Int32} {targets : Int32} {wrong : Int32} {unfit : Int32} {text : Nat → Int32} {code_ : Nat → Int32} {label : Nat → Int64} {labelWord : Nat → Int32} {target : Nat → Int64} {targetWord : Nat → Int32} {targetLine : Nat → Int32} {store : Nat → Int32} {common : Nat → Int32} {low : Nat → Int32} {high : Nat → Int32} {register : Nat → Int32} {address : Nat → Int32} {status : Nat → Int32} {did : Nat → Int32} {ready : Nat → Int32} {timer : Nat → Int32} {trace : Nat → Int32} {r_0 : Int32} {r_1 : Int32} {r_2 : Int32} {r_3 : Int32} {r_4 : Int32} {r_5 : Int32} {r_6 : Int32} {r_7 : (Nat → Int32)} {r_8 : (Nat → Int64)} {r_9 : (Nat → Int32)} {r_10 : (Nat → Int64)} {r_11 : (Nat → Int32)} {r_12 : (Nat → Int32)} (hres : (r_0, r_1, r_2, r_3, r_4, r_5, r_6, r_7, r_8, r_9, r_10, r_11, r_12) = (f_X11_takeLine_279 length at_ words labels targets wrong unfit text code_ label labelWord target targetWord targetLine l1 l3 s0 l8 l9)) (hln : 0 ≤ length.toInt ∧ length.toInt ≤ 400) (hat : 0 ≤ at_.toInt ∧ at_.toInt ≤ 400) (hwd : 0 ≤ words.toInt ∧ words.toInt ≤ 128) (hf : 0 ≤ l1.toInt ∧ l1.toInt < 128) : G M_X11_takeLine 0 0 279 [(0, .ref 0), (1, .int l1), (3, .int l3), (8, .int l8), (9, .int l9)] [.int s0] (w_M refusal wheel now length at_ fault faultLine line words labels targets wrong unfit text code_ label labelWord target targetWord targetLine store common low high register address status did ready timer trace) (none) (w_M refusal wheel now length r_0 r_1 faultLine line r_2 r_3 r_4 r_5 r_6 text r_7 r_8 r_9 r_10 r_11 r_12 store common low high register address status did ready timer trace) := by
  rw [f_X11_takeLine_279] at hres
  refine G.istore_n (pc := 279) (lv1 := [(2, .int s0), (0, .ref 0), (1, .int l1), (3, .int l3), (8, .int l8), (9, .int l9)]) dm_X11_takeLine_279 rfl rfl ?_
  refine G.iload_n (pc := 280) dm_X11_takeLine_280 rfl ?_
  refine G.aload_n (pc := 281) dm_X11_takeLine_281 rfl ?_
  refine G.getfield (pc := 282) dm_X11_takeLine_282 gf_X11_202 rfl rfl ?_
  refine G.iadd (pc := 285) dm_X11_takeLine_285 ?_
  refine G.sipush (pc := 286) (v := (128 : Int32)) dm_X11_takeLine_286 qs_128 ?_
  refine G.icmp_ge (pc := 289) (tgt := 332) dm_X11_takeLine_289 (by decide) (fun c289 => ?_) (fun c289 => ?_)
  · rw [if_pos c289] at hres
    refine G.lvp [1, 0, 3] rfl ?_
    exact j_X11_takeLine_332 hres (by first | assumption | exact q_31 _ | exact q_7 _) (by first | assumption | exact q_31 _ | exact q_7 _)
  · rw [if_neg c289] at hres
    refine G.aload_n (pc := 292) dm_X11_takeLine_292 rfl ?_
    refine G.getfield (pc := 293) dm_X11_takeLine_293 gf_X11_13 rfl rfl ?_
    refine G.aload_n (pc := 296) dm_X11_takeLine_296 rfl ?_
    refine G.getfield (pc := 297) dm_X11_takeLine_297 gf_X11_202 rfl rfl ?_
    refine G.iload (pc := 300) dm_X11_takeLine_300 rfl ?_
    refine G.iload (pc := 302) dm_X11_takeLine_302 rfl ?_
    refine G.iconst (pc := 304) (v := (4 : Int32)) dm_X11_takeLine_304 qi_4 ?_
    refine G.ishr (pc := 305) dm_X11_takeLine_305 ?_
    refine G.bipush (pc := 306) (v := (127 : Int32)) dm_X11_takeLine_306 qb_127 ?_
    refine G.iand (pc := 308) dm_X11_takeLine_308 ?_
    refine G.ior (pc := 309) dm_X11_takeLine_309 ?_
    refine G.iload (pc := 310) dm_X11_takeLine_310 rfl ?_
    refine G.bipush (pc := 312) (v := (11 : Int32)) dm_X11_takeLine_312 qb_11 ?_
    refine G.ishr (pc := 314) dm_X11_takeLine_314 ?_
    refine G.bipush (pc := 315) (v := (7 : Int32)) dm_X11_takeLine_315 qb_7 ?_
    refine G.iand (pc := 317) dm_X11_takeLine_317 ?_
    refine G.bipush (pc := 318) (v := (12 : Int32)) dm_X11_takeLine_318 qb_12 ?_
    refine G.ishl (pc := 320) dm_X11_takeLine_320 ?_
    refine G.ior (pc := 321) dm_X11_takeLine_321 ?_
    refine G.iload (pc := 322) dm_X11_takeLine_322 rfl ?_
    refine G.bipush (pc := 324) (v := (14 : Int32)) dm_X11_takeLine_324 qb_14 ?_
    refine G.ishr (pc := 326) dm_X11_takeLine_326 ?_
    refine G.bipush (pc := 327) (v := (25 : Int32)) dm_X11_takeLine_327 qb_25 ?_
    refine G.ishl (pc := 329) dm_X11_takeLine_329 ?_
    refine G.ior (pc := 330) dm_X11_takeLine_330 ?_
    refine G.iastore (pc := 331) (ws1 := (w_M refusal wheel now length at_ fault faultLine line words labels targets wrong unfit text (upd code_ (Int32.toNatClampNeg words) (((l9 ||| ((l8 >>> ((4 : Int32) &&& 31)) &&& (127 : Int32))) ||| (((l8 >>> ((11 : Int32) &&& 31)) &&& (7 : Int32)) <<< ((12 : Int32) &&& 31))) ||| ((l8 >>> ((14 : Int32) &&& 31)) <<< ((25 : Int32) &&& 31)))) label labelWord target targetWord targetLine store common low high register address status did ready timer trace)) dm_X11_takeLine_331 rfl (q_cw hf hwd c289) rfl ?_
    refine G.lvp [1, 0, 3] rfl ?_
    exact j_X11_takeLine_332 hres (by first | assumption | exact q_31 _ | exact q_7 _) (by first | assumption | exact q_31 _ | exact q_7 _)
def f_X11_takeLine_256 (length : Int32) (at_ : Int32) (words : Int32) (labels : Int32) (targets : Int32) (wrong : Int32) (unfit : Int32) (text : Nat → Int32) (code_ : Nat → Int32) (label : Nat → Int64) (labelWord : Nat → Int32) (target : Nat → Int64) (targetWord : Nat → Int32) (targetLine : Nat → Int32) (l1 : Int32) (l2 : Int32) (l3 : Int32) (s0 : Int32) (l8 : Int32) : Int32 × Int32 × Int32 × Int32 × Int32 × Int32 × Int32 × (Nat → Int32) × (Nat → Int64) × (Nat → Int32) × (Nat → Int64) × (Nat → Int32) × (Nat → Int32) := (if l2 = 0 then (if (l1 + words) < (128 : Int32) then (f_X11_takeLine_279 length at_ words labels targets wrong unfit text code_ label labelWord target targetWord targetLine l1 l3 (0 : Int32) l8 s0) else (f_X11_takeLine_279 length at_ words labels targets wrong unfit text code_ label labelWord target targetWord targetLine l1 l3 (1 : Int32) l8 s0)) else (f_X11_takeLine_279 length at_ words labels targets wrong unfit text code_ label labelWord target targetWord targetLine l1 l3 (1 : Int32) l8 s0))
set_option maxRecDepth 20000 in
theorem j_X11_takeLine_256 {l1 : Int32} {l2 : Int32} {l3 : Int32} {l8 : Int32} {s0 : Int32} {refusal : Int32} {wheel : Int32} {now : Int32} {length : Int32} {at_ : Int32} {fault : Int32} {faultLine : Int32} {line : Int32} {words : Int32} {labels : Int32} {targets : Int32} {wrong : Int32} {unfit : Int32} {text : Nat → Int32} {code_ : Nat → Int32} {label : Nat → Int64} {labelWord : Nat → Int32} {target : Nat → Int64} {targetWord : Nat → Int32} {targetLine : Nat → Int32} {store : Nat → Int32} {common : Nat → Int32} {low : Nat → Int32} {high : Nat → Int32} {register : Nat → Int32} {address : Nat → Int32} {status : Nat → Int32} {did : Nat → Int32} {ready : Nat → Int32} {timer : Nat → Int32} {trace : Nat → Int32} {r_0 : Int32} {r_1 : Int32} {r_2 : Int32} {r_3 : Int32} {r_4 : Int32} {r_5 : Int32} {r_6 : Int32} {r_7 : (Nat → Int32)} {r_8 : (Nat → Int64)} {r_9 : (Nat → Int32)} {r_10 : (Nat → Int64)} {r_11 : (Nat → Int32)} {r_12 : (Nat → Int32)} (hres : (r_0, r_1, r_2, r_3, r_4, r_5, r_6, r_7, r_8, r_9, r_10, r_11, r_12) = (f_X11_takeLine_256 length at_ words labels targets wrong unfit text code_ label labelWord target targetWord targetLine l1 l2 l3 s0 l8)) (hln : 0 ≤ length.toInt ∧ length.toInt ≤ 400) (hat : 0 ≤ at_.toInt ∧ at_.toInt ≤ 400) (hwd : 0 ≤ words.toInt ∧ words.toInt ≤ 128) (hf : 0 ≤ l1.toInt ∧ l1.toInt < 128) : G M_X11_takeLine 0 0 256 [(0, .ref 0), (1, .int l1), (2, .int l2), (3, .int l3), (8, .int l8)] [.int s0] (w_M refusal wheel now length at_ fault faultLine line words labels targets wrong unfit text code_ label labelWord target targetWord targetLine store common low high register address status did ready timer trace) (none) (w_M refusal wheel now length r_0 r_1 faultLine line r_2 r_3 r_4 r_5 r_6 text r_7 r_8 r_9 r_10 r_11 r_12 store common low high register address status did ready timer trace) := by
  rw [f_X11_takeLine_256] at hres
  refine G.istore (pc := 256) (lv1 := [(9, .int s0), (0, .ref 0), (1, .int l1), (2, .int l2), (3, .int l3), (8, .int l8)]) dm_X11_takeLine_256 rfl rfl ?_
  refine G.iload_n (pc := 258) dm_X11_takeLine_258 rfl ?_
  refine G.if_ne (pc := 259) (tgt := 274) dm_X11_takeLine_259 (by decide) (fun c259 => ?_) (fun c259 => ?_)
  · rw [if_neg c259] at hres
    refine G.iconst (pc := 274) (v := (1 : Int32)) dm_X11_takeLine_274 qi_1 ?_
    refine G.goto (pc := 275) (tgt := 279) dm_X11_takeLine_275 (by decide) ?_
    refine G.lvp [1, 2, 4, 5, 0] rfl ?_
    exact j_X11_takeLine_279 hres (by first | assumption | exact q_31 _ | exact q_7 _) (by first | assumption | exact q_31 _ | exact q_7 _) (by first | assumption | exact q_31 _ | exact q_7 _) (by first | assumption | exact q_31 _ | exact q_7 _)
  · rw [if_pos c259] at hres
    refine G.iload_n (pc := 262) dm_X11_takeLine_262 rfl ?_
    refine G.aload_n (pc := 263) dm_X11_takeLine_263 rfl ?_
    refine G.getfield (pc := 264) dm_X11_takeLine_264 gf_X11_202 rfl rfl ?_
    refine G.iadd (pc := 267) dm_X11_takeLine_267 ?_
    refine G.sipush (pc := 268) (v := (128 : Int32)) dm_X11_takeLine_268 qs_128 ?_
    refine G.icmp_lt (pc := 271) (tgt := 278) dm_X11_takeLine_271 (by decide) (fun c271 => ?_) (fun c271 => ?_)
    · rw [if_pos c271] at hres
      refine G.iconst (pc := 278) (v := (0 : Int32)) dm_X11_takeLine_278 qi_0 ?_
      refine G.lvp [1, 2, 4, 5, 0] rfl ?_
      exact j_X11_takeLine_279 hres (by first | assumption | exact q_31 _ | exact q_7 _) (by first | assumption | exact q_31 _ | exact q_7 _) (by first | assumption | exact q_31 _ | exact q_7 _) (by first | assumption | exact q_31 _ | exact q_7 _)
    · rw [if_neg c271] at hres
      refine G.iconst (pc := 274) (v := (1 : Int32)) dm_X11_takeLine_274 qi_1 ?_
      refine G.goto (pc := 275) (tgt := 279) dm_X11_takeLine_275 (by decide) ?_
      refine G.lvp [1, 2, 4, 5, 0] rfl ?_
      exact j_X11_takeLine_279 hres (by first | assumption | exact q_31 _ | exact q_7 _) (by first | assumption | exact q_31 _ | exact q_7 _) (by first | assumption | exact q_31 _ | exact q_7 _) (by first | assumption | exact q_31 _ | exact q_7 _)
def f_X11_takeLine_c253 (length : Int32) (words : Int32) (labels : Int32) (text : Nat → Int32) (code_ : Nat → Int32) (label : Nat → Int64) (labelWord : Nat → Int32) (l1 : Int32) (l2 : Int32) (l3 : Int32) (z6_0 : Int32) (z7_0 : Int32) (z7_1 : Int32) (z7_2 : Int32) (z7_3 : Int32) (z7_4 : Int32) (z7_5 : (Nat → Int64)) (z7_6 : (Nat → Int32)) (z7_7 : (Nat → Int32)) : Int32 × Int32 × Int32 × Int32 × Int32 × Int32 × Int32 × (Nat → Int32) × (Nat → Int64) × (Nat → Int32) × (Nat → Int64) × (Nat → Int32) × (Nat → Int32) := (f_X11_takeLine_256 length z7_1 words labels z7_2 z7_3 z7_4 text code_ label labelWord z7_5 z7_6 z7_7 l1 l2 l3 z7_0 z6_0)
def f_X11_takeLine_c217 (length : Int32) (at_ : Int32) (line : Int32) (words : Int32) (labels : Int32) (targets : Int32) (unfit : Int32) (text : Nat → Int32) (code_ : Nat → Int32) (label : Nat → Int64) (labelWord : Nat → Int32) (target : Nat → Int64) (targetWord : Nat → Int32) (targetLine : Nat → Int32) (l1 : Int32) (l2 : Int32) (l3 : Int32) (z6_0 : Int32) : Int32 × Int32 × Int32 × Int32 × Int32 × Int32 × Int32 × (Nat → Int32) × (Nat → Int64) × (Nat → Int32) × (Nat → Int64) × (Nat → Int32) × (Nat → Int32) := (if z6_0 = 0 then (f_X11_takeLine_256 length at_ words labels targets (1 : Int32) unfit text code_ label labelWord target targetWord targetLine l1 l2 l3 (0 : Int32) z6_0) else (f_X11_takeLine_c253 length words labels text code_ label labelWord l1 l2 l3 z6_0 (f_X11_operands (z6_0 &&& (15 : Int32)) length at_ line words targets (0 : Int32) unfit text target targetWord targetLine).1 (f_X11_operands (z6_0 &&& (15 : Int32)) length at_ line words targets (0 : Int32) unfit text target targetWord targetLine).2.1 (f_X11_operands (z6_0 &&& (15 : Int32)) length at_ line words targets (0 : Int32) unfit text target targetWord targetLine).2.2.1 (f_X11_operands (z6_0 &&& (15 : Int32)) length at_ line words targets (0 : Int32) unfit text target targetWord targetLine).2.2.2.1 (f_X11_operands (z6_0 &&& (15 : Int32)) length at_ line words targets (0 : Int32) unfit text target targetWord targetLine).2.2.2.2.1 (f_X11_operands (z6_0 &&& (15 : Int32)) length at_ line words targets (0 : Int32) unfit text target targetWord targetLine).2.2.2.2.2.1 (f_X11_operands (z6_0 &&& (15 : Int32)) length at_ line words targets (0 : Int32) unfit text target targetWord targetLine).2.2.2.2.2.2.1 (f_X11_operands (z6_0 &&& (15 : Int32)) length at_ line words targets (0 : Int32) unfit text target targetWord targetLine).2.2.2.2.2.2.2))
def f_X11_takeLine_203 (length : Int32) (at_ : Int32) (line : Int32) (words : Int32) (labels : Int32) (targets : Int32) (wrong : Int32) (unfit : Int32) (text : Nat → Int32) (code_ : Nat → Int32) (label : Nat → Int64) (labelWord : Nat → Int32) (target : Nat → Int64) (targetWord : Nat → Int32) (targetLine : Nat → Int32) (l1 : Int32) (l2 : Int32) (l3 : Int32) (l5 : Int64) (l7 : Int32) : Int32 × Int32 × Int32 × Int32 × Int32 × Int32 × Int32 × (Nat → Int32) × (Nat → Int64) × (Nat → Int32) × (Nat → Int64) × (Nat → Int32) × (Nat → Int32) := (if l7 = 0 then (f_X11_takeLine_342 length at_ words labels targets wrong unfit text code_ label labelWord target targetWord targetLine l2 l3) else (if wrong = 0 then (f_X11_takeLine_c217 length at_ line words labels targets unfit text code_ label labelWord target targetWord targetLine l1 l2 l3 (f_X11_lookup l5)) else (f_X11_takeLine_342 length at_ words labels targets wrong unfit text code_ label labelWord target targetWord targetLine l2 l3)))
set_option maxRecDepth 20000 in
theorem j_X11_takeLine_203 {l1 : Int32} {l2 : Int32} {l3 : Int32} {l5 : Int64} {l7 : Int32} {refusal : Int32} {wheel : Int32} {now : Int32} {length : Int32} {at_ : Int32} {fault : Int32} {faultLine : Int32} {line : Int32} {words : Int32} {labels : Int32} {targets : Int32} {wrong : Int32} {unfit : Int32} {text : Nat → Int32} {code_ : Nat → Int32} {label : Nat → Int64} {labelWord : Nat → Int32} {target : Nat → Int64} {targetWord : Nat → Int32} {targetLine : Nat → Int32} {store : Nat → Int32} {common : Nat → Int32} {low : Nat → Int32} {high : Nat → Int32} {register : Nat → Int32} {address : Nat → Int32} {status : Nat → Int32} {did : Nat → Int32} {ready : Nat → Int32} {timer : Nat → Int32} {trace : Nat → Int32} {r_0 : Int32} {r_1 : Int32} {r_2 : Int32} {r_3 : Int32} {r_4 : Int32} {r_5 : Int32} {r_6 : Int32} {r_7 : (Nat → Int32)} {r_8 : (Nat → Int64)} {r_9 : (Nat → Int32)} {r_10 : (Nat → Int64)} {r_11 : (Nat → Int32)} {r_12 : (Nat → Int32)} (hres : (r_0, r_1, r_2, r_3, r_4, r_5, r_6, r_7, r_8, r_9, r_10, r_11, r_12) = (f_X11_takeLine_203 length at_ line words labels targets wrong unfit text code_ label labelWord target targetWord targetLine l1 l2 l3 l5 l7)) (hln : 0 ≤ length.toInt ∧ length.toInt ≤ 400) (hat : 0 ≤ at_.toInt ∧ at_.toInt ≤ 400) (hwd : 0 ≤ words.toInt ∧ words.toInt ≤ 128) (hlb : 0 ≤ labels.toInt ∧ labels.toInt ≤ 16) (htg : 0 ≤ targets.toInt ∧ targets.toInt ≤ 128) (hf : 0 ≤ l1.toInt ∧ l1.toInt < 128) : G M_X11_takeLine 0 0 203 [(0, .ref 0), (1, .int l1), (2, .int l2), (3, .int l3), (5, .long l5), (7, .int l7)] [] (w_M refusal wheel now length at_ fault faultLine line words labels targets wrong unfit text code_ label labelWord target targetWord targetLine store common low high register address status did ready timer trace) (none) (w_M refusal wheel now length r_0 r_1 faultLine line r_2 r_3 r_4 r_5 r_6 text r_7 r_8 r_9 r_10 r_11 r_12 store common low high register address status did ready timer trace) := by
  rw [f_X11_takeLine_203] at hres
  refine G.iload (pc := 203) dm_X11_takeLine_203 rfl ?_
  refine G.if_eq (pc := 205) (tgt := 342) dm_X11_takeLine_205 (by decide) (fun c205 => ?_) (fun c205 => ?_)
  · rw [if_pos c205] at hres
    refine G.lvp [0, 2, 3] rfl ?_
    exact j_X11_takeLine_342 hres (by first | assumption | exact q_31 _ | exact q_7 _) (by first | assumption | exact q_31 _ | exact q_7 _)
  · rw [if_neg c205] at hres
    refine G.aload_n (pc := 208) dm_X11_takeLine_208 rfl ?_
    refine G.getfield (pc := 209) dm_X11_takeLine_209 gf_X11_102 rfl rfl ?_
    refine G.if_ne (pc := 212) (tgt := 342) dm_X11_takeLine_212 (by decide) (fun c212 => ?_) (fun c212 => ?_)
    · rw [if_neg c212] at hres
      refine G.lvp [0, 2, 3] rfl ?_
      exact j_X11_takeLine_342 hres (by first | assumption | exact q_31 _ | exact q_7 _) (by first | assumption | exact q_31 _ | exact q_7 _)
    · rw [if_pos c212] at hres
      refine G.lload (pc := 215) dm_X11_takeLine_215 rfl ?_
      obtain ⟨z6_0, hz6⟩ := g_ex1 (f_X11_lookup l5)
      refine G.callS (pc := 217) (rest := []) (st1 := [.int z6_0]) (ws1 := (w_M refusal wheel now length at_ fault faultLine line words labels targets wrong unfit text code_ label labelWord target targetWord targetLine store common low high register address status did ready timer trace)) [] dm_X11_takeLine_217 gc_X11_takeLine_263 (k_X11_lookup (w := l5) hz6) rfl rfl rfl rfl rfl rfl rfl rfl ?_
      replace hres : (r_0, r_1, r_2, r_3, r_4, r_5, r_6, r_7, r_8, r_9, r_10, r_11, r_12) = f_X11_takeLine_c217 length at_ line words labels targets unfit text code_ label labelWord target targetWord targetLine l1 l2 l3 z6_0 := hres.trans (by rw [← hz6])
      rw [f_X11_takeLine_c217] at hres
      refine G.istore (pc := 220) (lv1 := [(8, .int z6_0), (0, .ref 0), (1, .int l1), (2, .int l2), (3, .int l3), (5, .long l5), (7, .int l7)]) dm_X11_takeLine_220 rfl rfl ?_
      refine G.aload_n (pc := 222) dm_X11_takeLine_222 rfl ?_
      refine G.iload (pc := 223) dm_X11_takeLine_223 rfl ?_
      refine G.if_ne (pc := 225) (tgt := 232) dm_X11_takeLine_225 (by decide) (fun c225 => ?_) (fun c225 => ?_)
      · rw [if_neg c225] at hres
        refine G.iconst (pc := 232) (v := (0 : Int32)) dm_X11_takeLine_232 qi_0 ?_
        refine G.putfield (pc := 233) (ws1 := (w_M refusal wheel now length at_ fault faultLine line words labels targets (0 : Int32) unfit text code_ label labelWord target targetWord targetLine store common low high register address status did ready timer trace)) dm_X11_takeLine_233 gw_X11_102 rfl (g_fit_z (Or.inl rfl)) rfl rfl ?_
        refine G.aload_n (pc := 236) dm_X11_takeLine_236 rfl ?_
        refine G.getfield (pc := 237) dm_X11_takeLine_237 gf_X11_102 rfl rfl ?_
        refine G.if_eq (pc := 240) (tgt := 247) dm_X11_takeLine_240 (by decide) (fun c240 => ?_) (fun c240 => absurd rfl c240)
        refine G.aload_n (pc := 247) dm_X11_takeLine_247 rfl ?_
        refine G.iload (pc := 248) dm_X11_takeLine_248 rfl ?_
        refine G.bipush (pc := 250) (v := (15 : Int32)) dm_X11_takeLine_250 qb_15 ?_
        refine G.iand (pc := 252) dm_X11_takeLine_252 ?_
        obtain ⟨z7_0, z7_1, z7_2, z7_3, z7_4, z7_5, z7_6, z7_7, hz7⟩ := g_ex8 (f_X11_operands (z6_0 &&& (15 : Int32)) length at_ line words targets (0 : Int32) unfit text target targetWord targetLine)
        refine G.callV0 (pc := 253) (rest := []) (st1 := [.int z7_0]) dm_X11_takeLine_253 gc_X11_takeLine_266 (k_X11_operands (form := (z6_0 &&& (15 : Int32))) (refusal := refusal) (wheel := wheel) (now := now) (length := length) (at_ := at_) (fault := fault) (faultLine := faultLine) (line := line) (words := words) (labels := labels) (targets := targets) (wrong := (0 : Int32)) (unfit := unfit) (text := text) (code_ := code_) (label := label) (labelWord := labelWord) (target := target) (targetWord := targetWord) (targetLine := targetLine) (store := store) (common := common) (low := low) (high := high) (register := register) (address := address) (status := status) (did := did) (ready := ready) (timer := timer) (trace := trace) (by first | assumption | exact q_31 _ | exact q_7 _) (by first | assumption | exact q_31 _ | exact q_7 _) (by first | assumption | exact q_31 _ | exact q_7 _) hz7) rfl rfl rfl rfl rfl rfl rfl rfl ?_
        have hat := (a_X11_operands (a0 := 0) hz7 hln ⟨hat, hat.1⟩).1
        replace hres : (r_0, r_1, r_2, r_3, r_4, r_5, r_6, r_7, r_8, r_9, r_10, r_11, r_12) = f_X11_takeLine_c253 length words labels text code_ label labelWord l1 l2 l3 z6_0 z7_0 z7_1 z7_2 z7_3 z7_4 z7_5 z7_6 z7_7 := hres.trans (by rw [← hz7])
        rw [f_X11_takeLine_c253] at hres
        refine G.lvp [1, 2, 3, 4, 0] rfl ?_
        exact j_X11_takeLine_256 hres (by first | assumption | exact q_31 _ | exact q_7 _) (by first | assumption | exact q_31 _ | exact q_7 _) (by first | assumption | exact q_31 _ | exact q_7 _) (by first | assumption | exact q_31 _ | exact q_7 _)
      · rw [if_pos c225] at hres
        refine G.iconst (pc := 228) (v := (1 : Int32)) dm_X11_takeLine_228 qi_1 ?_
        refine G.goto (pc := 229) (tgt := 233) dm_X11_takeLine_229 (by decide) ?_
        refine G.putfield (pc := 233) (ws1 := (w_M refusal wheel now length at_ fault faultLine line words labels targets (1 : Int32) unfit text code_ label labelWord target targetWord targetLine store common low high register address status did ready timer trace)) dm_X11_takeLine_233 gw_X11_102 rfl (g_fit_z (Or.inr rfl)) rfl rfl ?_
        refine G.aload_n (pc := 236) dm_X11_takeLine_236 rfl ?_
        refine G.getfield (pc := 237) dm_X11_takeLine_237 gf_X11_102 rfl rfl ?_
        refine G.if_eq (pc := 240) (tgt := 247) dm_X11_takeLine_240 (by decide) (fun c240 => absurd c240 (by decide)) (fun c240 => ?_)
        refine G.iconst (pc := 243) (v := (0 : Int32)) dm_X11_takeLine_243 qi_0 ?_
        refine G.goto (pc := 244) (tgt := 256) dm_X11_takeLine_244 (by decide) ?_
        refine G.lvp [1, 2, 3, 4, 0] rfl ?_
        exact j_X11_takeLine_256 hres (by first | assumption | exact q_31 _ | exact q_7 _) (by first | assumption | exact q_31 _ | exact q_7 _) (by first | assumption | exact q_31 _ | exact q_7 _) (by first | assumption | exact q_31 _ | exact q_7 _)
def f_X11_takeLine_201 (length : Int32) (at_ : Int32) (line : Int32) (words : Int32) (labels : Int32) (targets : Int32) (wrong : Int32) (unfit : Int32) (text : Nat → Int32) (code_ : Nat → Int32) (label : Nat → Int64) (labelWord : Nat → Int32) (target : Nat → Int64) (targetWord : Nat → Int32) (targetLine : Nat → Int32) (l1 : Int32) (l2 : Int32) (l3 : Int32) (l5 : Int64) (s0 : Int32) : Int32 × Int32 × Int32 × Int32 × Int32 × Int32 × Int32 × (Nat → Int32) × (Nat → Int64) × (Nat → Int32) × (Nat → Int64) × (Nat → Int32) × (Nat → Int32) := (f_X11_takeLine_203 length at_ line words labels targets wrong unfit text code_ label labelWord target targetWord targetLine l1 l2 l3 l5 s0)
set_option maxRecDepth 20000 in
theorem j_X11_takeLine_201 {l1 : Int32} {l2 : Int32} {l3 : Int32} {l5 : Int64} {s0 : Int32} {refusal : Int32} {wheel : Int32} {now : Int32} {length : Int32} {at_ : Int32} {fault : Int32} {faultLine : Int32} {line : Int32} {words : Int32} {labels : Int32} {targets : Int32} {wrong : Int32} {unfit : Int32} {text : Nat → Int32} {code_ : Nat → Int32} {label : Nat → Int64} {labelWord : Nat → Int32} {target : Nat → Int64} {targetWord : Nat → Int32} {targetLine : Nat → Int32} {store : Nat → Int32} {common : Nat → Int32} {low : Nat → Int32} {high : Nat → Int32} {register : Nat → Int32} {address : Nat → Int32} {status : Nat → Int32} {did : Nat → Int32} {ready : Nat → Int32} {timer : Nat → Int32} {trace : Nat → Int32} {r_0 : Int32} {r_1 : Int32} {r_2 : Int32} {r_3 : Int32} {r_4 : Int32} {r_5 : Int32} {r_6 : Int32} {r_7 : (Nat → Int32)} {r_8 : (Nat → Int64)} {r_9 : (Nat → Int32)} {r_10 : (Nat → Int64)} {r_11 : (Nat → Int32)} {r_12 : (Nat → Int32)} (hres : (r_0, r_1, r_2, r_3, r_4, r_5, r_6, r_7, r_8, r_9, r_10, r_11, r_12) = (f_X11_takeLine_201 length at_ line words labels targets wrong unfit text code_ label labelWord target targetWord targetLine l1 l2 l3 l5 s0)) (hln : 0 ≤ length.toInt ∧ length.toInt ≤ 400) (hat : 0 ≤ at_.toInt ∧ at_.toInt ≤ 400) (hwd : 0 ≤ words.toInt ∧ words.toInt ≤ 128) (hlb : 0 ≤ labels.toInt ∧ labels.toInt ≤ 16) (htg : 0 ≤ targets.toInt ∧ targets.toInt ≤ 128) (hf : 0 ≤ l1.toInt ∧ l1.toInt < 128) : G M_X11_takeLine 0 0 201 [(0, .ref 0), (1, .int l1), (2, .int l2), (3, .int l3), (5, .long l5)] [.int s0] (w_M refusal wheel now length at_ fault faultLine line words labels targets wrong unfit text code_ label labelWord target targetWord targetLine store common low high register address status did ready timer trace) (none) (w_M refusal wheel now length r_0 r_1 faultLine line r_2 r_3 r_4 r_5 r_6 text r_7 r_8 r_9 r_10 r_11 r_12 store common low high register address status did ready timer trace) := by
  rw [f_X11_takeLine_201] at hres
  refine G.istore (pc := 201) (lv1 := [(7, .int s0), (0, .ref 0), (1, .int l1), (2, .int l2), (3, .int l3), (5, .long l5)]) dm_X11_takeLine_201 rfl rfl ?_
  refine G.lvp [1, 2, 3, 4, 5, 0] rfl ?_
  exact j_X11_takeLine_203 hres (by first | assumption | exact q_31 _ | exact q_7 _) (by first | assumption | exact q_31 _ | exact q_7 _) (by first | assumption | exact q_31 _ | exact q_7 _) (by first | assumption | exact q_31 _ | exact q_7 _) (by first | assumption | exact q_31 _ | exact q_7 _) (by first | assumption | exact q_31 _ | exact q_7 _)
def f_X11_takeLine_c182 (length : Int32) (line : Int32) (words : Int32) (labels : Int32) (targets : Int32) (wrong : Int32) (unfit : Int32) (text : Nat → Int32) (code_ : Nat → Int32) (label : Nat → Int64) (labelWord : Nat → Int32) (target : Nat → Int64) (targetWord : Nat → Int32) (targetLine : Nat → Int32) (l1 : Int32) (l2 : Int32) (l3 : Int32) (z10_0 : Int32) (z11_0 : Int64) (z11_1 : Int32) : Int32 × Int32 × Int32 × Int32 × Int32 × Int32 × Int32 × (Nat → Int32) × (Nat → Int64) × (Nat → Int32) × (Nat → Int64) × (Nat → Int32) × (Nat → Int32) := (if z11_1 ≤ z10_0 then (f_X11_takeLine_201 length z11_1 line words labels targets wrong unfit text code_ label labelWord target targetWord targetLine l1 l2 l3 z11_0 (0 : Int32)) else (f_X11_takeLine_201 length z11_1 line words labels targets wrong unfit text code_ label labelWord target targetWord targetLine l1 l2 l3 z11_0 (1 : Int32)))
def f_X11_takeLine_c172 (length : Int32) (line : Int32) (words : Int32) (labels : Int32) (targets : Int32) (wrong : Int32) (unfit : Int32) (text : Nat → Int32) (code_ : Nat → Int32) (label : Nat → Int64) (labelWord : Nat → Int32) (target : Nat → Int64) (targetWord : Nat → Int32) (targetLine : Nat → Int32) (l1 : Int32) (l2 : Int32) (l3 : Int32) (z10_0 : Int32) : Int32 × Int32 × Int32 × Int32 × Int32 × Int32 × Int32 × (Nat → Int32) × (Nat → Int64) × (Nat → Int32) × (Nat → Int64) × (Nat → Int32) × (Nat → Int32) := (f_X11_takeLine_c182 length line words labels targets wrong unfit text code_ label labelWord target targetWord targetLine l1 l2 l3 z10_0 (f_X11_letters length z10_0 text).1 (f_X11_letters length z10_0 text).2)
def f_X11_takeLine_171 (length : Int32) (at_ : Int32) (line : Int32) (words : Int32) (labels : Int32) (targets : Int32) (wrong : Int32) (unfit : Int32) (text : Nat → Int32) (code_ : Nat → Int32) (label : Nat → Int64) (labelWord : Nat → Int32) (target : Nat → Int64) (targetWord : Nat → Int32) (targetLine : Nat → Int32) (l1 : Int32) (l2 : Int32) (l3 : Int32) : Int32 × Int32 × Int32 × Int32 × Int32 × Int32 × Int32 × (Nat → Int32) × (Nat → Int64) × (Nat → Int32) × (Nat → Int64) × (Nat → Int32) × (Nat → Int32) := (f_X11_takeLine_c172 length line words labels targets wrong unfit text code_ label labelWord target targetWord targetLine l1 l2 l3 (f_X11_skip length at_ text))
set_option maxRecDepth 20000 in
theorem j_X11_takeLine_171 {l1 : Int32} {l2 : Int32} {l3 : Int32} {refusal : Int32} {wheel : Int32} {now : Int32} {length : Int32} {at_ : Int32} {fault : Int32} {faultLine : Int32} {line : Int32} {words : Int32} {labels : Int32} {targets : Int32} {wrong : Int32} {unfit : Int32} {text : Nat → Int32} {code_ : Nat → Int32} {label : Nat → Int64} {labelWord : Nat → Int32} {target : Nat → Int64} {targetWord : Nat → Int32} {targetLine : Nat → Int32} {store : Nat → Int32} {common : Nat → Int32} {low : Nat → Int32} {high : Nat → Int32} {register : Nat → Int32} {address : Nat → Int32} {status : Nat → Int32} {did : Nat → Int32} {ready : Nat → Int32} {timer : Nat → Int32} {trace : Nat → Int32} {r_0 : Int32} {r_1 : Int32} {r_2 : Int32} {r_3 : Int32} {r_4 : Int32} {r_5 : Int32} {r_6 : Int32} {r_7 : (Nat → Int32)} {r_8 : (Nat → Int64)} {r_9 : (Nat → Int32)} {r_10 : (Nat → Int64)} {r_11 : (Nat → Int32)} {r_12 : (Nat → Int32)} (hres : (r_0, r_1, r_2, r_3, r_4, r_5, r_6, r_7, r_8, r_9, r_10, r_11, r_12) = (f_X11_takeLine_171 length at_ line words labels targets wrong unfit text code_ label labelWord target targetWord targetLine l1 l2 l3)) (hln : 0 ≤ length.toInt ∧ length.toInt ≤ 400) (hat : 0 ≤ at_.toInt ∧ at_.toInt ≤ 400) (hwd : 0 ≤ words.toInt ∧ words.toInt ≤ 128) (hlb : 0 ≤ labels.toInt ∧ labels.toInt ≤ 16) (htg : 0 ≤ targets.toInt ∧ targets.toInt ≤ 128) (hf : 0 ≤ l1.toInt ∧ l1.toInt < 128) : G M_X11_takeLine 0 0 171 [(0, .ref 0), (1, .int l1), (2, .int l2), (3, .int l3)] [] (w_M refusal wheel now length at_ fault faultLine line words labels targets wrong unfit text code_ label labelWord target targetWord targetLine store common low high register address status did ready timer trace) (none) (w_M refusal wheel now length r_0 r_1 faultLine line r_2 r_3 r_4 r_5 r_6 text r_7 r_8 r_9 r_10 r_11 r_12 store common low high register address status did ready timer trace) := by
  rw [f_X11_takeLine_171] at hres
  refine G.aload_n (pc := 171) dm_X11_takeLine_171 rfl ?_
  obtain ⟨z10_0, hz10⟩ := g_ex1 (f_X11_skip length at_ text)
  refine G.callV0 (pc := 172) (rest := []) (st1 := []) dm_X11_takeLine_172 gc_X11_takeLine_95 (k_X11_skip (refusal := refusal) (wheel := wheel) (now := now) (length := length) (at_ := at_) (fault := fault) (faultLine := faultLine) (line := line) (words := words) (labels := labels) (targets := targets) (wrong := wrong) (unfit := unfit) (text := text) (code_ := code_) (label := label) (labelWord := labelWord) (target := target) (targetWord := targetWord) (targetLine := targetLine) (store := store) (common := common) (low := low) (high := high) (register := register) (address := address) (status := status) (did := did) (ready := ready) (timer := timer) (trace := trace) (by first | assumption | exact q_31 _ | exact q_7 _) (by first | assumption | exact q_31 _ | exact q_7 _) hz10) rfl rfl rfl rfl rfl rfl rfl rfl ?_
  have hat := (a_skip hz10 hln hat).1
  replace hres : (r_0, r_1, r_2, r_3, r_4, r_5, r_6, r_7, r_8, r_9, r_10, r_11, r_12) = f_X11_takeLine_c172 length line words labels targets wrong unfit text code_ label labelWord target targetWord targetLine l1 l2 l3 z10_0 := hres.trans (by rw [← hz10])
  rw [f_X11_takeLine_c172] at hres
  refine G.aload_n (pc := 175) dm_X11_takeLine_175 rfl ?_
  refine G.getfield (pc := 176) dm_X11_takeLine_176 gf_X11_88 rfl rfl ?_
  refine G.istore (pc := 179) (lv1 := [(4, .int z10_0), (0, .ref 0), (1, .int l1), (2, .int l2), (3, .int l3)]) dm_X11_takeLine_179 rfl rfl ?_
  refine G.aload_n (pc := 181) dm_X11_takeLine_181 rfl ?_
  obtain ⟨z11_0, z11_1, hz11⟩ := g_ex2 (f_X11_letters length z10_0 text)
  refine G.callV0 (pc := 182) (rest := []) (st1 := [.long z11_0]) dm_X11_takeLine_182 gc_X11_takeLine_195 (k_X11_letters (refusal := refusal) (wheel := wheel) (now := now) (length := length) (at_ := z10_0) (fault := fault) (faultLine := faultLine) (line := line) (words := words) (labels := labels) (targets := targets) (wrong := wrong) (unfit := unfit) (text := text) (code_ := code_) (label := label) (labelWord := labelWord) (target := target) (targetWord := targetWord) (targetLine := targetLine) (store := store) (common := common) (low := low) (high := high) (register := register) (address := address) (status := status) (did := did) (ready := ready) (timer := timer) (trace := trace) (by first | assumption | exact q_31 _ | exact q_7 _) (by first | assumption | exact q_31 _ | exact q_7 _) hz11) rfl rfl rfl rfl rfl rfl rfl rfl ?_
  have hat := (a_letters hz11 hln hat).1
  replace hres : (r_0, r_1, r_2, r_3, r_4, r_5, r_6, r_7, r_8, r_9, r_10, r_11, r_12) = f_X11_takeLine_c182 length line words labels targets wrong unfit text code_ label labelWord target targetWord targetLine l1 l2 l3 z10_0 z11_0 z11_1 := hres.trans (by rw [← hz11])
  rw [f_X11_takeLine_c182] at hres
  refine G.lstore (pc := 185) (lv1 := [(5, .long z11_0), (4, .int z10_0), (0, .ref 0), (1, .int l1), (2, .int l2), (3, .int l3)]) dm_X11_takeLine_185 rfl rfl ?_
  refine G.aload_n (pc := 187) dm_X11_takeLine_187 rfl ?_
  refine G.getfield (pc := 188) dm_X11_takeLine_188 gf_X11_88 rfl rfl ?_
  refine G.iload (pc := 191) dm_X11_takeLine_191 rfl ?_
  refine G.icmp_le (pc := 193) (tgt := 200) dm_X11_takeLine_193 (by decide) (fun c193 => ?_) (fun c193 => ?_)
  · rw [if_pos c193] at hres
    refine G.iconst (pc := 200) (v := (0 : Int32)) dm_X11_takeLine_200 qi_0 ?_
    refine G.lvp [2, 3, 4, 5, 0] rfl ?_
    exact j_X11_takeLine_201 hres (by first | assumption | exact q_31 _ | exact q_7 _) (by first | assumption | exact q_31 _ | exact q_7 _) (by first | assumption | exact q_31 _ | exact q_7 _) (by first | assumption | exact q_31 _ | exact q_7 _) (by first | assumption | exact q_31 _ | exact q_7 _) (by first | assumption | exact q_31 _ | exact q_7 _)
  · rw [if_neg c193] at hres
    refine G.iconst (pc := 196) (v := (1 : Int32)) dm_X11_takeLine_196 qi_1 ?_
    refine G.goto (pc := 197) (tgt := 201) dm_X11_takeLine_197 (by decide) ?_
    refine G.lvp [2, 3, 4, 5, 0] rfl ?_
    exact j_X11_takeLine_201 hres (by first | assumption | exact q_31 _ | exact q_7 _) (by first | assumption | exact q_31 _ | exact q_7 _) (by first | assumption | exact q_31 _ | exact q_7 _) (by first | assumption | exact q_31 _ | exact q_7 _) (by first | assumption | exact q_31 _ | exact q_7 _) (by first | assumption | exact q_31 _ | exact q_7 _)
def f_X11_takeLine_123 (length : Int32) (at_ : Int32) (line : Int32) (words : Int32) (labels : Int32) (targets : Int32) (wrong : Int32) (unfit : Int32) (text : Nat → Int32) (code_ : Nat → Int32) (label : Nat → Int64) (labelWord : Nat → Int32) (target : Nat → Int64) (targetWord : Nat → Int32) (targetLine : Nat → Int32) (l1 : Int32) (l2 : Int32) (l5 : Int64) (s0 : Int32) : Int32 × Int32 × Int32 × Int32 × Int32 × Int32 × Int32 × (Nat → Int32) × (Nat → Int64) × (Nat → Int32) × (Nat → Int64) × (Nat → Int32) × (Nat → Int32) := (if wrong = 0 then (if l2 = 0 then (f_X11_takeLine_171 length at_ line words (labels + (1 : Int32)) targets wrong unfit text code_ (vp_updL label (Int32.toNatClampNeg labels) l5) (upd labelWord (Int32.toNatClampNeg labels) (l1 + words)) target targetWord targetLine l1 l2 s0) else (f_X11_takeLine_171 length at_ line words labels targets wrong unfit text code_ label labelWord target targetWord targetLine l1 l2 s0)) else (f_X11_takeLine_171 length at_ line words labels targets wrong unfit text code_ label labelWord target targetWord targetLine l1 l2 s0))
set_option maxRecDepth 20000 in
theorem j_X11_takeLine_123 {l1 : Int32} {l2 : Int32} {l5 : Int64} {s0 : Int32} {refusal : Int32} {wheel : Int32} {now : Int32} {length : Int32} {at_ : Int32} {fault : Int32} {faultLine : Int32} {line : Int32} {words : Int32} {labels : Int32} {targets : Int32} {wrong : Int32} {unfit : Int32} {text : Nat → Int32} {code_ : Nat → Int32} {label : Nat → Int64} {labelWord : Nat → Int32} {target : Nat → Int64} {targetWord : Nat → Int32} {targetLine : Nat → Int32} {store : Nat → Int32} {common : Nat → Int32} {low : Nat → Int32} {high : Nat → Int32} {register : Nat → Int32} {address : Nat → Int32} {status : Nat → Int32} {did : Nat → Int32} {ready : Nat → Int32} {timer : Nat → Int32} {trace : Nat → Int32} {r_0 : Int32} {r_1 : Int32} {r_2 : Int32} {r_3 : Int32} {r_4 : Int32} {r_5 : Int32} {r_6 : Int32} {r_7 : (Nat → Int32)} {r_8 : (Nat → Int64)} {r_9 : (Nat → Int32)} {r_10 : (Nat → Int64)} {r_11 : (Nat → Int32)} {r_12 : (Nat → Int32)} (hres : (r_0, r_1, r_2, r_3, r_4, r_5, r_6, r_7, r_8, r_9, r_10, r_11, r_12) = (f_X11_takeLine_123 length at_ line words labels targets wrong unfit text code_ label labelWord target targetWord targetLine l1 l2 l5 s0)) (hln : 0 ≤ length.toInt ∧ length.toInt ≤ 400) (hat : 0 ≤ at_.toInt ∧ at_.toInt ≤ 400) (hwd : 0 ≤ words.toInt ∧ words.toInt ≤ 128) (hlb : 0 ≤ labels.toInt ∧ labels.toInt ≤ 16) (htg : 0 ≤ targets.toInt ∧ targets.toInt ≤ 128) (hf : 0 ≤ l1.toInt ∧ l1.toInt < 128) (hfu : l2 = 0 → labels.toInt < 16) : G M_X11_takeLine 0 0 123 [(0, .ref 0), (1, .int l1), (2, .int l2), (5, .long l5)] [.int s0] (w_M refusal wheel now length at_ fault faultLine line words labels targets wrong unfit text code_ label labelWord target targetWord targetLine store common low high register address status did ready timer trace) (none) (w_M refusal wheel now length r_0 r_1 faultLine line r_2 r_3 r_4 r_5 r_6 text r_7 r_8 r_9 r_10 r_11 r_12 store common low high register address status did ready timer trace) := by
  rw [f_X11_takeLine_123] at hres
  refine G.istore_n (pc := 123) (lv1 := [(3, .int s0), (0, .ref 0), (1, .int l1), (2, .int l2), (5, .long l5)]) dm_X11_takeLine_123 rfl rfl ?_
  refine G.aload_n (pc := 124) dm_X11_takeLine_124 rfl ?_
  refine G.getfield (pc := 125) dm_X11_takeLine_125 gf_X11_102 rfl rfl ?_
  refine G.if_ne (pc := 128) (tgt := 171) dm_X11_takeLine_128 (by decide) (fun c128 => ?_) (fun c128 => ?_)
  · rw [if_neg c128] at hres
    refine G.lvp [1, 2, 3, 0] rfl ?_
    exact j_X11_takeLine_171 hres (by first | assumption | exact q_31 _ | exact q_7 _) (by first | assumption | exact q_31 _ | exact q_7 _) (by first | assumption | exact q_31 _ | exact q_7 _) (by first | assumption | exact q_31 _ | exact q_7 _) (by first | assumption | exact q_31 _ | exact q_7 _) (by first | assumption | exact q_31 _ | exact q_7 _)
  · rw [if_pos c128] at hres
    refine G.iload_n (pc := 131) dm_X11_takeLine_131 rfl ?_
    refine G.if_ne (pc := 132) (tgt := 171) dm_X11_takeLine_132 (by decide) (fun c132 => ?_) (fun c132 => ?_)
    · rw [if_neg c132] at hres
      refine G.lvp [1, 2, 3, 0] rfl ?_
      exact j_X11_takeLine_171 hres (by first | assumption | exact q_31 _ | exact q_7 _) (by first | assumption | exact q_31 _ | exact q_7 _) (by first | assumption | exact q_31 _ | exact q_7 _) (by first | assumption | exact q_31 _ | exact q_7 _) (by first | assumption | exact q_31 _ | exact q_7 _) (by first | assumption | exact q_31 _ | exact q_7 _)
    · rw [if_pos c132] at hres
      refine G.aload_n (pc := 135) dm_X11_takeLine_135 rfl ?_
      refine G.getfield (pc := 136) dm_X11_takeLine_136 gf_X11_17 rfl rfl ?_
      refine G.aload_n (pc := 139) dm_X11_takeLine_139 rfl ?_
      refine G.getfield (pc := 140) dm_X11_takeLine_140 gf_X11_256 rfl rfl ?_
      refine G.lload (pc := 143) dm_X11_takeLine_143 rfl ?_
      refine G.lastore (pc := 145) (ws1 := (w_M refusal wheel now length at_ fault faultLine line words labels targets wrong unfit text code_ (vp_updL label (Int32.toNatClampNeg labels) l5) labelWord target targetWord targetLine store common low high register address status did ready timer trace)) dm_X11_takeLine_145 rfl (q_in hlb.1 (hfu c132)) rfl ?_
      refine G.aload_n (pc := 146) dm_X11_takeLine_146 rfl ?_
      refine G.getfield (pc := 147) dm_X11_takeLine_147 gf_X11_21 rfl rfl ?_
      refine G.aload_n (pc := 150) dm_X11_takeLine_150 rfl ?_
      refine G.getfield (pc := 151) dm_X11_takeLine_151 gf_X11_256 rfl rfl ?_
      refine G.iload_n (pc := 154) dm_X11_takeLine_154 rfl ?_
      refine G.aload_n (pc := 155) dm_X11_takeLine_155 rfl ?_
      refine G.getfield (pc := 156) dm_X11_takeLine_156 gf_X11_202 rfl rfl ?_
      refine G.iadd (pc := 159) dm_X11_takeLine_159 ?_
      refine G.iastore (pc := 160) (ws1 := (w_M refusal wheel now length at_ fault faultLine line words labels targets wrong unfit text code_ (vp_updL label (Int32.toNatClampNeg labels) l5) (upd labelWord (Int32.toNatClampNeg labels) (l1 + words)) target targetWord targetLine store common low high register address status did ready timer trace)) dm_X11_takeLine_160 rfl (q_in hlb.1 (hfu c132)) rfl ?_
      refine G.aload_n (pc := 161) dm_X11_takeLine_161 rfl ?_
      refine G.dup (pc := 162) dm_X11_takeLine_162 rfl ?_
      refine G.getfield (pc := 163) dm_X11_takeLine_163 gf_X11_256 rfl rfl ?_
      refine G.iconst (pc := 166) (v := (1 : Int32)) dm_X11_takeLine_166 qi_1 ?_
      refine G.iadd (pc := 167) dm_X11_takeLine_167 ?_
      refine G.putfield (pc := 168) (ws1 := (w_M refusal wheel now length at_ fault faultLine line words (labels + (1 : Int32)) targets wrong unfit text code_ (vp_updL label (Int32.toNatClampNeg labels) l5) (upd labelWord (Int32.toNatClampNeg labels) (l1 + words)) target targetWord targetLine store common low high register address status did ready timer trace)) dm_X11_takeLine_168 gw_X11_256 rfl (g_fit_i _) rfl rfl ?_
      refine G.lvp [1, 2, 3, 0] rfl ?_
      exact j_X11_takeLine_171 hres hln hat hwd (q_inc16 hlb (hfu c132)) htg hf
def f_X11_takeLine_c112 (length : Int32) (at_ : Int32) (line : Int32) (words : Int32) (labels : Int32) (targets : Int32) (wrong : Int32) (unfit : Int32) (text : Nat → Int32) (code_ : Nat → Int32) (label : Nat → Int64) (labelWord : Nat → Int32) (target : Nat → Int64) (targetWord : Nat → Int32) (targetLine : Nat → Int32) (l1 : Int32) (l5 : Int64) (s0 : Int32) (z9_0 : Int32) : Int32 × Int32 × Int32 × Int32 × Int32 × Int32 × Int32 × (Nat → Int32) × (Nat → Int64) × (Nat → Int32) × (Nat → Int64) × (Nat → Int32) × (Nat → Int32) := (if z9_0 < 0 then (f_X11_takeLine_123 length at_ line words labels targets wrong unfit text code_ label labelWord target targetWord targetLine l1 s0 l5 (0 : Int32)) else (f_X11_takeLine_123 length at_ line words labels targets wrong unfit text code_ label labelWord target targetWord targetLine l1 s0 l5 (1 : Int32)))
def f_X11_takeLine_108 (length : Int32) (at_ : Int32) (line : Int32) (words : Int32) (labels : Int32) (targets : Int32) (wrong : Int32) (unfit : Int32) (text : Nat → Int32) (code_ : Nat → Int32) (label : Nat → Int64) (labelWord : Nat → Int32) (target : Nat → Int64) (targetWord : Nat → Int32) (targetLine : Nat → Int32) (l1 : Int32) (l5 : Int64) (s0 : Int32) : Int32 × Int32 × Int32 × Int32 × Int32 × Int32 × Int32 × (Nat → Int32) × (Nat → Int64) × (Nat → Int32) × (Nat → Int64) × (Nat → Int32) × (Nat → Int32) := (f_X11_takeLine_c112 length at_ line words labels targets wrong unfit text code_ label labelWord target targetWord targetLine l1 l5 s0 (f_X11_labelOf l5 labels label))
set_option maxRecDepth 20000 in
theorem j_X11_takeLine_108 {l1 : Int32} {l5 : Int64} {s0 : Int32} {refusal : Int32} {wheel : Int32} {now : Int32} {length : Int32} {at_ : Int32} {fault : Int32} {faultLine : Int32} {line : Int32} {words : Int32} {labels : Int32} {targets : Int32} {wrong : Int32} {unfit : Int32} {text : Nat → Int32} {code_ : Nat → Int32} {label : Nat → Int64} {labelWord : Nat → Int32} {target : Nat → Int64} {targetWord : Nat → Int32} {targetLine : Nat → Int32} {store : Nat → Int32} {common : Nat → Int32} {low : Nat → Int32} {high : Nat → Int32} {register : Nat → Int32} {address : Nat → Int32} {status : Nat → Int32} {did : Nat → Int32} {ready : Nat → Int32} {timer : Nat → Int32} {trace : Nat → Int32} {r_0 : Int32} {r_1 : Int32} {r_2 : Int32} {r_3 : Int32} {r_4 : Int32} {r_5 : Int32} {r_6 : Int32} {r_7 : (Nat → Int32)} {r_8 : (Nat → Int64)} {r_9 : (Nat → Int32)} {r_10 : (Nat → Int64)} {r_11 : (Nat → Int32)} {r_12 : (Nat → Int32)} (hres : (r_0, r_1, r_2, r_3, r_4, r_5, r_6, r_7, r_8, r_9, r_10, r_11, r_12) = (f_X11_takeLine_108 length at_ line words labels targets wrong unfit text code_ label labelWord target targetWord targetLine l1 l5 s0)) (hln : 0 ≤ length.toInt ∧ length.toInt ≤ 400) (hat : 0 ≤ at_.toInt ∧ at_.toInt ≤ 400) (hwd : 0 ≤ words.toInt ∧ words.toInt ≤ 128) (hlb : 0 ≤ labels.toInt ∧ labels.toInt ≤ 16) (htg : 0 ≤ targets.toInt ∧ targets.toInt ≤ 128) (hf : 0 ≤ l1.toInt ∧ l1.toInt < 128) (hfu : s0 = 0 → labels.toInt < 16) : G M_X11_takeLine 0 0 108 [(0, .ref 0), (1, .int l1), (5, .long l5)] [.int s0] (w_M refusal wheel now length at_ fault faultLine line words labels targets wrong unfit text code_ label labelWord target targetWord targetLine store common low high register address status did ready timer trace) (none) (w_M refusal wheel now length r_0 r_1 faultLine line r_2 r_3 r_4 r_5 r_6 text r_7 r_8 r_9 r_10 r_11 r_12 store common low high register address status did ready timer trace) := by
  rw [f_X11_takeLine_108] at hres
  refine G.istore_n (pc := 108) (lv1 := [(2, .int s0), (0, .ref 0), (1, .int l1), (5, .long l5)]) dm_X11_takeLine_108 rfl rfl ?_
  refine G.aload_n (pc := 109) dm_X11_takeLine_109 rfl ?_
  refine G.lload (pc := 110) dm_X11_takeLine_110 rfl ?_
  obtain ⟨z9_0, hz9⟩ := g_ex1 (f_X11_labelOf l5 labels label)
  refine G.callV0 (pc := 112) (rest := []) (st1 := [.int z9_0]) dm_X11_takeLine_112 gc_X11_takeLine_259 (k_X11_labelOf (w := l5) (refusal := refusal) (wheel := wheel) (now := now) (length := length) (at_ := at_) (fault := fault) (faultLine := faultLine) (line := line) (words := words) (labels := labels) (targets := targets) (wrong := wrong) (unfit := unfit) (text := text) (code_ := code_) (label := label) (labelWord := labelWord) (target := target) (targetWord := targetWord) (targetLine := targetLine) (store := store) (common := common) (low := low) (high := high) (register := register) (address := address) (status := status) (did := did) (ready := ready) (timer := timer) (trace := trace) (by first | assumption | exact q_31 _ | exact q_7 _) hz9) rfl rfl rfl rfl rfl rfl rfl rfl ?_
  replace hres : (r_0, r_1, r_2, r_3, r_4, r_5, r_6, r_7, r_8, r_9, r_10, r_11, r_12) = f_X11_takeLine_c112 length at_ line words labels targets wrong unfit text code_ label labelWord target targetWord targetLine l1 l5 s0 z9_0 := hres.trans (by rw [← hz9])
  rw [f_X11_takeLine_c112] at hres
  refine G.if_lt (pc := 115) (tgt := 122) dm_X11_takeLine_115 (by decide) (fun c115 => ?_) (fun c115 => ?_)
  · rw [if_pos c115] at hres
    refine G.iconst (pc := 122) (v := (0 : Int32)) dm_X11_takeLine_122 qi_0 ?_
    refine G.lvp [1, 2, 0, 3] rfl ?_
    exact j_X11_takeLine_123 hres (by first | assumption | exact q_31 _ | exact q_7 _) (by first | assumption | exact q_31 _ | exact q_7 _) (by first | assumption | exact q_31 _ | exact q_7 _) (by first | assumption | exact q_31 _ | exact q_7 _) (by first | assumption | exact q_31 _ | exact q_7 _) (by first | assumption | exact q_31 _ | exact q_7 _) (by first | assumption | exact q_31 _ | exact q_7 _)
  · rw [if_neg c115] at hres
    refine G.iconst (pc := 118) (v := (1 : Int32)) dm_X11_takeLine_118 qi_1 ?_
    refine G.goto (pc := 119) (tgt := 123) dm_X11_takeLine_119 (by decide) ?_
    refine G.lvp [1, 2, 0, 3] rfl ?_
    exact j_X11_takeLine_123 hres (by first | assumption | exact q_31 _ | exact q_7 _) (by first | assumption | exact q_31 _ | exact q_7 _) (by first | assumption | exact q_31 _ | exact q_7 _) (by first | assumption | exact q_31 _ | exact q_7 _) (by first | assumption | exact q_31 _ | exact q_7 _) (by first | assumption | exact q_31 _ | exact q_7 _) (by first | assumption | exact q_31 _ | exact q_7 _)
def f_X11_takeLine_c60 (length : Int32) (line : Int32) (words : Int32) (labels : Int32) (targets : Int32) (wrong : Int32) (unfit : Int32) (text : Nat → Int32) (code_ : Nat → Int32) (label : Nat → Int64) (labelWord : Nat → Int32) (target : Nat → Int64) (targetWord : Nat → Int32) (targetLine : Nat → Int32) (l1 : Int32) (l2 : Int32) (l3 : Int32) (l5 : Int64) (s0 : Int32) (z3_0 : Int32) (z8_0 : Int32) : Int32 × Int32 × Int32 × Int32 × Int32 × Int32 × Int32 × (Nat → Int32) × (Nat → Int64) × (Nat → Int32) × (Nat → Int64) × (Nat → Int32) × (Nat → Int32) := (if z8_0 = (58 : Int32) then (if (lg_cmp l5 (0 : Int64)) = 0 then (if labels = (16 : Int32) then (f_X11_takeLine_108 length (z3_0 + (1 : Int32)) line words labels targets (1 : Int32) unfit text code_ label labelWord target targetWord targetLine l1 l5 (1 : Int32)) else (f_X11_takeLine_108 length (z3_0 + (1 : Int32)) line words labels targets (1 : Int32) unfit text code_ label labelWord target targetWord targetLine l1 l5 (0 : Int32))) else (if labels = (16 : Int32) then (f_X11_takeLine_108 length (z3_0 + (1 : Int32)) line words labels targets (0 : Int32) unfit text code_ label labelWord target targetWord targetLine l1 l5 (1 : Int32)) else (f_X11_takeLine_108 length (z3_0 + (1 : Int32)) line words labels targets (0 : Int32) unfit text code_ label labelWord target targetWord targetLine l1 l5 (0 : Int32)))) else (f_X11_takeLine_203 length z3_0 line words labels targets wrong unfit text code_ label labelWord target targetWord targetLine l1 l2 l3 l5 s0))
def f_X11_takeLine_c47 (length : Int32) (line : Int32) (words : Int32) (labels : Int32) (targets : Int32) (wrong : Int32) (unfit : Int32) (text : Nat → Int32) (code_ : Nat → Int32) (label : Nat → Int64) (labelWord : Nat → Int32) (target : Nat → Int64) (targetWord : Nat → Int32) (targetLine : Nat → Int32) (l1 : Int32) (l2 : Int32) (l3 : Int32) (l5 : Int64) (s0 : Int32) (z3_0 : Int32) : Int32 × Int32 × Int32 × Int32 × Int32 × Int32 × Int32 × (Nat → Int32) × (Nat → Int64) × (Nat → Int32) × (Nat → Int64) × (Nat → Int32) × (Nat → Int32) := (if s0 = 0 then (f_X11_takeLine_203 length z3_0 line words labels targets wrong unfit text code_ label labelWord target targetWord targetLine l1 l2 l3 l5 s0) else (f_X11_takeLine_c60 length line words labels targets wrong unfit text code_ label labelWord target targetWord targetLine l1 l2 l3 l5 s0 z3_0 (f_X11_character z3_0 length text)))
def f_X11_takeLine_44 (length : Int32) (at_ : Int32) (line : Int32) (words : Int32) (labels : Int32) (targets : Int32) (wrong : Int32) (unfit : Int32) (text : Nat → Int32) (code_ : Nat → Int32) (label : Nat → Int64) (labelWord : Nat → Int32) (target : Nat → Int64) (targetWord : Nat → Int32) (targetLine : Nat → Int32) (l1 : Int32) (l2 : Int32) (l3 : Int32) (l5 : Int64) (s0 : Int32) : Int32 × Int32 × Int32 × Int32 × Int32 × Int32 × Int32 × (Nat → Int32) × (Nat → Int64) × (Nat → Int32) × (Nat → Int64) × (Nat → Int32) × (Nat → Int32) := (f_X11_takeLine_c47 length line words labels targets wrong unfit text code_ label labelWord target targetWord targetLine l1 l2 l3 l5 s0 (f_X11_skip length at_ text))
set_option maxRecDepth 20000 in
theorem j_X11_takeLine_44 {l1 : Int32} {l2 : Int32} {l3 : Int32} {l5 : Int64} {s0 : Int32} {refusal : Int32} {wheel : Int32} {now : Int32} {length : Int32} {at_ : Int32} {fault : Int32} {faultLine : Int32} {line : Int32} {words : Int32} {labels : Int32} {targets : Int32} {wrong : Int32} {unfit : Int32} {text : Nat → Int32} {code_ : Nat → Int32} {label : Nat → Int64} {labelWord : Nat → Int32} {target : Nat → Int64} {targetWord : Nat → Int32} {targetLine : Nat → Int32} {store : Nat → Int32} {common : Nat → Int32} {low : Nat → Int32} {high : Nat → Int32} {register : Nat → Int32} {address : Nat → Int32} {status : Nat → Int32} {did : Nat → Int32} {ready : Nat → Int32} {timer : Nat → Int32} {trace : Nat → Int32} {r_0 : Int32} {r_1 : Int32} {r_2 : Int32} {r_3 : Int32} {r_4 : Int32} {r_5 : Int32} {r_6 : Int32} {r_7 : (Nat → Int32)} {r_8 : (Nat → Int64)} {r_9 : (Nat → Int32)} {r_10 : (Nat → Int64)} {r_11 : (Nat → Int32)} {r_12 : (Nat → Int32)} (hres : (r_0, r_1, r_2, r_3, r_4, r_5, r_6, r_7, r_8, r_9, r_10, r_11, r_12) = (f_X11_takeLine_44 length at_ line words labels targets wrong unfit text code_ label labelWord target targetWord targetLine l1 l2 l3 l5 s0)) (hln : 0 ≤ length.toInt ∧ length.toInt ≤ 400) (hat : 0 ≤ at_.toInt ∧ at_.toInt ≤ 400) (hwd : 0 ≤ words.toInt ∧ words.toInt ≤ 128) (hlb : 0 ≤ labels.toInt ∧ labels.toInt ≤ 16) (htg : 0 ≤ targets.toInt ∧ targets.toInt ≤ 128) (hf : 0 ≤ l1.toInt ∧ l1.toInt < 128) : G M_X11_takeLine 0 0 44 [(0, .ref 0), (1, .int l1), (2, .int l2), (3, .int l3), (5, .long l5)] [.int s0] (w_M refusal wheel now length at_ fault faultLine line words labels targets wrong unfit text code_ label labelWord target targetWord targetLine store common low high register address status did ready timer trace) (none) (w_M refusal wheel now length r_0 r_1 faultLine line r_2 r_3 r_4 r_5 r_6 text r_7 r_8 r_9 r_10 r_11 r_12 store common low high register address status did ready timer trace) := by
  rw [f_X11_takeLine_44] at hres
  refine G.istore (pc := 44) (lv1 := [(7, .int s0), (0, .ref 0), (1, .int l1), (2, .int l2), (3, .int l3), (5, .long l5)]) dm_X11_takeLine_44 rfl rfl ?_
  refine G.aload_n (pc := 46) dm_X11_takeLine_46 rfl ?_
  obtain ⟨z3_0, hz3⟩ := g_ex1 (f_X11_skip length at_ text)
  refine G.callV0 (pc := 47) (rest := []) (st1 := []) dm_X11_takeLine_47 gc_X11_takeLine_95 (k_X11_skip (refusal := refusal) (wheel := wheel) (now := now) (length := length) (at_ := at_) (fault := fault) (faultLine := faultLine) (line := line) (words := words) (labels := labels) (targets := targets) (wrong := wrong) (unfit := unfit) (text := text) (code_ := code_) (label := label) (labelWord := labelWord) (target := target) (targetWord := targetWord) (targetLine := targetLine) (store := store) (common := common) (low := low) (high := high) (register := register) (address := address) (status := status) (did := did) (ready := ready) (timer := timer) (trace := trace) (by first | assumption | exact q_31 _ | exact q_7 _) (by first | assumption | exact q_31 _ | exact q_7 _) hz3) rfl rfl rfl rfl rfl rfl rfl rfl ?_
  have hat := (a_skip hz3 hln hat).1
  replace hres : (r_0, r_1, r_2, r_3, r_4, r_5, r_6, r_7, r_8, r_9, r_10, r_11, r_12) = f_X11_takeLine_c47 length line words labels targets wrong unfit text code_ label labelWord target targetWord targetLine l1 l2 l3 l5 s0 z3_0 := hres.trans (by rw [← hz3])
  rw [f_X11_takeLine_c47] at hres
  refine G.iload (pc := 50) dm_X11_takeLine_50 rfl ?_
  refine G.if_eq (pc := 52) (tgt := 203) dm_X11_takeLine_52 (by decide) (fun c52 => ?_) (fun c52 => ?_)
  · rw [if_pos c52] at hres
    refine G.lvp [1, 2, 3, 4, 5, 0] rfl ?_
    exact j_X11_takeLine_203 hres (by first | assumption | exact q_31 _ | exact q_7 _) (by first | assumption | exact q_31 _ | exact q_7 _) (by first | assumption | exact q_31 _ | exact q_7 _) (by first | assumption | exact q_31 _ | exact q_7 _) (by first | assumption | exact q_31 _ | exact q_7 _) (by first | assumption | exact q_31 _ | exact q_7 _)
  · rw [if_neg c52] at hres
    refine G.aload_n (pc := 55) dm_X11_takeLine_55 rfl ?_
    refine G.aload_n (pc := 56) dm_X11_takeLine_56 rfl ?_
    refine G.getfield (pc := 57) dm_X11_takeLine_57 gf_X11_88 rfl rfl ?_
    obtain ⟨z8_0, hz8⟩ := g_ex1 (f_X11_character z3_0 length text)
    refine G.callV0 (pc := 60) (rest := []) (st1 := [.int z8_0]) dm_X11_takeLine_60 gc_X11_takeLine_91 (k_X11_character (p := z3_0) (refusal := refusal) (wheel := wheel) (now := now) (length := length) (at_ := z3_0) (fault := fault) (faultLine := faultLine) (line := line) (words := words) (labels := labels) (targets := targets) (wrong := wrong) (unfit := unfit) (text := text) (code_ := code_) (label := label) (labelWord := labelWord) (target := target) (targetWord := targetWord) (targetLine := targetLine) (store := store) (common := common) (low := low) (high := high) (register := register) (address := address) (status := status) (did := did) (ready := ready) (timer := timer) (trace := trace) hln hat.1 hz8) rfl rfl rfl rfl rfl rfl rfl rfl ?_
    have ch := a_character hz8
    replace hres : (r_0, r_1, r_2, r_3, r_4, r_5, r_6, r_7, r_8, r_9, r_10, r_11, r_12) = f_X11_takeLine_c60 length line words labels targets wrong unfit text code_ label labelWord target targetWord targetLine l1 l2 l3 l5 s0 z3_0 z8_0 := hres.trans (by rw [← hz8])
    rw [f_X11_takeLine_c60] at hres
    refine G.bipush (pc := 63) (v := (58 : Int32)) dm_X11_takeLine_63 qb_58 ?_
    refine G.icmp_ne (pc := 65) (tgt := 203) dm_X11_takeLine_65 (by decide) (fun c65 => ?_) (fun c65 => ?_)
    · rw [if_neg c65] at hres
      refine G.lvp [1, 2, 3, 4, 5, 0] rfl ?_
      exact j_X11_takeLine_203 hres (by first | assumption | exact q_31 _ | exact q_7 _) (by first | assumption | exact q_31 _ | exact q_7 _) (by first | assumption | exact q_31 _ | exact q_7 _) (by first | assumption | exact q_31 _ | exact q_7 _) (by first | assumption | exact q_31 _ | exact q_7 _) (by first | assumption | exact q_31 _ | exact q_7 _)
    · rw [if_pos c65] at hres
      refine G.aload_n (pc := 68) dm_X11_takeLine_68 rfl ?_
      refine G.dup (pc := 69) dm_X11_takeLine_69 rfl ?_
      refine G.getfield (pc := 70) dm_X11_takeLine_70 gf_X11_88 rfl rfl ?_
      refine G.iconst (pc := 73) (v := (1 : Int32)) dm_X11_takeLine_73 qi_1 ?_
      refine G.iadd (pc := 74) dm_X11_takeLine_74 ?_
      refine G.putfield (pc := 75) (ws1 := (w_M refusal wheel now length (z3_0 + (1 : Int32)) fault faultLine line words labels targets wrong unfit text code_ label labelWord target targetWord targetLine store common low high register address status did ready timer trace)) dm_X11_takeLine_75 gw_X11_88 rfl (g_fit_i _) rfl rfl ?_
      have hat := q_up hln hat (ch (by rw [c65]; decide))
      refine G.aload_n (pc := 78) dm_X11_takeLine_78 rfl ?_
      refine G.lload (pc := 79) dm_X11_takeLine_79 rfl ?_
      refine G.lconst (pc := 81) (v := (0 : Int64)) dm_X11_takeLine_81 (by decide) ?_
      refine G.lcmp (pc := 82) dm_X11_takeLine_82 ?_
      refine G.if_ne (pc := 83) (tgt := 90) dm_X11_takeLine_83 (by decide) (fun c83 => ?_) (fun c83 => ?_)
      · rw [if_neg c83] at hres
        refine G.iconst (pc := 90) (v := (0 : Int32)) dm_X11_takeLine_90 qi_0 ?_
        refine G.putfield (pc := 91) (ws1 := (w_M refusal wheel now length (z3_0 + (1 : Int32)) fault faultLine line words labels targets (0 : Int32) unfit text code_ label labelWord target targetWord targetLine store common low high register address status did ready timer trace)) dm_X11_takeLine_91 gw_X11_102 rfl (g_fit_z (Or.inl rfl)) rfl rfl ?_
        refine G.aload_n (pc := 94) dm_X11_takeLine_94 rfl ?_
        refine G.getfield (pc := 95) dm_X11_takeLine_95 gf_X11_256 rfl rfl ?_
        refine G.bipush (pc := 98) (v := (16 : Int32)) dm_X11_takeLine_98 qb_16 ?_
        refine G.icmp_ne (pc := 100) (tgt := 107) dm_X11_takeLine_100 (by decide) (fun c100 => ?_) (fun c100 => ?_)
        · rw [if_neg c100] at hres
          refine G.iconst (pc := 107) (v := (0 : Int32)) dm_X11_takeLine_107 qi_0 ?_
          refine G.lvp [1, 2, 5] rfl ?_
          exact j_X11_takeLine_108 hres hln hat hwd hlb htg hf (fun _ => q_ne16 hlb c100)
        · rw [if_pos c100] at hres
          refine G.iconst (pc := 103) (v := (1 : Int32)) dm_X11_takeLine_103 qi_1 ?_
          refine G.goto (pc := 104) (tgt := 108) dm_X11_takeLine_104 (by decide) ?_
          refine G.lvp [1, 2, 5] rfl ?_
          exact j_X11_takeLine_108 hres hln hat hwd hlb htg hf (fun h => absurd h (by decide))
      · rw [if_pos c83] at hres
        refine G.iconst (pc := 86) (v := (1 : Int32)) dm_X11_takeLine_86 qi_1 ?_
        refine G.goto (pc := 87) (tgt := 91) dm_X11_takeLine_87 (by decide) ?_
        refine G.putfield (pc := 91) (ws1 := (w_M refusal wheel now length (z3_0 + (1 : Int32)) fault faultLine line words labels targets (1 : Int32) unfit text code_ label labelWord target targetWord targetLine store common low high register address status did ready timer trace)) dm_X11_takeLine_91 gw_X11_102 rfl (g_fit_z (Or.inr rfl)) rfl rfl ?_
        refine G.aload_n (pc := 94) dm_X11_takeLine_94 rfl ?_
        refine G.getfield (pc := 95) dm_X11_takeLine_95 gf_X11_256 rfl rfl ?_
        refine G.bipush (pc := 98) (v := (16 : Int32)) dm_X11_takeLine_98 qb_16 ?_
        refine G.icmp_ne (pc := 100) (tgt := 107) dm_X11_takeLine_100 (by decide) (fun c100 => ?_) (fun c100 => ?_)
        · rw [if_neg c100] at hres
          refine G.iconst (pc := 107) (v := (0 : Int32)) dm_X11_takeLine_107 qi_0 ?_
          refine G.lvp [1, 2, 5] rfl ?_
          exact j_X11_takeLine_108 hres hln hat hwd hlb htg hf (fun _ => q_ne16 hlb c100)
        · rw [if_pos c100] at hres
          refine G.iconst (pc := 103) (v := (1 : Int32)) dm_X11_takeLine_103 qi_1 ?_
          refine G.goto (pc := 104) (tgt := 108) dm_X11_takeLine_104 (by decide) ?_
          refine G.lvp [1, 2, 5] rfl ?_
          exact j_X11_takeLine_108 hres hln hat hwd hlb htg hf (fun h => absurd h (by decide))
def f_X11_takeLine_c25 (first : Int32) (length : Int32) (line : Int32) (words : Int32) (labels : Int32) (targets : Int32) (text : Nat → Int32) (code_ : Nat → Int32) (label : Nat → Int64) (labelWord : Nat → Int32) (target : Nat → Int64) (targetWord : Nat → Int32) (targetLine : Nat → Int32) (z1_0 : Int32) (z2_0 : Int64) (z2_1 : Int32) : Int32 × Int32 × Int32 × Int32 × Int32 × Int32 × Int32 × (Nat → Int32) × (Nat → Int64) × (Nat → Int32) × (Nat → Int64) × (Nat → Int32) × (Nat → Int32) := (if z2_1 ≤ z1_0 then (f_X11_takeLine_44 length z2_1 line words labels targets (0 : Int32) (0 : Int32) text code_ label labelWord target targetWord targetLine first (0 : Int32) (0 : Int32) z2_0 (0 : Int32)) else (f_X11_takeLine_44 length z2_1 line words labels targets (0 : Int32) (0 : Int32) text code_ label labelWord target targetWord targetLine first (0 : Int32) (0 : Int32) z2_0 (1 : Int32)))
def f_X11_takeLine_c15 (first : Int32) (length : Int32) (line : Int32) (words : Int32) (labels : Int32) (targets : Int32) (text : Nat → Int32) (code_ : Nat → Int32) (label : Nat → Int64) (labelWord : Nat → Int32) (target : Nat → Int64) (targetWord : Nat → Int32) (targetLine : Nat → Int32) (z1_0 : Int32) : Int32 × Int32 × Int32 × Int32 × Int32 × Int32 × Int32 × (Nat → Int32) × (Nat → Int64) × (Nat → Int32) × (Nat → Int64) × (Nat → Int32) × (Nat → Int32) := (f_X11_takeLine_c25 first length line words labels targets text code_ label labelWord target targetWord targetLine z1_0 (f_X11_letters length z1_0 text).1 (f_X11_letters length z1_0 text).2)
def f_X11_takeLine (first : Int32) (length : Int32) (at_ : Int32) (line : Int32) (words : Int32) (labels : Int32) (targets : Int32) (text : Nat → Int32) (code_ : Nat → Int32) (label : Nat → Int64) (labelWord : Nat → Int32) (target : Nat → Int64) (targetWord : Nat → Int32) (targetLine : Nat → Int32) : Int32 × Int32 × Int32 × Int32 × Int32 × Int32 × Int32 × (Nat → Int32) × (Nat → Int64) × (Nat → Int32) × (Nat → Int64) × (Nat → Int32) × (Nat → Int32) := (f_X11_takeLine_c15 first length line words labels targets text code_ label labelWord target targetWord targetLine (f_X11_skip length at_ text))
set_option maxRecDepth 20000 in
theorem k_X11_takeLine {first : Int32} {refusal : Int32} {wheel : Int32} {now : Int32} {length : Int32} {at_ : Int32} {fault : Int32} {faultLine : Int32} {line : Int32} {words : Int32} {labels : Int32} {targets : Int32} {wrong : Int32} {unfit : Int32} {text : Nat → Int32} {code_ : Nat → Int32} {label : Nat → Int64} {labelWord : Nat → Int32} {target : Nat → Int64} {targetWord : Nat → Int32} {targetLine : Nat → Int32} {store : Nat → Int32} {common : Nat → Int32} {low : Nat → Int32} {high : Nat → Int32} {register : Nat → Int32} {address : Nat → Int32} {status : Nat → Int32} {did : Nat → Int32} {ready : Nat → Int32} {timer : Nat → Int32} {trace : Nat → Int32} (hln : 0 ≤ length.toInt ∧ length.toInt ≤ 400) (hat : 0 ≤ at_.toInt ∧ at_.toInt ≤ 400) (hwd : 0 ≤ words.toInt ∧ words.toInt ≤ 128) (hlb : 0 ≤ labels.toInt ∧ labels.toInt ≤ 16) (htg : 0 ≤ targets.toInt ∧ targets.toInt ≤ 128) (hf : 0 ≤ first.toInt ∧ first.toInt < 128) {r_0 : Int32} {r_1 : Int32} {r_2 : Int32} {r_3 : Int32} {r_4 : Int32} {r_5 : Int32} {r_6 : Int32} {r_7 : (Nat → Int32)} {r_8 : (Nat → Int64)} {r_9 : (Nat → Int32)} {r_10 : (Nat → Int64)} {r_11 : (Nat → Int32)} {r_12 : (Nat → Int32)} (hres : (r_0, r_1, r_2, r_3, r_4, r_5, r_6, r_7, r_8, r_9, r_10, r_11, r_12) = f_X11_takeLine first length at_ line words labels targets text code_ label labelWord target targetWord targetLine) : K M_X11_takeLine yX11_takeLine [.ref 0, .int first] (w_M refusal wheel now length at_ fault faultLine line words labels targets wrong unfit text code_ label labelWord target targetWord targetLine store common low high register address status did ready timer trace) (none) (w_M refusal wheel now length r_0 r_1 faultLine line r_2 r_3 r_4 r_5 r_6 text r_7 r_8 r_9 r_10 r_11 r_12 store common low high register address status did ready timer trace) := by
  refine K.of (lv := [(0, .ref 0), (1, .int first)]) (by decide +kernel) rfl rfl rfl ?_
  rw [f_X11_takeLine] at hres
  refine G.aload_n (pc := 0) dm_X11_takeLine_0 rfl ?_
  refine G.iconst (pc := 1) (v := (0 : Int32)) dm_X11_takeLine_1 qi_0 ?_
  refine G.putfield (pc := 2) (ws1 := (w_M refusal wheel now length at_ fault faultLine line words labels targets (0 : Int32) unfit text code_ label labelWord target targetWord targetLine store common low high register address status did ready timer trace)) dm_X11_takeLine_2 gw_X11_102 rfl (g_fit_z (Or.inl rfl)) rfl rfl ?_
  refine G.aload_n (pc := 5) dm_X11_takeLine_5 rfl ?_
  refine G.iconst (pc := 6) (v := (0 : Int32)) dm_X11_takeLine_6 qi_0 ?_
  refine G.putfield (pc := 7) (ws1 := (w_M refusal wheel now length at_ fault faultLine line words labels targets (0 : Int32) (0 : Int32) text code_ label labelWord target targetWord targetLine store common low high register address status did ready timer trace)) dm_X11_takeLine_7 gw_X11_111 rfl (g_fit_z (Or.inl rfl)) rfl rfl ?_
  refine G.iconst (pc := 10) (v := (0 : Int32)) dm_X11_takeLine_10 qi_0 ?_
  refine G.istore_n (pc := 11) (lv1 := [(2, .int (0 : Int32)), (0, .ref 0), (1, .int first)]) dm_X11_takeLine_11 rfl rfl ?_
  refine G.iconst (pc := 12) (v := (0 : Int32)) dm_X11_takeLine_12 qi_0 ?_
  refine G.istore_n (pc := 13) (lv1 := [(3, .int (0 : Int32)), (2, .int (0 : Int32)), (0, .ref 0), (1, .int first)]) dm_X11_takeLine_13 rfl rfl ?_
  refine G.aload_n (pc := 14) dm_X11_takeLine_14 rfl ?_
  obtain ⟨z1_0, hz1⟩ := g_ex1 (f_X11_skip length at_ text)
  refine G.callV0 (pc := 15) (rest := []) (st1 := []) dm_X11_takeLine_15 gc_X11_takeLine_95 (k_X11_skip (refusal := refusal) (wheel := wheel) (now := now) (length := length) (at_ := at_) (fault := fault) (faultLine := faultLine) (line := line) (words := words) (labels := labels) (targets := targets) (wrong := (0 : Int32)) (unfit := (0 : Int32)) (text := text) (code_ := code_) (label := label) (labelWord := labelWord) (target := target) (targetWord := targetWord) (targetLine := targetLine) (store := store) (common := common) (low := low) (high := high) (register := register) (address := address) (status := status) (did := did) (ready := ready) (timer := timer) (trace := trace) (by first | assumption | exact q_31 _ | exact q_7 _) (by first | assumption | exact q_31 _ | exact q_7 _) hz1) rfl rfl rfl rfl rfl rfl rfl rfl ?_
  have hat := (a_skip hz1 hln hat).1
  replace hres : (r_0, r_1, r_2, r_3, r_4, r_5, r_6, r_7, r_8, r_9, r_10, r_11, r_12) = f_X11_takeLine_c15 first length line words labels targets text code_ label labelWord target targetWord targetLine z1_0 := hres.trans (by rw [← hz1])
  rw [f_X11_takeLine_c15] at hres
  refine G.aload_n (pc := 18) dm_X11_takeLine_18 rfl ?_
  refine G.getfield (pc := 19) dm_X11_takeLine_19 gf_X11_88 rfl rfl ?_
  refine G.istore (pc := 22) (lv1 := [(4, .int z1_0), (3, .int (0 : Int32)), (2, .int (0 : Int32)), (0, .ref 0), (1, .int first)]) dm_X11_takeLine_22 rfl rfl ?_
  refine G.aload_n (pc := 24) dm_X11_takeLine_24 rfl ?_
  obtain ⟨z2_0, z2_1, hz2⟩ := g_ex2 (f_X11_letters length z1_0 text)
  refine G.callV0 (pc := 25) (rest := []) (st1 := [.long z2_0]) dm_X11_takeLine_25 gc_X11_takeLine_195 (k_X11_letters (refusal := refusal) (wheel := wheel) (now := now) (length := length) (at_ := z1_0) (fault := fault) (faultLine := faultLine) (line := line) (words := words) (labels := labels) (targets := targets) (wrong := (0 : Int32)) (unfit := (0 : Int32)) (text := text) (code_ := code_) (label := label) (labelWord := labelWord) (target := target) (targetWord := targetWord) (targetLine := targetLine) (store := store) (common := common) (low := low) (high := high) (register := register) (address := address) (status := status) (did := did) (ready := ready) (timer := timer) (trace := trace) (by first | assumption | exact q_31 _ | exact q_7 _) (by first | assumption | exact q_31 _ | exact q_7 _) hz2) rfl rfl rfl rfl rfl rfl rfl rfl ?_
  have hat := (a_letters hz2 hln hat).1
  replace hres : (r_0, r_1, r_2, r_3, r_4, r_5, r_6, r_7, r_8, r_9, r_10, r_11, r_12) = f_X11_takeLine_c25 first length line words labels targets text code_ label labelWord target targetWord targetLine z1_0 z2_0 z2_1 := hres.trans (by rw [← hz2])
  rw [f_X11_takeLine_c25] at hres
  refine G.lstore (pc := 28) (lv1 := [(5, .long z2_0), (4, .int z1_0), (3, .int (0 : Int32)), (2, .int (0 : Int32)), (0, .ref 0), (1, .int first)]) dm_X11_takeLine_28 rfl rfl ?_
  refine G.aload_n (pc := 30) dm_X11_takeLine_30 rfl ?_
  refine G.getfield (pc := 31) dm_X11_takeLine_31 gf_X11_88 rfl rfl ?_
  refine G.iload (pc := 34) dm_X11_takeLine_34 rfl ?_
  refine G.icmp_le (pc := 36) (tgt := 43) dm_X11_takeLine_36 (by decide) (fun c36 => ?_) (fun c36 => ?_)
  · rw [if_pos c36] at hres
    refine G.iconst (pc := 43) (v := (0 : Int32)) dm_X11_takeLine_43 qi_0 ?_
    refine G.lvp [4, 5, 3, 2, 0] rfl ?_
    exact j_X11_takeLine_44 hres (by first | assumption | exact q_31 _ | exact q_7 _) (by first | assumption | exact q_31 _ | exact q_7 _) (by first | assumption | exact q_31 _ | exact q_7 _) (by first | assumption | exact q_31 _ | exact q_7 _) (by first | assumption | exact q_31 _ | exact q_7 _) (by first | assumption | exact q_31 _ | exact q_7 _)
  · rw [if_neg c36] at hres
    refine G.iconst (pc := 39) (v := (1 : Int32)) dm_X11_takeLine_39 qi_1 ?_
    refine G.goto (pc := 40) (tgt := 44) dm_X11_takeLine_40 (by decide) ?_
    refine G.lvp [4, 5, 3, 2, 0] rfl ?_
    exact j_X11_takeLine_44 hres (by first | assumption | exact q_31 _ | exact q_7 _) (by first | assumption | exact q_31 _ | exact q_7 _) (by first | assumption | exact q_31 _ | exact q_7 _) (by first | assumption | exact q_31 _ | exact q_7 _) (by first | assumption | exact q_31 _ | exact q_7 _) (by first | assumption | exact q_31 _ | exact q_7 _)
theorem a_X11_takeLine_342 {l2 : Int32} {l3 : Int32} {length : Int32} {at_ : Int32} {words : Int32} {labels : Int32} {targets : Int32} {wrong : Int32} {unfit : Int32} {text : Nat → Int32} {code_ : Nat → Int32} {label : Nat → Int64} {labelWord : Nat → Int32} {target : Nat → Int64} {targetWord : Nat → Int32} {targetLine : Nat → Int32} {r_0 : Int32} {r_1 : Int32} {r_2 : Int32} {r_3 : Int32} {r_4 : Int32} {r_5 : Int32} {r_6 : Int32} {r_7 : (Nat → Int32)} {r_8 : (Nat → Int64)} {r_9 : (Nat → Int32)} {r_10 : (Nat → Int64)} {r_11 : (Nat → Int32)} {r_12 : (Nat → Int32)} {a0 : Int32} {f0 : Int32} (hres : (r_0, r_1, r_2, r_3, r_4, r_5, r_6, r_7, r_8, r_9, r_10, r_11, r_12) = (f_X11_takeLine_342 length at_ words labels targets wrong unfit text code_ label labelWord target targetWord targetLine l2 l3)) (hln : 0 ≤ length.toInt ∧ length.toInt ≤ 400) (hat : (0 ≤ at_.toInt ∧ at_.toInt ≤ 400) ∧ a0.toInt ≤ at_.toInt) (hwd : 0 ≤ words.toInt ∧ words.toInt ≤ 129) (hlb : 0 ≤ labels.toInt ∧ labels.toInt ≤ 16) (htg : 0 ≤ targets.toInt ∧ targets.toInt ≤ 128) (htw : ∀ j, j < targets.toInt.toNat → 0 ≤ (targetWord j).toInt ∧ (targetWord j).toInt < words.toInt) (hs : l2 = 0 → f0.toInt + words.toInt ≤ 128) : ((0 ≤ r_0.toInt ∧ r_0.toInt ≤ 400) ∧ a0.toInt ≤ r_0.toInt) ∧ (0 ≤ r_2.toInt ∧ r_2.toInt ≤ 129) ∧ (0 ≤ r_3.toInt ∧ r_3.toInt ≤ 16) ∧ (0 ≤ r_4.toInt ∧ r_4.toInt ≤ 128) ∧ (∀ j, j < r_4.toInt.toNat → 0 ≤ (r_11 j).toInt ∧ (r_11 j).toInt < r_2.toInt) ∧ (r_1 = 0 → f0.toInt + r_2.toInt ≤ 128) ∧ (r_1 = 0 ∨ 0 < r_1.toInt) := by
  rw [f_X11_takeLine_342] at hres
  obtain ⟨z4_0, hz4⟩ := g_ex1 (f_X11_skip length at_ text)
  have hat := q_tr1 hat (a_skip hz4 hln hat.1)
  replace hres : (r_0, r_1, r_2, r_3, r_4, r_5, r_6, r_7, r_8, r_9, r_10, r_11, r_12) = f_X11_takeLine_c343 length words labels targets wrong unfit text code_ label labelWord target targetWord targetLine l2 l3 z4_0 := hres.trans (by rw [← hz4])
  rw [f_X11_takeLine_c343] at hres
  by_cases c351 : wrong = 0
  · rw [if_pos c351] at hres
    obtain ⟨z5_0, hz5⟩ := g_ex1 (f_X11_isEnd length z4_0 text)
    replace hres : (r_0, r_1, r_2, r_3, r_4, r_5, r_6, r_7, r_8, r_9, r_10, r_11, r_12) = f_X11_takeLine_c355 words labels targets unfit code_ label labelWord target targetWord targetLine l2 l3 z4_0 z5_0 := hres.trans (by rw [← hz5])
    rw [f_X11_takeLine_c355] at hres
    by_cases c358 : z5_0 = 0
    · rw [if_pos c358] at hres
      cases hres
      exact ⟨hat, hwd, hlb, htg, htw, (by first | exact fun _ => hs (by assumption) | exact fun h => absurd h (by decide)), (by first | exact Or.inl rfl | exact Or.inr (by decide))⟩
    · rw [if_neg c358] at hres
      by_cases c385 : unfit = 0
      · rw [if_pos c385] at hres
        by_cases c393 : l2 = 0
        · rw [if_pos c393] at hres
          by_cases c401 : l3 = 0
          · rw [if_pos c401] at hres
            cases hres
            exact ⟨hat, hwd, hlb, htg, htw, (by first | exact fun _ => hs (by assumption) | exact fun h => absurd h (by decide)), (by first | exact Or.inl rfl | exact Or.inr (by decide))⟩
          · rw [if_neg c401] at hres
            cases hres
            exact ⟨hat, hwd, hlb, htg, htw, (by first | exact fun _ => hs (by assumption) | exact fun h => absurd h (by decide)), (by first | exact Or.inl rfl | exact Or.inr (by decide))⟩
        · rw [if_neg c393] at hres
          cases hres
          exact ⟨hat, hwd, hlb, htg, htw, (by first | exact fun _ => hs (by assumption) | exact fun h => absurd h (by decide)), (by first | exact Or.inl rfl | exact Or.inr (by decide))⟩
      · rw [if_neg c385] at hres
        cases hres
        exact ⟨hat, hwd, hlb, htg, htw, (by first | exact fun _ => hs (by assumption) | exact fun h => absurd h (by decide)), (by first | exact Or.inl rfl | exact Or.inr (by decide))⟩
  · rw [if_neg c351] at hres
    cases hres
    exact ⟨hat, hwd, hlb, htg, htw, (by first | exact fun _ => hs (by assumption) | exact fun h => absurd h (by decide)), (by first | exact Or.inl rfl | exact Or.inr (by decide))⟩
theorem a_X11_takeLine_332 {l2 : Int32} {l3 : Int32} {length : Int32} {at_ : Int32} {words : Int32} {labels : Int32} {targets : Int32} {wrong : Int32} {unfit : Int32} {text : Nat → Int32} {code_ : Nat → Int32} {label : Nat → Int64} {labelWord : Nat → Int32} {target : Nat → Int64} {targetWord : Nat → Int32} {targetLine : Nat → Int32} {r_0 : Int32} {r_1 : Int32} {r_2 : Int32} {r_3 : Int32} {r_4 : Int32} {r_5 : Int32} {r_6 : Int32} {r_7 : (Nat → Int32)} {r_8 : (Nat → Int64)} {r_9 : (Nat → Int32)} {r_10 : (Nat → Int64)} {r_11 : (Nat → Int32)} {r_12 : (Nat → Int32)} {a0 : Int32} {f0 : Int32} (hres : (r_0, r_1, r_2, r_3, r_4, r_5, r_6, r_7, r_8, r_9, r_10, r_11, r_12) = (f_X11_takeLine_332 length at_ words labels targets wrong unfit text code_ label labelWord target targetWord targetLine l2 l3)) (hln : 0 ≤ length.toInt ∧ length.toInt ≤ 400) (hat : (0 ≤ at_.toInt ∧ at_.toInt ≤ 400) ∧ a0.toInt ≤ at_.toInt) (hwd : 0 ≤ words.toInt ∧ words.toInt ≤ 128) (hlb : 0 ≤ labels.toInt ∧ labels.toInt ≤ 16) (htg : 0 ≤ targets.toInt ∧ targets.toInt ≤ 128) (htw : ∀ j, j < targets.toInt.toNat → 0 ≤ (targetWord j).toInt ∧ (targetWord j).toInt ≤ words.toInt) (hf : 0 ≤ f0.toInt ∧ f0.toInt < 128) (hwf : f0.toInt + words.toInt ≤ 128) (hs : l2 = 0 → f0.toInt + words.toInt < 128) : ((0 ≤ r_0.toInt ∧ r_0.toInt ≤ 400) ∧ a0.toInt ≤ r_0.toInt) ∧ (0 ≤ r_2.toInt ∧ r_2.toInt ≤ 129) ∧ (0 ≤ r_3.toInt ∧ r_3.toInt ≤ 16) ∧ (0 ≤ r_4.toInt ∧ r_4.toInt ≤ 128) ∧ (∀ j, j < r_4.toInt.toNat → 0 ≤ (r_11 j).toInt ∧ (r_11 j).toInt < r_2.toInt) ∧ (r_1 = 0 → f0.toInt + r_2.toInt ≤ 128) ∧ (r_1 = 0 ∨ 0 < r_1.toInt) := by
  rw [f_X11_takeLine_332] at hres
  exact a_X11_takeLine_342 hres hln hat (q_w1 hwd).1 hlb htg (fun j hj => ⟨(htw j hj).1, by have := (htw j hj).2; rw [(q_w1 hwd).2]; omega⟩) (fun h => by have := hs h; rw [(q_w1 hwd).2]; omega)
theorem a_X11_takeLine_279 {l1 : Int32} {l3 : Int32} {l8 : Int32} {l9 : Int32} {s0 : Int32} {length : Int32} {at_ : Int32} {words : Int32} {labels : Int32} {targets : Int32} {wrong : Int32} {unfit : Int32} {text : Nat → Int32} {code_ : Nat → Int32} {label : Nat → Int64} {labelWord : Nat → Int32} {target : Nat → Int64} {targetWord : Nat → Int32} {targetLine : Nat → Int32} {r_0 : Int32} {r_1 : Int32} {r_2 : Int32} {r_3 : Int32} {r_4 : Int32} {r_5 : Int32} {r_6 : Int32} {r_7 : (Nat → Int32)} {r_8 : (Nat → Int64)} {r_9 : (Nat → Int32)} {r_10 : (Nat → Int64)} {r_11 : (Nat → Int32)} {r_12 : (Nat → Int32)} {a0 : Int32} {f0 : Int32} (hres : (r_0, r_1, r_2, r_3, r_4, r_5, r_6, r_7, r_8, r_9, r_10, r_11, r_12) = (f_X11_takeLine_279 length at_ words labels targets wrong unfit text code_ label labelWord target targetWord targetLine l1 l3 s0 l8 l9)) (hln : 0 ≤ length.toInt ∧ length.toInt ≤ 400) (hat : (0 ≤ at_.toInt ∧ at_.toInt ≤ 400) ∧ a0.toInt ≤ at_.toInt) (hwd : 0 ≤ words.toInt ∧ words.toInt ≤ 128) (hlb : 0 ≤ labels.toInt ∧ labels.toInt ≤ 16) (htg : 0 ≤ targets.toInt ∧ targets.toInt ≤ 128) (htw : ∀ j, j < targets.toInt.toNat → 0 ≤ (targetWord j).toInt ∧ (targetWord j).toInt ≤ words.toInt) (hf : 0 ≤ f0.toInt ∧ f0.toInt < 128) (hf0 : l1 = f0) (hwf : f0.toInt + words.toInt ≤ 128) (hs : s0 = 0 → f0.toInt + words.toInt < 128) : ((0 ≤ r_0.toInt ∧ r_0.toInt ≤ 400) ∧ a0.toInt ≤ r_0.toInt) ∧ (0 ≤ r_2.toInt ∧ r_2.toInt ≤ 129) ∧ (0 ≤ r_3.toInt ∧ r_3.toInt ≤ 16) ∧ (0 ≤ r_4.toInt ∧ r_4.toInt ≤ 128) ∧ (∀ j, j < r_4.toInt.toNat → 0 ≤ (r_11 j).toInt ∧ (r_11 j).toInt < r_2.toInt) ∧ (r_1 = 0 → f0.toInt + r_2.toInt ≤ 128) ∧ (r_1 = 0 ∨ 0 < r_1.toInt) := by
  rw [f_X11_takeLine_279] at hres
  by_cases c289 : (128 : Int32) ≤ (l1 + words)
  · rw [if_pos c289] at hres
    exact a_X11_takeLine_332 hres (by assumption) (by assumption) (by assumption) (by assumption) (by assumption) (by assumption) (by assumption) (by assumption) (by assumption)
  · rw [if_neg c289] at hres
    exact a_X11_takeLine_332 hres (by assumption) (by assumption) (by assumption) (by assumption) (by assumption) (by assumption) (by assumption) (by assumption) (by assumption)
theorem a_X11_takeLine_256 {l1 : Int32} {l2 : Int32} {l3 : Int32} {l8 : Int32} {s0 : Int32} {length : Int32} {at_ : Int32} {words : Int32} {labels : Int32} {targets : Int32} {wrong : Int32} {unfit : Int32} {text : Nat → Int32} {code_ : Nat → Int32} {label : Nat → Int64} {labelWord : Nat → Int32} {target : Nat → Int64} {targetWord : Nat → Int32} {targetLine : Nat → Int32} {r_0 : Int32} {r_1 : Int32} {r_2 : Int32} {r_3 : Int32} {r_4 : Int32} {r_5 : Int32} {r_6 : Int32} {r_7 : (Nat → Int32)} {r_8 : (Nat → Int64)} {r_9 : (Nat → Int32)} {r_10 : (Nat → Int64)} {r_11 : (Nat → Int32)} {r_12 : (Nat → Int32)} {a0 : Int32} {f0 : Int32} (hres : (r_0, r_1, r_2, r_3, r_4, r_5, r_6, r_7, r_8, r_9, r_10, r_11, r_12) = (f_X11_takeLine_256 length at_ words labels targets wrong unfit text code_ label labelWord target targetWord targetLine l1 l2 l3 s0 l8)) (hln : 0 ≤ length.toInt ∧ length.toInt ≤ 400) (hat : (0 ≤ at_.toInt ∧ at_.toInt ≤ 400) ∧ a0.toInt ≤ at_.toInt) (hwd : 0 ≤ words.toInt ∧ words.toInt ≤ 128) (hlb : 0 ≤ labels.toInt ∧ labels.toInt ≤ 16) (htg : 0 ≤ targets.toInt ∧ targets.toInt ≤ 128) (htw : ∀ j, j < targets.toInt.toNat → 0 ≤ (targetWord j).toInt ∧ (targetWord j).toInt ≤ words.toInt) (hf : 0 ≤ f0.toInt ∧ f0.toInt < 128) (hf0 : l1 = f0) (hwf : f0.toInt + words.toInt ≤ 128) : ((0 ≤ r_0.toInt ∧ r_0.toInt ≤ 400) ∧ a0.toInt ≤ r_0.toInt) ∧ (0 ≤ r_2.toInt ∧ r_2.toInt ≤ 129) ∧ (0 ≤ r_3.toInt ∧ r_3.toInt ≤ 16) ∧ (0 ≤ r_4.toInt ∧ r_4.toInt ≤ 128) ∧ (∀ j, j < r_4.toInt.toNat → 0 ≤ (r_11 j).toInt ∧ (r_11 j).toInt < r_2.toInt) ∧ (r_1 = 0 → f0.toInt + r_2.toInt ≤ 128) ∧ (r_1 = 0 ∨ 0 < r_1.toInt) := by
  rw [f_X11_takeLine_256] at hres
  by_cases c259 : l2 = 0
  · rw [if_pos c259] at hres
    by_cases c271 : (l1 + words) < (128 : Int32)
    · rw [if_pos c271] at hres
      exact a_X11_takeLine_279 hres hln hat hwd hlb htg htw hf hf0 hwf (fun _ => q_fw hf hwd hf0 c271)
    · rw [if_neg c271] at hres
      exact a_X11_takeLine_279 hres hln hat hwd hlb htg htw hf hf0 hwf (fun h => absurd h (by decide))
  · rw [if_neg c259] at hres
    exact a_X11_takeLine_279 hres hln hat hwd hlb htg htw hf hf0 hwf (fun h => absurd h (by decide))
theorem a_X11_takeLine_203 {l1 : Int32} {l2 : Int32} {l3 : Int32} {l5 : Int64} {l7 : Int32} {length : Int32} {at_ : Int32} {line : Int32} {words : Int32} {labels : Int32} {targets : Int32} {wrong : Int32} {unfit : Int32} {text : Nat → Int32} {code_ : Nat → Int32} {label : Nat → Int64} {labelWord : Nat → Int32} {target : Nat → Int64} {targetWord : Nat → Int32} {targetLine : Nat → Int32} {r_0 : Int32} {r_1 : Int32} {r_2 : Int32} {r_3 : Int32} {r_4 : Int32} {r_5 : Int32} {r_6 : Int32} {r_7 : (Nat → Int32)} {r_8 : (Nat → Int64)} {r_9 : (Nat → Int32)} {r_10 : (Nat → Int64)} {r_11 : (Nat → Int32)} {r_12 : (Nat → Int32)} {a0 : Int32} {f0 : Int32} (hres : (r_0, r_1, r_2, r_3, r_4, r_5, r_6, r_7, r_8, r_9, r_10, r_11, r_12) = (f_X11_takeLine_203 length at_ line words labels targets wrong unfit text code_ label labelWord target targetWord targetLine l1 l2 l3 l5 l7)) (hln : 0 ≤ length.toInt ∧ length.toInt ≤ 400) (hat : (0 ≤ at_.toInt ∧ at_.toInt ≤ 400) ∧ a0.toInt ≤ at_.toInt) (hwd : 0 ≤ words.toInt ∧ words.toInt ≤ 128) (hlb : 0 ≤ labels.toInt ∧ labels.toInt ≤ 16) (htg : 0 ≤ targets.toInt ∧ targets.toInt ≤ 128) (htw : ∀ j, j < targets.toInt.toNat → 0 ≤ (targetWord j).toInt ∧ (targetWord j).toInt < words.toInt) (hf : 0 ≤ f0.toInt ∧ f0.toInt < 128) (hf0 : l1 = f0) (hwf : f0.toInt + words.toInt ≤ 128) : ((0 ≤ r_0.toInt ∧ r_0.toInt ≤ 400) ∧ a0.toInt ≤ r_0.toInt) ∧ (0 ≤ r_2.toInt ∧ r_2.toInt ≤ 129) ∧ (0 ≤ r_3.toInt ∧ r_3.toInt ≤ 16) ∧ (0 ≤ r_4.toInt ∧ r_4.toInt ≤ 128) ∧ (∀ j, j < r_4.toInt.toNat → 0 ≤ (r_11 j).toInt ∧ (r_11 j).toInt < r_2.toInt) ∧ (r_1 = 0 → f0.toInt + r_2.toInt ≤ 128) ∧ (r_1 = 0 ∨ 0 < r_1.toInt) := by
  rw [f_X11_takeLine_203] at hres
  by_cases c205 : l7 = 0
  · rw [if_pos c205] at hres
    exact a_X11_takeLine_342 hres hln hat ⟨hwd.1, by omega⟩ hlb htg htw (fun _ => hwf)
  · rw [if_neg c205] at hres
    by_cases c212 : wrong = 0
    · rw [if_pos c212] at hres
      obtain ⟨z6_0, hz6⟩ := g_ex1 (f_X11_lookup l5)
      replace hres : (r_0, r_1, r_2, r_3, r_4, r_5, r_6, r_7, r_8, r_9, r_10, r_11, r_12) = f_X11_takeLine_c217 length at_ line words labels targets unfit text code_ label labelWord target targetWord targetLine l1 l2 l3 z6_0 := hres.trans (by rw [← hz6])
      rw [f_X11_takeLine_c217] at hres
      by_cases c225 : z6_0 = 0
      · rw [if_pos c225] at hres
        exact a_X11_takeLine_256 hres hln hat hwd hlb htg (fun j hj => ⟨(htw j hj).1, Int.le_of_lt (htw j hj).2⟩) hf hf0 hwf
      · rw [if_neg c225] at hres
        obtain ⟨z7_0, z7_1, z7_2, z7_3, z7_4, z7_5, z7_6, z7_7, hz7⟩ := g_ex8 (f_X11_operands (z6_0 &&& (15 : Int32)) length at_ line words targets (0 : Int32) unfit text target targetWord targetLine)
        have hat := q_tr1 hat (a_X11_operands hz7 hln ⟨hat.1, Int.le_refl _⟩)
        have hh := t_X11_operands hz7 hwd htg (fun j hj => ⟨(htw j hj).1, Int.le_of_lt (htw j hj).2⟩)
        have htg := hh.1
        have htw := hh.2
        replace hres : (r_0, r_1, r_2, r_3, r_4, r_5, r_6, r_7, r_8, r_9, r_10, r_11, r_12) = f_X11_takeLine_c253 length words labels text code_ label labelWord l1 l2 l3 z6_0 z7_0 z7_1 z7_2 z7_3 z7_4 z7_5 z7_6 z7_7 := hres.trans (by rw [← hz7])
        rw [f_X11_takeLine_c253] at hres
        exact a_X11_takeLine_256 hres (by assumption) (by assumption) (by assumption) (by assumption) (by assumption) (by assumption) (by assumption) (by assumption) (by assumption)
    · rw [if_neg c212] at hres
      exact a_X11_takeLine_342 hres hln hat ⟨hwd.1, by omega⟩ hlb htg htw (fun _ => hwf)
theorem a_X11_takeLine_201 {l1 : Int32} {l2 : Int32} {l3 : Int32} {l5 : Int64} {s0 : Int32} {length : Int32} {at_ : Int32} {line : Int32} {words : Int32} {labels : Int32} {targets : Int32} {wrong : Int32} {unfit : Int32} {text : Nat → Int32} {code_ : Nat → Int32} {label : Nat → Int64} {labelWord : Nat → Int32} {target : Nat → Int64} {targetWord : Nat → Int32} {targetLine : Nat → Int32} {r_0 : Int32} {r_1 : Int32} {r_2 : Int32} {r_3 : Int32} {r_4 : Int32} {r_5 : Int32} {r_6 : Int32} {r_7 : (Nat → Int32)} {r_8 : (Nat → Int64)} {r_9 : (Nat → Int32)} {r_10 : (Nat → Int64)} {r_11 : (Nat → Int32)} {r_12 : (Nat → Int32)} {a0 : Int32} {f0 : Int32} (hres : (r_0, r_1, r_2, r_3, r_4, r_5, r_6, r_7, r_8, r_9, r_10, r_11, r_12) = (f_X11_takeLine_201 length at_ line words labels targets wrong unfit text code_ label labelWord target targetWord targetLine l1 l2 l3 l5 s0)) (hln : 0 ≤ length.toInt ∧ length.toInt ≤ 400) (hat : (0 ≤ at_.toInt ∧ at_.toInt ≤ 400) ∧ a0.toInt ≤ at_.toInt) (hwd : 0 ≤ words.toInt ∧ words.toInt ≤ 128) (hlb : 0 ≤ labels.toInt ∧ labels.toInt ≤ 16) (htg : 0 ≤ targets.toInt ∧ targets.toInt ≤ 128) (htw : ∀ j, j < targets.toInt.toNat → 0 ≤ (targetWord j).toInt ∧ (targetWord j).toInt < words.toInt) (hf : 0 ≤ f0.toInt ∧ f0.toInt < 128) (hf0 : l1 = f0) (hwf : f0.toInt + words.toInt ≤ 128) : ((0 ≤ r_0.toInt ∧ r_0.toInt ≤ 400) ∧ a0.toInt ≤ r_0.toInt) ∧ (0 ≤ r_2.toInt ∧ r_2.toInt ≤ 129) ∧ (0 ≤ r_3.toInt ∧ r_3.toInt ≤ 16) ∧ (0 ≤ r_4.toInt ∧ r_4.toInt ≤ 128) ∧ (∀ j, j < r_4.toInt.toNat → 0 ≤ (r_11 j).toInt ∧ (r_11 j).toInt < r_2.toInt) ∧ (r_1 = 0 → f0.toInt + r_2.toInt ≤ 128) ∧ (r_1 = 0 ∨ 0 < r_1.toInt) := by
  rw [f_X11_takeLine_201] at hres
  exact a_X11_takeLine_203 hres (by assumption) (by assumption) (by assumption) (by assumption) (by assumption) (by assumption) (by assumption) (by assumption) (by assumption)
theorem a_X11_takeLine_171 {l1 : Int32} {l2 : Int32} {l3 : Int32} {length : Int32} {at_ : Int32} {line : Int32} {words : Int32} {labels : Int32} {targets : Int32} {wrong : Int32} {unfit : Int32} {text : Nat → Int32} {code_ : Nat → Int32} {label : Nat → Int64} {labelWord : Nat → Int32} {target : Nat → Int64} {targetWord : Nat → Int32} {targetLine : Nat → Int32} {r_0 : Int32} {r_1 : Int32} {r_2 : Int32} {r_3 : Int32} {r_4 : Int32} {r_5 : Int32} {r_6 : Int32} {r_7 : (Nat → Int32)} {r_8 : (Nat → Int64)} {r_9 : (Nat → Int32)} {r_10 : (Nat → Int64)} {r_11 : (Nat → Int32)} {r_12 : (Nat → Int32)} {a0 : Int32} {f0 : Int32} (hres : (r_0, r_1, r_2, r_3, r_4, r_5, r_6, r_7, r_8, r_9, r_10, r_11, r_12) = (f_X11_takeLine_171 length at_ line words labels targets wrong unfit text code_ label labelWord target targetWord targetLine l1 l2 l3)) (hln : 0 ≤ length.toInt ∧ length.toInt ≤ 400) (hat : (0 ≤ at_.toInt ∧ at_.toInt ≤ 400) ∧ a0.toInt ≤ at_.toInt) (hwd : 0 ≤ words.toInt ∧ words.toInt ≤ 128) (hlb : 0 ≤ labels.toInt ∧ labels.toInt ≤ 16) (htg : 0 ≤ targets.toInt ∧ targets.toInt ≤ 128) (htw : ∀ j, j < targets.toInt.toNat → 0 ≤ (targetWord j).toInt ∧ (targetWord j).toInt < words.toInt) (hf : 0 ≤ f0.toInt ∧ f0.toInt < 128) (hf0 : l1 = f0) (hwf : f0.toInt + words.toInt ≤ 128) : ((0 ≤ r_0.toInt ∧ r_0.toInt ≤ 400) ∧ a0.toInt ≤ r_0.toInt) ∧ (0 ≤ r_2.toInt ∧ r_2.toInt ≤ 129) ∧ (0 ≤ r_3.toInt ∧ r_3.toInt ≤ 16) ∧ (0 ≤ r_4.toInt ∧ r_4.toInt ≤ 128) ∧ (∀ j, j < r_4.toInt.toNat → 0 ≤ (r_11 j).toInt ∧ (r_11 j).toInt < r_2.toInt) ∧ (r_1 = 0 → f0.toInt + r_2.toInt ≤ 128) ∧ (r_1 = 0 ∨ 0 < r_1.toInt) := by
  rw [f_X11_takeLine_171] at hres
  obtain ⟨z10_0, hz10⟩ := g_ex1 (f_X11_skip length at_ text)
  have hat := q_tr1 hat (a_skip hz10 hln hat.1)
  replace hres : (r_0, r_1, r_2, r_3, r_4, r_5, r_6, r_7, r_8, r_9, r_10, r_11, r_12) = f_X11_takeLine_c172 length line words labels targets wrong unfit text code_ label labelWord target targetWord targetLine l1 l2 l3 z10_0 := hres.trans (by rw [← hz10])
  rw [f_X11_takeLine_c172] at hres
  obtain ⟨z11_0, z11_1, hz11⟩ := g_ex2 (f_X11_letters length z10_0 text)
  have hat := q_tr1 hat (a_letters hz11 hln hat.1)
  replace hres : (r_0, r_1, r_2, r_3, r_4, r_5, r_6, r_7, r_8, r_9, r_10, r_11, r_12) = f_X11_takeLine_c182 length line words labels targets wrong unfit text code_ label labelWord target targetWord targetLine l1 l2 l3 z10_0 z11_0 z11_1 := hres.trans (by rw [← hz11])
  rw [f_X11_takeLine_c182] at hres
  by_cases c193 : z11_1 ≤ z10_0
  · rw [if_pos c193] at hres
    exact a_X11_takeLine_201 hres (by assumption) (by assumption) (by assumption) (by assumption) (by assumption) (by assumption) (by assumption) (by assumption) (by assumption)
  · rw [if_neg c193] at hres
    exact a_X11_takeLine_201 hres (by assumption) (by assumption) (by assumption) (by assumption) (by assumption) (by assumption) (by assumption) (by assumption) (by assumption)
theorem a_X11_takeLine_123 {l1 : Int32} {l2 : Int32} {l5 : Int64} {s0 : Int32} {length : Int32} {at_ : Int32} {line : Int32} {words : Int32} {labels : Int32} {targets : Int32} {wrong : Int32} {unfit : Int32} {text : Nat → Int32} {code_ : Nat → Int32} {label : Nat → Int64} {labelWord : Nat → Int32} {target : Nat → Int64} {targetWord : Nat → Int32} {targetLine : Nat → Int32} {r_0 : Int32} {r_1 : Int32} {r_2 : Int32} {r_3 : Int32} {r_4 : Int32} {r_5 : Int32} {r_6 : Int32} {r_7 : (Nat → Int32)} {r_8 : (Nat → Int64)} {r_9 : (Nat → Int32)} {r_10 : (Nat → Int64)} {r_11 : (Nat → Int32)} {r_12 : (Nat → Int32)} {a0 : Int32} {f0 : Int32} (hres : (r_0, r_1, r_2, r_3, r_4, r_5, r_6, r_7, r_8, r_9, r_10, r_11, r_12) = (f_X11_takeLine_123 length at_ line words labels targets wrong unfit text code_ label labelWord target targetWord targetLine l1 l2 l5 s0)) (hln : 0 ≤ length.toInt ∧ length.toInt ≤ 400) (hat : (0 ≤ at_.toInt ∧ at_.toInt ≤ 400) ∧ a0.toInt ≤ at_.toInt) (hwd : 0 ≤ words.toInt ∧ words.toInt ≤ 128) (hlb : 0 ≤ labels.toInt ∧ labels.toInt ≤ 16) (htg : 0 ≤ targets.toInt ∧ targets.toInt ≤ 128) (htw : ∀ j, j < targets.toInt.toNat → 0 ≤ (targetWord j).toInt ∧ (targetWord j).toInt < words.toInt) (hf : 0 ≤ f0.toInt ∧ f0.toInt < 128) (hf0 : l1 = f0) (hwf : f0.toInt + words.toInt ≤ 128) (hfu : l2 = 0 → labels.toInt < 16) : ((0 ≤ r_0.toInt ∧ r_0.toInt ≤ 400) ∧ a0.toInt ≤ r_0.toInt) ∧ (0 ≤ r_2.toInt ∧ r_2.toInt ≤ 129) ∧ (0 ≤ r_3.toInt ∧ r_3.toInt ≤ 16) ∧ (0 ≤ r_4.toInt ∧ r_4.toInt ≤ 128) ∧ (∀ j, j < r_4.toInt.toNat → 0 ≤ (r_11 j).toInt ∧ (r_11 j).toInt < r_2.toInt) ∧ (r_1 = 0 → f0.toInt + r_2.toInt ≤ 128) ∧ (r_1 = 0 ∨ 0 < r_1.toInt) := by
  rw [f_X11_takeLine_123] at hres
  by_cases c128 : wrong = 0
  · rw [if_pos c128] at hres
    by_cases c132 : l2 = 0
    · rw [if_pos c132] at hres
      exact a_X11_takeLine_171 hres hln hat hwd (q_inc16 hlb (hfu c132)) htg htw hf hf0 hwf
    · rw [if_neg c132] at hres
      exact a_X11_takeLine_171 hres (by assumption) (by assumption) (by assumption) (by assumption) (by assumption) (by assumption) (by assumption) (by assumption) (by assumption)
  · rw [if_neg c128] at hres
    exact a_X11_takeLine_171 hres (by assumption) (by assumption) (by assumption) (by assumption) (by assumption) (by assumption) (by assumption) (by assumption) (by assumption)
theorem a_X11_takeLine_108 {l1 : Int32} {l5 : Int64} {s0 : Int32} {length : Int32} {at_ : Int32} {line : Int32} {words : Int32} {labels : Int32} {targets : Int32} {wrong : Int32} {unfit : Int32} {text : Nat → Int32} {code_ : Nat → Int32} {label : Nat → Int64} {labelWord : Nat → Int32} {target : Nat → Int64} {targetWord : Nat → Int32} {targetLine : Nat → Int32} {r_0 : Int32} {r_1 : Int32} {r_2 : Int32} {r_3 : Int32} {r_4 : Int32} {r_5 : Int32} {r_6 : Int32} {r_7 : (Nat → Int32)} {r_8 : (Nat → Int64)} {r_9 : (Nat → Int32)} {r_10 : (Nat → Int64)} {r_11 : (Nat → Int32)} {r_12 : (Nat → Int32)} {a0 : Int32} {f0 : Int32} (hres : (r_0, r_1, r_2, r_3, r_4, r_5, r_6, r_7, r_8, r_9, r_10, r_11, r_12) = (f_X11_takeLine_108 length at_ line words labels targets wrong unfit text code_ label labelWord target targetWord targetLine l1 l5 s0)) (hln : 0 ≤ length.toInt ∧ length.toInt ≤ 400) (hat : (0 ≤ at_.toInt ∧ at_.toInt ≤ 400) ∧ a0.toInt ≤ at_.toInt) (hwd : 0 ≤ words.toInt ∧ words.toInt ≤ 128) (hlb : 0 ≤ labels.toInt ∧ labels.toInt ≤ 16) (htg : 0 ≤ targets.toInt ∧ targets.toInt ≤ 128) (htw : ∀ j, j < targets.toInt.toNat → 0 ≤ (targetWord j).toInt ∧ (targetWord j).toInt < words.toInt) (hf : 0 ≤ f0.toInt ∧ f0.toInt < 128) (hf0 : l1 = f0) (hwf : f0.toInt + words.toInt ≤ 128) (hfu : s0 = 0 → labels.toInt < 16) : ((0 ≤ r_0.toInt ∧ r_0.toInt ≤ 400) ∧ a0.toInt ≤ r_0.toInt) ∧ (0 ≤ r_2.toInt ∧ r_2.toInt ≤ 129) ∧ (0 ≤ r_3.toInt ∧ r_3.toInt ≤ 16) ∧ (0 ≤ r_4.toInt ∧ r_4.toInt ≤ 128) ∧ (∀ j, j < r_4.toInt.toNat → 0 ≤ (r_11 j).toInt ∧ (r_11 j).toInt < r_2.toInt) ∧ (r_1 = 0 → f0.toInt + r_2.toInt ≤ 128) ∧ (r_1 = 0 ∨ 0 < r_1.toInt) := by
  rw [f_X11_takeLine_108] at hres
  obtain ⟨z9_0, hz9⟩ := g_ex1 (f_X11_labelOf l5 labels label)
  replace hres : (r_0, r_1, r_2, r_3, r_4, r_5, r_6, r_7, r_8, r_9, r_10, r_11, r_12) = f_X11_takeLine_c112 length at_ line words labels targets wrong unfit text code_ label labelWord target targetWord targetLine l1 l5 s0 z9_0 := hres.trans (by rw [← hz9])
  rw [f_X11_takeLine_c112] at hres
  by_cases c115 : z9_0 < 0
  · rw [if_pos c115] at hres
    exact a_X11_takeLine_123 hres (by assumption) (by assumption) (by assumption) (by assumption) (by assumption) (by assumption) (by assumption) (by assumption) (by assumption) (by assumption)
  · rw [if_neg c115] at hres
    exact a_X11_takeLine_123 hres (by assumption) (by assumption) (by assumption) (by assumption) (by assumption) (by assumption) (by assumption) (by assumption) (by assumption) (by assumption)
theorem a_X11_takeLine_44 {l1 : Int32} {l2 : Int32} {l3 : Int32} {l5 : Int64} {s0 : Int32} {length : Int32} {at_ : Int32} {line : Int32} {words : Int32} {labels : Int32} {targets : Int32} {wrong : Int32} {unfit : Int32} {text : Nat → Int32} {code_ : Nat → Int32} {label : Nat → Int64} {labelWord : Nat → Int32} {target : Nat → Int64} {targetWord : Nat → Int32} {targetLine : Nat → Int32} {r_0 : Int32} {r_1 : Int32} {r_2 : Int32} {r_3 : Int32} {r_4 : Int32} {r_5 : Int32} {r_6 : Int32} {r_7 : (Nat → Int32)} {r_8 : (Nat → Int64)} {r_9 : (Nat → Int32)} {r_10 : (Nat → Int64)} {r_11 : (Nat → Int32)} {r_12 : (Nat → Int32)} {a0 : Int32} {f0 : Int32} (hres : (r_0, r_1, r_2, r_3, r_4, r_5, r_6, r_7, r_8, r_9, r_10, r_11, r_12) = (f_X11_takeLine_44 length at_ line words labels targets wrong unfit text code_ label labelWord target targetWord targetLine l1 l2 l3 l5 s0)) (hln : 0 ≤ length.toInt ∧ length.toInt ≤ 400) (hat : (0 ≤ at_.toInt ∧ at_.toInt ≤ 400) ∧ a0.toInt ≤ at_.toInt) (hwd : 0 ≤ words.toInt ∧ words.toInt ≤ 128) (hlb : 0 ≤ labels.toInt ∧ labels.toInt ≤ 16) (htg : 0 ≤ targets.toInt ∧ targets.toInt ≤ 128) (htw : ∀ j, j < targets.toInt.toNat → 0 ≤ (targetWord j).toInt ∧ (targetWord j).toInt < words.toInt) (hf : 0 ≤ f0.toInt ∧ f0.toInt < 128) (hf0 : l1 = f0) (hwf : f0.toInt + words.toInt ≤ 128) : ((0 ≤ r_0.toInt ∧ r_0.toInt ≤ 400) ∧ a0.toInt ≤ r_0.toInt) ∧ (0 ≤ r_2.toInt ∧ r_2.toInt ≤ 129) ∧ (0 ≤ r_3.toInt ∧ r_3.toInt ≤ 16) ∧ (0 ≤ r_4.toInt ∧ r_4.toInt ≤ 128) ∧ (∀ j, j < r_4.toInt.toNat → 0 ≤ (r_11 j).toInt ∧ (r_11 j).toInt < r_2.toInt) ∧ (r_1 = 0 → f0.toInt + r_2.toInt ≤ 128) ∧ (r_1 = 0 ∨ 0 < r_1.toInt) := by
  rw [f_X11_takeLine_44] at hres
  obtain ⟨z3_0, hz3⟩ := g_ex1 (f_X11_skip length at_ text)
  have hat := q_tr1 hat (a_skip hz3 hln hat.1)
  replace hres : (r_0, r_1, r_2, r_3, r_4, r_5, r_6, r_7, r_8, r_9, r_10, r_11, r_12) = f_X11_takeLine_c47 length line words labels targets wrong unfit text code_ label labelWord target targetWord targetLine l1 l2 l3 l5 s0 z3_0 := hres.trans (by rw [← hz3])
  rw [f_X11_takeLine_c47] at hres
  by_cases c52 : s0 = 0
  · rw [if_pos c52] at hres
    exact a_X11_takeLine_203 hres (by assumption) (by assumption) (by assumption) (by assumption) (by assumption) (by assumption) (by assumption) (by assumption) (by assumption)
  · rw [if_neg c52] at hres
    obtain ⟨z8_0, hz8⟩ := g_ex1 (f_X11_character z3_0 length text)
    have ch := a_character hz8
    replace hres : (r_0, r_1, r_2, r_3, r_4, r_5, r_6, r_7, r_8, r_9, r_10, r_11, r_12) = f_X11_takeLine_c60 length line words labels targets wrong unfit text code_ label labelWord target targetWord targetLine l1 l2 l3 l5 s0 z3_0 z8_0 := hres.trans (by rw [← hz8])
    rw [f_X11_takeLine_c60] at hres
    by_cases c65 : z8_0 = (58 : Int32)
    · rw [if_pos c65] at hres
      have hat := q_tr1 hat (q_up2 hln hat.1 (ch (by rw [c65]; decide)))
      by_cases c83 : (lg_cmp l5 (0 : Int64)) = 0
      · rw [if_pos c83] at hres
        by_cases c100 : labels = (16 : Int32)
        · rw [if_pos c100] at hres
          exact a_X11_takeLine_108 hres hln hat hwd hlb htg htw hf hf0 hwf (fun h => absurd h (by decide))
        · rw [if_neg c100] at hres
          exact a_X11_takeLine_108 hres hln hat hwd hlb htg htw hf hf0 hwf (fun _ => q_ne16 hlb c100)
      · rw [if_neg c83] at hres
        by_cases c100 : labels = (16 : Int32)
        · rw [if_pos c100] at hres
          exact a_X11_takeLine_108 hres hln hat hwd hlb htg htw hf hf0 hwf (fun h => absurd h (by decide))
        · rw [if_neg c100] at hres
          exact a_X11_takeLine_108 hres hln hat hwd hlb htg htw hf hf0 hwf (fun _ => q_ne16 hlb c100)
    · rw [if_neg c65] at hres
      exact a_X11_takeLine_203 hres (by assumption) (by assumption) (by assumption) (by assumption) (by assumption) (by assumption) (by assumption) (by assumption) (by assumption)
theorem a_X11_takeLine {first : Int32} {length : Int32} {at_ : Int32} {line : Int32} {words : Int32} {labels : Int32} {targets : Int32} {text : Nat → Int32} {code_ : Nat → Int32} {label : Nat → Int64} {labelWord : Nat → Int32} {target : Nat → Int64} {targetWord : Nat → Int32} {targetLine : Nat → Int32} {r_0 : Int32} {r_1 : Int32} {r_2 : Int32} {r_3 : Int32} {r_4 : Int32} {r_5 : Int32} {r_6 : Int32} {r_7 : (Nat → Int32)} {r_8 : (Nat → Int64)} {r_9 : (Nat → Int32)} {r_10 : (Nat → Int64)} {r_11 : (Nat → Int32)} {r_12 : (Nat → Int32)} {a0 : Int32} {f0 : Int32} (hres : (r_0, r_1, r_2, r_3, r_4, r_5, r_6, r_7, r_8, r_9, r_10, r_11, r_12) = f_X11_takeLine first length at_ line words labels targets text code_ label labelWord target targetWord targetLine) (hln : 0 ≤ length.toInt ∧ length.toInt ≤ 400) (hat : (0 ≤ at_.toInt ∧ at_.toInt ≤ 400) ∧ a0.toInt ≤ at_.toInt) (hwd : 0 ≤ words.toInt ∧ words.toInt ≤ 128) (hlb : 0 ≤ labels.toInt ∧ labels.toInt ≤ 16) (htg : 0 ≤ targets.toInt ∧ targets.toInt ≤ 128) (htw : ∀ j, j < targets.toInt.toNat → 0 ≤ (targetWord j).toInt ∧ (targetWord j).toInt < words.toInt) (hf : 0 ≤ f0.toInt ∧ f0.toInt < 128) (hf0 : first = f0) (hwf : f0.toInt + words.toInt ≤ 128) : ((0 ≤ r_0.toInt ∧ r_0.toInt ≤ 400) ∧ a0.toInt ≤ r_0.toInt) ∧ (0 ≤ r_2.toInt ∧ r_2.toInt ≤ 129) ∧ (0 ≤ r_3.toInt ∧ r_3.toInt ≤ 16) ∧ (0 ≤ r_4.toInt ∧ r_4.toInt ≤ 128) ∧ (∀ j, j < r_4.toInt.toNat → 0 ≤ (r_11 j).toInt ∧ (r_11 j).toInt < r_2.toInt) ∧ (r_1 = 0 → f0.toInt + r_2.toInt ≤ 128) ∧ (r_1 = 0 ∨ 0 < r_1.toInt) := by
  rw [f_X11_takeLine] at hres
  obtain ⟨z1_0, hz1⟩ := g_ex1 (f_X11_skip length at_ text)
  have hat := q_tr1 hat (a_skip hz1 hln hat.1)
  replace hres : (r_0, r_1, r_2, r_3, r_4, r_5, r_6, r_7, r_8, r_9, r_10, r_11, r_12) = f_X11_takeLine_c15 first length line words labels targets text code_ label labelWord target targetWord targetLine z1_0 := hres.trans (by rw [← hz1])
  rw [f_X11_takeLine_c15] at hres
  obtain ⟨z2_0, z2_1, hz2⟩ := g_ex2 (f_X11_letters length z1_0 text)
  have hat := q_tr1 hat (a_letters hz2 hln hat.1)
  replace hres : (r_0, r_1, r_2, r_3, r_4, r_5, r_6, r_7, r_8, r_9, r_10, r_11, r_12) = f_X11_takeLine_c25 first length line words labels targets text code_ label labelWord target targetWord targetLine z1_0 z2_0 z2_1 := hres.trans (by rw [← hz2])
  rw [f_X11_takeLine_c25] at hres
  by_cases c36 : z2_1 ≤ z1_0
  · rw [if_pos c36] at hres
    exact a_X11_takeLine_44 hres (by assumption) (by assumption) (by assumption) (by assumption) (by assumption) (by assumption) (by assumption) (by assumption) (by assumption)
  · rw [if_neg c36] at hres
    exact a_X11_takeLine_44 hres (by assumption) (by assumption) (by assumption) (by assumption) (by assumption) (by assumption) (by assumption) (by assumption) (by assumption)
