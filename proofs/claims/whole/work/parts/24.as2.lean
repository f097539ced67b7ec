abbrev M_X0_putPiece : g_M := (cX0_putPiece, 4, RX0, none, { frames := 1, cells := 0, slots := 0, locals := 26 }, 0, 0)
theorem dm_X0_putPiece_0 : decode M_X0_putPiece.1 0 = .ok (.iload_n 1, 1) := by decide +kernel
theorem dm_X0_putPiece_1 : decode M_X0_putPiece.1 1 = .ok (.tableswitch 363 98 119 #[301, 363, 103, 363, 363, 363, 206, 154, 332, 254, 363, 180, 363, 363, 363, 363, 363, 120, 137, 230, 363, 278], 103) := by decide +kernel
theorem dm_X0_putPiece_104 : decode M_X0_putPiece.1 104 = .ok (.aload_n 0, 1) := by decide +kernel
theorem dm_X0_putPiece_105 : decode M_X0_putPiece.1 105 = .ok (.dup, 1) := by decide +kernel
theorem dm_X0_putPiece_106 : decode M_X0_putPiece.1 106 = .ok (.getfield 85, 3) := by decide +kernel
theorem dm_X0_putPiece_109 : decode M_X0_putPiece.1 109 = .ok (.lload_n 2, 1) := by decide +kernel
theorem dm_X0_putPiece_110 : decode M_X0_putPiece.1 110 = .ok (.l2i, 1) := by decide +kernel
theorem dm_X0_putPiece_111 : decode M_X0_putPiece.1 111 = .ok (.bipush 7, 2) := by decide +kernel
theorem dm_X0_putPiece_113 : decode M_X0_putPiece.1 113 = .ok (.ishl, 1) := by decide +kernel
theorem dm_X0_putPiece_114 : decode M_X0_putPiece.1 114 = .ok (.ior, 1) := by decide +kernel
theorem dm_X0_putPiece_115 : decode M_X0_putPiece.1 115 = .ok (.putfield 85, 3) := by decide +kernel
theorem dm_X0_putPiece_118 : decode M_X0_putPiece.1 118 = .ok (.goto 246, 3) := by decide +kernel
theorem dm_X0_putPiece_121 : decode M_X0_putPiece.1 121 = .ok (.aload_n 0, 1) := by decide +kernel
theorem dm_X0_putPiece_122 : decode M_X0_putPiece.1 122 = .ok (.dup, 1) := by decide +kernel
theorem dm_X0_putPiece_123 : decode M_X0_putPiece.1 123 = .ok (.getfield 85, 3) := by decide +kernel
theorem dm_X0_putPiece_126 : decode M_X0_putPiece.1 126 = .ok (.lload_n 2, 1) := by decide +kernel
theorem dm_X0_putPiece_127 : decode M_X0_putPiece.1 127 = .ok (.l2i, 1) := by decide +kernel
theorem dm_X0_putPiece_128 : decode M_X0_putPiece.1 128 = .ok (.bipush 15, 2) := by decide +kernel
theorem dm_X0_putPiece_130 : decode M_X0_putPiece.1 130 = .ok (.ishl, 1) := by decide +kernel
theorem dm_X0_putPiece_131 : decode M_X0_putPiece.1 131 = .ok (.ior, 1) := by decide +kernel
theorem dm_X0_putPiece_132 : decode M_X0_putPiece.1 132 = .ok (.putfield 85, 3) := by decide +kernel
theorem dm_X0_putPiece_135 : decode M_X0_putPiece.1 135 = .ok (.goto 229, 3) := by decide +kernel
theorem dm_X0_putPiece_138 : decode M_X0_putPiece.1 138 = .ok (.aload_n 0, 1) := by decide +kernel
theorem dm_X0_putPiece_139 : decode M_X0_putPiece.1 139 = .ok (.dup, 1) := by decide +kernel
theorem dm_X0_putPiece_140 : decode M_X0_putPiece.1 140 = .ok (.getfield 85, 3) := by decide +kernel
theorem dm_X0_putPiece_143 : decode M_X0_putPiece.1 143 = .ok (.lload_n 2, 1) := by decide +kernel
theorem dm_X0_putPiece_144 : decode M_X0_putPiece.1 144 = .ok (.l2i, 1) := by decide +kernel
theorem dm_X0_putPiece_145 : decode M_X0_putPiece.1 145 = .ok (.bipush 20, 2) := by decide +kernel
theorem dm_X0_putPiece_147 : decode M_X0_putPiece.1 147 = .ok (.ishl, 1) := by decide +kernel
theorem dm_X0_putPiece_148 : decode M_X0_putPiece.1 148 = .ok (.ior, 1) := by decide +kernel
theorem dm_X0_putPiece_149 : decode M_X0_putPiece.1 149 = .ok (.putfield 85, 3) := by decide +kernel
theorem dm_X0_putPiece_152 : decode M_X0_putPiece.1 152 = .ok (.goto 212, 3) := by decide +kernel
theorem dm_X0_putPiece_155 : decode M_X0_putPiece.1 155 = .ok (.aload_n 0, 1) := by decide +kernel
theorem dm_X0_putPiece_156 : decode M_X0_putPiece.1 156 = .ok (.dup, 1) := by decide +kernel
theorem dm_X0_putPiece_157 : decode M_X0_putPiece.1 157 = .ok (.getfield 85, 3) := by decide +kernel
theorem dm_X0_putPiece_160 : decode M_X0_putPiece.1 160 = .ok (.aload_n 0, 1) := by decide +kernel
theorem dm_X0_putPiece_161 : decode M_X0_putPiece.1 161 = .ok (.lload_n 2, 1) := by decide +kernel
theorem dm_X0_putPiece_162 : decode M_X0_putPiece.1 162 = .ok (.ldc2_w 155, 3) := by decide +kernel
theorem dm_X0_putPiece_165 : decode M_X0_putPiece.1 165 = .ok (.ldc2_w 157, 3) := by decide +kernel
theorem dm_X0_putPiece_168 : decode M_X0_putPiece.1 168 = .ok (.invokevirtual 159, 3) := by decide +kernel
theorem dm_X0_putPiece_171 : decode M_X0_putPiece.1 171 = .ok (.bipush 20, 2) := by decide +kernel
theorem dm_X0_putPiece_173 : decode M_X0_putPiece.1 173 = .ok (.ishl, 1) := by decide +kernel
theorem dm_X0_putPiece_174 : decode M_X0_putPiece.1 174 = .ok (.ior, 1) := by decide +kernel
theorem dm_X0_putPiece_175 : decode M_X0_putPiece.1 175 = .ok (.putfield 85, 3) := by decide +kernel
theorem dm_X0_putPiece_178 : decode M_X0_putPiece.1 178 = .ok (.goto 186, 3) := by decide +kernel
theorem dm_X0_putPiece_181 : decode M_X0_putPiece.1 181 = .ok (.aload_n 0, 1) := by decide +kernel
theorem dm_X0_putPiece_182 : decode M_X0_putPiece.1 182 = .ok (.dup, 1) := by decide +kernel
theorem dm_X0_putPiece_183 : decode M_X0_putPiece.1 183 = .ok (.getfield 85, 3) := by decide +kernel
theorem dm_X0_putPiece_186 : decode M_X0_putPiece.1 186 = .ok (.aload_n 0, 1) := by decide +kernel
theorem dm_X0_putPiece_187 : decode M_X0_putPiece.1 187 = .ok (.lload_n 2, 1) := by decide +kernel
theorem dm_X0_putPiece_188 : decode M_X0_putPiece.1 188 = .ok (.ldc2_w 155, 3) := by decide +kernel
theorem dm_X0_putPiece_191 : decode M_X0_putPiece.1 191 = .ok (.ldc2_w 157, 3) := by decide +kernel
theorem dm_X0_putPiece_194 : decode M_X0_putPiece.1 194 = .ok (.invokevirtual 159, 3) := by decide +kernel
theorem dm_X0_putPiece_197 : decode M_X0_putPiece.1 197 = .ok (.invokestatic 163, 3) := by decide +kernel
theorem dm_X0_putPiece_200 : decode M_X0_putPiece.1 200 = .ok (.ior, 1) := by decide +kernel
theorem dm_X0_putPiece_201 : decode M_X0_putPiece.1 201 = .ok (.putfield 85, 3) := by decide +kernel
theorem dm_X0_putPiece_204 : decode M_X0_putPiece.1 204 = .ok (.goto 160, 3) := by decide +kernel
theorem dm_X0_putPiece_207 : decode M_X0_putPiece.1 207 = .ok (.aload_n 0, 1) := by decide +kernel
theorem dm_X0_putPiece_208 : decode M_X0_putPiece.1 208 = .ok (.dup, 1) := by decide +kernel
theorem dm_X0_putPiece_209 : decode M_X0_putPiece.1 209 = .ok (.getfield 85, 3) := by decide +kernel
theorem dm_X0_putPiece_212 : decode M_X0_putPiece.1 212 = .ok (.aload_n 0, 1) := by decide +kernel
theorem dm_X0_putPiece_213 : decode M_X0_putPiece.1 213 = .ok (.lload_n 2, 1) := by decide +kernel
theorem dm_X0_putPiece_214 : decode M_X0_putPiece.1 214 = .ok (.lconst 0, 1) := by decide +kernel
theorem dm_X0_putPiece_215 : decode M_X0_putPiece.1 215 = .ok (.ldc2_w 168, 3) := by decide +kernel
theorem dm_X0_putPiece_218 : decode M_X0_putPiece.1 218 = .ok (.invokevirtual 159, 3) := by decide +kernel
theorem dm_X0_putPiece_221 : decode M_X0_putPiece.1 221 = .ok (.bipush 20, 2) := by decide +kernel
theorem dm_X0_putPiece_223 : decode M_X0_putPiece.1 223 = .ok (.ishl, 1) := by decide +kernel
theorem dm_X0_putPiece_224 : decode M_X0_putPiece.1 224 = .ok (.ior, 1) := by decide +kernel
theorem dm_X0_putPiece_225 : decode M_X0_putPiece.1 225 = .ok (.putfield 85, 3) := by decide +kernel
theorem dm_X0_putPiece_228 : decode M_X0_putPiece.1 228 = .ok (.goto 136, 3) := by decide +kernel
theorem dm_X0_putPiece_231 : decode M_X0_putPiece.1 231 = .ok (.aload_n 0, 1) := by decide +kernel
theorem dm_X0_putPiece_232 : decode M_X0_putPiece.1 232 = .ok (.dup, 1) := by decide +kernel
theorem dm_X0_putPiece_233 : decode M_X0_putPiece.1 233 = .ok (.getfield 85, 3) := by decide +kernel
theorem dm_X0_putPiece_236 : decode M_X0_putPiece.1 236 = .ok (.aload_n 0, 1) := by decide +kernel
theorem dm_X0_putPiece_237 : decode M_X0_putPiece.1 237 = .ok (.lload_n 2, 1) := by decide +kernel
theorem dm_X0_putPiece_238 : decode M_X0_putPiece.1 238 = .ok (.lconst 0, 1) := by decide +kernel
theorem dm_X0_putPiece_239 : decode M_X0_putPiece.1 239 = .ok (.ldc2_w 170, 3) := by decide +kernel
theorem dm_X0_putPiece_242 : decode M_X0_putPiece.1 242 = .ok (.invokevirtual 159, 3) := by decide +kernel
theorem dm_X0_putPiece_245 : decode M_X0_putPiece.1 245 = .ok (.bipush 12, 2) := by decide +kernel
theorem dm_X0_putPiece_247 : decode M_X0_putPiece.1 247 = .ok (.ishl, 1) := by decide +kernel
theorem dm_X0_putPiece_248 : decode M_X0_putPiece.1 248 = .ok (.ior, 1) := by decide +kernel
theorem dm_X0_putPiece_249 : decode M_X0_putPiece.1 249 = .ok (.putfield 85, 3) := by decide +kernel
theorem dm_X0_putPiece_252 : decode M_X0_putPiece.1 252 = .ok (.goto 112, 3) := by decide +kernel
theorem dm_X0_putPiece_255 : decode M_X0_putPiece.1 255 = .ok (.aload_n 0, 1) := by decide +kernel
theorem dm_X0_putPiece_256 : decode M_X0_putPiece.1 256 = .ok (.dup, 1) := by decide +kernel
theorem dm_X0_putPiece_257 : decode M_X0_putPiece.1 257 = .ok (.getfield 85, 3) := by decide +kernel
theorem dm_X0_putPiece_260 : decode M_X0_putPiece.1 260 = .ok (.aload_n 0, 1) := by decide +kernel
theorem dm_X0_putPiece_261 : decode M_X0_putPiece.1 261 = .ok (.lload_n 2, 1) := by decide +kernel
theorem dm_X0_putPiece_262 : decode M_X0_putPiece.1 262 = .ok (.lconst 0, 1) := by decide +kernel
theorem dm_X0_putPiece_263 : decode M_X0_putPiece.1 263 = .ok (.ldc2_w 172, 3) := by decide +kernel
theorem dm_X0_putPiece_266 : decode M_X0_putPiece.1 266 = .ok (.invokevirtual 159, 3) := by decide +kernel
theorem dm_X0_putPiece_269 : decode M_X0_putPiece.1 269 = .ok (.bipush 7, 2) := by decide +kernel
theorem dm_X0_putPiece_271 : decode M_X0_putPiece.1 271 = .ok (.ishl, 1) := by decide +kernel
theorem dm_X0_putPiece_272 : decode M_X0_putPiece.1 272 = .ok (.ior, 1) := by decide +kernel
theorem dm_X0_putPiece_273 : decode M_X0_putPiece.1 273 = .ok (.putfield 85, 3) := by decide +kernel
theorem dm_X0_putPiece_276 : decode M_X0_putPiece.1 276 = .ok (.goto 88, 3) := by decide +kernel
theorem dm_X0_putPiece_279 : decode M_X0_putPiece.1 279 = .ok (.aload_n 0, 1) := by decide +kernel
theorem dm_X0_putPiece_280 : decode M_X0_putPiece.1 280 = .ok (.dup, 1) := by decide +kernel
theorem dm_X0_putPiece_281 : decode M_X0_putPiece.1 281 = .ok (.getfield 85, 3) := by decide +kernel
theorem dm_X0_putPiece_284 : decode M_X0_putPiece.1 284 = .ok (.aload_n 0, 1) := by decide +kernel
theorem dm_X0_putPiece_285 : decode M_X0_putPiece.1 285 = .ok (.lload_n 2, 1) := by decide +kernel
theorem dm_X0_putPiece_286 : decode M_X0_putPiece.1 286 = .ok (.ldc2_w 174, 3) := by decide +kernel
theorem dm_X0_putPiece_289 : decode M_X0_putPiece.1 289 = .ok (.ldc2_w 176, 3) := by decide +kernel
theorem dm_X0_putPiece_292 : decode M_X0_putPiece.1 292 = .ok (.invokevirtual 159, 3) := by decide +kernel
theorem dm_X0_putPiece_295 : decode M_X0_putPiece.1 295 = .ok (.ior, 1) := by decide +kernel
theorem dm_X0_putPiece_296 : decode M_X0_putPiece.1 296 = .ok (.putfield 85, 3) := by decide +kernel
theorem dm_X0_putPiece_299 : decode M_X0_putPiece.1 299 = .ok (.goto 65, 3) := by decide +kernel
theorem dm_X0_putPiece_302 : decode M_X0_putPiece.1 302 = .ok (.aload_n 0, 1) := by decide +kernel
theorem dm_X0_putPiece_303 : decode M_X0_putPiece.1 303 = .ok (.lload_n 2, 1) := by decide +kernel
theorem dm_X0_putPiece_304 : decode M_X0_putPiece.1 304 = .ok (.invokevirtual 178, 3) := by decide +kernel
theorem dm_X0_putPiece_307 : decode M_X0_putPiece.1 307 = .ok (.aload_n 0, 1) := by decide +kernel
theorem dm_X0_putPiece_308 : decode M_X0_putPiece.1 308 = .ok (.dup, 1) := by decide +kernel
theorem dm_X0_putPiece_309 : decode M_X0_putPiece.1 309 = .ok (.getfield 85, 3) := by decide +kernel
theorem dm_X0_putPiece_312 : decode M_X0_putPiece.1 312 = .ok (.aload_n 0, 1) := by decide +kernel
theorem dm_X0_putPiece_313 : decode M_X0_putPiece.1 313 = .ok (.lload_n 2, 1) := by decide +kernel
theorem dm_X0_putPiece_314 : decode M_X0_putPiece.1 314 = .ok (.ldc2_w 182, 3) := by decide +kernel
theorem dm_X0_putPiece_317 : decode M_X0_putPiece.1 317 = .ok (.ldc2_w 184, 3) := by decide +kernel
theorem dm_X0_putPiece_320 : decode M_X0_putPiece.1 320 = .ok (.invokevirtual 159, 3) := by decide +kernel
theorem dm_X0_putPiece_323 : decode M_X0_putPiece.1 323 = .ok (.invokestatic 186, 3) := by decide +kernel
theorem dm_X0_putPiece_326 : decode M_X0_putPiece.1 326 = .ok (.ior, 1) := by decide +kernel
theorem dm_X0_putPiece_327 : decode M_X0_putPiece.1 327 = .ok (.putfield 85, 3) := by decide +kernel
theorem dm_X0_putPiece_330 : decode M_X0_putPiece.1 330 = .ok (.goto 34, 3) := by decide +kernel
theorem dm_X0_putPiece_333 : decode M_X0_putPiece.1 333 = .ok (.aload_n 0, 1) := by decide +kernel
theorem dm_X0_putPiece_334 : decode M_X0_putPiece.1 334 = .ok (.lload_n 2, 1) := by decide +kernel
theorem dm_X0_putPiece_335 : decode M_X0_putPiece.1 335 = .ok (.invokevirtual 178, 3) := by decide +kernel
theorem dm_X0_putPiece_338 : decode M_X0_putPiece.1 338 = .ok (.aload_n 0, 1) := by decide +kernel
theorem dm_X0_putPiece_339 : decode M_X0_putPiece.1 339 = .ok (.dup, 1) := by decide +kernel
theorem dm_X0_putPiece_340 : decode M_X0_putPiece.1 340 = .ok (.getfield 85, 3) := by decide +kernel
theorem dm_X0_putPiece_343 : decode M_X0_putPiece.1 343 = .ok (.aload_n 0, 1) := by decide +kernel
theorem dm_X0_putPiece_344 : decode M_X0_putPiece.1 344 = .ok (.lload_n 2, 1) := by decide +kernel
theorem dm_X0_putPiece_345 : decode M_X0_putPiece.1 345 = .ok (.ldc2_w 189, 3) := by decide +kernel
theorem dm_X0_putPiece_348 : decode M_X0_putPiece.1 348 = .ok (.ldc2_w 191, 3) := by decide +kernel
theorem dm_X0_putPiece_351 : decode M_X0_putPiece.1 351 = .ok (.invokevirtual 159, 3) := by decide +kernel
theorem dm_X0_putPiece_354 : decode M_X0_putPiece.1 354 = .ok (.invokestatic 193, 3) := by decide +kernel
theorem dm_X0_putPiece_357 : decode M_X0_putPiece.1 357 = .ok (.ior, 1) := by decide +kernel
theorem dm_X0_putPiece_358 : decode M_X0_putPiece.1 358 = .ok (.putfield 85, 3) := by decide +kernel
theorem dm_X0_putPiece_361 : decode M_X0_putPiece.1 361 = .ok (.goto 3, 3) := by decide +kernel
theorem dm_X0_putPiece_364 : decode M_X0_putPiece.1 364 = .ok (.return_, 1) := by decide +kernel
theorem gc_X0_putPiece_159 : g_cv M_X0_putPiece 159 M_X0_fitted yX0_fitted 3 := ⟨tw353, tw354, tw355, tw39, tw356, ⟨rfl, rfl, rfl, rfl⟩, gd_X0_fitted, ⟨by decide, by decide⟩⟩
theorem gc_X0_putPiece_163 : g_cs M_X0_putPiece 163 M_X1_bitsOfS yX1_bitsOfS 1 := ⟨tw357, tw358, tw359, tw360, ⟨rfl, rfl, rfl, rfl⟩, gd_X1_bitsOfS, ⟨by decide, by decide⟩⟩
theorem gc_X0_putPiece_178 : g_cv M_X0_putPiece 178 M_X0_noteOdd yX0_noteOdd 1 := ⟨tw361, tw362, tw363, tw39, tw364, ⟨rfl, rfl, rfl, rfl⟩, gd_X0_noteOdd, ⟨by decide, by decide⟩⟩
theorem gc_X0_putPiece_186 : g_cs M_X0_putPiece 186 M_X1_bitsOfB yX1_bitsOfB 1 := ⟨tw365, tw366, tw359, tw367, ⟨rfl, rfl, rfl, rfl⟩, gd_X1_bitsOfB, ⟨by decide, by decide⟩⟩
theorem gc_X0_putPiece_193 : g_cs M_X0_putPiece 193 M_X1_bitsOfJ yX1_bitsOfJ 1 := ⟨tw368, tw369, tw359, tw370, ⟨rfl, rfl, rfl, rfl⟩, gd_X1_bitsOfJ, ⟨by decide, by decide⟩⟩
def f_X0_putPiece_c323 (aword : Int32) (z2_1 : Int32) (z3_0 : Int32) : Int32 × Int32 := ((aword ||| z3_0), z2_1)
def f_X0_putPiece_c320 (aword : Int32) (z2_0 : Int32) (z2_1 : Int32) : Int32 × Int32 := (f_X0_putPiece_c323 aword z2_1 (f_X1_bitsOfB z2_0))
def f_X0_putPiece_c304 (value : Int64) (aword : Int32) (z1_0 : Int32) : Int32 × Int32 := (f_X0_putPiece_c320 aword (f_X0_fitted value (-4096 : Int64) (4094 : Int64) z1_0).1 (f_X0_fitted value (-4096 : Int64) (4094 : Int64) z1_0).2)
def f_X0_putPiece_c218 (aword : Int32) (z4_0 : Int32) (z4_1 : Int32) : Int32 × Int32 := ((aword ||| (z4_0 <<< ((20 : Int32) &&& 31))), z4_1)
def f_X0_putPiece_c168 (aword : Int32) (z5_0 : Int32) (z5_1 : Int32) : Int32 × Int32 := ((aword ||| (z5_0 <<< ((20 : Int32) &&& 31))), z5_1)
def f_X0_putPiece_c354 (aword : Int32) (z7_1 : Int32) (z8_0 : Int32) : Int32 × Int32 := ((aword ||| z8_0), z7_1)
def f_X0_putPiece_c351 (aword : Int32) (z7_0 : Int32) (z7_1 : Int32) : Int32 × Int32 := (f_X0_putPiece_c354 aword z7_1 (f_X1_bitsOfJ z7_0))
def f_X0_putPiece_c335 (value : Int64) (aword : Int32) (z6_0 : Int32) : Int32 × Int32 := (f_X0_putPiece_c351 aword (f_X0_fitted value (-1048576 : Int64) (1048574 : Int64) z6_0).1 (f_X0_fitted value (-1048576 : Int64) (1048574 : Int64) z6_0).2)
def f_X0_putPiece_c266 (aword : Int32) (z9_0 : Int32) (z9_1 : Int32) : Int32 × Int32 := ((aword ||| (z9_0 <<< ((7 : Int32) &&& 31))), z9_1)
def f_X0_putPiece_c197 (aword : Int32) (z10_1 : Int32) (z11_0 : Int32) : Int32 × Int32 := ((aword ||| z11_0), z10_1)
def f_X0_putPiece_c194 (aword : Int32) (z10_0 : Int32) (z10_1 : Int32) : Int32 × Int32 := (f_X0_putPiece_c197 aword z10_1 (f_X1_bitsOfS z10_0))
def f_X0_putPiece_c242 (aword : Int32) (z12_0 : Int32) (z12_1 : Int32) : Int32 × Int32 := ((aword ||| (z12_0 <<< ((12 : Int32) &&& 31))), z12_1)
def f_X0_putPiece_c292 (aword : Int32) (z13_0 : Int32) (z13_1 : Int32) : Int32 × Int32 := ((aword ||| z13_0), z13_1)
def f_X0_putPiece (piece : Int32) (value : Int64) (aword : Int32) (amis : Int32) : Int32 × Int32 := (if piece = (98 : Int32) then (f_X0_putPiece_c304 value aword (f_X0_noteOdd value amis)) else (if piece = (100 : Int32) then ((aword ||| ((Int64.toInt32 value) <<< ((7 : Int32) &&& 31))), amis) else (if piece = (104 : Int32) then (f_X0_putPiece_c218 aword (f_X0_fitted value (0 : Int64) (31 : Int64) amis).1 (f_X0_fitted value (0 : Int64) (31 : Int64) amis).2) else (if piece = (105 : Int32) then (f_X0_putPiece_c168 aword (f_X0_fitted value (-2048 : Int64) (2047 : Int64) amis).1 (f_X0_fitted value (-2048 : Int64) (2047 : Int64) amis).2) else (if piece = (106 : Int32) then (f_X0_putPiece_c335 value aword (f_X0_noteOdd value amis)) else (if piece = (107 : Int32) then (f_X0_putPiece_c266 aword (f_X0_fitted value (0 : Int64) (3 : Int64) amis).1 (f_X0_fitted value (0 : Int64) (3 : Int64) amis).2) else (if piece = (109 : Int32) then (f_X0_putPiece_c194 aword (f_X0_fitted value (-2048 : Int64) (2047 : Int64) amis).1 (f_X0_fitted value (-2048 : Int64) (2047 : Int64) amis).2) else (if piece = (115 : Int32) then ((aword ||| ((Int64.toInt32 value) <<< ((15 : Int32) &&& 31))), amis) else (if piece = (116 : Int32) then ((aword ||| ((Int64.toInt32 value) <<< ((20 : Int32) &&& 31))), amis) else (if piece = (117 : Int32) then (f_X0_putPiece_c242 aword (f_X0_fitted value (0 : Int64) (1048575 : Int64) amis).1 (f_X0_fitted value (0 : Int64) (1048575 : Int64) amis).2) else (if piece = (119 : Int32) then (f_X0_putPiece_c292 aword (f_X0_fitted value (-2147483648 : Int64) (4294967295 : Int64) amis).1 (f_X0_fitted value (-2147483648 : Int64) (4294967295 : Int64) amis).2) else (aword, amis))))))))))))
set_option maxRecDepth 20000 in
theorem k_X0_putPiece {piece : Int32} {value : Int64} {acount : Int32} {afk : Int32} {afl : Int32} {aat : Int32} {alabel : Int64} {ahas : Int32} {aword : Int32} {atarget : Int64} {amal : Int32} {amis : Int32} {awords : Nat → Int32} {atargets : Nat → Int64} {alines : Nat → Int32} {lcount : Int32} {lkeys : Nat → Int64} {lplaces : Nat → Int32} {kcount : Int32} {klen : Int32} {kat : Int32} {kinds : Nat → Int32} {kvals : Nat → Int64} {tchars : Nat → Int32} {r_0 : Int32} {r_1 : Int32} (hres : (r_0, r_1) = f_X0_putPiece piece value aword amis) : K M_X0_putPiece yX0_putPiece [.ref 0, .int piece, .long value] (w_A acount afk afl aat alabel ahas aword atarget amal amis awords atargets alines lcount lkeys lplaces kcount klen kat kinds kvals tchars) (none) (w_A acount afk afl aat alabel ahas r_0 atarget amal r_1 awords atargets alines lcount lkeys lplaces kcount klen kat kinds kvals tchars) := by
  refine K.of (lv := [(0, .ref 0), (1, .int piece), (2, .long value)]) (by decide +kernel) rfl rfl rfl ?_
  rw [f_X0_putPiece] at hres
  refine G.iload_n (pc := 0) dm_X0_putPiece_0 rfl ?_
  by_cases c1_0 : piece = (98 : Int32)
  · rw [if_pos c1_0] at hres
    refine G.tabIn (pc := 1) (tgt := 302) dm_X0_putPiece_1 c1_0 (by decide) (by decide) rfl (by decide) ?_
    refine G.aload_n (pc := 302) dm_X0_putPiece_302 rfl ?_
    refine G.lload_n (pc := 303) dm_X0_putPiece_303 rfl ?_
    obtain ⟨z1_0, hz1⟩ := g_ex1 (f_X0_noteOdd value amis)
    refine G.callV0 (pc := 304) (rest := []) (st1 := []) dm_X0_putPiece_304 gc_X0_putPiece_178 (k_X0_noteOdd (value := value) (acount := acount) (afk := afk) (afl := afl) (aat := aat) (alabel := alabel) (ahas := ahas) (aword := aword) (atarget := atarget) (amal := amal) (amis := amis) (awords := awords) (atargets := atargets) (alines := alines) (lcount := lcount) (lkeys := lkeys) (lplaces := lplaces) (kcount := kcount) (klen := klen) (kat := kat) (kinds := kinds) (kvals := kvals) (tchars := tchars) hz1) rfl rfl rfl rfl rfl rfl rfl rfl ?_
    replace hres : (r_0, r_1) = f_X0_putPiece_c304 value aword z1_0 := hres.trans (by rw [← hz1])
    rw [f_X0_putPiece_c304] at hres
    refine G.aload_n (pc := 307) dm_X0_putPiece_307 rfl ?_
    refine G.dup (pc := 308) dm_X0_putPiece_308 rfl ?_
    refine G.getfield (pc := 309) dm_X0_putPiece_309 gf_X0_85 rfl rfl ?_
    refine G.aload_n (pc := 312) dm_X0_putPiece_312 rfl ?_
    refine G.lload_n (pc := 313) dm_X0_putPiece_313 rfl ?_
    refine G.ldc2 (pc := 314) dm_X0_putPiece_314 tw349 ?_
    refine G.ldc2 (pc := 317) dm_X0_putPiece_317 tw350 ?_
    obtain ⟨z2_0, z2_1, hz2⟩ := g_ex2 (f_X0_fitted value (-4096 : Int64) (4094 : Int64) z1_0)
    refine G.callV0 (pc := 320) (rest := [.int aword, .ref 0]) (st1 := [.int z2_0, .int aword, .ref 0]) dm_X0_putPiece_320 gc_X0_putPiece_159 (k_X0_fitted (value := value) (low := (-4096 : Int64)) (high := (4094 : Int64)) (acount := acount) (afk := afk) (afl := afl) (aat := aat) (alabel := alabel) (ahas := ahas) (aword := aword) (atarget := atarget) (amal := amal) (amis := z1_0) (awords := awords) (atargets := atargets) (alines := alines) (lcount := lcount) (lkeys := lkeys) (lplaces := lplaces) (kcount := kcount) (klen := klen) (kat := kat) (kinds := kinds) (kvals := kvals) (tchars := tchars) hz2) rfl rfl rfl rfl rfl rfl rfl rfl ?_
    replace hres : (r_0, r_1) = f_X0_putPiece_c320 aword z2_0 z2_1 := hres.trans (by rw [← hz2])
    rw [f_X0_putPiece_c320] at hres
    obtain ⟨z3_0, hz3⟩ := g_ex1 (f_X1_bitsOfB z2_0)
    refine G.callS (pc := 323) (rest := [.int aword, .ref 0]) (st1 := [.int z3_0, .int aword, .ref 0]) (ws1 := (w_A acount afk afl aat alabel ahas aword atarget amal z2_1 awords atargets alines lcount lkeys lplaces kcount klen kat kinds kvals tchars)) [] dm_X0_putPiece_323 gc_X0_putPiece_186 (k_X1_bitsOfB (x := z2_0) hz3) rfl rfl rfl rfl rfl rfl rfl rfl ?_
    replace hres : (r_0, r_1) = f_X0_putPiece_c323 aword z2_1 z3_0 := hres.trans (by rw [← hz3])
    rw [f_X0_putPiece_c323] at hres
    refine G.ior (pc := 326) dm_X0_putPiece_326 ?_
    refine G.putfield (pc := 327) (ws1 := (w_A acount afk afl aat alabel ahas (aword ||| z3_0) atarget amal z2_1 awords atargets alines lcount lkeys lplaces kcount klen kat kinds kvals tchars)) dm_X0_putPiece_327 gw_X0_85 rfl (g_fit_i _) rfl rfl ?_
    refine G.goto (pc := 330) (tgt := 364) dm_X0_putPiece_330 (by decide) ?_
    cases hres
    exact G.vreturn (pc := 364) dm_X0_putPiece_364 rfl rfl rfl
  rw [if_neg c1_0] at hres
  by_cases c1_1 : piece = (100 : Int32)
  · rw [if_pos c1_1] at hres
    refine G.tabIn (pc := 1) (tgt := 104) dm_X0_putPiece_1 c1_1 (by decide) (by decide) rfl (by decide) ?_
    refine G.aload_n (pc := 104) dm_X0_putPiece_104 rfl ?_
    refine G.dup (pc := 105) dm_X0_putPiece_105 rfl ?_
    refine G.getfield (pc := 106) dm_X0_putPiece_106 gf_X0_85 rfl rfl ?_
    refine G.lload_n (pc := 109) dm_X0_putPiece_109 rfl ?_
    refine G.l2i (pc := 110) dm_X0_putPiece_110 ?_
    refine G.bipush (pc := 111) (v := (7 : Int32)) dm_X0_putPiece_111 qb_7 ?_
    refine G.ishl (pc := 113) dm_X0_putPiece_113 ?_
    refine G.ior (pc := 114) dm_X0_putPiece_114 ?_
    refine G.putfield (pc := 115) (ws1 := (w_A acount afk afl aat alabel ahas (aword ||| ((Int64.toInt32 value) <<< ((7 : Int32) &&& 31))) atarget amal amis awords atargets alines lcount lkeys lplaces kcount klen kat kinds kvals tchars)) dm_X0_putPiece_115 gw_X0_85 rfl (g_fit_i _) rfl rfl ?_
    refine G.goto (pc := 118) (tgt := 364) dm_X0_putPiece_118 (by decide) ?_
    cases hres
    exact G.vreturn (pc := 364) dm_X0_putPiece_364 rfl rfl rfl
  rw [if_neg c1_1] at hres
  by_cases c1_2 : piece = (104 : Int32)
  · rw [if_pos c1_2] at hres
    refine G.tabIn (pc := 1) (tgt := 207) dm_X0_putPiece_1 c1_2 (by decide) (by decide) rfl (by decide) ?_
    refine G.aload_n (pc := 207) dm_X0_putPiece_207 rfl ?_
    refine G.dup (pc := 208) dm_X0_putPiece_208 rfl ?_
    refine G.getfield (pc := 209) dm_X0_putPiece_209 gf_X0_85 rfl rfl ?_
    refine G.aload_n (pc := 212) dm_X0_putPiece_212 rfl ?_
    refine G.lload_n (pc := 213) dm_X0_putPiece_213 rfl ?_
    refine G.lconst (pc := 214) (v := (0 : Int64)) dm_X0_putPiece_214 (by decide) ?_
    refine G.ldc2 (pc := 215) dm_X0_putPiece_215 tw344 ?_
    obtain ⟨z4_0, z4_1, hz4⟩ := g_ex2 (f_X0_fitted value (0 : Int64) (31 : Int64) amis)
    refine G.callV0 (pc := 218) (rest := [.int aword, .ref 0]) (st1 := [.int z4_0, .int aword, .ref 0]) dm_X0_putPiece_218 gc_X0_putPiece_159 (k_X0_fitted (value := value) (low := (0 : Int64)) (high := (31 : Int64)) (acount := acount) (afk := afk) (afl := afl) (aat := aat) (alabel := alabel) (ahas := ahas) (aword := aword) (atarget := atarget) (amal := amal) (amis := amis) (awords := awords) (atargets := atargets) (alines := alines) (lcount := lcount) (lkeys := lkeys) (lplaces := lplaces) (kcount := kcount) (klen := klen) (kat := kat) (kinds := kinds) (kvals := kvals) (tchars := tchars) hz4) rfl rfl rfl rfl rfl rfl rfl rfl ?_
    replace hres : (r_0, r_1) = f_X0_putPiece_c218 aword z4_0 z4_1 := hres.trans (by rw [← hz4])
    rw [f_X0_putPiece_c218] at hres
    refine G.bipush (pc := 221) (v := (20 : Int32)) dm_X0_putPiece_221 qb_20 ?_
    refine G.ishl (pc := 223) dm_X0_putPiece_223 ?_
    refine G.ior (pc := 224) dm_X0_putPiece_224 ?_
    refine G.putfield (pc := 225) (ws1 := (w_A acount afk afl aat alabel ahas (aword ||| (z4_0 <<< ((20 : Int32) &&& 31))) atarget amal z4_1 awords atargets alines lcount lkeys lplaces kcount klen kat kinds kvals tchars)) dm_X0_putPiece_225 gw_X0_85 rfl (g_fit_i _) rfl rfl ?_
    refine G.goto (pc := 228) (tgt := 364) dm_X0_putPiece_228 (by decide) ?_
    cases hres
    exact G.vreturn (pc := 364) dm_X0_putPiece_364 rfl rfl rfl
  rw [if_neg c1_2] at hres
  by_cases c1_3 : piece = (105 : Int32)
  · rw [if_pos c1_3] at hres
    refine G.tabIn (pc := 1) (tgt := 155) dm_X0_putPiece_1 c1_3 (by decide) (by decide) rfl (by decide) ?_
    refine G.aload_n (pc := 155) dm_X0_putPiece_155 rfl ?_
    refine G.dup (pc := 156) dm_X0_putPiece_156 rfl ?_
    refine G.getfield (pc := 157) dm_X0_putPiece_157 gf_X0_85 rfl rfl ?_
    refine G.aload_n (pc := 160) dm_X0_putPiece_160 rfl ?_
    refine G.lload_n (pc := 161) dm_X0_putPiece_161 rfl ?_
    refine G.ldc2 (pc := 162) dm_X0_putPiece_162 tw342 ?_
    refine G.ldc2 (pc := 165) dm_X0_putPiece_165 tw343 ?_
    obtain ⟨z5_0, z5_1, hz5⟩ := g_ex2 (f_X0_fitted value (-2048 : Int64) (2047 : Int64) amis)
    refine G.callV0 (pc := 168) (rest := [.int aword, .ref 0]) (st1 := [.int z5_0, .int aword, .ref 0]) dm_X0_putPiece_168 gc_X0_putPiece_159 (k_X0_fitted (value := value) (low := (-2048 : Int64)) (high := (2047 : Int64)) (acount := acount) (afk := afk) (afl := afl) (aat := aat) (alabel := alabel) (ahas := ahas) (aword := aword) (atarget := atarget) (amal := amal) (amis := amis) (awords := awords) (atargets := atargets) (alines := alines) (lcount := lcount) (lkeys := lkeys) (lplaces := lplaces) (kcount := kcount) (klen := klen) (kat := kat) (kinds := kinds) (kvals := kvals) (tchars := tchars) hz5) rfl rfl rfl rfl rfl rfl rfl rfl ?_
    replace hres : (r_0, r_1) = f_X0_putPiece_c168 aword z5_0 z5_1 := hres.trans (by rw [← hz5])
    rw [f_X0_putPiece_c168] at hres
    refine G.bipush (pc := 171) (v := (20 : Int32)) dm_X0_putPiece_171 qb_20 ?_
    refine G.ishl (pc := 173) dm_X0_putPiece_173 ?_
    refine G.ior (pc := 174) dm_X0_putPiece_174 ?_
    refine G.putfield (pc := 175) (ws1 := (w_A acount afk afl aat alabel ahas (aword ||| (z5_0 <<< ((20 : Int32) &&& 31))) atarget amal z5_1 awords atargets alines lcount lkeys lplaces kcount klen kat kinds kvals tchars)) dm_X0_putPiece_175 gw_X0_85 rfl (g_fit_i _) rfl rfl ?_
    refine G.goto (pc := 178) (tgt := 364) dm_X0_putPiece_178 (by decide) ?_
    cases hres
    exact G.vreturn (pc := 364) dm_X0_putPiece_364 rfl rfl rfl
  rw [if_neg c1_3] at hres
  by_cases c1_4 : piece = (106 : Int32)
  · rw [if_pos c1_4] at hres
    refine G.tabIn (pc := 1) (tgt := 333) dm_X0_putPiece_1 c1_4 (by decide) (by decide) rfl (by decide) ?_
    refine G.aload_n (pc := 333) dm_X0_putPiece_333 rfl ?_
    refine G.lload_n (pc := 334) dm_X0_putPiece_334 rfl ?_
    obtain ⟨z6_0, hz6⟩ := g_ex1 (f_X0_noteOdd value amis)
    refine G.callV0 (pc := 335) (rest := []) (st1 := []) dm_X0_putPiece_335 gc_X0_putPiece_178 (k_X0_noteOdd (value := value) (acount := acount) (afk := afk) (afl := afl) (aat := aat) (alabel := alabel) (ahas := ahas) (aword := aword) (atarget := atarget) (amal := amal) (amis := amis) (awords := awords) (atargets := atargets) (alines := alines) (lcount := lcount) (lkeys := lkeys) (lplaces := lplaces) (kcount := kcount) (klen := klen) (kat := kat) (kinds := kinds) (kvals := kvals) (tchars := tchars) hz6) rfl rfl rfl rfl rfl rfl rfl rfl ?_
    replace hres : (r_0, r_1) = f_X0_putPiece_c335 value aword z6_0 := hres.trans (by rw [← hz6])
    rw [f_X0_putPiece_c335] at hres
    refine G.aload_n (pc := 338) dm_X0_putPiece_338 rfl ?_
    refine G.dup (pc := 339) dm_X0_putPiece_339 rfl ?_
    refine G.getfield (pc := 340) dm_X0_putPiece_340 gf_X0_85 rfl rfl ?_
    refine G.aload_n (pc := 343) dm_X0_putPiece_343 rfl ?_
    refine G.lload_n (pc := 344) dm_X0_putPiece_344 rfl ?_
    refine G.ldc2 (pc := 345) dm_X0_putPiece_345 tw351 ?_
    refine G.ldc2 (pc := 348) dm_X0_putPiece_348 tw352 ?_
    obtain ⟨z7_0, z7_1, hz7⟩ := g_ex2 (f_X0_fitted value (-1048576 : Int64) (1048574 : Int64) z6_0)
    refine G.callV0 (pc := 351) (rest := [.int aword, .ref 0]) (st1 := [.int z7_0, .int aword, .ref 0]) dm_X0_putPiece_351 gc_X0_putPiece_159 (k_X0_fitted (value := value) (low := (-1048576 : Int64)) (high := (1048574 : Int64)) (acount := acount) (afk := afk) (afl := afl) (aat := aat) (alabel := alabel) (ahas := ahas) (aword := aword) (atarget := atarget) (amal := amal) (amis := z6_0) (awords := awords) (atargets := atargets) (alines := alines) (lcount := lcount) (lkeys := lkeys) (lplaces := lplaces) (kcount := kcount) (klen := klen) (kat := kat) (kinds := kinds) (kvals := kvals) (tchars := tchars) hz7) rfl rfl rfl rfl rfl rfl rfl rfl ?_
    replace hres : (r_0, r_1) = f_X0_putPiece_c351 aword z7_0 z7_1 := hres.trans (by rw [← hz7])
    rw [f_X0_putPiece_c351] at hres
    obtain ⟨z8_0, hz8⟩ := g_ex1 (f_X1_bitsOfJ z7_0)
    refine G.callS (pc := 354) (rest := [.int aword, .ref 0]) (st1 := [.int z8_0, .int aword, .ref 0]) (ws1 := (w_A acount afk afl aat alabel ahas aword atarget amal z7_1 awords atargets alines lcount lkeys lplaces kcount klen kat kinds kvals tchars)) [] dm_X0_putPiece_354 gc_X0_putPiece_193 (k_X1_bitsOfJ (x := z7_0) hz8) rfl rfl rfl rfl rfl rfl rfl rfl ?_
    replace hres : (r_0, r_1) = f_X0_putPiece_c354 aword z7_1 z8_0 := hres.trans (by rw [← hz8])
    rw [f_X0_putPiece_c354] at hres
    refine G.ior (pc := 357) dm_X0_putPiece_357 ?_
    refine G.putfield (pc := 358) (ws1 := (w_A acount afk afl aat alabel ahas (aword ||| z8_0) atarget amal z7_1 awords atargets alines lcount lkeys lplaces kcount klen kat kinds kvals tchars)) dm_X0_putPiece_358 gw_X0_85 rfl (g_fit_i _) rfl rfl ?_
    refine G.goto (pc := 361) (tgt := 364) dm_X0_putPiece_361 (by decide) ?_
    cases hres
    exact G.vreturn (pc := 364) dm_X0_putPiece_364 rfl rfl rfl
  rw [if_neg c1_4] at hres
  by_cases c1_5 : piece = (107 : Int32)
  · rw [if_pos c1_5] at hres
    refine G.tabIn (pc := 1) (tgt := 255) dm_X0_putPiece_1 c1_5 (by decide) (by decide) rfl (by decide) ?_
    refine G.aload_n (pc := 255) dm_X0_putPiece_255 rfl ?_
    refine G.dup (pc := 256) dm_X0_putPiece_256 rfl ?_
    refine G.getfield (pc := 257) dm_X0_putPiece_257 gf_X0_85 rfl rfl ?_
    refine G.aload_n (pc := 260) dm_X0_putPiece_260 rfl ?_
    refine G.lload_n (pc := 261) dm_X0_putPiece_261 rfl ?_
    refine G.lconst (pc := 262) (v := (0 : Int64)) dm_X0_putPiece_262 (by decide) ?_
    refine G.ldc2 (pc := 263) dm_X0_putPiece_263 tw346 ?_
    obtain ⟨z9_0, z9_1, hz9⟩ := g_ex2 (f_X0_fitted value (0 : Int64) (3 : Int64) amis)
    refine G.callV0 (pc := 266) (rest := [.int aword, .ref 0]) (st1 := [.int z9_0, .int aword, .ref 0]) dm_X0_putPiece_266 gc_X0_putPiece_159 (k_X0_fitted (value := value) (low := (0 : Int64)) (high := (3 : Int64)) (acount := acount) (afk := afk) (afl := afl) (aat := aat) (alabel := alabel) (ahas := ahas) (aword := aword) (atarget := atarget) (amal := amal) (amis := amis) (awords := awords) (atargets := atargets) (alines := alines) (lcount := lcount) (lkeys := lkeys) (lplaces := lplaces) (kcount := kcount) (klen := klen) (kat := kat) (kinds := kinds) (kvals := kvals) (tchars := tchars) hz9) rfl rfl rfl rfl rfl rfl rfl rfl ?_
    replace hres : (r_0, r_1) = f_X0_putPiece_c266 aword z9_0 z9_1 := hres.trans (by rw [← hz9])
    rw [f_X0_putPiece_c266] at hres
    refine G.bipush (pc := 269) (v := (7 : Int32)) dm_X0_putPiece_269 qb_7 ?_
    refine G.ishl (pc := 271) dm_X0_putPiece_271 ?_
    refine G.ior (pc := 272) dm_X0_putPiece_272 ?_
    refine G.putfield (pc := 273) (ws1 := (w_A acount afk afl aat alabel ahas (aword ||| (z9_0 <<< ((7 : Int32) &&& 31))) atarget amal z9_1 awords atargets alines lcount lkeys lplaces kcount klen kat kinds kvals tchars)) dm_X0_putPiece_273 gw_X0_85 rfl (g_fit_i _) rfl rfl ?_
    refine G.goto (pc := 276) (tgt := 364) dm_X0_putPiece_276 (by decide) ?_
    cases hres
    exact G.vreturn (pc := 364) dm_X0_putPiece_364 rfl rfl rfl
  rw [if_neg c1_5] at hres
  by_cases c1_6 : piece = (109 : Int32)
  · rw [if_pos c1_6] at hres
    refine G.tabIn (pc := 1) (tgt := 181) dm_X0_putPiece_1 c1_6 (by decide) (by decide) rfl (by decide) ?_
    refine G.aload_n (pc := 181) dm_X0_putPiece_181 rfl ?_
    refine G.dup (pc := 182) dm_X0_putPiece_182 rfl ?_
    refine G.getfield (pc := 183) dm_X0_putPiece_183 gf_X0_85 rfl rfl ?_
    refine G.aload_n (pc := 186) dm_X0_putPiece_186 rfl ?_
    refine G.lload_n (pc := 187) dm_X0_putPiece_187 rfl ?_
    refine G.ldc2 (pc := 188) dm_X0_putPiece_188 tw342 ?_
    refine G.ldc2 (pc := 191) dm_X0_putPiece_191 tw343 ?_
    obtain ⟨z10_0, z10_1, hz10⟩ := g_ex2 (f_X0_fitted value (-2048 : Int64) (2047 : Int64) amis)
    refine G.callV0 (pc := 194) (rest := [.int aword, .ref 0]) (st1 := [.int z10_0, .int aword, .ref 0]) dm_X0_putPiece_194 gc_X0_putPiece_159 (k_X0_fitted (value := value) (low := (-2048 : Int64)) (high := (2047 : Int64)) (acount := acount) (afk := afk) (afl := afl) (aat := aat) (alabel := alabel) (ahas := ahas) (aword := aword) (atarget := atarget) (amal := amal) (amis := amis) (awords := awords) (atargets := atargets) (alines := alines) (lcount := lcount) (lkeys := lkeys) (lplaces := lplaces) (kcount := kcount) (klen := klen) (kat := kat) (kinds := kinds) (kvals := kvals) (tchars := tchars) hz10) rfl rfl rfl rfl rfl rfl rfl rfl ?_
    replace hres : (r_0, r_1) = f_X0_putPiece_c194 aword z10_0 z10_1 := hres.trans (by rw [← hz10])
    rw [f_X0_putPiece_c194] at hres
    obtain ⟨z11_0, hz11⟩ := g_ex1 (f_X1_bitsOfS z10_0)
    refine G.callS (pc := 197) (rest := [.int aword, .ref 0]) (st1 := [.int z11_0, .int aword, .ref 0]) (ws1 := (w_A acount afk afl aat alabel ahas aword atarget amal z10_1 awords atargets alines lcount lkeys lplaces kcount klen kat kinds kvals tchars)) [] dm_X0_putPiece_197 gc_X0_putPiece_163 (k_X1_bitsOfS (x := z10_0) hz11) rfl rfl rfl rfl rfl rfl rfl rfl ?_
    replace hres : (r_0, r_1) = f_X0_putPiece_c197 aword z10_1 z11_0 := hres.trans (by rw [← hz11])
    rw [f_X0_putPiece_c197] at hres
    refine G.ior (pc := 200) dm_X0_putPiece_200 ?_
    refine G.putfield (pc := 201) (ws1 := (w_A acount afk afl aat alabel ahas (aword ||| z11_0) atarget amal z10_1 awords atargets alines lcount lkeys lplaces kcount klen kat kinds kvals tchars)) dm_X0_putPiece_201 gw_X0_85 rfl (g_fit_i _) rfl rfl ?_
    refine G.goto (pc := 204) (tgt := 364) dm_X0_putPiece_204 (by decide) ?_
    cases hres
    exact G.vreturn (pc := 364) dm_X0_putPiece_364 rfl rfl rfl
  rw [if_neg c1_6] at hres
  by_cases c1_7 : piece = (115 : Int32)
  · rw [if_pos c1_7] at hres
    refine G.tabIn (pc := 1) (tgt := 121) dm_X0_putPiece_1 c1_7 (by decide) (by decide) rfl (by decide) ?_
    refine G.aload_n (pc := 121) dm_X0_putPiece_121 rfl ?_
    refine G.dup (pc := 122) dm_X0_putPiece_122 rfl ?_
    refine G.getfield (pc := 123) dm_X0_putPiece_123 gf_X0_85 rfl rfl ?_
    refine G.lload_n (pc := 126) dm_X0_putPiece_126 rfl ?_
    refine G.l2i (pc := 127) dm_X0_putPiece_127 ?_
    refine G.bipush (pc := 128) (v := (15 : Int32)) dm_X0_putPiece_128 qb_15 ?_
    refine G.ishl (pc := 130) dm_X0_putPiece_130 ?_
    refine G.ior (pc := 131) dm_X0_putPiece_131 ?_
    refine G.putfield (pc := 132) (ws1 := (w_A acount afk afl aat alabel ahas (aword ||| ((Int64.toInt32 value) <<< ((15 : Int32) &&& 31))) atarget amal amis awords atargets alines lcount lkeys lplaces kcount klen kat kinds kvals tchars)) dm_X0_putPiece_132 gw_X0_85 rfl (g_fit_i _) rfl rfl ?_
    refine G.goto (pc := 135) (tgt := 364) dm_X0_putPiece_135 (by decide) ?_
    cases hres
    exact G.vreturn (pc := 364) dm_X0_putPiece_364 rfl rfl rfl
  rw [if_neg c1_7] at hres
  by_cases c1_8 : piece = (116 : Int32)
  · rw [if_pos c1_8] at hres
    refine G.tabIn (pc := 1) (tgt := 138) dm_X0_putPiece_1 c1_8 (by decide) (by decide) rfl (by decide) ?_
    refine G.aload_n (pc := 138) dm_X0_putPiece_138 rfl ?_
    refine G.dup (pc := 139) dm_X0_putPiece_139 rfl ?_
    refine G.getfield (pc := 140) dm_X0_putPiece_140 gf_X0_85 rfl rfl ?_
    refine G.lload_n (pc := 143) dm_X0_putPiece_143 rfl ?_
    refine G.l2i (pc := 144) dm_X0_putPiece_144 ?_
    refine G.bipush (pc := 145) (v := (20 : Int32)) dm_X0_putPiece_145 qb_20 ?_
    refine G.ishl (pc := 147) dm_X0_putPiece_147 ?_
    refine G.ior (pc := 148) dm_X0_putPiece_148 ?_
    refine G.putfield (pc := 149) (ws1 := (w_A acount afk afl aat alabel ahas (aword ||| ((Int64.toInt32 value) <<< ((20 : Int32) &&& 31))) atarget amal amis awords atargets alines lcount lkeys lplaces kcount klen kat kinds kvals tchars)) dm_X0_putPiece_149 gw_X0_85 rfl (g_fit_i _) rfl rfl ?_
    refine G.goto (pc := 152) (tgt := 364) dm_X0_putPiece_152 (by decide) ?_
    cases hres
    exact G.vreturn (pc := 364) dm_X0_putPiece_364 rfl rfl rfl
  rw [if_neg c1_8] at hres
  by_cases c1_9 : piece = (117 : Int32)
  · rw [if_pos c1_9] at hres
    refine G.tabIn (pc := 1) (tgt := 231) dm_X0_putPiece_1 c1_9 (by decide) (by decide) rfl (by decide) ?_
    refine G.aload_n (pc := 231) dm_X0_putPiece_231 rfl ?_
    refine G.dup (pc := 232) dm_X0_putPiece_232 rfl ?_
    refine G.getfield (pc := 233) dm_X0_putPiece_233 gf_X0_85 rfl rfl ?_
    refine G.aload_n (pc := 236) dm_X0_putPiece_236 rfl ?_
    refine G.lload_n (pc := 237) dm_X0_putPiece_237 rfl ?_
    refine G.lconst (pc := 238) (v := (0 : Int64)) dm_X0_putPiece_238 (by decide) ?_
    refine G.ldc2 (pc := 239) dm_X0_putPiece_239 tw345 ?_
    obtain ⟨z12_0, z12_1, hz12⟩ := g_ex2 (f_X0_fitted value (0 : Int64) (1048575 : Int64) amis)
    refine G.callV0 (pc := 242) (rest := [.int aword, .ref 0]) (st1 := [.int z12_0, .int aword, .ref 0]) dm_X0_putPiece_242 gc_X0_putPiece_159 (k_X0_fitted (value := value) (low := (0 : Int64)) (high := (1048575 : Int64)) (acount := acount) (afk := afk) (afl := afl) (aat := aat) (alabel := alabel) (ahas := ahas) (aword := aword) (atarget := atarget) (amal := amal) (amis := amis) (awords := awords) (atargets := atargets) (alines := alines) (lcount := lcount) (lkeys := lkeys) (lplaces := lplaces) (kcount := kcount) (klen := klen) (kat := kat) (kinds := kinds) (kvals := kvals) (tchars := tchars) hz12) rfl rfl rfl rfl rfl rfl rfl rfl ?_
    replace hres : (r_0, r_1) = f_X0_putPiece_c242 aword z12_0 z12_1 := hres.trans (by rw [← hz12])
    rw [f_X0_putPiece_c242] at hres
    refine G.bipush (pc := 245) (v := (12 : Int32)) dm_X0_putPiece_245 qb_12 ?_
    refine G.ishl (pc := 247) dm_X0_putPiece_247 ?_
    refine G.ior (pc := 248) dm_X0_putPiece_248 ?_
    refine G.putfield (pc := 249) (ws1 := (w_A acount afk afl aat alabel ahas (aword ||| (z12_0 <<< ((12 : Int32) &&& 31))) atarget amal z12_1 awords atargets alines lcount lkeys lplaces kcount klen kat kinds kvals tchars)) dm_X0_putPiece_249 gw_X0_85 rfl (g_fit_i _) rfl rfl ?_
    refine G.goto (pc := 252) (tgt := 364) dm_X0_putPiece_252 (by decide) ?_
    cases hres
    exact G.vreturn (pc := 364) dm_X0_putPiece_364 rfl rfl rfl
  rw [if_neg c1_9] at hres
  by_cases c1_10 : piece = (119 : Int32)
  · rw [if_pos c1_10] at hres
    refine G.tabIn (pc := 1) (tgt := 279) dm_X0_putPiece_1 c1_10 (by decide) (by decide) rfl (by decide) ?_
    refine G.aload_n (pc := 279) dm_X0_putPiece_279 rfl ?_
    refine G.dup (pc := 280) dm_X0_putPiece_280 rfl ?_
    refine G.getfield (pc := 281) dm_X0_putPiece_281 gf_X0_85 rfl rfl ?_
    refine G.aload_n (pc := 284) dm_X0_putPiece_284 rfl ?_
    refine G.lload_n (pc := 285) dm_X0_putPiece_285 rfl ?_
    refine G.ldc2 (pc := 286) dm_X0_putPiece_286 tw347 ?_
    refine G.ldc2 (pc := 289) dm_X0_putPiece_289 tw348 ?_
    obtain ⟨z13_0, z13_1, hz13⟩ := g_ex2 (f_X0_fitted value (-2147483648 : Int64) (4294967295 : Int64) amis)
    refine G.callV0 (pc := 292) (rest := [.int aword, .ref 0]) (st1 := [.int z13_0, .int aword, .ref 0]) dm_X0_putPiece_292 gc_X0_putPiece_159 (k_X0_fitted (value := value) (low := (-2147483648 : Int64)) (high := (4294967295 : Int64)) (acount := acount) (afk := afk) (afl := afl) (aat := aat) (alabel := alabel) (ahas := ahas) (aword := aword) (atarget := atarget) (amal := amal) (amis := amis) (awords := awords) (atargets := atargets) (alines := alines) (lcount := lcount) (lkeys := lkeys) (lplaces := lplaces) (kcount := kcount) (klen := klen) (kat := kat) (kinds := kinds) (kvals := kvals) (tchars := tchars) hz13) rfl rfl rfl rfl rfl rfl rfl rfl ?_
    replace hres : (r_0, r_1) = f_X0_putPiece_c292 aword z13_0 z13_1 := hres.trans (by rw [← hz13])
    rw [f_X0_putPiece_c292] at hres
    refine G.ior (pc := 295) dm_X0_putPiece_295 ?_
    refine G.putfield (pc := 296) (ws1 := (w_A acount afk afl aat alabel ahas (aword ||| z13_0) atarget amal z13_1 awords atargets alines lcount lkeys lplaces kcount klen kat kinds kvals tchars)) dm_X0_putPiece_296 gw_X0_85 rfl (g_fit_i _) rfl rfl ?_
    refine G.goto (pc := 299) (tgt := 364) dm_X0_putPiece_299 (by decide) ?_
    cases hres
    exact G.vreturn (pc := 364) dm_X0_putPiece_364 rfl rfl rfl
  rw [if_neg c1_10] at hres
  by_cases e1_99 : piece = (99 : Int32)
  · refine G.tabIn (pc := 1) (tgt := 364) dm_X0_putPiece_1 e1_99 (by decide) (by decide) rfl (by decide) ?_
    cases hres
    exact G.vreturn (pc := 364) dm_X0_putPiece_364 rfl rfl rfl
  by_cases e1_101 : piece = (101 : Int32)
  · refine G.tabIn (pc := 1) (tgt := 364) dm_X0_putPiece_1 e1_101 (by decide) (by decide) rfl (by decide) ?_
    cases hres
    exact G.vreturn (pc := 364) dm_X0_putPiece_364 rfl rfl rfl
  by_cases e1_102 : piece = (102 : Int32)
  · refine G.tabIn (pc := 1) (tgt := 364) dm_X0_putPiece_1 e1_102 (by decide) (by decide) rfl (by decide) ?_
    cases hres
    exact G.vreturn (pc := 364) dm_X0_putPiece_364 rfl rfl rfl
  by_cases e1_103 : piece = (103 : Int32)
  · refine G.tabIn (pc := 1) (tgt := 364) dm_X0_putPiece_1 e1_103 (by decide) (by decide) rfl (by decide) ?_
    cases hres
    exact G.vreturn (pc := 364) dm_X0_putPiece_364 rfl rfl rfl
  by_cases e1_108 : piece = (108 : Int32)
  · refine G.tabIn (pc := 1) (tgt := 364) dm_X0_putPiece_1 e1_108 (by decide) (by decide) rfl (by decide) ?_
    cases hres
    exact G.vreturn (pc := 364) dm_X0_putPiece_364 rfl rfl rfl
  by_cases e1_110 : piece = (110 : Int32)
  · refine G.tabIn (pc := 1) (tgt := 364) dm_X0_putPiece_1 e1_110 (by decide) (by decide) rfl (by decide) ?_
    cases hres
    exact G.vreturn (pc := 364) dm_X0_putPiece_364 rfl rfl rfl
  by_cases e1_111 : piece = (111 : Int32)
  · refine G.tabIn (pc := 1) (tgt := 364) dm_X0_putPiece_1 e1_111 (by decide) (by decide) rfl (by decide) ?_
    cases hres
    exact G.vreturn (pc := 364) dm_X0_putPiece_364 rfl rfl rfl
  by_cases e1_112 : piece = (112 : Int32)
  · refine G.tabIn (pc := 1) (tgt := 364) dm_X0_putPiece_1 e1_112 (by decide) (by decide) rfl (by decide) ?_
    cases hres
    exact G.vreturn (pc := 364) dm_X0_putPiece_364 rfl rfl rfl
  by_cases e1_113 : piece = (113 : Int32)
  · refine G.tabIn (pc := 1) (tgt := 364) dm_X0_putPiece_1 e1_113 (by decide) (by decide) rfl (by decide) ?_
    cases hres
    exact G.vreturn (pc := 364) dm_X0_putPiece_364 rfl rfl rfl
  by_cases e1_114 : piece = (114 : Int32)
  · refine G.tabIn (pc := 1) (tgt := 364) dm_X0_putPiece_1 e1_114 (by decide) (by decide) rfl (by decide) ?_
    cases hres
    exact G.vreturn (pc := 364) dm_X0_putPiece_364 rfl rfl rfl
  by_cases e1_118 : piece = (118 : Int32)
  · refine G.tabIn (pc := 1) (tgt := 364) dm_X0_putPiece_1 e1_118 (by decide) (by decide) rfl (by decide) ?_
    cases hres
    exact G.vreturn (pc := 364) dm_X0_putPiece_364 rfl rfl rfl
  refine G.tabOut (pc := 1) (tgt := 364) dm_X0_putPiece_1 (g_tabmiss (by decide) (by decide) (fun v h1 h2 => by rcases (show v = 98 ∨ v = 99 ∨ v = 100 ∨ v = 101 ∨ v = 102 ∨ v = 103 ∨ v = 104 ∨ v = 105 ∨ v = 106 ∨ v = 107 ∨ v = 108 ∨ v = 109 ∨ v = 110 ∨ v = 111 ∨ v = 112 ∨ v = 113 ∨ v = 114 ∨ v = 115 ∨ v = 116 ∨ v = 117 ∨ v = 118 ∨ v = 119 by omega) with rfl | rfl | rfl | rfl | rfl | rfl | rfl | rfl | rfl | rfl | rfl | rfl | rfl | rfl | rfl | rfl | rfl | rfl | rfl | rfl | rfl | rfl <;> intro h <;> first | exact c1_0 (by rw [h]; decide) | exact c1_1 (by rw [h]; decide) | exact c1_2 (by rw [h]; decide) | exact c1_3 (by rw [h]; decide) | exact c1_4 (by rw [h]; decide) | exact c1_5 (by rw [h]; decide) | exact c1_6 (by rw [h]; decide) | exact c1_7 (by rw [h]; decide) | exact c1_8 (by rw [h]; decide) | exact c1_9 (by rw [h]; decide) | exact c1_10 (by rw [h]; decide) | exact e1_99 (by rw [h]; decide) | exact e1_101 (by rw [h]; decide) | exact e1_102 (by rw [h]; decide) | exact e1_103 (by rw [h]; decide) | exact e1_108 (by rw [h]; decide) | exact e1_110 (by rw [h]; decide) | exact e1_111 (by rw [h]; decide) | exact e1_112 (by rw [h]; decide) | exact e1_113 (by rw [h]; decide) | exact e1_114 (by rw [h]; decide) | exact e1_118 (by rw [h]; decide))) (by decide) ?_
  cases hres
  exact G.vreturn (pc := 364) dm_X0_putPiece_364 rfl rfl rfl
abbrev M_X0_readPiece : g_M := (cX0_readPiece, 5, RX0, none, { frames := 2, cells := 0, slots := 0, locals := 49 }, 0, 0)
theorem dm_X0_readPiece_0 : decode M_X0_readPiece.1 0 = .ok (.aload_n 0, 1) := by decide +kernel
theorem dm_X0_readPiece_1 : decode M_X0_readPiece.1 1 = .ok (.getfield 34, 3) := by decide +kernel
theorem dm_X0_readPiece_4 : decode M_X0_readPiece.1 4 = .ok (.aload_n 0, 1) := by decide +kernel
theorem dm_X0_readPiece_5 : decode M_X0_readPiece.1 5 = .ok (.getfield 41, 3) := by decide +kernel
theorem dm_X0_readPiece_8 : decode M_X0_readPiece.1 8 = .ok (.invokevirtual 97, 3) := by decide +kernel
theorem dm_X0_readPiece_11 : decode M_X0_readPiece.1 11 = .ok (.istore_n 2, 1) := by decide +kernel
theorem dm_X0_readPiece_12 : decode M_X0_readPiece.1 12 = .ok (.aload_n 0, 1) := by decide +kernel
theorem dm_X0_readPiece_13 : decode M_X0_readPiece.1 13 = .ok (.getfield 34, 3) := by decide +kernel
theorem dm_X0_readPiece_16 : decode M_X0_readPiece.1 16 = .ok (.aload_n 0, 1) := by decide +kernel
theorem dm_X0_readPiece_17 : decode M_X0_readPiece.1 17 = .ok (.getfield 41, 3) := by decide +kernel
theorem dm_X0_readPiece_20 : decode M_X0_readPiece.1 20 = .ok (.invokevirtual 101, 3) := by decide +kernel
theorem dm_X0_readPiece_23 : decode M_X0_readPiece.1 23 = .ok (.lstore_n 3, 1) := by decide +kernel
theorem dm_X0_readPiece_24 : decode M_X0_readPiece.1 24 = .ok (.iload_n 1, 1) := by decide +kernel
theorem dm_X0_readPiece_25 : decode M_X0_readPiece.1 25 = .ok (.bipush 98, 2) := by decide +kernel
theorem dm_X0_readPiece_27 : decode M_X0_readPiece.1 27 = .ok (.if_icmp .eq 9, 3) := by decide +kernel
theorem dm_X0_readPiece_30 : decode M_X0_readPiece.1 30 = .ok (.iload_n 1, 1) := by decide +kernel
theorem dm_X0_readPiece_31 : decode M_X0_readPiece.1 31 = .ok (.bipush 106, 2) := by decide +kernel
theorem dm_X0_readPiece_33 : decode M_X0_readPiece.1 33 = .ok (.if_icmp .ne 17, 3) := by decide +kernel
theorem dm_X0_readPiece_36 : decode M_X0_readPiece.1 36 = .ok (.iload_n 2, 1) := by decide +kernel
theorem dm_X0_readPiece_37 : decode M_X0_readPiece.1 37 = .ok (.bipush 97, 2) := by decide +kernel
theorem dm_X0_readPiece_39 : decode M_X0_readPiece.1 39 = .ok (.if_icmp .ne 11, 3) := by decide +kernel
theorem dm_X0_readPiece_42 : decode M_X0_readPiece.1 42 = .ok (.aload_n 0, 1) := by decide +kernel
theorem dm_X0_readPiece_43 : decode M_X0_readPiece.1 43 = .ok (.lload_n 3, 1) := by decide +kernel
theorem dm_X0_readPiece_44 : decode M_X0_readPiece.1 44 = .ok (.putfield 88, 3) := by decide +kernel
theorem dm_X0_readPiece_47 : decode M_X0_readPiece.1 47 = .ok (.goto 26, 3) := by decide +kernel
theorem dm_X0_readPiece_50 : decode M_X0_readPiece.1 50 = .ok (.iload_n 2, 1) := by decide +kernel
theorem dm_X0_readPiece_51 : decode M_X0_readPiece.1 51 = .ok (.iload_n 1, 1) := by decide +kernel
theorem dm_X0_readPiece_52 : decode M_X0_readPiece.1 52 = .ok (.invokestatic 147, 3) := by decide +kernel
theorem dm_X0_readPiece_55 : decode M_X0_readPiece.1 55 = .ok (.if_icmp .ne 12, 3) := by decide +kernel
theorem dm_X0_readPiece_58 : decode M_X0_readPiece.1 58 = .ok (.aload_n 0, 1) := by decide +kernel
theorem dm_X0_readPiece_59 : decode M_X0_readPiece.1 59 = .ok (.iload_n 1, 1) := by decide +kernel
theorem dm_X0_readPiece_60 : decode M_X0_readPiece.1 60 = .ok (.lload_n 3, 1) := by decide +kernel
theorem dm_X0_readPiece_61 : decode M_X0_readPiece.1 61 = .ok (.invokevirtual 151, 3) := by decide +kernel
theorem dm_X0_readPiece_64 : decode M_X0_readPiece.1 64 = .ok (.goto 9, 3) := by decide +kernel
theorem dm_X0_readPiece_67 : decode M_X0_readPiece.1 67 = .ok (.aload_n 0, 1) := by decide +kernel
theorem dm_X0_readPiece_68 : decode M_X0_readPiece.1 68 = .ok (.iconst 1, 1) := by decide +kernel
theorem dm_X0_readPiece_69 : decode M_X0_readPiece.1 69 = .ok (.putfield 91, 3) := by decide +kernel
theorem dm_X0_readPiece_72 : decode M_X0_readPiece.1 72 = .ok (.return_, 1) := by decide +kernel
theorem dm_X0_readPiece_73 : decode M_X0_readPiece.1 73 = .ok (.aload_n 0, 1) := by decide +kernel
theorem dm_X0_readPiece_74 : decode M_X0_readPiece.1 74 = .ok (.dup, 1) := by decide +kernel
theorem dm_X0_readPiece_75 : decode M_X0_readPiece.1 75 = .ok (.getfield 41, 3) := by decide +kernel
theorem dm_X0_readPiece_78 : decode M_X0_readPiece.1 78 = .ok (.iconst 1, 1) := by decide +kernel
theorem dm_X0_readPiece_79 : decode M_X0_readPiece.1 79 = .ok (.iadd, 1) := by decide +kernel
theorem dm_X0_readPiece_80 : decode M_X0_readPiece.1 80 = .ok (.putfield 41, 3) := by decide +kernel
theorem dm_X0_readPiece_83 : decode M_X0_readPiece.1 83 = .ok (.return_, 1) := by decide +kernel
theorem gc_X0_readPiece_97 : g_cv M_X0_readPiece 97 M_X9_kindAt yX9_kindAt 1 := ⟨tw264, tw265, tw266, tw85, tw267, ⟨rfl, rfl, rfl, rfl⟩, gd_X9_kindAt, ⟨by decide, by decide⟩⟩
theorem gc_X0_readPiece_101 : g_cv M_X0_readPiece 101 M_X9_valueAt yX9_valueAt 1 := ⟨tw268, tw269, tw270, tw85, tw271, ⟨rfl, rfl, rfl, rfl⟩, gd_X9_valueAt, ⟨by decide, by decide⟩⟩
theorem gc_X0_readPiece_147 : g_cs M_X0_readPiece 147 M_X0_kindOf yX0_kindOf 1 := ⟨tw335, tw336, tw39, tw337, ⟨rfl, rfl, rfl, rfl⟩, gd_X0_kindOf, ⟨by decide, by decide⟩⟩
theorem gc_X0_readPiece_151 : g_cv M_X0_readPiece 151 M_X0_putPiece yX0_putPiece 2 := ⟨tw338, tw339, tw340, tw39, tw341, ⟨rfl, rfl, rfl, rfl⟩, gd_X0_putPiece, ⟨by decide, by decide⟩⟩
def f_X0_readPiece_c61 (aat : Int32) (atarget : Int64) (amal : Int32) (z4_0 : Int32) (z4_1 : Int32) : Int32 × Int32 × Int64 × Int32 × Int32 := ((aat + (1 : Int32)), z4_0, atarget, amal, z4_1)
def f_X0_readPiece_c52 (aat : Int32) (aword : Int32) (atarget : Int64) (amal : Int32) (amis : Int32) (l1 : Int32) (l2 : Int32) (l3 : Int64) (z3_0 : Int32) : Int32 × Int32 × Int64 × Int32 × Int32 := (if l2 = z3_0 then (f_X0_readPiece_c61 aat atarget amal (f_X0_putPiece l1 l3 aword amis).1 (f_X0_putPiece l1 l3 aword amis).2) else (aat, aword, atarget, (1 : Int32), amis))
def f_X0_readPiece_50 (aat : Int32) (aword : Int32) (atarget : Int64) (amal : Int32) (amis : Int32) (l1 : Int32) (l2 : Int32) (l3 : Int64) : Int32 × Int32 × Int64 × Int32 × Int32 := (f_X0_readPiece_c52 aat aword atarget amal amis l1 l2 l3 (f_X0_kindOf l1))
set_option maxRecDepth 20000 in
theorem j_X0_readPiece_50 {l1 : Int32} {l2 : Int32} {l3 : Int64} {acount : Int32} {afk : Int32} {afl : Int32} {aat : Int32} {alabel : Int64} {ahas : Int32} {aword : Int32} {atarget : Int64} {amal : Int32} {amis : Int32} {awords : Nat → Int32} {atargets : Nat → Int64} {alines : Nat → Int32} {lcount : Int32} {lkeys : Nat → Int64} {lplaces : Nat → Int32} {kcount : Int32} {klen : Int32} {kat : Int32} {kinds : Nat → Int32} {kvals : Nat → Int64} {tchars : Nat → Int32} {r_0 : Int32} {r_1 : Int32} {r_2 : Int64} {r_3 : Int32} {r_4 : Int32} (hres : (r_0, r_1, r_2, r_3, r_4) = (f_X0_readPiece_50 aat aword atarget amal amis l1 l2 l3)) : G M_X0_readPiece 0 0 50 [(0, .ref 0), (1, .int l1), (2, .int l2), (3, .long l3)] [] (w_A acount afk afl aat alabel ahas aword atarget amal amis awords atargets alines lcount lkeys lplaces kcount klen kat kinds kvals tchars) (none) (w_A acount afk afl r_0 alabel ahas r_1 r_2 r_3 r_4 awords atargets alines lcount lkeys lplaces kcount klen kat kinds kvals tchars) := by
  rw [f_X0_readPiece_50] at hres
  refine G.iload_n (pc := 50) dm_X0_readPiece_50 rfl ?_
  refine G.iload_n (pc := 51) dm_X0_readPiece_51 rfl ?_
  obtain ⟨z3_0, hz3⟩ := g_ex1 (f_X0_kindOf l1)
  refine G.callS (pc := 52) (rest := [.int l2]) (st1 := [.int z3_0, .int l2]) (ws1 := (w_A acount afk afl aat alabel ahas aword atarget amal amis awords atargets alines lcount lkeys lplaces kcount klen kat kinds kvals tchars)) [] dm_X0_readPiece_52 gc_X0_readPiece_147 (k_X0_kindOf (piece := l1) hz3) rfl rfl rfl rfl rfl rfl rfl rfl ?_
  replace hres : (r_0, r_1, r_2, r_3, r_4) = f_X0_readPiece_c52 aat aword atarget amal amis l1 l2 l3 z3_0 := hres.trans (by rw [← hz3])
  rw [f_X0_readPiece_c52] at hres
  refine G.icmp_ne (pc := 55) (tgt := 67) dm_X0_readPiece_55 (by decide) (fun c55 => ?_) (fun c55 => ?_)
  · rw [if_neg c55] at hres
    refine G.aload_n (pc := 67) dm_X0_readPiece_67 rfl ?_
    refine G.iconst (pc := 68) (v := (1 : Int32)) dm_X0_readPiece_68 qi_1 ?_
    refine G.putfield (pc := 69) (ws1 := (w_A acount afk afl aat alabel ahas aword atarget (1 : Int32) amis awords atargets alines lcount lkeys lplaces kcount klen kat kinds kvals tchars)) dm_X0_readPiece_69 gw_X0_91 rfl (g_fit_z (Or.inr rfl)) rfl rfl ?_
    cases hres
    exact G.vreturn (pc := 72) dm_X0_readPiece_72 rfl rfl rfl
  · rw [if_pos c55] at hres
    refine G.aload_n (pc := 58) dm_X0_readPiece_58 rfl ?_
    refine G.iload_n (pc := 59) dm_X0_readPiece_59 rfl ?_
    refine G.lload_n (pc := 60) dm_X0_readPiece_60 rfl ?_
    obtain ⟨z4_0, z4_1, hz4⟩ := g_ex2 (f_X0_putPiece l1 l3 aword amis)
    refine G.callV0 (pc := 61) (rest := []) (st1 := []) dm_X0_readPiece_61 gc_X0_readPiece_151 (k_X0_putPiece (piece := l1) (value := l3) (acount := acount) (afk := afk) (afl := afl) (aat := aat) (alabel := alabel) (ahas := ahas) (aword := aword) (atarget := atarget) (amal := amal) (amis := amis) (awords := awords) (atargets := atargets) (alines := alines) (lcount := lcount) (lkeys := lkeys) (lplaces := lplaces) (kcount := kcount) (klen := klen) (kat := kat) (kinds := kinds) (kvals := kvals) (tchars := tchars) hz4) rfl rfl rfl rfl rfl rfl rfl rfl ?_
    replace hres : (r_0, r_1, r_2, r_3, r_4) = f_X0_readPiece_c61 aat atarget amal z4_0 z4_1 := hres.trans (by rw [← hz4])
    rw [f_X0_readPiece_c61] at hres
    refine G.goto (pc := 64) (tgt := 73) dm_X0_readPiece_64 (by decide) ?_
    refine G.aload_n (pc := 73) dm_X0_readPiece_73 rfl ?_
    refine G.dup (pc := 74) dm_X0_readPiece_74 rfl ?_
    refine G.getfield (pc := 75) dm_X0_readPiece_75 gf_X0_41 rfl rfl ?_
    refine G.iconst (pc := 78) (v := (1 : Int32)) dm_X0_readPiece_78 qi_1 ?_
    refine G.iadd (pc := 79) dm_X0_readPiece_79 ?_
    refine G.putfield (pc := 80) (ws1 := (w_A acount afk afl (aat + (1 : Int32)) alabel ahas z4_0 atarget amal z4_1 awords atargets alines lcount lkeys lplaces kcount klen kat kinds kvals tchars)) dm_X0_readPiece_80 gw_X0_41 rfl (g_fit_i _) rfl rfl ?_
    cases hres
    exact G.vreturn (pc := 83) dm_X0_readPiece_83 rfl rfl rfl
def f_X0_readPiece_36 (aat : Int32) (aword : Int32) (atarget : Int64) (amal : Int32) (amis : Int32) (l1 : Int32) (l2 : Int32) (l3 : Int64) : Int32 × Int32 × Int64 × Int32 × Int32 := (if l2 = (97 : Int32) then ((aat + (1 : Int32)), aword, l3, amal, amis) else (f_X0_readPiece_50 aat aword atarget amal amis l1 l2 l3))
set_option maxRecDepth 20000 in
theorem j_X0_readPiece_36 {l1 : Int32} {l2 : Int32} {l3 : Int64} {acount : Int32} {afk : Int32} {afl : Int32} {aat : Int32} {alabel : Int64} {ahas : Int32} {aword : Int32} {atarget : Int64} {amal : Int32} {amis : Int32} {awords : Nat → Int32} {atargets : Nat → Int64} {alines : Nat → Int32} {lcount : Int32} {lkeys : Nat → Int64} {lplaces : Nat → Int32} {kcount : Int32} {klen : Int32} {kat : Int32} {kinds : Nat → Int32} {kvals : Nat → Int64} {tchars : Nat → Int32} {r_0 : Int32} {r_1 : Int32} {r_2 : Int64} {r_3 : Int32} {r_4 : Int32} (hres : (r_0, r_1, r_2, r_3, r_4) = (f_X0_readPiece_36 aat aword atarget amal amis l1 l2 l3)) : G M_X0_readPiece 0 0 36 [(0, .ref 0), (1, .int l1), (2, .int l2), (3, .long l3)] [] (w_A acount afk afl aat alabel ahas aword atarget amal amis awords atargets alines lcount lkeys lplaces kcount klen kat kinds kvals tchars) (none) (w_A acount afk afl r_0 alabel ahas r_1 r_2 r_3 r_4 awords atargets alines lcount lkeys lplaces kcount klen kat kinds kvals tchars) := by
  rw [f_X0_readPiece_36] at hres
  refine G.iload_n (pc := 36) dm_X0_readPiece_36 rfl ?_
  refine G.bipush (pc := 37) (v := (97 : Int32)) dm_X0_readPiece_37 qb_97 ?_
  refine G.icmp_ne (pc := 39) (tgt := 50) dm_X0_readPiece_39 (by decide) (fun c39 => ?_) (fun c39 => ?_)
  · rw [if_neg c39] at hres
    exact j_X0_readPiece_50 hres 
  · rw [if_pos c39] at hres
    refine G.aload_n (pc := 42) dm_X0_readPiece_42 rfl ?_
    refine G.lload_n (pc := 43) dm_X0_readPiece_43 rfl ?_
    refine G.putfield (pc := 44) (ws1 := (w_A acount afk afl aat alabel ahas aword l3 amal amis awords atargets alines lcount lkeys lplaces kcount klen kat kinds kvals tchars)) dm_X0_readPiece_44 gw_X0_88 rfl (g_fit_l _) rfl rfl ?_
    refine G.goto (pc := 47) (tgt := 73) dm_X0_readPiece_47 (by decide) ?_
    refine G.aload_n (pc := 73) dm_X0_readPiece_73 rfl ?_
    refine G.dup (pc := 74) dm_X0_readPiece_74 rfl ?_
    refine G.getfield (pc := 75) dm_X0_readPiece_75 gf_X0_41 rfl rfl ?_
    refine G.iconst (pc := 78) (v := (1 : Int32)) dm_X0_readPiece_78 qi_1 ?_
    refine G.iadd (pc := 79) dm_X0_readPiece_79 ?_
    refine G.putfield (pc := 80) (ws1 := (w_A acount afk afl (aat + (1 : Int32)) alabel ahas aword l3 amal amis awords atargets alines lcount lkeys lplaces kcount klen kat kinds kvals tchars)) dm_X0_readPiece_80 gw_X0_41 rfl (g_fit_i _) rfl rfl ?_
    cases hres
    exact G.vreturn (pc := 83) dm_X0_readPiece_83 rfl rfl rfl
def f_X0_readPiece_c20 (piece : Int32) (aat : Int32) (aword : Int32) (atarget : Int64) (amal : Int32) (amis : Int32) (z1_0 : Int32) (z2_0 : Int64) : Int32 × Int32 × Int64 × Int32 × Int32 := (if piece = (98 : Int32) then (f_X0_readPiece_36 aat aword atarget amal amis piece z1_0 z2_0) else (if piece = (106 : Int32) then (f_X0_readPiece_36 aat aword atarget amal amis piece z1_0 z2_0) else (f_X0_readPiece_50 aat aword atarget amal amis piece z1_0 z2_0)))
def f_X0_readPiece_c8 (piece : Int32) (aat : Int32) (aword : Int32) (atarget : Int64) (amal : Int32) (amis : Int32) (kcount : Int32) (kvals : Nat → Int64) (z1_0 : Int32) : Int32 × Int32 × Int64 × Int32 × Int32 := (f_X0_readPiece_c20 piece aat aword atarget amal amis z1_0 (f_X9_valueAt aat kcount kvals))
def f_X0_readPiece (piece : Int32) (aat : Int32) (aword : Int32) (atarget : Int64) (amal : Int32) (amis : Int32) (kcount : Int32) (kinds : Nat → Int32) (kvals : Nat → Int64) : Int32 × Int32 × Int64 × Int32 × Int32 := (f_X0_readPiece_c8 piece aat aword atarget amal amis kcount kvals (f_X9_kindAt aat kcount kinds))
set_option maxRecDepth 20000 in
theorem k_X0_readPiece {piece : Int32} {acount : Int32} {afk : Int32} {afl : Int32} {aat : Int32} {alabel : Int64} {ahas : Int32} {aword : Int32} {atarget : Int64} {amal : Int32} {amis : Int32} {awords : Nat → Int32} {atargets : Nat → Int64} {alines : Nat → Int32} {lcount : Int32} {lkeys : Nat → Int64} {lplaces : Nat → Int32} {kcount : Int32} {klen : Int32} {kat : Int32} {kinds : Nat → Int32} {kvals : Nat → Int64} {tchars : Nat → Int32} (hc : 0 ≤ kcount.toInt ∧ kcount.toInt ≤ 401) (hch : q_ch kinds) {r_0 : Int32} {r_1 : Int32} {r_2 : Int64} {r_3 : Int32} {r_4 : Int32} (hres : (r_0, r_1, r_2, r_3, r_4) = f_X0_readPiece piece aat aword atarget amal amis kcount kinds kvals) : K M_X0_readPiece yX0_readPiece [.ref 0, .int piece] (w_A acount afk afl aat alabel ahas aword atarget amal amis awords atargets alines lcount lkeys lplaces kcount klen kat kinds kvals tchars) (none) (w_A acount afk afl r_0 alabel ahas r_1 r_2 r_3 r_4 awords atargets alines lcount lkeys lplaces kcount klen kat kinds kvals tchars) := by
  refine K.of (lv := [(0, .ref 0), (1, .int piece)]) (by decide +kernel) rfl rfl rfl ?_
  rw [f_X0_readPiece] at hres
  refine G.aload_n (pc := 0) dm_X0_readPiece_0 rfl ?_
  refine G.getfield (pc := 1) dm_X0_readPiece_1 gf_X0_34 rfl rfl ?_
  refine G.aload_n (pc := 4) dm_X0_readPiece_4 rfl ?_
  refine G.getfield (pc := 5) dm_X0_readPiece_5 gf_X0_41 rfl rfl ?_
  obtain ⟨z1_0, hz1⟩ := g_ex1 (f_X9_kindAt aat kcount kinds)
  refine G.callV (pc := 8) (rest := []) (st1 := [.int z1_0]) (ws1 := (w_A acount afk afl aat alabel ahas aword atarget amal amis awords atargets alines lcount lkeys lplaces kcount klen kat kinds kvals tchars)) [7, 8, 9, 10, 11] dm_X0_readPiece_8 gc_X0_readPiece_97 (k_X9_kindAt (k := aat) (kcount := kcount) (klen := klen) (kat := kat) (kinds := kinds) (kvals := kvals) (tchars := tchars) (by assumption) (by assumption) hz1) rfl rfl rfl rfl rfl rfl rfl rfl rfl rfl ?_
  replace hres : (r_0, r_1, r_2, r_3, r_4) = f_X0_readPiece_c8 piece aat aword atarget amal amis kcount kvals z1_0 := hres.trans (by rw [← hz1])
  rw [f_X0_readPiece_c8] at hres
  refine G.istore_n (pc := 11) (lv1 := [(2, .int z1_0), (0, .ref 0), (1, .int piece)]) dm_X0_readPiece_11 rfl rfl ?_
  refine G.aload_n (pc := 12) dm_X0_readPiece_12 rfl ?_
  refine G.getfield (pc := 13) dm_X0_readPiece_13 gf_X0_34 rfl rfl ?_
  refine G.aload_n (pc := 16) dm_X0_readPiece_16 rfl ?_
  refine G.getfield (pc := 17) dm_X0_readPiece_17 gf_X0_41 rfl rfl ?_
  obtain ⟨z2_0, hz2⟩ := g_ex1 (f_X9_valueAt aat kcount kvals)
  refine G.callV (pc := 20) (rest := []) (st1 := [.long z2_0]) (ws1 := (w_A acount afk afl aat alabel ahas aword atarget amal amis awords atargets alines lcount lkeys lplaces kcount klen kat kinds kvals tchars)) [7, 8, 9, 10, 11] dm_X0_readPiece_20 gc_X0_readPiece_101 (k_X9_valueAt (k := aat) (kcount := kcount) (klen := klen) (kat := kat) (kinds := kinds) (kvals := kvals) (tchars := tchars) (by assumption) hz2) rfl rfl rfl rfl rfl rfl rfl rfl rfl rfl ?_
  replace hres : (r_0, r_1, r_2, r_3, r_4) = f_X0_readPiece_c20 piece aat aword atarget amal amis z1_0 z2_0 := hres.trans (by rw [← hz2])
  rw [f_X0_readPiece_c20] at hres
  refine G.lstore_n (pc := 23) (lv1 := [(3, .long z2_0), (2, .int z1_0), (0, .ref 0), (1, .int piece)]) dm_X0_readPiece_23 rfl rfl ?_
  refine G.iload_n (pc := 24) dm_X0_readPiece_24 rfl ?_
  refine G.bipush (pc := 25) (v := (98 : Int32)) dm_X0_readPiece_25 qb_98 ?_
  refine G.icmp_eq (pc := 27) (tgt := 36) dm_X0_readPiece_27 (by decide) (fun c27 => ?_) (fun c27 => ?_)
  · rw [if_pos c27] at hres
    refine G.lvp [2, 3, 1, 0] rfl ?_
    exact j_X0_readPiece_36 hres 
  · rw [if_neg c27] at hres
    refine G.iload_n (pc := 30) dm_X0_readPiece_30 rfl ?_
    refine G.bipush (pc := 31) (v := (106 : Int32)) dm_X0_readPiece_31 qb_106 ?_
    refine G.icmp_ne (pc := 33) (tgt := 50) dm_X0_readPiece_33 (by decide) (fun c33 => ?_) (fun c33 => ?_)
    · rw [if_neg c33] at hres
      refine G.lvp [2, 3, 1, 0] rfl ?_
      exact j_X0_readPiece_50 hres 
    · rw [if_pos c33] at hres
      refine G.lvp [2, 3, 1, 0] rfl ?_
      exact j_X0_readPiece_36 hres 
