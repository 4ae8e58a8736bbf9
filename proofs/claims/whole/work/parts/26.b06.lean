-- 90 ClashDay$Tape.scan()V
theorem k90 : mRk 90 = 0 := by decide +kernel
theorem f90_0 : mFetch 90 0 = some (.aload_n 0, 1, 0, 0, 0, 0) := by decide +kernel
theorem f90_1 : mFetch 90 1 = some (.getfield 19, 3, 8, 4, 0, 1) := by decide +kernel
theorem f90_4 : mFetch 90 4 = some (.aload_n 0, 1, 0, 0, 0, 0) := by decide +kernel
theorem f90_5 : mFetch 90 5 = some (.getfield 15, 3, 8, 1, 0, 1) := by decide +kernel
theorem f90_8 : mFetch 90 8 = some (.if_icmp .ge 30, 3, 38, 0, 0, 0) := by decide +kernel
theorem f90_11 : mFetch 90 11 = some (.aload_n 0, 1, 0, 0, 0, 0) := by decide +kernel
theorem f90_12 : mFetch 90 12 = some (.getfield 11, 3, 8, 0, 2, 1) := by decide +kernel
theorem f90_15 : mFetch 90 15 = some (.aload_n 0, 1, 0, 0, 0, 0) := by decide +kernel
theorem f90_16 : mFetch 90 16 = some (.getfield 19, 3, 8, 4, 0, 1) := by decide +kernel
theorem f90_19 : mFetch 90 19 = some (.caload, 1, 0, 0, 0, 0) := by decide +kernel
theorem f90_20 : mFetch 90 20 = some (.bipush 32, 2, 0, 0, 0, 0) := by decide +kernel
theorem f90_22 : mFetch 90 22 = some (.if_icmp .ne 16, 3, 38, 0, 0, 0) := by decide +kernel
theorem f90_25 : mFetch 90 25 = some (.aload_n 0, 1, 0, 0, 0, 0) := by decide +kernel
theorem f90_26 : mFetch 90 26 = some (.dup, 1, 0, 0, 0, 0) := by decide +kernel
theorem f90_27 : mFetch 90 27 = some (.getfield 19, 3, 8, 4, 0, 1) := by decide +kernel
theorem f90_30 : mFetch 90 30 = some (.iconst 1, 1, 0, 0, 0, 0) := by decide +kernel
theorem f90_31 : mFetch 90 31 = some (.iadd, 1, 0, 0, 0, 0) := by decide +kernel
theorem f90_32 : mFetch 90 32 = some (.putfield 19, 3, 8, 4, 0, 1) := by decide +kernel
theorem f90_35 : mFetch 90 35 = some (.goto (-35), 3, 0, 0, 0, 0) := by decide +kernel
theorem f90_38 : mFetch 90 38 = some (.aload_n 0, 1, 0, 0, 0, 0) := by decide +kernel
theorem f90_39 : mFetch 90 39 = some (.aload_n 0, 1, 0, 0, 0, 0) := by decide +kernel
theorem f90_40 : mFetch 90 40 = some (.getfield 19, 3, 8, 4, 0, 1) := by decide +kernel
theorem f90_43 : mFetch 90 43 = some (.putfield 28, 3, 8, 3, 0, 1) := by decide +kernel
theorem f90_46 : mFetch 90 46 = some (.aload_n 0, 1, 0, 0, 0, 0) := by decide +kernel
theorem f90_47 : mFetch 90 47 = some (.aload_n 0, 1, 0, 0, 0, 0) := by decide +kernel
theorem f90_48 : mFetch 90 48 = some (.getfield 19, 3, 8, 4, 0, 1) := by decide +kernel
theorem f90_51 : mFetch 90 51 = some (.aload_n 0, 1, 0, 0, 0, 0) := by decide +kernel
theorem f90_52 : mFetch 90 52 = some (.getfield 15, 3, 8, 1, 0, 1) := by decide +kernel
theorem f90_55 : mFetch 90 55 = some (.if_icmp .ge 15, 3, 70, 0, 0, 0) := by decide +kernel
theorem f90_58 : mFetch 90 58 = some (.aload_n 0, 1, 0, 0, 0, 0) := by decide +kernel
theorem f90_59 : mFetch 90 59 = some (.getfield 11, 3, 8, 0, 2, 1) := by decide +kernel
theorem f90_62 : mFetch 90 62 = some (.aload_n 0, 1, 0, 0, 0, 0) := by decide +kernel
theorem f90_63 : mFetch 90 63 = some (.getfield 19, 3, 8, 4, 0, 1) := by decide +kernel
theorem f90_66 : mFetch 90 66 = some (.caload, 1, 0, 0, 0, 0) := by decide +kernel
theorem f90_67 : mFetch 90 67 = some (.goto 4, 3, 71, 0, 0, 0) := by decide +kernel
theorem f90_70 : mFetch 90 70 = some (.iconst (-1), 1, 0, 0, 0, 0) := by decide +kernel
theorem f90_71 : mFetch 90 71 = some (.putfield 31, 3, 8, 2, 0, 1) := by decide +kernel
theorem f90_74 : mFetch 90 74 = some (.aload_n 0, 1, 0, 0, 0, 0) := by decide +kernel
theorem f90_75 : mFetch 90 75 = some (.getfield 31, 3, 8, 2, 0, 1) := by decide +kernel
theorem f90_78 : mFetch 90 78 = some (.bipush 97, 2, 0, 0, 0, 0) := by decide +kernel
theorem f90_80 : mFetch 90 80 = some (.if_icmp .lt 71, 3, 151, 0, 0, 0) := by decide +kernel
theorem f90_83 : mFetch 90 83 = some (.aload_n 0, 1, 0, 0, 0, 0) := by decide +kernel
theorem f90_84 : mFetch 90 84 = some (.getfield 31, 3, 8, 2, 0, 1) := by decide +kernel
theorem f90_87 : mFetch 90 87 = some (.bipush 122, 2, 0, 0, 0, 0) := by decide +kernel
theorem f90_89 : mFetch 90 89 = some (.if_icmp .gt 62, 3, 151, 0, 0, 0) := by decide +kernel
theorem f90_92 : mFetch 90 92 = some (.aload_n 0, 1, 0, 0, 0, 0) := by decide +kernel
theorem f90_93 : mFetch 90 93 = some (.sipush 257, 3, 0, 0, 0, 0) := by decide +kernel
theorem f90_96 : mFetch 90 96 = some (.putfield 31, 3, 8, 2, 0, 1) := by decide +kernel
theorem f90_99 : mFetch 90 99 = some (.aload_n 0, 1, 0, 0, 0, 0) := by decide +kernel
theorem f90_100 : mFetch 90 100 = some (.getfield 19, 3, 8, 4, 0, 1) := by decide +kernel
theorem f90_103 : mFetch 90 103 = some (.aload_n 0, 1, 0, 0, 0, 0) := by decide +kernel
theorem f90_104 : mFetch 90 104 = some (.getfield 15, 3, 8, 1, 0, 1) := by decide +kernel
theorem f90_107 : mFetch 90 107 = some (.if_icmp .ge 253, 3, 360, 0, 0, 0) := by decide +kernel
theorem f90_110 : mFetch 90 110 = some (.aload_n 0, 1, 0, 0, 0, 0) := by decide +kernel
theorem f90_111 : mFetch 90 111 = some (.getfield 11, 3, 8, 0, 2, 1) := by decide +kernel
theorem f90_114 : mFetch 90 114 = some (.aload_n 0, 1, 0, 0, 0, 0) := by decide +kernel
theorem f90_115 : mFetch 90 115 = some (.getfield 19, 3, 8, 4, 0, 1) := by decide +kernel
theorem f90_118 : mFetch 90 118 = some (.caload, 1, 0, 0, 0, 0) := by decide +kernel
theorem f90_119 : mFetch 90 119 = some (.bipush 97, 2, 0, 0, 0, 0) := by decide +kernel
theorem f90_121 : mFetch 90 121 = some (.if_icmp .lt 239, 3, 360, 0, 0, 0) := by decide +kernel
theorem f90_124 : mFetch 90 124 = some (.aload_n 0, 1, 0, 0, 0, 0) := by decide +kernel
theorem f90_125 : mFetch 90 125 = some (.getfield 11, 3, 8, 0, 2, 1) := by decide +kernel
theorem f90_128 : mFetch 90 128 = some (.aload_n 0, 1, 0, 0, 0, 0) := by decide +kernel
theorem f90_129 : mFetch 90 129 = some (.getfield 19, 3, 8, 4, 0, 1) := by decide +kernel
theorem f90_132 : mFetch 90 132 = some (.caload, 1, 0, 0, 0, 0) := by decide +kernel
theorem f90_133 : mFetch 90 133 = some (.bipush 122, 2, 0, 0, 0, 0) := by decide +kernel
theorem f90_135 : mFetch 90 135 = some (.if_icmp .gt 225, 3, 360, 0, 0, 0) := by decide +kernel
theorem f90_138 : mFetch 90 138 = some (.aload_n 0, 1, 0, 0, 0, 0) := by decide +kernel
theorem f90_139 : mFetch 90 139 = some (.dup, 1, 0, 0, 0, 0) := by decide +kernel
theorem f90_140 : mFetch 90 140 = some (.getfield 19, 3, 8, 4, 0, 1) := by decide +kernel
theorem f90_143 : mFetch 90 143 = some (.iconst 1, 1, 0, 0, 0, 0) := by decide +kernel
theorem f90_144 : mFetch 90 144 = some (.iadd, 1, 0, 0, 0, 0) := by decide +kernel
theorem f90_145 : mFetch 90 145 = some (.putfield 19, 3, 8, 4, 0, 1) := by decide +kernel
theorem f90_148 : mFetch 90 148 = some (.goto (-49), 3, 99, 0, 0, 0) := by decide +kernel
theorem f90_151 : mFetch 90 151 = some (.aload_n 0, 1, 0, 0, 0, 0) := by decide +kernel
theorem f90_152 : mFetch 90 152 = some (.getfield 31, 3, 8, 2, 0, 1) := by decide +kernel
theorem f90_155 : mFetch 90 155 = some (.bipush 48, 2, 0, 0, 0, 0) := by decide +kernel
theorem f90_157 : mFetch 90 157 = some (.if_icmp .lt 100, 3, 257, 0, 0, 0) := by decide +kernel
theorem f90_160 : mFetch 90 160 = some (.aload_n 0, 1, 0, 0, 0, 0) := by decide +kernel
theorem f90_161 : mFetch 90 161 = some (.getfield 31, 3, 8, 2, 0, 1) := by decide +kernel
theorem f90_164 : mFetch 90 164 = some (.bipush 57, 2, 0, 0, 0, 0) := by decide +kernel
theorem f90_166 : mFetch 90 166 = some (.if_icmp .gt 91, 3, 257, 0, 0, 0) := by decide +kernel
theorem f90_169 : mFetch 90 169 = some (.aload_n 0, 1, 0, 0, 0, 0) := by decide +kernel
theorem f90_170 : mFetch 90 170 = some (.sipush 256, 3, 0, 0, 0, 0) := by decide +kernel
theorem f90_173 : mFetch 90 173 = some (.putfield 31, 3, 8, 2, 0, 1) := by decide +kernel
theorem f90_176 : mFetch 90 176 = some (.aload_n 0, 1, 0, 0, 0, 0) := by decide +kernel
theorem f90_177 : mFetch 90 177 = some (.iconst 0, 1, 0, 0, 0, 0) := by decide +kernel
theorem f90_178 : mFetch 90 178 = some (.putfield 34, 3, 8, 5, 0, 1) := by decide +kernel
theorem f90_181 : mFetch 90 181 = some (.aload_n 0, 1, 0, 0, 0, 0) := by decide +kernel
theorem f90_182 : mFetch 90 182 = some (.getfield 19, 3, 8, 4, 0, 1) := by decide +kernel
theorem f90_185 : mFetch 90 185 = some (.aload_n 0, 1, 0, 0, 0, 0) := by decide +kernel
theorem f90_186 : mFetch 90 186 = some (.getfield 15, 3, 8, 1, 0, 1) := by decide +kernel
theorem f90_189 : mFetch 90 189 = some (.if_icmp .ge 171, 3, 360, 0, 0, 0) := by decide +kernel
theorem f90_192 : mFetch 90 192 = some (.aload_n 0, 1, 0, 0, 0, 0) := by decide +kernel
theorem f90_193 : mFetch 90 193 = some (.getfield 11, 3, 8, 0, 2, 1) := by decide +kernel
theorem f90_196 : mFetch 90 196 = some (.aload_n 0, 1, 0, 0, 0, 0) := by decide +kernel
theorem f90_197 : mFetch 90 197 = some (.getfield 19, 3, 8, 4, 0, 1) := by decide +kernel
theorem f90_200 : mFetch 90 200 = some (.caload, 1, 0, 0, 0, 0) := by decide +kernel
theorem f90_201 : mFetch 90 201 = some (.bipush 48, 2, 0, 0, 0, 0) := by decide +kernel
theorem f90_203 : mFetch 90 203 = some (.if_icmp .lt 157, 3, 360, 0, 0, 0) := by decide +kernel
theorem f90_206 : mFetch 90 206 = some (.aload_n 0, 1, 0, 0, 0, 0) := by decide +kernel
theorem f90_207 : mFetch 90 207 = some (.getfield 11, 3, 8, 0, 2, 1) := by decide +kernel
theorem f90_210 : mFetch 90 210 = some (.aload_n 0, 1, 0, 0, 0, 0) := by decide +kernel
theorem f90_211 : mFetch 90 211 = some (.getfield 19, 3, 8, 4, 0, 1) := by decide +kernel
theorem f90_214 : mFetch 90 214 = some (.caload, 1, 0, 0, 0, 0) := by decide +kernel
theorem f90_215 : mFetch 90 215 = some (.bipush 57, 2, 0, 0, 0, 0) := by decide +kernel
theorem f90_217 : mFetch 90 217 = some (.if_icmp .gt 143, 3, 360, 0, 0, 0) := by decide +kernel
theorem f90_220 : mFetch 90 220 = some (.aload_n 0, 1, 0, 0, 0, 0) := by decide +kernel
theorem f90_221 : mFetch 90 221 = some (.aload_n 0, 1, 0, 0, 0, 0) := by decide +kernel
theorem f90_222 : mFetch 90 222 = some (.getfield 34, 3, 8, 5, 0, 1) := by decide +kernel
theorem f90_225 : mFetch 90 225 = some (.bipush 10, 2, 0, 0, 0, 0) := by decide +kernel
theorem f90_227 : mFetch 90 227 = some (.imul, 1, 0, 0, 0, 0) := by decide +kernel
theorem f90_228 : mFetch 90 228 = some (.aload_n 0, 1, 0, 0, 0, 0) := by decide +kernel
theorem f90_229 : mFetch 90 229 = some (.getfield 11, 3, 8, 0, 2, 1) := by decide +kernel
theorem f90_232 : mFetch 90 232 = some (.aload_n 0, 1, 0, 0, 0, 0) := by decide +kernel
theorem f90_233 : mFetch 90 233 = some (.getfield 19, 3, 8, 4, 0, 1) := by decide +kernel
theorem f90_236 : mFetch 90 236 = some (.caload, 1, 0, 0, 0, 0) := by decide +kernel
theorem f90_237 : mFetch 90 237 = some (.iadd, 1, 0, 0, 0, 0) := by decide +kernel
theorem f90_238 : mFetch 90 238 = some (.bipush 48, 2, 0, 0, 0, 0) := by decide +kernel
theorem f90_240 : mFetch 90 240 = some (.isub, 1, 0, 0, 0, 0) := by decide +kernel
theorem f90_241 : mFetch 90 241 = some (.putfield 34, 3, 8, 5, 0, 1) := by decide +kernel
theorem f90_244 : mFetch 90 244 = some (.aload_n 0, 1, 0, 0, 0, 0) := by decide +kernel
theorem f90_245 : mFetch 90 245 = some (.dup, 1, 0, 0, 0, 0) := by decide +kernel
theorem f90_246 : mFetch 90 246 = some (.getfield 19, 3, 8, 4, 0, 1) := by decide +kernel
theorem f90_249 : mFetch 90 249 = some (.iconst 1, 1, 0, 0, 0, 0) := by decide +kernel
theorem f90_250 : mFetch 90 250 = some (.iadd, 1, 0, 0, 0, 0) := by decide +kernel
theorem f90_251 : mFetch 90 251 = some (.putfield 19, 3, 8, 4, 0, 1) := by decide +kernel
theorem f90_254 : mFetch 90 254 = some (.goto (-73), 3, 181, 0, 0, 0) := by decide +kernel
theorem f90_257 : mFetch 90 257 = some (.aload_n 0, 1, 0, 0, 0, 0) := by decide +kernel
theorem f90_258 : mFetch 90 258 = some (.getfield 31, 3, 8, 2, 0, 1) := by decide +kernel
theorem f90_261 : mFetch 90 261 = some (.iconst (-1), 1, 0, 0, 0, 0) := by decide +kernel
theorem f90_262 : mFetch 90 262 = some (.if_icmp .eq 98, 3, 360, 0, 0, 0) := by decide +kernel
theorem f90_265 : mFetch 90 265 = some (.aload_n 0, 1, 0, 0, 0, 0) := by decide +kernel
theorem f90_266 : mFetch 90 266 = some (.dup, 1, 0, 0, 0, 0) := by decide +kernel
theorem f90_267 : mFetch 90 267 = some (.getfield 19, 3, 8, 4, 0, 1) := by decide +kernel
theorem f90_270 : mFetch 90 270 = some (.iconst 1, 1, 0, 0, 0, 0) := by decide +kernel
theorem f90_271 : mFetch 90 271 = some (.iadd, 1, 0, 0, 0, 0) := by decide +kernel
theorem f90_272 : mFetch 90 272 = some (.putfield 19, 3, 8, 4, 0, 1) := by decide +kernel
theorem f90_275 : mFetch 90 275 = some (.aload_n 0, 1, 0, 0, 0, 0) := by decide +kernel
theorem f90_276 : mFetch 90 276 = some (.getfield 19, 3, 8, 4, 0, 1) := by decide +kernel
theorem f90_279 : mFetch 90 279 = some (.aload_n 0, 1, 0, 0, 0, 0) := by decide +kernel
theorem f90_280 : mFetch 90 280 = some (.getfield 15, 3, 8, 1, 0, 1) := by decide +kernel
theorem f90_283 : mFetch 90 283 = some (.if_icmp .ge 21, 3, 304, 0, 0, 0) := by decide +kernel
theorem f90_286 : mFetch 90 286 = some (.aload_n 0, 1, 0, 0, 0, 0) := by decide +kernel
theorem f90_287 : mFetch 90 287 = some (.getfield 11, 3, 8, 0, 2, 1) := by decide +kernel
theorem f90_290 : mFetch 90 290 = some (.aload_n 0, 1, 0, 0, 0, 0) := by decide +kernel
theorem f90_291 : mFetch 90 291 = some (.getfield 19, 3, 8, 4, 0, 1) := by decide +kernel
theorem f90_294 : mFetch 90 294 = some (.caload, 1, 0, 0, 0, 0) := by decide +kernel
theorem f90_295 : mFetch 90 295 = some (.bipush 61, 2, 0, 0, 0, 0) := by decide +kernel
theorem f90_297 : mFetch 90 297 = some (.if_icmp .ne 7, 3, 304, 0, 0, 0) := by decide +kernel
theorem f90_300 : mFetch 90 300 = some (.iconst 1, 1, 0, 0, 0, 0) := by decide +kernel
theorem f90_301 : mFetch 90 301 = some (.goto 4, 3, 305, 0, 0, 0) := by decide +kernel
theorem f90_304 : mFetch 90 304 = some (.iconst 0, 1, 0, 0, 0, 0) := by decide +kernel
theorem f90_305 : mFetch 90 305 = some (.istore_n 1, 1, 0, 0, 0, 0) := by decide +kernel
theorem f90_306 : mFetch 90 306 = some (.iload_n 1, 1, 0, 0, 0, 0) := by decide +kernel
theorem f90_307 : mFetch 90 307 = some (.ifCond .eq 53, 3, 360, 0, 0, 0) := by decide +kernel
theorem f90_310 : mFetch 90 310 = some (.aload_n 0, 1, 0, 0, 0, 0) := by decide +kernel
theorem f90_311 : mFetch 90 311 = some (.getfield 31, 3, 8, 2, 0, 1) := by decide +kernel
theorem f90_314 : mFetch 90 314 = some (.bipush 60, 2, 0, 0, 0, 0) := by decide +kernel
theorem f90_316 : mFetch 90 316 = some (.if_icmp .eq 12, 3, 328, 0, 0, 0) := by decide +kernel
theorem f90_319 : mFetch 90 319 = some (.aload_n 0, 1, 0, 0, 0, 0) := by decide +kernel
theorem f90_320 : mFetch 90 320 = some (.getfield 31, 3, 8, 2, 0, 1) := by decide +kernel
theorem f90_323 : mFetch 90 323 = some (.bipush 62, 2, 0, 0, 0, 0) := by decide +kernel
theorem f90_325 : mFetch 90 325 = some (.if_icmp .ne 35, 3, 360, 0, 0, 0) := by decide +kernel
theorem f90_328 : mFetch 90 328 = some (.aload_n 0, 1, 0, 0, 0, 0) := by decide +kernel
theorem f90_329 : mFetch 90 329 = some (.aload_n 0, 1, 0, 0, 0, 0) := by decide +kernel
theorem f90_330 : mFetch 90 330 = some (.getfield 31, 3, 8, 2, 0, 1) := by decide +kernel
theorem f90_333 : mFetch 90 333 = some (.bipush 60, 2, 0, 0, 0, 0) := by decide +kernel
theorem f90_335 : mFetch 90 335 = some (.if_icmp .ne 9, 3, 344, 0, 0, 0) := by decide +kernel
theorem f90_338 : mFetch 90 338 = some (.sipush 258, 3, 0, 0, 0, 0) := by decide +kernel
theorem f90_341 : mFetch 90 341 = some (.goto 6, 3, 347, 0, 0, 0) := by decide +kernel
theorem f90_344 : mFetch 90 344 = some (.sipush 259, 3, 0, 0, 0, 0) := by decide +kernel
theorem f90_347 : mFetch 90 347 = some (.putfield 31, 3, 8, 2, 0, 1) := by decide +kernel
theorem f90_350 : mFetch 90 350 = some (.aload_n 0, 1, 0, 0, 0, 0) := by decide +kernel
theorem f90_351 : mFetch 90 351 = some (.dup, 1, 0, 0, 0, 0) := by decide +kernel
theorem f90_352 : mFetch 90 352 = some (.getfield 19, 3, 8, 4, 0, 1) := by decide +kernel
theorem f90_355 : mFetch 90 355 = some (.iconst 1, 1, 0, 0, 0, 0) := by decide +kernel
theorem f90_356 : mFetch 90 356 = some (.iadd, 1, 0, 0, 0, 0) := by decide +kernel
theorem f90_357 : mFetch 90 357 = some (.putfield 19, 3, 8, 4, 0, 1) := by decide +kernel
theorem f90_360 : mFetch 90 360 = some (.return_, 1, 0, 0, 0, 0) := by decide +kernel
theorem b90_0 {X : (Nat → Int) × Nat} {d : Nat} {s : mSt} {Q : mQ} {l1 : Option mV} (h_1 : (s 1 1) ≤ (s 1 4) → Wp X d 90 38 [some (mR 1), l1] [] s Q) (h_2 : ¬ (s 1 1) ≤ (s 1 4) → Wp X d 90 11 [some (mR 1), l1] [] s Q) : Wp X d 90 0 [some (mR 1), l1] [] s Q := Wp_step k90 f90_0 (Wp_step k90 f90_1 ⟨kf_1, Wp_step k90 f90_4 (Wp_step k90 f90_5 ⟨kf_1, Wp_step k90 f90_8 ⟨h_1, h_2⟩⟩)⟩)
theorem b90_11 {X : (Nat → Int) × Nat} {d : Nat} {s : mSt} {Q : mQ} {l1 : Option mV} (h_1 : 0 ≤ (s 1 4) ∧ (s 1 4) < 400) (h_2 : ¬ (s 2 (s 1 4).toNat) = 32 → Wp X d 90 38 [some (mR 1), l1] [] s Q) (h_3 : (s 2 (s 1 4).toNat) = 32 → Wp X d 90 25 [some (mR 1), l1] [] s Q) : Wp X d 90 11 [some (mR 1), l1] [] s Q := Wp_step k90 f90_11 (Wp_step k90 f90_12 ⟨kf_1, 2, rf_1_0, Wp_step k90 f90_15 (Wp_step k90 f90_16 ⟨kf_1, Wp_step k90 f90_19 ⟨400, af_2, h_1, Wp_step k90 f90_20 (Wp_step k90 f90_22 ⟨h_2, h_3⟩)⟩⟩)⟩)
theorem b90_25 {X : (Nat → Int) × Nat} {d : Nat} {s : mSt} {Q : mQ} {l1 : Option mV} (h_1 : Wp X d 90 0 [some (mR 1), l1] [] (uS s 1 4 (w32 ((s 1 4) + 1))) Q) : Wp X d 90 25 [some (mR 1), l1] [] s Q := Wp_step k90 f90_25 (Wp_step k90 f90_26 (Wp_step k90 f90_27 ⟨kf_1, Wp_step k90 f90_30 (Wp_step k90 f90_31 (Wp_step k90 f90_32 ⟨kf_1, Wp_step k90 f90_35 (h_1)⟩))⟩))
theorem b90_38 {X : (Nat → Int) × Nat} {d : Nat} {s : mSt} {Q : mQ} {l1 : Option mV} (h_1 : ((uS s 1 3 (s 1 4)) 1 1) ≤ ((uS s 1 3 (s 1 4)) 1 4) → Wp X d 90 70 [some (mR 1), l1] [mR 1] (uS s 1 3 (s 1 4)) Q) (h_2 : ¬ ((uS s 1 3 (s 1 4)) 1 1) ≤ ((uS s 1 3 (s 1 4)) 1 4) → Wp X d 90 58 [some (mR 1), l1] [mR 1] (uS s 1 3 (s 1 4)) Q) : Wp X d 90 38 [some (mR 1), l1] [] s Q := Wp_step k90 f90_38 (Wp_step k90 f90_39 (Wp_step k90 f90_40 ⟨kf_1, Wp_step k90 f90_43 ⟨kf_1, Wp_step k90 f90_46 (Wp_step k90 f90_47 (Wp_step k90 f90_48 ⟨kf_1, Wp_step k90 f90_51 (Wp_step k90 f90_52 ⟨kf_1, Wp_step k90 f90_55 ⟨h_1, h_2⟩⟩)⟩))⟩⟩))
theorem b90_58 {X : (Nat → Int) × Nat} {d : Nat} {s : mSt} {Q : mQ} {l1 : Option mV} (h_1 : 0 ≤ (s 1 4) ∧ (s 1 4) < 400) (h_2 : Wp X d 90 71 [some (mR 1), l1] [mI (s 2 (s 1 4).toNat), mR 1] s Q) : Wp X d 90 58 [some (mR 1), l1] [mR 1] s Q := Wp_step k90 f90_58 (Wp_step k90 f90_59 ⟨kf_1, 2, rf_1_0, Wp_step k90 f90_62 (Wp_step k90 f90_63 ⟨kf_1, Wp_step k90 f90_66 ⟨400, af_2, h_1, Wp_step k90 f90_67 (h_2)⟩⟩)⟩)
theorem b90_70 {X : (Nat → Int) × Nat} {d : Nat} {s : mSt} {Q : mQ} {l1 : Option mV} (h_1 : Wp X d 90 71 [some (mR 1), l1] [mI (-1), mR 1] s Q) : Wp X d 90 70 [some (mR 1), l1] [mR 1] s Q := Wp_step k90 f90_70 (h_1)
theorem b90_71 {X : (Nat → Int) × Nat} {d : Nat} {s : mSt} {Q : mQ} {l1 : Option mV} {xt1 : Int} (h_1 : ((uS s 1 2 xt1) 1 2) < 97 → Wp X d 90 151 [some (mR 1), l1] [] (uS s 1 2 xt1) Q) (h_2 : ¬ ((uS s 1 2 xt1) 1 2) < 97 → Wp X d 90 83 [some (mR 1), l1] [] (uS s 1 2 xt1) Q) : Wp X d 90 71 [some (mR 1), l1] [mI xt1, mR 1] s Q := Wp_step k90 f90_71 ⟨kf_1, Wp_step k90 f90_74 (Wp_step k90 f90_75 ⟨kf_1, Wp_step k90 f90_78 (Wp_step k90 f90_80 ⟨h_1, h_2⟩)⟩)⟩
theorem b90_83 {X : (Nat → Int) × Nat} {d : Nat} {s : mSt} {Q : mQ} {l1 : Option mV} (h_1 : 122 < (s 1 2) → Wp X d 90 151 [some (mR 1), l1] [] s Q) (h_2 : ¬ 122 < (s 1 2) → Wp X d 90 92 [some (mR 1), l1] [] s Q) : Wp X d 90 83 [some (mR 1), l1] [] s Q := Wp_step k90 f90_83 (Wp_step k90 f90_84 ⟨kf_1, Wp_step k90 f90_87 (Wp_step k90 f90_89 ⟨h_1, h_2⟩)⟩)
theorem b90_92 {X : (Nat → Int) × Nat} {d : Nat} {s : mSt} {Q : mQ} {l1 : Option mV} (h_1 : Wp X d 90 99 [some (mR 1), l1] [] (uS s 1 2 257) Q) : Wp X d 90 92 [some (mR 1), l1] [] s Q := Wp_step k90 f90_92 (Wp_step k90 f90_93 (Wp_step k90 f90_96 ⟨kf_1, h_1⟩))
theorem b90_99 {X : (Nat → Int) × Nat} {d : Nat} {s : mSt} {Q : mQ} {l1 : Option mV} (h_1 : (s 1 1) ≤ (s 1 4) → Wp X d 90 360 [some (mR 1), l1] [] s Q) (h_2 : ¬ (s 1 1) ≤ (s 1 4) → Wp X d 90 110 [some (mR 1), l1] [] s Q) : Wp X d 90 99 [some (mR 1), l1] [] s Q := Wp_step k90 f90_99 (Wp_step k90 f90_100 ⟨kf_1, Wp_step k90 f90_103 (Wp_step k90 f90_104 ⟨kf_1, Wp_step k90 f90_107 ⟨h_1, h_2⟩⟩)⟩)
theorem b90_110 {X : (Nat → Int) × Nat} {d : Nat} {s : mSt} {Q : mQ} {l1 : Option mV} (h_1 : 0 ≤ (s 1 4) ∧ (s 1 4) < 400) (h_2 : (s 2 (s 1 4).toNat) < 97 → Wp X d 90 360 [some (mR 1), l1] [] s Q) (h_3 : ¬ (s 2 (s 1 4).toNat) < 97 → Wp X d 90 124 [some (mR 1), l1] [] s Q) : Wp X d 90 110 [some (mR 1), l1] [] s Q := Wp_step k90 f90_110 (Wp_step k90 f90_111 ⟨kf_1, 2, rf_1_0, Wp_step k90 f90_114 (Wp_step k90 f90_115 ⟨kf_1, Wp_step k90 f90_118 ⟨400, af_2, h_1, Wp_step k90 f90_119 (Wp_step k90 f90_121 ⟨h_2, h_3⟩)⟩⟩)⟩)
theorem b90_124 {X : (Nat → Int) × Nat} {d : Nat} {s : mSt} {Q : mQ} {l1 : Option mV} (h_1 : 0 ≤ (s 1 4) ∧ (s 1 4) < 400) (h_2 : 122 < (s 2 (s 1 4).toNat) → Wp X d 90 360 [some (mR 1), l1] [] s Q) (h_3 : ¬ 122 < (s 2 (s 1 4).toNat) → Wp X d 90 138 [some (mR 1), l1] [] s Q) : Wp X d 90 124 [some (mR 1), l1] [] s Q := Wp_step k90 f90_124 (Wp_step k90 f90_125 ⟨kf_1, 2, rf_1_0, Wp_step k90 f90_128 (Wp_step k90 f90_129 ⟨kf_1, Wp_step k90 f90_132 ⟨400, af_2, h_1, Wp_step k90 f90_133 (Wp_step k90 f90_135 ⟨h_2, h_3⟩)⟩⟩)⟩)
theorem b90_138 {X : (Nat → Int) × Nat} {d : Nat} {s : mSt} {Q : mQ} {l1 : Option mV} (h_1 : Wp X d 90 99 [some (mR 1), l1] [] (uS s 1 4 (w32 ((s 1 4) + 1))) Q) : Wp X d 90 138 [some (mR 1), l1] [] s Q := Wp_step k90 f90_138 (Wp_step k90 f90_139 (Wp_step k90 f90_140 ⟨kf_1, Wp_step k90 f90_143 (Wp_step k90 f90_144 (Wp_step k90 f90_145 ⟨kf_1, Wp_step k90 f90_148 (h_1)⟩))⟩))
theorem b90_151 {X : (Nat → Int) × Nat} {d : Nat} {s : mSt} {Q : mQ} {l1 : Option mV} (h_1 : (s 1 2) < 48 → Wp X d 90 257 [some (mR 1), l1] [] s Q) (h_2 : ¬ (s 1 2) < 48 → Wp X d 90 160 [some (mR 1), l1] [] s Q) : Wp X d 90 151 [some (mR 1), l1] [] s Q := Wp_step k90 f90_151 (Wp_step k90 f90_152 ⟨kf_1, Wp_step k90 f90_155 (Wp_step k90 f90_157 ⟨h_1, h_2⟩)⟩)
theorem b90_160 {X : (Nat → Int) × Nat} {d : Nat} {s : mSt} {Q : mQ} {l1 : Option mV} (h_1 : 57 < (s 1 2) → Wp X d 90 257 [some (mR 1), l1] [] s Q) (h_2 : ¬ 57 < (s 1 2) → Wp X d 90 169 [some (mR 1), l1] [] s Q) : Wp X d 90 160 [some (mR 1), l1] [] s Q := Wp_step k90 f90_160 (Wp_step k90 f90_161 ⟨kf_1, Wp_step k90 f90_164 (Wp_step k90 f90_166 ⟨h_1, h_2⟩)⟩)
theorem b90_169 {X : (Nat → Int) × Nat} {d : Nat} {s : mSt} {Q : mQ} {l1 : Option mV} (h_1 : Wp X d 90 181 [some (mR 1), l1] [] (uS (uS s 1 2 256) 1 5 0) Q) : Wp X d 90 169 [some (mR 1), l1] [] s Q := Wp_step k90 f90_169 (Wp_step k90 f90_170 (Wp_step k90 f90_173 ⟨kf_1, Wp_step k90 f90_176 (Wp_step k90 f90_177 (Wp_step k90 f90_178 ⟨kf_1, h_1⟩))⟩))
theorem b90_181 {X : (Nat → Int) × Nat} {d : Nat} {s : mSt} {Q : mQ} {l1 : Option mV} (h_1 : (s 1 1) ≤ (s 1 4) → Wp X d 90 360 [some (mR 1), l1] [] s Q) (h_2 : ¬ (s 1 1) ≤ (s 1 4) → Wp X d 90 192 [some (mR 1), l1] [] s Q) : Wp X d 90 181 [some (mR 1), l1] [] s Q := Wp_step k90 f90_181 (Wp_step k90 f90_182 ⟨kf_1, Wp_step k90 f90_185 (Wp_step k90 f90_186 ⟨kf_1, Wp_step k90 f90_189 ⟨h_1, h_2⟩⟩)⟩)
theorem b90_192 {X : (Nat → Int) × Nat} {d : Nat} {s : mSt} {Q : mQ} {l1 : Option mV} (h_1 : 0 ≤ (s 1 4) ∧ (s 1 4) < 400) (h_2 : (s 2 (s 1 4).toNat) < 48 → Wp X d 90 360 [some (mR 1), l1] [] s Q) (h_3 : ¬ (s 2 (s 1 4).toNat) < 48 → Wp X d 90 206 [some (mR 1), l1] [] s Q) : Wp X d 90 192 [some (mR 1), l1] [] s Q := Wp_step k90 f90_192 (Wp_step k90 f90_193 ⟨kf_1, 2, rf_1_0, Wp_step k90 f90_196 (Wp_step k90 f90_197 ⟨kf_1, Wp_step k90 f90_200 ⟨400, af_2, h_1, Wp_step k90 f90_201 (Wp_step k90 f90_203 ⟨h_2, h_3⟩)⟩⟩)⟩)
theorem b90_206 {X : (Nat → Int) × Nat} {d : Nat} {s : mSt} {Q : mQ} {l1 : Option mV} (h_1 : 0 ≤ (s 1 4) ∧ (s 1 4) < 400) (h_2 : 57 < (s 2 (s 1 4).toNat) → Wp X d 90 360 [some (mR 1), l1] [] s Q) (h_3 : ¬ 57 < (s 2 (s 1 4).toNat) → Wp X d 90 220 [some (mR 1), l1] [] s Q) : Wp X d 90 206 [some (mR 1), l1] [] s Q := Wp_step k90 f90_206 (Wp_step k90 f90_207 ⟨kf_1, 2, rf_1_0, Wp_step k90 f90_210 (Wp_step k90 f90_211 ⟨kf_1, Wp_step k90 f90_214 ⟨400, af_2, h_1, Wp_step k90 f90_215 (Wp_step k90 f90_217 ⟨h_2, h_3⟩)⟩⟩)⟩)
theorem b90_220 {X : (Nat → Int) × Nat} {d : Nat} {s : mSt} {Q : mQ} {l1 : Option mV} (h_1 : 0 ≤ (s 1 4) ∧ (s 1 4) < 400) (h_2 : Wp X d 90 181 [some (mR 1), l1] [] (uS (uS s 1 5 (w32 ((w32 ((w32 ((s 1 5) * 10)) + (s 2 (s 1 4).toNat))) - 48))) 1 4 (w32 (((uS s 1 5 (w32 ((w32 ((w32 ((s 1 5) * 10)) + (s 2 (s 1 4).toNat))) - 48))) 1 4) + 1))) Q) : Wp X d 90 220 [some (mR 1), l1] [] s Q := Wp_step k90 f90_220 (Wp_step k90 f90_221 (Wp_step k90 f90_222 ⟨kf_1, Wp_step k90 f90_225 (Wp_step k90 f90_227 (Wp_step k90 f90_228 (Wp_step k90 f90_229 ⟨kf_1, 2, rf_1_0, Wp_step k90 f90_232 (Wp_step k90 f90_233 ⟨kf_1, Wp_step k90 f90_236 ⟨400, af_2, h_1, Wp_step k90 f90_237 (Wp_step k90 f90_238 (Wp_step k90 f90_240 (Wp_step k90 f90_241 ⟨kf_1, Wp_step k90 f90_244 (Wp_step k90 f90_245 (Wp_step k90 f90_246 ⟨kf_1, Wp_step k90 f90_249 (Wp_step k90 f90_250 (Wp_step k90 f90_251 ⟨kf_1, Wp_step k90 f90_254 (h_2)⟩))⟩))⟩)))⟩⟩)⟩)))⟩))
theorem b90_257 {X : (Nat → Int) × Nat} {d : Nat} {s : mSt} {Q : mQ} {l1 : Option mV} (h_1 : (s 1 2) = (-1) → Wp X d 90 360 [some (mR 1), l1] [] s Q) (h_2 : ¬ (s 1 2) = (-1) → Wp X d 90 265 [some (mR 1), l1] [] s Q) : Wp X d 90 257 [some (mR 1), l1] [] s Q := Wp_step k90 f90_257 (Wp_step k90 f90_258 ⟨kf_1, Wp_step k90 f90_261 (Wp_step k90 f90_262 ⟨h_1, h_2⟩)⟩)
theorem b90_265 {X : (Nat → Int) × Nat} {d : Nat} {s : mSt} {Q : mQ} {l1 : Option mV} (h_1 : ((uS s 1 4 (w32 ((s 1 4) + 1))) 1 1) ≤ ((uS s 1 4 (w32 ((s 1 4) + 1))) 1 4) → Wp X d 90 304 [some (mR 1), l1] [] (uS s 1 4 (w32 ((s 1 4) + 1))) Q) (h_2 : ¬ ((uS s 1 4 (w32 ((s 1 4) + 1))) 1 1) ≤ ((uS s 1 4 (w32 ((s 1 4) + 1))) 1 4) → Wp X d 90 286 [some (mR 1), l1] [] (uS s 1 4 (w32 ((s 1 4) + 1))) Q) : Wp X d 90 265 [some (mR 1), l1] [] s Q := Wp_step k90 f90_265 (Wp_step k90 f90_266 (Wp_step k90 f90_267 ⟨kf_1, Wp_step k90 f90_270 (Wp_step k90 f90_271 (Wp_step k90 f90_272 ⟨kf_1, Wp_step k90 f90_275 (Wp_step k90 f90_276 ⟨kf_1, Wp_step k90 f90_279 (Wp_step k90 f90_280 ⟨kf_1, Wp_step k90 f90_283 ⟨h_1, h_2⟩⟩)⟩)⟩))⟩))
theorem b90_286 {X : (Nat → Int) × Nat} {d : Nat} {s : mSt} {Q : mQ} {l1 : Option mV} (h_1 : 0 ≤ (s 1 4) ∧ (s 1 4) < 400) (h_2 : ¬ (s 2 (s 1 4).toNat) = 61 → Wp X d 90 304 [some (mR 1), l1] [] s Q) (h_3 : (s 2 (s 1 4).toNat) = 61 → Wp X d 90 300 [some (mR 1), l1] [] s Q) : Wp X d 90 286 [some (mR 1), l1] [] s Q := Wp_step k90 f90_286 (Wp_step k90 f90_287 ⟨kf_1, 2, rf_1_0, Wp_step k90 f90_290 (Wp_step k90 f90_291 ⟨kf_1, Wp_step k90 f90_294 ⟨400, af_2, h_1, Wp_step k90 f90_295 (Wp_step k90 f90_297 ⟨h_2, h_3⟩)⟩⟩)⟩)
theorem b90_300 {X : (Nat → Int) × Nat} {d : Nat} {s : mSt} {Q : mQ} {l1 : Option mV} (h_1 : Wp X d 90 305 [some (mR 1), l1] [mI 1] s Q) : Wp X d 90 300 [some (mR 1), l1] [] s Q := Wp_step k90 f90_300 (Wp_step k90 f90_301 (h_1))
theorem b90_304 {X : (Nat → Int) × Nat} {d : Nat} {s : mSt} {Q : mQ} {l1 : Option mV} (h_1 : Wp X d 90 305 [some (mR 1), l1] [mI 0] s Q) : Wp X d 90 304 [some (mR 1), l1] [] s Q := Wp_step k90 f90_304 (h_1)
theorem b90_305 {X : (Nat → Int) × Nat} {d : Nat} {s : mSt} {Q : mQ} {l1 : Option mV} {xt0 : Int} (h_1 : xt0 = 0 → Wp X d 90 360 [some (mR 1), some (mI xt0)] [] s Q) (h_2 : ¬ xt0 = 0 → Wp X d 90 310 [some (mR 1), some (mI xt0)] [] s Q) : Wp X d 90 305 [some (mR 1), l1] [mI xt0] s Q := Wp_step k90 f90_305 (Wp_step k90 f90_306 (Wp_step k90 f90_307 ⟨h_1, h_2⟩))
theorem b90_310 {X : (Nat → Int) × Nat} {d : Nat} {s : mSt} {Q : mQ} {x1 : Int} (h_1 : (s 1 2) = 60 → Wp X d 90 328 [some (mR 1), some (mI x1)] [] s Q) (h_2 : ¬ (s 1 2) = 60 → Wp X d 90 319 [some (mR 1), some (mI x1)] [] s Q) : Wp X d 90 310 [some (mR 1), some (mI x1)] [] s Q := Wp_step k90 f90_310 (Wp_step k90 f90_311 ⟨kf_1, Wp_step k90 f90_314 (Wp_step k90 f90_316 ⟨h_1, h_2⟩)⟩)
theorem b90_319 {X : (Nat → Int) × Nat} {d : Nat} {s : mSt} {Q : mQ} {x1 : Int} (h_1 : ¬ (s 1 2) = 62 → Wp X d 90 360 [some (mR 1), some (mI x1)] [] s Q) (h_2 : (s 1 2) = 62 → Wp X d 90 328 [some (mR 1), some (mI x1)] [] s Q) : Wp X d 90 319 [some (mR 1), some (mI x1)] [] s Q := Wp_step k90 f90_319 (Wp_step k90 f90_320 ⟨kf_1, Wp_step k90 f90_323 (Wp_step k90 f90_325 ⟨h_1, h_2⟩)⟩)
theorem b90_328 {X : (Nat → Int) × Nat} {d : Nat} {s : mSt} {Q : mQ} {x1 : Int} (h_1 : ¬ (s 1 2) = 60 → Wp X d 90 344 [some (mR 1), some (mI x1)] [mR 1] s Q) (h_2 : (s 1 2) = 60 → Wp X d 90 338 [some (mR 1), some (mI x1)] [mR 1] s Q) : Wp X d 90 328 [some (mR 1), some (mI x1)] [] s Q := Wp_step k90 f90_328 (Wp_step k90 f90_329 (Wp_step k90 f90_330 ⟨kf_1, Wp_step k90 f90_333 (Wp_step k90 f90_335 ⟨h_1, h_2⟩)⟩))
theorem b90_338 {X : (Nat → Int) × Nat} {d : Nat} {s : mSt} {Q : mQ} {x1 : Int} (h_1 : Wp X d 90 347 [some (mR 1), some (mI x1)] [mI 258, mR 1] s Q) : Wp X d 90 338 [some (mR 1), some (mI x1)] [mR 1] s Q := Wp_step k90 f90_338 (Wp_step k90 f90_341 (h_1))
theorem b90_344 {X : (Nat → Int) × Nat} {d : Nat} {s : mSt} {Q : mQ} {x1 : Int} (h_1 : Wp X d 90 347 [some (mR 1), some (mI x1)] [mI 259, mR 1] s Q) : Wp X d 90 344 [some (mR 1), some (mI x1)] [mR 1] s Q := Wp_step k90 f90_344 (h_1)
theorem b90_347 {X : (Nat → Int) × Nat} {d : Nat} {s : mSt} {Q : mQ} {x1 : Int} {xt1 : Int} (h_1 : Wp X d 90 360 [some (mR 1), some (mI x1)] [] (uS (uS s 1 2 xt1) 1 4 (w32 (((uS s 1 2 xt1) 1 4) + 1))) Q) : Wp X d 90 347 [some (mR 1), some (mI x1)] [mI xt1, mR 1] s Q := Wp_step k90 f90_347 ⟨kf_1, Wp_step k90 f90_350 (Wp_step k90 f90_351 (Wp_step k90 f90_352 ⟨kf_1, Wp_step k90 f90_355 (Wp_step k90 f90_356 (Wp_step k90 f90_357 ⟨kf_1, h_1⟩))⟩))⟩
theorem b90_360 {X : (Nat → Int) × Nat} {d : Nat} {s : mSt} {Q : mQ} {l1 : Option mV} (h_1 : Q none s) : Wp X d 90 360 [some (mR 1), l1] [] s Q := Wp_step k90 f90_360 ⟨⟨rfl, Or.inl rfl⟩, h_1⟩
theorem e90 {X : (Nat → Int) × Nat} {d : Nat} {s : mSt} {Q : mQ} (h : Wp X d 90 0 [some (mR 1), none] [] s Q) : Sp X d 90 [mR 1] s Q := Sp_of (show mCe 90 = 0 by decide +kernel) (by rw [show mML 90 = 2 by decide +kernel]; rfl) (Nat.le_trans (Nat.le_of_ble_eq_true (show Nat.ble (mArgs _).length 2 = true from rfl)) (show 2 ≤ mML 90 by decide +kernel)) h
-- 91 ClashDay$Tape.wordNumber()I
theorem k91 : mRk 91 = 1 := by decide +kernel
theorem f91_0 : mFetch 91 0 = some (.iconst 0, 1, 0, 0, 0, 0) := by decide +kernel
theorem f91_1 : mFetch 91 1 = some (.istore_n 1, 1, 0, 0, 0, 0) := by decide +kernel
theorem f91_2 : mFetch 91 2 = some (.iconst 0, 1, 0, 0, 0, 0) := by decide +kernel
theorem f91_3 : mFetch 91 3 = some (.istore_n 2, 1, 0, 0, 0, 0) := by decide +kernel
theorem f91_4 : mFetch 91 4 = some (.aload_n 0, 1, 0, 0, 0, 0) := by decide +kernel
theorem f91_5 : mFetch 91 5 = some (.getfield 31, 3, 8, 2, 0, 1) := by decide +kernel
theorem f91_8 : mFetch 91 8 = some (.sipush 257, 3, 0, 0, 0, 0) := by decide +kernel
theorem f91_11 : mFetch 91 11 = some (.if_icmp .ne 7, 3, 18, 0, 0, 0) := by decide +kernel
theorem f91_14 : mFetch 91 14 = some (.iconst 1, 1, 0, 0, 0, 0) := by decide +kernel
theorem f91_15 : mFetch 91 15 = some (.goto 4, 3, 19, 0, 0, 0) := by decide +kernel
theorem f91_18 : mFetch 91 18 = some (.iconst 0, 1, 0, 0, 0, 0) := by decide +kernel
theorem f91_19 : mFetch 91 19 = some (.istore_n 3, 1, 0, 0, 0, 0) := by decide +kernel
theorem f91_20 : mFetch 91 20 = some (.iconst 0, 1, 0, 0, 0, 0) := by decide +kernel
theorem f91_21 : mFetch 91 21 = some (.istore 4, 2, 0, 0, 0, 0) := by decide +kernel
theorem f91_23 : mFetch 91 23 = some (.iload 4, 2, 0, 0, 0, 0) := by decide +kernel
theorem f91_25 : mFetch 91 25 = some (.ldc 37, 2, 0, 1, 0, 0) := by decide +kernel
theorem f91_27 : mFetch 91 27 = some (.invokevirtual 39, 3, (-3), 0, 0, 0) := by decide +kernel
theorem f91_30 : mFetch 91 30 = some (.if_icmp .ge 101, 3, 131, 0, 0, 0) := by decide +kernel
theorem f91_33 : mFetch 91 33 = some (.ldc 37, 2, 0, 1, 0, 0) := by decide +kernel
theorem f91_35 : mFetch 91 35 = some (.iload 4, 2, 0, 0, 0, 0) := by decide +kernel
theorem f91_37 : mFetch 91 37 = some (.invokevirtual 45, 3, (-4), 0, 0, 0) := by decide +kernel
theorem f91_40 : mFetch 91 40 = some (.istore 5, 2, 0, 0, 0, 0) := by decide +kernel
theorem f91_42 : mFetch 91 42 = some (.aload_n 0, 1, 0, 0, 0, 0) := by decide +kernel
theorem f91_43 : mFetch 91 43 = some (.getfield 28, 3, 8, 3, 0, 1) := by decide +kernel
theorem f91_46 : mFetch 91 46 = some (.iload 4, 2, 0, 0, 0, 0) := by decide +kernel
theorem f91_48 : mFetch 91 48 = some (.iadd, 1, 0, 0, 0, 0) := by decide +kernel
theorem f91_49 : mFetch 91 49 = some (.iload_n 2, 1, 0, 0, 0, 0) := by decide +kernel
theorem f91_50 : mFetch 91 50 = some (.isub, 1, 0, 0, 0, 0) := by decide +kernel
theorem f91_51 : mFetch 91 51 = some (.istore 6, 2, 0, 0, 0, 0) := by decide +kernel
theorem f91_53 : mFetch 91 53 = some (.iload 5, 2, 0, 0, 0, 0) := by decide +kernel
theorem f91_55 : mFetch 91 55 = some (.bipush 32, 2, 0, 0, 0, 0) := by decide +kernel
theorem f91_57 : mFetch 91 57 = some (.if_icmp .ne 45, 3, 102, 0, 0, 0) := by decide +kernel
theorem f91_60 : mFetch 91 60 = some (.iload_n 3, 1, 0, 0, 0, 0) := by decide +kernel
theorem f91_61 : mFetch 91 61 = some (.ifCond .eq 14, 3, 75, 0, 0, 0) := by decide +kernel
theorem f91_64 : mFetch 91 64 = some (.iload 6, 2, 0, 0, 0, 0) := by decide +kernel
theorem f91_66 : mFetch 91 66 = some (.aload_n 0, 1, 0, 0, 0, 0) := by decide +kernel
theorem f91_67 : mFetch 91 67 = some (.getfield 19, 3, 8, 4, 0, 1) := by decide +kernel
theorem f91_70 : mFetch 91 70 = some (.if_icmp .ne 5, 3, 75, 0, 0, 0) := by decide +kernel
theorem f91_73 : mFetch 91 73 = some (.iload_n 1, 1, 0, 0, 0, 0) := by decide +kernel
theorem f91_74 : mFetch 91 74 = some (.ireturn, 1, 0, 0, 0, 0) := by decide +kernel
theorem f91_75 : mFetch 91 75 = some (.iinc 1 1, 3, 0, 0, 0, 0) := by decide +kernel
theorem f91_78 : mFetch 91 78 = some (.iload 4, 2, 0, 0, 0, 0) := by decide +kernel
theorem f91_80 : mFetch 91 80 = some (.iconst 1, 1, 0, 0, 0, 0) := by decide +kernel
theorem f91_81 : mFetch 91 81 = some (.iadd, 1, 0, 0, 0, 0) := by decide +kernel
theorem f91_82 : mFetch 91 82 = some (.istore_n 2, 1, 0, 0, 0, 0) := by decide +kernel
theorem f91_83 : mFetch 91 83 = some (.aload_n 0, 1, 0, 0, 0, 0) := by decide +kernel
theorem f91_84 : mFetch 91 84 = some (.getfield 31, 3, 8, 2, 0, 1) := by decide +kernel
theorem f91_87 : mFetch 91 87 = some (.sipush 257, 3, 0, 0, 0, 0) := by decide +kernel
theorem f91_90 : mFetch 91 90 = some (.if_icmp .ne 7, 3, 97, 0, 0, 0) := by decide +kernel
theorem f91_93 : mFetch 91 93 = some (.iconst 1, 1, 0, 0, 0, 0) := by decide +kernel
theorem f91_94 : mFetch 91 94 = some (.goto 4, 3, 98, 0, 0, 0) := by decide +kernel
theorem f91_97 : mFetch 91 97 = some (.iconst 0, 1, 0, 0, 0, 0) := by decide +kernel
theorem f91_98 : mFetch 91 98 = some (.istore_n 3, 1, 0, 0, 0, 0) := by decide +kernel
theorem f91_99 : mFetch 91 99 = some (.goto 26, 3, 125, 0, 0, 0) := by decide +kernel
theorem f91_102 : mFetch 91 102 = some (.iload 6, 2, 0, 0, 0, 0) := by decide +kernel
theorem f91_104 : mFetch 91 104 = some (.aload_n 0, 1, 0, 0, 0, 0) := by decide +kernel
theorem f91_105 : mFetch 91 105 = some (.getfield 19, 3, 8, 4, 0, 1) := by decide +kernel
theorem f91_108 : mFetch 91 108 = some (.if_icmp .ge 15, 3, 123, 0, 0, 0) := by decide +kernel
theorem f91_111 : mFetch 91 111 = some (.aload_n 0, 1, 0, 0, 0, 0) := by decide +kernel
theorem f91_112 : mFetch 91 112 = some (.getfield 11, 3, 8, 0, 2, 1) := by decide +kernel
theorem f91_115 : mFetch 91 115 = some (.iload 6, 2, 0, 0, 0, 0) := by decide +kernel
theorem f91_117 : mFetch 91 117 = some (.caload, 1, 0, 0, 0, 0) := by decide +kernel
theorem f91_118 : mFetch 91 118 = some (.iload 5, 2, 0, 0, 0, 0) := by decide +kernel
theorem f91_120 : mFetch 91 120 = some (.if_icmp .eq 5, 3, 125, 0, 0, 0) := by decide +kernel
theorem f91_123 : mFetch 91 123 = some (.iconst 0, 1, 0, 0, 0, 0) := by decide +kernel
theorem f91_124 : mFetch 91 124 = some (.istore_n 3, 1, 0, 0, 0, 0) := by decide +kernel
theorem f91_125 : mFetch 91 125 = some (.iinc 4 1, 3, 0, 0, 0, 0) := by decide +kernel
theorem f91_128 : mFetch 91 128 = some (.goto (-105), 3, 23, 0, 0, 0) := by decide +kernel
theorem f91_131 : mFetch 91 131 = some (.iconst (-1), 1, 0, 0, 0, 0) := by decide +kernel
theorem f91_132 : mFetch 91 132 = some (.ireturn, 1, 0, 0, 0, 0) := by decide +kernel
theorem b91_0 {X : (Nat → Int) × Nat} {d : Nat} {s : mSt} {Q : mQ} {l1 : Option mV} {l2 : Option mV} {l3 : Option mV} {l4 : Option mV} {l5 : Option mV} {l6 : Option mV} (h_1 : ¬ (s 1 2) = 257 → Wp X d 91 18 [some (mR 1), some (mI 0), some (mI 0), l3, l4, l5, l6] [] s Q) (h_2 : (s 1 2) = 257 → Wp X d 91 14 [some (mR 1), some (mI 0), some (mI 0), l3, l4, l5, l6] [] s Q) : Wp X d 91 0 [some (mR 1), l1, l2, l3, l4, l5, l6] [] s Q := Wp_step k91 f91_0 (Wp_step k91 f91_1 (Wp_step k91 f91_2 (Wp_step k91 f91_3 (Wp_step k91 f91_4 (Wp_step k91 f91_5 ⟨kf_1, Wp_step k91 f91_8 (Wp_step k91 f91_11 ⟨h_1, h_2⟩)⟩)))))
theorem b91_14 {X : (Nat → Int) × Nat} {d : Nat} {s : mSt} {Q : mQ} {x1 : Int} {x2 : Int} {l3 : Option mV} {l4 : Option mV} {l5 : Option mV} {l6 : Option mV} (h_1 : Wp X d 91 19 [some (mR 1), some (mI x1), some (mI x2), l3, l4, l5, l6] [mI 1] s Q) : Wp X d 91 14 [some (mR 1), some (mI x1), some (mI x2), l3, l4, l5, l6] [] s Q := Wp_step k91 f91_14 (Wp_step k91 f91_15 (h_1))
theorem b91_18 {X : (Nat → Int) × Nat} {d : Nat} {s : mSt} {Q : mQ} {x1 : Int} {x2 : Int} {l3 : Option mV} {l4 : Option mV} {l5 : Option mV} {l6 : Option mV} (h_1 : Wp X d 91 19 [some (mR 1), some (mI x1), some (mI x2), l3, l4, l5, l6] [mI 0] s Q) : Wp X d 91 18 [some (mR 1), some (mI x1), some (mI x2), l3, l4, l5, l6] [] s Q := Wp_step k91 f91_18 (h_1)
theorem b91_19 {X : (Nat → Int) × Nat} {d : Nat} {s : mSt} {Q : mQ} {x1 : Int} {x2 : Int} {l3 : Option mV} {l4 : Option mV} {l5 : Option mV} {l6 : Option mV} {xt0 : Int} (h_1 : Wp X d 91 23 [some (mR 1), some (mI x1), some (mI x2), some (mI xt0), some (mI 0), l5, l6] [] s Q) : Wp X d 91 19 [some (mR 1), some (mI x1), some (mI x2), l3, l4, l5, l6] [mI xt0] s Q := Wp_step k91 f91_19 (Wp_step k91 f91_20 (Wp_step k91 f91_21 (h_1)))
theorem b91_23 {X : (Nat → Int) × Nat} {d : Nat} {s : mSt} {Q : mQ} {x1 : Int} {x2 : Int} {x3 : Int} {x4 : Int} {l5 : Option mV} {l6 : Option mV} (h_1 : 105 ≤ x4 → Wp X (d + 5) 91 131 [some (mR 1), some (mI x1), some (mI x2), some (mI x3), some (mI x4), l5, l6] [] s Q) (h_2 : ¬ 105 ≤ x4 → Wp X (d + 5) 91 33 [some (mR 1), some (mI x1), some (mI x2), some (mI x3), some (mI x4), l5, l6] [] s Q) : Wp X (d + 5) 91 23 [some (mR 1), some (mI x1), some (mI x2), some (mI x3), some (mI x4), l5, l6] [] s Q := Wp_step k91 f91_23 (Wp_step k91 f91_25 (Wp_step k91 f91_27 ⟨rfl, ⟨by omega, Nat.le_of_ble_eq_true rfl⟩, Wp_step k91 f91_30 ⟨h_1, h_2⟩⟩))
theorem b91_33 {X : (Nat → Int) × Nat} {d : Nat} {s : mSt} {Q : mQ} {x1 : Int} {x2 : Int} {x3 : Int} {x4 : Int} {l5 : Option mV} {l6 : Option mV} (h_1 : 0 ≤ x4 ∧ x4 < 105) (h_2 : ¬ ((mTx.getD x4.toNat 0 : Nat) : Int) = 32 → Wp X (d + 5) 91 102 [some (mR 1), some (mI x1), some (mI x2), some (mI x3), some (mI x4), some (mI ((mTx.getD x4.toNat 0 : Nat) : Int)), some (mI (w32 ((w32 ((s 1 3) + x4)) - x2)))] [] s Q) (h_3 : ((mTx.getD x4.toNat 0 : Nat) : Int) = 32 → Wp X (d + 5) 91 60 [some (mR 1), some (mI x1), some (mI x2), some (mI x3), some (mI x4), some (mI ((mTx.getD x4.toNat 0 : Nat) : Int)), some (mI (w32 ((w32 ((s 1 3) + x4)) - x2)))] [] s Q) : Wp X (d + 5) 91 33 [some (mR 1), some (mI x1), some (mI x2), some (mI x3), some (mI x4), l5, l6] [] s Q := Wp_step k91 f91_33 (Wp_step k91 f91_35 (Wp_step k91 f91_37 ⟨rfl, ⟨by omega, Nat.le_of_ble_eq_true rfl⟩, h_1, Wp_step k91 f91_40 (Wp_step k91 f91_42 (Wp_step k91 f91_43 ⟨kf_1, Wp_step k91 f91_46 (Wp_step k91 f91_48 (Wp_step k91 f91_49 (Wp_step k91 f91_50 (Wp_step k91 f91_51 (Wp_step k91 f91_53 (Wp_step k91 f91_55 (Wp_step k91 f91_57 ⟨h_2, h_3⟩)))))))⟩))⟩))
theorem b91_60 {X : (Nat → Int) × Nat} {d : Nat} {s : mSt} {Q : mQ} {x1 : Int} {x2 : Int} {x3 : Int} {x4 : Int} {x5 : Int} {x6 : Int} (h_1 : x3 = 0 → Wp X d 91 75 [some (mR 1), some (mI x1), some (mI x2), some (mI x3), some (mI x4), some (mI x5), some (mI x6)] [] s Q) (h_2 : ¬ x3 = 0 → Wp X d 91 64 [some (mR 1), some (mI x1), some (mI x2), some (mI x3), some (mI x4), some (mI x5), some (mI x6)] [] s Q) : Wp X d 91 60 [some (mR 1), some (mI x1), some (mI x2), some (mI x3), some (mI x4), some (mI x5), some (mI x6)] [] s Q := Wp_step k91 f91_60 (Wp_step k91 f91_61 ⟨h_1, h_2⟩)
theorem b91_64 {X : (Nat → Int) × Nat} {d : Nat} {s : mSt} {Q : mQ} {x1 : Int} {x2 : Int} {x3 : Int} {x4 : Int} {x5 : Int} {x6 : Int} (h_1 : ¬ x6 = (s 1 4) → Wp X d 91 75 [some (mR 1), some (mI x1), some (mI x2), some (mI x3), some (mI x4), some (mI x5), some (mI x6)] [] s Q) (h_2 : x6 = (s 1 4) → Wp X d 91 73 [some (mR 1), some (mI x1), some (mI x2), some (mI x3), some (mI x4), some (mI x5), some (mI x6)] [] s Q) : Wp X d 91 64 [some (mR 1), some (mI x1), some (mI x2), some (mI x3), some (mI x4), some (mI x5), some (mI x6)] [] s Q := Wp_step k91 f91_64 (Wp_step k91 f91_66 (Wp_step k91 f91_67 ⟨kf_1, Wp_step k91 f91_70 ⟨h_1, h_2⟩⟩))
theorem b91_73 {X : (Nat → Int) × Nat} {d : Nat} {s : mSt} {Q : mQ} {x1 : Int} {x2 : Int} {x3 : Int} {x4 : Int} {x5 : Int} {x6 : Int} (h_1 : Q (some (mI x1)) s) : Wp X d 91 73 [some (mR 1), some (mI x1), some (mI x2), some (mI x3), some (mI x4), some (mI x5), some (mI x6)] [] s Q := Wp_step k91 f91_73 (Wp_step k91 f91_74 ⟨⟨rfl, trivial⟩, h_1⟩)
theorem b91_75 {X : (Nat → Int) × Nat} {d : Nat} {s : mSt} {Q : mQ} {x1 : Int} {x2 : Int} {x3 : Int} {x4 : Int} {x5 : Int} {x6 : Int} (h_1 : ¬ (s 1 2) = 257 → Wp X d 91 97 [some (mR 1), some (mI (w32 (x1 + 1))), some (mI (w32 (x4 + 1))), some (mI x3), some (mI x4), some (mI x5), some (mI x6)] [] s Q) (h_2 : (s 1 2) = 257 → Wp X d 91 93 [some (mR 1), some (mI (w32 (x1 + 1))), some (mI (w32 (x4 + 1))), some (mI x3), some (mI x4), some (mI x5), some (mI x6)] [] s Q) : Wp X d 91 75 [some (mR 1), some (mI x1), some (mI x2), some (mI x3), some (mI x4), some (mI x5), some (mI x6)] [] s Q := Wp_step k91 f91_75 (Wp_step k91 f91_78 (Wp_step k91 f91_80 (Wp_step k91 f91_81 (Wp_step k91 f91_82 (Wp_step k91 f91_83 (Wp_step k91 f91_84 ⟨kf_1, Wp_step k91 f91_87 (Wp_step k91 f91_90 ⟨h_1, h_2⟩)⟩))))))
theorem b91_93 {X : (Nat → Int) × Nat} {d : Nat} {s : mSt} {Q : mQ} {x1 : Int} {x2 : Int} {x3 : Int} {x4 : Int} {x5 : Int} {x6 : Int} (h_1 : Wp X d 91 98 [some (mR 1), some (mI x1), some (mI x2), some (mI x3), some (mI x4), some (mI x5), some (mI x6)] [mI 1] s Q) : Wp X d 91 93 [some (mR 1), some (mI x1), some (mI x2), some (mI x3), some (mI x4), some (mI x5), some (mI x6)] [] s Q := Wp_step k91 f91_93 (Wp_step k91 f91_94 (h_1))
theorem b91_97 {X : (Nat → Int) × Nat} {d : Nat} {s : mSt} {Q : mQ} {x1 : Int} {x2 : Int} {x3 : Int} {x4 : Int} {x5 : Int} {x6 : Int} (h_1 : Wp X d 91 98 [some (mR 1), some (mI x1), some (mI x2), some (mI x3), some (mI x4), some (mI x5), some (mI x6)] [mI 0] s Q) : Wp X d 91 97 [some (mR 1), some (mI x1), some (mI x2), some (mI x3), some (mI x4), some (mI x5), some (mI x6)] [] s Q := Wp_step k91 f91_97 (h_1)
theorem b91_98 {X : (Nat → Int) × Nat} {d : Nat} {s : mSt} {Q : mQ} {x1 : Int} {x2 : Int} {x3 : Int} {x4 : Int} {x5 : Int} {x6 : Int} {xt0 : Int} (h_1 : Wp X d 91 125 [some (mR 1), some (mI x1), some (mI x2), some (mI xt0), some (mI x4), some (mI x5), some (mI x6)] [] s Q) : Wp X d 91 98 [some (mR 1), some (mI x1), some (mI x2), some (mI x3), some (mI x4), some (mI x5), some (mI x6)] [mI xt0] s Q := Wp_step k91 f91_98 (Wp_step k91 f91_99 (h_1))
theorem b91_102 {X : (Nat → Int) × Nat} {d : Nat} {s : mSt} {Q : mQ} {x1 : Int} {x2 : Int} {x3 : Int} {x4 : Int} {x5 : Int} {x6 : Int} (h_1 : (s 1 4) ≤ x6 → Wp X d 91 123 [some (mR 1), some (mI x1), some (mI x2), some (mI x3), some (mI x4), some (mI x5), some (mI x6)] [] s Q) (h_2 : ¬ (s 1 4) ≤ x6 → Wp X d 91 111 [some (mR 1), some (mI x1), some (mI x2), some (mI x3), some (mI x4), some (mI x5), some (mI x6)] [] s Q) : Wp X d 91 102 [some (mR 1), some (mI x1), some (mI x2), some (mI x3), some (mI x4), some (mI x5), some (mI x6)] [] s Q := Wp_step k91 f91_102 (Wp_step k91 f91_104 (Wp_step k91 f91_105 ⟨kf_1, Wp_step k91 f91_108 ⟨h_1, h_2⟩⟩))
theorem b91_111 {X : (Nat → Int) × Nat} {d : Nat} {s : mSt} {Q : mQ} {x1 : Int} {x2 : Int} {x3 : Int} {x4 : Int} {x5 : Int} {x6 : Int} (h_1 : 0 ≤ x6 ∧ x6 < 400) (h_2 : (s 2 x6.toNat) = x5 → Wp X d 91 125 [some (mR 1), some (mI x1), some (mI x2), some (mI x3), some (mI x4), some (mI x5), some (mI x6)] [] s Q) (h_3 : ¬ (s 2 x6.toNat) = x5 → Wp X d 91 123 [some (mR 1), some (mI x1), some (mI x2), some (mI x3), some (mI x4), some (mI x5), some (mI x6)] [] s Q) : Wp X d 91 111 [some (mR 1), some (mI x1), some (mI x2), some (mI x3), some (mI x4), some (mI x5), some (mI x6)] [] s Q := Wp_step k91 f91_111 (Wp_step k91 f91_112 ⟨kf_1, 2, rf_1_0, Wp_step k91 f91_115 (Wp_step k91 f91_117 ⟨400, af_2, h_1, Wp_step k91 f91_118 (Wp_step k91 f91_120 ⟨h_2, h_3⟩)⟩)⟩)
theorem b91_123 {X : (Nat → Int) × Nat} {d : Nat} {s : mSt} {Q : mQ} {x1 : Int} {x2 : Int} {x3 : Int} {x4 : Int} {x5 : Int} {x6 : Int} (h_1 : Wp X d 91 125 [some (mR 1), some (mI x1), some (mI x2), some (mI 0), some (mI x4), some (mI x5), some (mI x6)] [] s Q) : Wp X d 91 123 [some (mR 1), some (mI x1), some (mI x2), some (mI x3), some (mI x4), some (mI x5), some (mI x6)] [] s Q := Wp_step k91 f91_123 (Wp_step k91 f91_124 (h_1))
theorem b91_125 {X : (Nat → Int) × Nat} {d : Nat} {s : mSt} {Q : mQ} {x1 : Int} {x2 : Int} {x3 : Int} {x4 : Int} {x5 : Int} {x6 : Int} (h_1 : Wp X d 91 23 [some (mR 1), some (mI x1), some (mI x2), some (mI x3), some (mI (w32 (x4 + 1))), some (mI x5), some (mI x6)] [] s Q) : Wp X d 91 125 [some (mR 1), some (mI x1), some (mI x2), some (mI x3), some (mI x4), some (mI x5), some (mI x6)] [] s Q := Wp_step k91 f91_125 (Wp_step k91 f91_128 (h_1))
theorem b91_131 {X : (Nat → Int) × Nat} {d : Nat} {s : mSt} {Q : mQ} {x1 : Int} {x2 : Int} {x3 : Int} {x4 : Int} {l5 : Option mV} {l6 : Option mV} (h_1 : Q (some (mI (-1))) s) : Wp X d 91 131 [some (mR 1), some (mI x1), some (mI x2), some (mI x3), some (mI x4), l5, l6] [] s Q := Wp_step k91 f91_131 (Wp_step k91 f91_132 ⟨⟨rfl, trivial⟩, h_1⟩)
theorem e91 {X : (Nat → Int) × Nat} {d : Nat} {s : mSt} {Q : mQ} (h : Wp X d 91 0 [some (mR 1), none, none, none, none, none, none] [] s Q) : Sp X d 91 [mR 1] s Q := Sp_of (show mCe 91 = 0 by decide +kernel) (by rw [show mML 91 = 7 by decide +kernel]; rfl) (Nat.le_trans (Nat.le_of_ble_eq_true (show Nat.ble (mArgs _).length 7 = true from rfl)) (show 7 ≤ mML 91 by decide +kernel)) h
-- 92 ClashDay$Tape.isWord(I)Z
theorem k92 : mRk 92 = 2 := by decide +kernel
theorem f92_0 : mFetch 92 0 = some (.aload_n 0, 1, 0, 0, 0, 0) := by decide +kernel
theorem f92_1 : mFetch 92 1 = some (.invokevirtual 49, 3, 91, 0, 1, 8) := by decide +kernel
theorem f92_4 : mFetch 92 4 = some (.iload_n 1, 1, 0, 0, 0, 0) := by decide +kernel
theorem f92_5 : mFetch 92 5 = some (.if_icmp .ne 7, 3, 12, 0, 0, 0) := by decide +kernel
theorem f92_8 : mFetch 92 8 = some (.iconst 1, 1, 0, 0, 0, 0) := by decide +kernel
theorem f92_9 : mFetch 92 9 = some (.goto 4, 3, 13, 0, 0, 0) := by decide +kernel
theorem f92_12 : mFetch 92 12 = some (.iconst 0, 1, 0, 0, 0, 0) := by decide +kernel
theorem f92_13 : mFetch 92 13 = some (.ireturn, 1, 0, 0, 0, 0) := by decide +kernel
theorem b92_0 {X : (Nat → Int) × Nat} {d : Nat} {s : mSt} {Q : mQ} {x1 : Int} (h_1 : Sp X d 91 [mR 1] s (fun r s' => ∃ v : Int, r = some (mI v) ∧ Wp X (d + 1) 92 4 [some (mR 1), some (mI x1)] [mI v] s' Q)) : Wp X (d + 1) 92 0 [some (mR 1), some (mI x1)] [] s Q := Wp_step k92 f92_0 (Wp_step k92 f92_1 ⟨⟨kf_1, Nat.le_of_ble_eq_true rfl⟩, Nat.le_refl _, _, rfl, Sp_E h_1⟩)
theorem b92_4 {X : (Nat → Int) × Nat} {d : Nat} {s : mSt} {Q : mQ} {x1 : Int} {xt0 : Int} (h_1 : ¬ xt0 = x1 → Wp X d 92 12 [some (mR 1), some (mI x1)] [] s Q) (h_2 : xt0 = x1 → Wp X d 92 8 [some (mR 1), some (mI x1)] [] s Q) : Wp X d 92 4 [some (mR 1), some (mI x1)] [mI xt0] s Q := Wp_step k92 f92_4 (Wp_step k92 f92_5 ⟨h_1, h_2⟩)
theorem b92_8 {X : (Nat → Int) × Nat} {d : Nat} {s : mSt} {Q : mQ} {x1 : Int} (h_1 : Wp X d 92 13 [some (mR 1), some (mI x1)] [mI 1] s Q) : Wp X d 92 8 [some (mR 1), some (mI x1)] [] s Q := Wp_step k92 f92_8 (Wp_step k92 f92_9 (h_1))
theorem b92_12 {X : (Nat → Int) × Nat} {d : Nat} {s : mSt} {Q : mQ} {x1 : Int} (h_1 : Wp X d 92 13 [some (mR 1), some (mI x1)] [mI 0] s Q) : Wp X d 92 12 [some (mR 1), some (mI x1)] [] s Q := Wp_step k92 f92_12 (h_1)
theorem b92_13 {X : (Nat → Int) × Nat} {d : Nat} {s : mSt} {Q : mQ} {x1 : Int} {xt0 : Int} (h_1 : Q (some (mI xt0)) s) (h_2 : xt0 = 0 ∨ xt0 = 1) : Wp X d 92 13 [some (mR 1), some (mI x1)] [mI xt0] s Q := Wp_step k92 f92_13 ⟨⟨rfl, h_2⟩, h_1⟩
theorem e92 {X : (Nat → Int) × Nat} {d : Nat} {s : mSt} {Q : mQ} {x1 : Int} (h : Wp X d 92 0 [some (mR 1), some (mI x1)] [] s Q) : Sp X d 92 [mR 1, mI x1] s Q := Sp_of (show mCe 92 = 0 by decide +kernel) (by rw [show mML 92 = 2 by decide +kernel]; rfl) (Nat.le_trans (Nat.le_of_ble_eq_true (show Nat.ble (mArgs _).length 2 = true from rfl)) (show 2 ≤ mML 92 by decide +kernel)) h
-- 93 ClashDay$Tape.goesOn()Z
theorem k93 : mRk 93 = 2 := by decide +kernel
theorem f93_0 : mFetch 93 0 = some (.aload_n 0, 1, 0, 0, 0, 0) := by decide +kernel
theorem f93_1 : mFetch 93 1 = some (.getfield 31, 3, 8, 2, 0, 1) := by decide +kernel
theorem f93_4 : mFetch 93 4 = some (.bipush 59, 2, 0, 0, 0, 0) := by decide +kernel
theorem f93_6 : mFetch 93 6 = some (.if_icmp .ne 9, 3, 15, 0, 0, 0) := by decide +kernel
theorem f93_9 : mFetch 93 9 = some (.aload_n 0, 1, 0, 0, 0, 0) := by decide +kernel
theorem f93_10 : mFetch 93 10 = some (.invokevirtual 25, 3, 90, 0, 1, 8) := by decide +kernel
theorem f93_13 : mFetch 93 13 = some (.iconst 1, 1, 0, 0, 0, 0) := by decide +kernel
theorem f93_14 : mFetch 93 14 = some (.ireturn, 1, 0, 0, 0, 0) := by decide +kernel
theorem f93_15 : mFetch 93 15 = some (.aload_n 0, 1, 0, 0, 0, 0) := by decide +kernel
theorem f93_16 : mFetch 93 16 = some (.getfield 31, 3, 8, 2, 0, 1) := by decide +kernel
theorem f93_19 : mFetch 93 19 = some (.iconst (-1), 1, 0, 0, 0, 0) := by decide +kernel
theorem f93_20 : mFetch 93 20 = some (.if_icmp .eq 15, 3, 35, 0, 0, 0) := by decide +kernel
theorem f93_23 : mFetch 93 23 = some (.aload_n 0, 1, 0, 0, 0, 0) := by decide +kernel
theorem f93_24 : mFetch 93 24 = some (.iconst 0, 1, 0, 0, 0, 0) := by decide +kernel
theorem f93_25 : mFetch 93 25 = some (.invokevirtual 52, 3, 94, 0, 2, 8) := by decide +kernel
theorem f93_28 : mFetch 93 28 = some (.ifCond .eq 7, 3, 35, 0, 0, 0) := by decide +kernel
theorem f93_31 : mFetch 93 31 = some (.iconst 1, 1, 0, 0, 0, 0) := by decide +kernel
theorem f93_32 : mFetch 93 32 = some (.goto 4, 3, 36, 0, 0, 0) := by decide +kernel
theorem f93_35 : mFetch 93 35 = some (.iconst 0, 1, 0, 0, 0, 0) := by decide +kernel
theorem f93_36 : mFetch 93 36 = some (.ireturn, 1, 0, 0, 0, 0) := by decide +kernel
theorem b93_0 {X : (Nat → Int) × Nat} {d : Nat} {s : mSt} {Q : mQ} (h_1 : ¬ (s 1 2) = 59 → Wp X d 93 15 [some (mR 1)] [] s Q) (h_2 : (s 1 2) = 59 → Wp X d 93 9 [some (mR 1)] [] s Q) : Wp X d 93 0 [some (mR 1)] [] s Q := Wp_step k93 f93_0 (Wp_step k93 f93_1 ⟨kf_1, Wp_step k93 f93_4 (Wp_step k93 f93_6 ⟨h_1, h_2⟩)⟩)
theorem b93_9 {X : (Nat → Int) × Nat} {d : Nat} {s : mSt} {Q : mQ} (h_1 : Sp X d 90 [mR 1] s (fun r s' => r = none ∧ Wp X (d + 1) 93 13 [some (mR 1)] [] s' Q)) : Wp X (d + 1) 93 9 [some (mR 1)] [] s Q := Wp_step k93 f93_9 (Wp_step k93 f93_10 ⟨⟨kf_1, Nat.le_of_ble_eq_true rfl⟩, Nat.le_refl _, _, rfl, Sp_V h_1⟩)
theorem b93_13 {X : (Nat → Int) × Nat} {d : Nat} {s : mSt} {Q : mQ} (h_1 : Q (some (mI 1)) s) : Wp X d 93 13 [some (mR 1)] [] s Q := Wp_step k93 f93_13 (Wp_step k93 f93_14 ⟨⟨rfl, (Or.inr rfl)⟩, h_1⟩)
theorem b93_15 {X : (Nat → Int) × Nat} {d : Nat} {s : mSt} {Q : mQ} (h_1 : (s 1 2) = (-1) → Wp X d 93 35 [some (mR 1)] [] s Q) (h_2 : ¬ (s 1 2) = (-1) → Wp X d 93 23 [some (mR 1)] [] s Q) : Wp X d 93 15 [some (mR 1)] [] s Q := Wp_step k93 f93_15 (Wp_step k93 f93_16 ⟨kf_1, Wp_step k93 f93_19 (Wp_step k93 f93_20 ⟨h_1, h_2⟩)⟩)
theorem b93_23 {X : (Nat → Int) × Nat} {d : Nat} {s : mSt} {Q : mQ} (h_1 : Sp X d 94 [mR 1, mI 0] s (fun r s' => ∃ v : Int, r = some (mI v) ∧ Wp X (d + 1) 93 28 [some (mR 1)] [mI v] s' Q)) : Wp X (d + 1) 93 23 [some (mR 1)] [] s Q := Wp_step k93 f93_23 (Wp_step k93 f93_24 (Wp_step k93 f93_25 ⟨⟨kf_1, Nat.le_of_ble_eq_true rfl⟩, Nat.le_refl _, _, rfl, Sp_E h_1⟩))
theorem b93_28 {X : (Nat → Int) × Nat} {d : Nat} {s : mSt} {Q : mQ} {xt0 : Int} (h_1 : xt0 = 0 → Wp X d 93 35 [some (mR 1)] [] s Q) (h_2 : ¬ xt0 = 0 → Wp X d 93 31 [some (mR 1)] [] s Q) : Wp X d 93 28 [some (mR 1)] [mI xt0] s Q := Wp_step k93 f93_28 ⟨h_1, h_2⟩
theorem b93_31 {X : (Nat → Int) × Nat} {d : Nat} {s : mSt} {Q : mQ} (h_1 : Wp X d 93 36 [some (mR 1)] [mI 1] s Q) : Wp X d 93 31 [some (mR 1)] [] s Q := Wp_step k93 f93_31 (Wp_step k93 f93_32 (h_1))
theorem b93_35 {X : (Nat → Int) × Nat} {d : Nat} {s : mSt} {Q : mQ} (h_1 : Wp X d 93 36 [some (mR 1)] [mI 0] s Q) : Wp X d 93 35 [some (mR 1)] [] s Q := Wp_step k93 f93_35 (h_1)
theorem b93_36 {X : (Nat → Int) × Nat} {d : Nat} {s : mSt} {Q : mQ} {xt0 : Int} (h_1 : Q (some (mI xt0)) s) (h_2 : xt0 = 0 ∨ xt0 = 1) : Wp X d 93 36 [some (mR 1)] [mI xt0] s Q := Wp_step k93 f93_36 ⟨⟨rfl, h_2⟩, h_1⟩
theorem e93 {X : (Nat → Int) × Nat} {d : Nat} {s : mSt} {Q : mQ} (h : Wp X d 93 0 [some (mR 1)] [] s Q) : Sp X d 93 [mR 1] s Q := Sp_of (show mCe 93 = 0 by decide +kernel) (by rw [show mML 93 = 1 by decide +kernel]; rfl) (Nat.le_trans (Nat.le_of_ble_eq_true (show Nat.ble (mArgs _).length 1 = true from rfl)) (show 1 ≤ mML 93 by decide +kernel)) h
-- 94 ClashDay$Tape.fail(I)Z
theorem k94 : mRk 94 = 2 := by decide +kernel
theorem f94_0 : mFetch 94 0 = some (.aload_n 0, 1, 0, 0, 0, 0) := by decide +kernel
theorem f94_1 : mFetch 94 1 = some (.getfield 22, 3, 8, 6, 0, 1) := by decide +kernel
theorem f94_4 : mFetch 94 4 = some (.ifCond .ne 18, 3, 22, 0, 0, 0) := by decide +kernel
theorem f94_7 : mFetch 94 7 = some (.aload_n 0, 1, 0, 0, 0, 0) := by decide +kernel
theorem f94_8 : mFetch 94 8 = some (.iconst 1, 1, 0, 0, 0, 0) := by decide +kernel
theorem f94_9 : mFetch 94 9 = some (.bipush 8, 2, 0, 0, 0, 0) := by decide +kernel
theorem f94_11 : mFetch 94 11 = some (.aload_n 0, 1, 0, 0, 0, 0) := by decide +kernel
theorem f94_12 : mFetch 94 12 = some (.getfield 28, 3, 8, 3, 0, 1) := by decide +kernel
theorem f94_15 : mFetch 94 15 = some (.imul, 1, 0, 0, 0, 0) := by decide +kernel
theorem f94_16 : mFetch 94 16 = some (.iadd, 1, 0, 0, 0, 0) := by decide +kernel
theorem f94_17 : mFetch 94 17 = some (.iload_n 1, 1, 0, 0, 0, 0) := by decide +kernel
theorem f94_18 : mFetch 94 18 = some (.iadd, 1, 0, 0, 0, 0) := by decide +kernel
theorem f94_19 : mFetch 94 19 = some (.putfield 22, 3, 8, 6, 0, 1) := by decide +kernel
theorem f94_22 : mFetch 94 22 = some (.iconst 0, 1, 0, 0, 0, 0) := by decide +kernel
theorem f94_23 : mFetch 94 23 = some (.ireturn, 1, 0, 0, 0, 0) := by decide +kernel
theorem b94_0 {X : (Nat → Int) × Nat} {d : Nat} {s : mSt} {Q : mQ} {x1 : Int} (h_1 : ¬ (s 1 6) = 0 → Wp X d 94 22 [some (mR 1), some (mI x1)] [] s Q) (h_2 : (s 1 6) = 0 → Wp X d 94 7 [some (mR 1), some (mI x1)] [] s Q) : Wp X d 94 0 [some (mR 1), some (mI x1)] [] s Q := Wp_step k94 f94_0 (Wp_step k94 f94_1 ⟨kf_1, Wp_step k94 f94_4 ⟨h_1, h_2⟩⟩)
theorem b94_7 {X : (Nat → Int) × Nat} {d : Nat} {s : mSt} {Q : mQ} {x1 : Int} (h_1 : Wp X d 94 22 [some (mR 1), some (mI x1)] [] (uS s 1 6 (w32 ((w32 (1 + (w32 (8 * (s 1 3))))) + x1))) Q) : Wp X d 94 7 [some (mR 1), some (mI x1)] [] s Q := Wp_step k94 f94_7 (Wp_step k94 f94_8 (Wp_step k94 f94_9 (Wp_step k94 f94_11 (Wp_step k94 f94_12 ⟨kf_1, Wp_step k94 f94_15 (Wp_step k94 f94_16 (Wp_step k94 f94_17 (Wp_step k94 f94_18 (Wp_step k94 f94_19 ⟨kf_1, h_1⟩))))⟩))))
theorem b94_22 {X : (Nat → Int) × Nat} {d : Nat} {s : mSt} {Q : mQ} {x1 : Int} (h_1 : Q (some (mI 0)) s) : Wp X d 94 22 [some (mR 1), some (mI x1)] [] s Q := Wp_step k94 f94_22 (Wp_step k94 f94_23 ⟨⟨rfl, (Or.inl rfl)⟩, h_1⟩)
theorem e94 {X : (Nat → Int) × Nat} {d : Nat} {s : mSt} {Q : mQ} {x1 : Int} (h : Wp X d 94 0 [some (mR 1), some (mI x1)] [] s Q) : Sp X d 94 [mR 1, mI x1] s Q := Sp_of (show mCe 94 = 0 by decide +kernel) (by rw [show mML 94 = 2 by decide +kernel]; rfl) (Nat.le_trans (Nat.le_of_ble_eq_true (show Nat.ble (mArgs _).length 2 = true from rfl)) (show 2 ≤ mML 94 by decide +kernel)) h
-- 95 ClashDay$Tape.numberFault(II)I
theorem k95 : mRk 95 = 1 := by decide +kernel
theorem f95_0 : mFetch 95 0 = some (.aload_n 0, 1, 0, 0, 0, 0) := by decide +kernel
theorem f95_1 : mFetch 95 1 = some (.getfield 31, 3, 8, 2, 0, 1) := by decide +kernel
theorem f95_4 : mFetch 95 4 = some (.sipush 256, 3, 0, 0, 0, 0) := by decide +kernel
theorem f95_7 : mFetch 95 7 = some (.if_icmp .eq 5, 3, 12, 0, 0, 0) := by decide +kernel
theorem f95_10 : mFetch 95 10 = some (.iconst 0, 1, 0, 0, 0, 0) := by decide +kernel
theorem f95_11 : mFetch 95 11 = some (.ireturn, 1, 0, 0, 0, 0) := by decide +kernel
theorem f95_12 : mFetch 95 12 = some (.aload_n 0, 1, 0, 0, 0, 0) := by decide +kernel
theorem f95_13 : mFetch 95 13 = some (.getfield 19, 3, 8, 4, 0, 1) := by decide +kernel
theorem f95_16 : mFetch 95 16 = some (.aload_n 0, 1, 0, 0, 0, 0) := by decide +kernel
theorem f95_17 : mFetch 95 17 = some (.getfield 28, 3, 8, 3, 0, 1) := by decide +kernel
theorem f95_20 : mFetch 95 20 = some (.isub, 1, 0, 0, 0, 0) := by decide +kernel
theorem f95_21 : mFetch 95 21 = some (.iconst 5, 1, 0, 0, 0, 0) := by decide +kernel
theorem f95_22 : mFetch 95 22 = some (.if_icmp .le 7, 3, 29, 0, 0, 0) := by decide +kernel
theorem f95_25 : mFetch 95 25 = some (.iconst 1, 1, 0, 0, 0, 0) := by decide +kernel
theorem f95_26 : mFetch 95 26 = some (.goto 4, 3, 30, 0, 0, 0) := by decide +kernel
theorem f95_29 : mFetch 95 29 = some (.iconst 0, 1, 0, 0, 0, 0) := by decide +kernel
theorem f95_30 : mFetch 95 30 = some (.istore_n 3, 1, 0, 0, 0, 0) := by decide +kernel
theorem f95_31 : mFetch 95 31 = some (.iload_n 3, 1, 0, 0, 0, 0) := by decide +kernel
theorem f95_32 : mFetch 95 32 = some (.ifCond .ne 19, 3, 51, 0, 0, 0) := by decide +kernel
theorem f95_35 : mFetch 95 35 = some (.aload_n 0, 1, 0, 0, 0, 0) := by decide +kernel
theorem f95_36 : mFetch 95 36 = some (.getfield 34, 3, 8, 5, 0, 1) := by decide +kernel
theorem f95_39 : mFetch 95 39 = some (.iload_n 1, 1, 0, 0, 0, 0) := by decide +kernel
theorem f95_40 : mFetch 95 40 = some (.if_icmp .lt 11, 3, 51, 0, 0, 0) := by decide +kernel
theorem f95_43 : mFetch 95 43 = some (.aload_n 0, 1, 0, 0, 0, 0) := by decide +kernel
theorem f95_44 : mFetch 95 44 = some (.getfield 34, 3, 8, 5, 0, 1) := by decide +kernel
theorem f95_47 : mFetch 95 47 = some (.iload_n 2, 1, 0, 0, 0, 0) := by decide +kernel
theorem f95_48 : mFetch 95 48 = some (.if_icmp .le 7, 3, 55, 0, 0, 0) := by decide +kernel
theorem f95_51 : mFetch 95 51 = some (.iconst 1, 1, 0, 0, 0, 0) := by decide +kernel
theorem f95_52 : mFetch 95 52 = some (.goto 4, 3, 56, 0, 0, 0) := by decide +kernel
theorem f95_55 : mFetch 95 55 = some (.iconst (-1), 1, 0, 0, 0, 0) := by decide +kernel
theorem f95_56 : mFetch 95 56 = some (.ireturn, 1, 0, 0, 0, 0) := by decide +kernel
theorem b95_0 {X : (Nat → Int) × Nat} {d : Nat} {s : mSt} {Q : mQ} {x1 : Int} {x2 : Int} {l3 : Option mV} (h_1 : (s 1 2) = 256 → Wp X d 95 12 [some (mR 1), some (mI x1), some (mI x2), l3] [] s Q) (h_2 : ¬ (s 1 2) = 256 → Wp X d 95 10 [some (mR 1), some (mI x1), some (mI x2), l3] [] s Q) : Wp X d 95 0 [some (mR 1), some (mI x1), some (mI x2), l3] [] s Q := Wp_step k95 f95_0 (Wp_step k95 f95_1 ⟨kf_1, Wp_step k95 f95_4 (Wp_step k95 f95_7 ⟨h_1, h_2⟩)⟩)
theorem b95_10 {X : (Nat → Int) × Nat} {d : Nat} {s : mSt} {Q : mQ} {x1 : Int} {x2 : Int} {l3 : Option mV} (h_1 : Q (some (mI 0)) s) : Wp X d 95 10 [some (mR 1), some (mI x1), some (mI x2), l3] [] s Q := Wp_step k95 f95_10 (Wp_step k95 f95_11 ⟨⟨rfl, trivial⟩, h_1⟩)
theorem b95_12 {X : (Nat → Int) × Nat} {d : Nat} {s : mSt} {Q : mQ} {x1 : Int} {x2 : Int} {l3 : Option mV} (h_1 : (w32 ((s 1 4) - (s 1 3))) ≤ 5 → Wp X d 95 29 [some (mR 1), some (mI x1), some (mI x2), l3] [] s Q) (h_2 : ¬ (w32 ((s 1 4) - (s 1 3))) ≤ 5 → Wp X d 95 25 [some (mR 1), some (mI x1), some (mI x2), l3] [] s Q) : Wp X d 95 12 [some (mR 1), some (mI x1), some (mI x2), l3] [] s Q := Wp_step k95 f95_12 (Wp_step k95 f95_13 ⟨kf_1, Wp_step k95 f95_16 (Wp_step k95 f95_17 ⟨kf_1, Wp_step k95 f95_20 (Wp_step k95 f95_21 (Wp_step k95 f95_22 ⟨h_1, h_2⟩))⟩)⟩)
theorem b95_25 {X : (Nat → Int) × Nat} {d : Nat} {s : mSt} {Q : mQ} {x1 : Int} {x2 : Int} {l3 : Option mV} (h_1 : Wp X d 95 30 [some (mR 1), some (mI x1), some (mI x2), l3] [mI 1] s Q) : Wp X d 95 25 [some (mR 1), some (mI x1), some (mI x2), l3] [] s Q := Wp_step k95 f95_25 (Wp_step k95 f95_26 (h_1))
theorem b95_29 {X : (Nat → Int) × Nat} {d : Nat} {s : mSt} {Q : mQ} {x1 : Int} {x2 : Int} {l3 : Option mV} (h_1 : Wp X d 95 30 [some (mR 1), some (mI x1), some (mI x2), l3] [mI 0] s Q) : Wp X d 95 29 [some (mR 1), some (mI x1), some (mI x2), l3] [] s Q := Wp_step k95 f95_29 (h_1)
theorem b95_30 {X : (Nat → Int) × Nat} {d : Nat} {s : mSt} {Q : mQ} {x1 : Int} {x2 : Int} {l3 : Option mV} {xt0 : Int} (h_1 : ¬ xt0 = 0 → Wp X d 95 51 [some (mR 1), some (mI x1), some (mI x2), some (mI xt0)] [] s Q) (h_2 : xt0 = 0 → Wp X d 95 35 [some (mR 1), some (mI x1), some (mI x2), some (mI xt0)] [] s Q) : Wp X d 95 30 [some (mR 1), some (mI x1), some (mI x2), l3] [mI xt0] s Q := Wp_step k95 f95_30 (Wp_step k95 f95_31 (Wp_step k95 f95_32 ⟨h_1, h_2⟩))
theorem b95_35 {X : (Nat → Int) × Nat} {d : Nat} {s : mSt} {Q : mQ} {x1 : Int} {x2 : Int} {x3 : Int} (h_1 : (s 1 5) < x1 → Wp X d 95 51 [some (mR 1), some (mI x1), some (mI x2), some (mI x3)] [] s Q) (h_2 : ¬ (s 1 5) < x1 → Wp X d 95 43 [some (mR 1), some (mI x1), some (mI x2), some (mI x3)] [] s Q) : Wp X d 95 35 [some (mR 1), some (mI x1), some (mI x2), some (mI x3)] [] s Q := Wp_step k95 f95_35 (Wp_step k95 f95_36 ⟨kf_1, Wp_step k95 f95_39 (Wp_step k95 f95_40 ⟨h_1, h_2⟩)⟩)
theorem b95_43 {X : (Nat → Int) × Nat} {d : Nat} {s : mSt} {Q : mQ} {x1 : Int} {x2 : Int} {x3 : Int} (h_1 : (s 1 5) ≤ x2 → Wp X d 95 55 [some (mR 1), some (mI x1), some (mI x2), some (mI x3)] [] s Q) (h_2 : ¬ (s 1 5) ≤ x2 → Wp X d 95 51 [some (mR 1), some (mI x1), some (mI x2), some (mI x3)] [] s Q) : Wp X d 95 43 [some (mR 1), some (mI x1), some (mI x2), some (mI x3)] [] s Q := Wp_step k95 f95_43 (Wp_step k95 f95_44 ⟨kf_1, Wp_step k95 f95_47 (Wp_step k95 f95_48 ⟨h_1, h_2⟩)⟩)
theorem b95_51 {X : (Nat → Int) × Nat} {d : Nat} {s : mSt} {Q : mQ} {x1 : Int} {x2 : Int} {x3 : Int} (h_1 : Wp X d 95 56 [some (mR 1), some (mI x1), some (mI x2), some (mI x3)] [mI 1] s Q) : Wp X d 95 51 [some (mR 1), some (mI x1), some (mI x2), some (mI x3)] [] s Q := Wp_step k95 f95_51 (Wp_step k95 f95_52 (h_1))
theorem b95_55 {X : (Nat → Int) × Nat} {d : Nat} {s : mSt} {Q : mQ} {x1 : Int} {x2 : Int} {x3 : Int} (h_1 : Wp X d 95 56 [some (mR 1), some (mI x1), some (mI x2), some (mI x3)] [mI (-1)] s Q) : Wp X d 95 55 [some (mR 1), some (mI x1), some (mI x2), some (mI x3)] [] s Q := Wp_step k95 f95_55 (h_1)
theorem b95_56 {X : (Nat → Int) × Nat} {d : Nat} {s : mSt} {Q : mQ} {x1 : Int} {x2 : Int} {x3 : Int} {xt0 : Int} (h_1 : Q (some (mI xt0)) s) : Wp X d 95 56 [some (mR 1), some (mI x1), some (mI x2), some (mI x3)] [mI xt0] s Q := Wp_step k95 f95_56 ⟨⟨rfl, trivial⟩, h_1⟩
theorem e95 {X : (Nat → Int) × Nat} {d : Nat} {s : mSt} {Q : mQ} {x1 : Int} {x2 : Int} (h : Wp X d 95 0 [some (mR 1), some (mI x1), some (mI x2), none] [] s Q) : Sp X d 95 [mR 1, mI x1, mI x2] s Q := Sp_of (show mCe 95 = 0 by decide +kernel) (by rw [show mML 95 = 4 by decide +kernel]; rfl) (Nat.le_trans (Nat.le_of_ble_eq_true (show Nat.ble (mArgs _).length 4 = true from rfl)) (show 4 ≤ mML 95 by decide +kernel)) h
-- 97 ClashDay$Trials.rankRows(LClashDay$Board;)V
theorem k97 : mRk 97 = 0 := by decide +kernel
theorem f97_0 : mFetch 97 0 = some (.aload_n 0, 1, 0, 0, 0, 0) := by decide +kernel
theorem f97_1 : mFetch 97 1 = some (.getfield 12, 3, 9, 2, 2, 1) := by decide +kernel
theorem f97_4 : mFetch 97 4 = some (.aload_n 1, 1, 0, 0, 0, 0) := by decide +kernel
theorem f97_5 : mFetch 97 5 = some (.invokevirtual 44, 3, 3, 0, 2, 0) := by decide +kernel
theorem f97_8 : mFetch 97 8 = some (.iconst 0, 1, 0, 0, 0, 0) := by decide +kernel
theorem f97_9 : mFetch 97 9 = some (.istore_n 2, 1, 0, 0, 0, 0) := by decide +kernel
theorem f97_10 : mFetch 97 10 = some (.iconst 0, 1, 0, 0, 0, 0) := by decide +kernel
theorem f97_11 : mFetch 97 11 = some (.istore_n 3, 1, 0, 0, 0, 0) := by decide +kernel
theorem f97_12 : mFetch 97 12 = some (.iload_n 3, 1, 0, 0, 0, 0) := by decide +kernel
theorem f97_13 : mFetch 97 13 = some (.aload_n 1, 1, 0, 0, 0, 0) := by decide +kernel
theorem f97_14 : mFetch 97 14 = some (.getfield 48, 3, 0, 3, 0, 0) := by decide +kernel
theorem f97_17 : mFetch 97 17 = some (.if_icmp .ge 31, 3, 48, 0, 0, 0) := by decide +kernel
theorem f97_20 : mFetch 97 20 = some (.iload_n 2, 1, 0, 0, 0, 0) := by decide +kernel
theorem f97_21 : mFetch 97 21 = some (.invokestatic 52, 3, 309, 0, 1, 99) := by decide +kernel
theorem f97_24 : mFetch 97 24 = some (.iconst 4, 1, 0, 0, 0, 0) := by decide +kernel
theorem f97_25 : mFetch 97 25 = some (.if_icmp .ge 23, 3, 48, 0, 0, 0) := by decide +kernel
theorem f97_28 : mFetch 97 28 = some (.aload_n 1, 1, 0, 0, 0, 0) := by decide +kernel
theorem f97_29 : mFetch 97 29 = some (.iload_n 3, 1, 0, 0, 0, 0) := by decide +kernel
theorem f97_30 : mFetch 97 30 = some (.invokevirtual 58, 3, 10, 0, 2, 0) := by decide +kernel
theorem f97_33 : mFetch 97 33 = some (.ifCond .eq 9, 3, 42, 0, 0, 0) := by decide +kernel
theorem f97_36 : mFetch 97 36 = some (.iload_n 2, 1, 0, 0, 0, 0) := by decide +kernel
theorem f97_37 : mFetch 97 37 = some (.iconst 1, 1, 0, 0, 0, 0) := by decide +kernel
theorem f97_38 : mFetch 97 38 = some (.iload_n 3, 1, 0, 0, 0, 0) := by decide +kernel
theorem f97_39 : mFetch 97 39 = some (.ishl, 1, 0, 0, 0, 0) := by decide +kernel
theorem f97_40 : mFetch 97 40 = some (.ior, 1, 0, 0, 0, 0) := by decide +kernel
theorem f97_41 : mFetch 97 41 = some (.istore_n 2, 1, 0, 0, 0, 0) := by decide +kernel
theorem f97_42 : mFetch 97 42 = some (.iinc 3 1, 3, 0, 0, 0, 0) := by decide +kernel
theorem f97_45 : mFetch 97 45 = some (.goto (-33), 3, 12, 0, 0, 0) := by decide +kernel
theorem f97_48 : mFetch 97 48 = some (.iconst 0, 1, 0, 0, 0, 0) := by decide +kernel
theorem f97_49 : mFetch 97 49 = some (.istore_n 3, 1, 0, 0, 0, 0) := by decide +kernel
theorem f97_50 : mFetch 97 50 = some (.iload_n 3, 1, 0, 0, 0, 0) := by decide +kernel
theorem f97_51 : mFetch 97 51 = some (.iconst 4, 1, 0, 0, 0, 0) := by decide +kernel
theorem f97_52 : mFetch 97 52 = some (.if_icmp .ge 16, 3, 68, 0, 0, 0) := by decide +kernel
theorem f97_55 : mFetch 97 55 = some (.aload_n 0, 1, 0, 0, 0, 0) := by decide +kernel
theorem f97_56 : mFetch 97 56 = some (.getfield 22, 3, 9, 6, 2, 1) := by decide +kernel
theorem f97_59 : mFetch 97 59 = some (.iload_n 3, 1, 0, 0, 0, 0) := by decide +kernel
theorem f97_60 : mFetch 97 60 = some (.iconst (-1), 1, 0, 0, 0, 0) := by decide +kernel
theorem f97_61 : mFetch 97 61 = some (.iastore, 1, 0, 0, 0, 0) := by decide +kernel
theorem f97_62 : mFetch 97 62 = some (.iinc 3 1, 3, 0, 0, 0, 0) := by decide +kernel
theorem f97_65 : mFetch 97 65 = some (.goto (-15), 3, 50, 0, 0, 0) := by decide +kernel
theorem f97_68 : mFetch 97 68 = some (.aload_n 0, 1, 0, 0, 0, 0) := by decide +kernel
theorem f97_69 : mFetch 97 69 = some (.iconst (-1), 1, 0, 0, 0, 0) := by decide +kernel
theorem f97_70 : mFetch 97 70 = some (.putfield 62, 3, 9, 3, 0, 1) := by decide +kernel
theorem f97_73 : mFetch 97 73 = some (.aload_n 0, 1, 0, 0, 0, 0) := by decide +kernel
theorem f97_74 : mFetch 97 74 = some (.iload_n 2, 1, 0, 0, 0, 0) := by decide +kernel
theorem f97_75 : mFetch 97 75 = some (.iconst 0, 1, 0, 0, 0, 0) := by decide +kernel
theorem f97_76 : mFetch 97 76 = some (.iconst 0, 1, 0, 0, 0, 0) := by decide +kernel
theorem f97_77 : mFetch 97 77 = some (.iconst 0, 1, 0, 0, 0, 0) := by decide +kernel
theorem f97_78 : mFetch 97 78 = some (.invokevirtual 65, 3, 98, 0, 5, 9) := by decide +kernel
theorem f97_81 : mFetch 97 81 = some (.return_, 1, 0, 0, 0, 0) := by decide +kernel
theorem b97_0 {X : (Nat → Int) × Nat} {d : Nat} {s : mSt} {Q : mQ} {a1 : Nat} {l2 : Option mV} {l3 : Option mV} (h1 : isBd a1) (h_1 : Sp X d 3 [mR 54, mR a1] s (fun r s' => r = none ∧ Wp X (d + 1) 97 8 [some (mR 53), some (mR a1), l2, l3] [] s' Q)) : Wp X (d + 1) 97 0 [some (mR 53), some (mR a1), l2, l3] [] s Q := Wp_step k97 f97_0 (Wp_step k97 f97_1 ⟨kf_53, 54, rf_53_2, Wp_step k97 f97_4 (Wp_step k97 f97_5 ⟨⟨kf_54, Nat.le_of_ble_eq_true rfl⟩, Nat.le_refl _, _, rfl, Sp_V h_1⟩)⟩)
theorem b97_8 {X : (Nat → Int) × Nat} {d : Nat} {s : mSt} {Q : mQ} {a1 : Nat} {l2 : Option mV} {l3 : Option mV} (h1 : isBd a1) (h_1 : Wp X d 97 12 [some (mR 53), some (mR a1), some (mI 0), some (mI 0)] [] s Q) : Wp X d 97 8 [some (mR 53), some (mR a1), l2, l3] [] s Q := Wp_step k97 f97_8 (Wp_step k97 f97_9 (Wp_step k97 f97_10 (Wp_step k97 f97_11 (h_1))))
theorem b97_12 {X : (Nat → Int) × Nat} {d : Nat} {s : mSt} {Q : mQ} {a1 : Nat} {x2 : Int} {x3 : Int} (h1 : isBd a1) (h_1 : (s a1 3) ≤ x3 → Wp X d 97 48 [some (mR 53), some (mR a1), some (mI x2), some (mI x3)] [] s Q) (h_2 : ¬ (s a1 3) ≤ x3 → Wp X d 97 20 [some (mR 53), some (mR a1), some (mI x2), some (mI x3)] [] s Q) : Wp X d 97 12 [some (mR 53), some (mR a1), some (mI x2), some (mI x3)] [] s Q := Wp_step k97 f97_12 (Wp_step k97 f97_13 (Wp_step k97 f97_14 ⟨(bd_k h1), Wp_step k97 f97_17 ⟨h_1, h_2⟩⟩))
theorem b97_20 {X : (Nat → Int) × Nat} {d : Nat} {s : mSt} {Q : mQ} {a1 : Nat} {x2 : Int} {x3 : Int} (h1 : isBd a1) (h_1 : Sp X d 309 [mI x2] s (fun r s' => ∃ v : Int, r = some (mI v) ∧ Wp X (d + 1) 97 24 [some (mR 53), some (mR a1), some (mI x2), some (mI x3)] [mI v] s' Q)) : Wp X (d + 1) 97 20 [some (mR 53), some (mR a1), some (mI x2), some (mI x3)] [] s Q := Wp_step k97 f97_20 (Wp_step k97 f97_21 ⟨⟨Nat.le_of_ble_eq_true rfl, Nat.le_refl _⟩, _, rfl, Sp_E h_1⟩)
theorem b97_24 {X : (Nat → Int) × Nat} {d : Nat} {s : mSt} {Q : mQ} {a1 : Nat} {x2 : Int} {x3 : Int} {xt0 : Int} (h1 : isBd a1) (h_1 : 4 ≤ xt0 → Wp X d 97 48 [some (mR 53), some (mR a1), some (mI x2), some (mI x3)] [] s Q) (h_2 : ¬ 4 ≤ xt0 → Wp X d 97 28 [some (mR 53), some (mR a1), some (mI x2), some (mI x3)] [] s Q) : Wp X d 97 24 [some (mR 53), some (mR a1), some (mI x2), some (mI x3)] [mI xt0] s Q := Wp_step k97 f97_24 (Wp_step k97 f97_25 ⟨h_1, h_2⟩)
theorem b97_28 {X : (Nat → Int) × Nat} {d : Nat} {s : mSt} {Q : mQ} {a1 : Nat} {x2 : Int} {x3 : Int} (h1 : isBd a1) (h_1 : Sp X d 10 [mR a1, mI x3] s (fun r s' => ∃ v : Int, r = some (mI v) ∧ Wp X (d + 1) 97 33 [some (mR 53), some (mR a1), some (mI x2), some (mI x3)] [mI v] s' Q)) : Wp X (d + 1) 97 28 [some (mR 53), some (mR a1), some (mI x2), some (mI x3)] [] s Q := Wp_step k97 f97_28 (Wp_step k97 f97_29 (Wp_step k97 f97_30 ⟨⟨(bd_k h1), Nat.le_of_ble_eq_true rfl⟩, Nat.le_refl _, _, rfl, Sp_E h_1⟩))
theorem b97_33 {X : (Nat → Int) × Nat} {d : Nat} {s : mSt} {Q : mQ} {a1 : Nat} {x2 : Int} {x3 : Int} {xt0 : Int} (h1 : isBd a1) (h_1 : xt0 = 0 → Wp X d 97 42 [some (mR 53), some (mR a1), some (mI x2), some (mI x3)] [] s Q) (h_2 : ¬ xt0 = 0 → Wp X d 97 36 [some (mR 53), some (mR a1), some (mI x2), some (mI x3)] [] s Q) : Wp X d 97 33 [some (mR 53), some (mR a1), some (mI x2), some (mI x3)] [mI xt0] s Q := Wp_step k97 f97_33 ⟨h_1, h_2⟩
theorem b97_36 {X : (Nat → Int) × Nat} {d : Nat} {s : mSt} {Q : mQ} {a1 : Nat} {x2 : Int} {x3 : Int} (h1 : isBd a1) (h_1 : Wp X d 97 42 [some (mR 53), some (mR a1), some (mI (iOr x2 (iShl 1 x3))), some (mI x3)] [] s Q) : Wp X d 97 36 [some (mR 53), some (mR a1), some (mI x2), some (mI x3)] [] s Q := Wp_step k97 f97_36 (Wp_step k97 f97_37 (Wp_step k97 f97_38 (Wp_step k97 f97_39 (Wp_step k97 f97_40 (Wp_step k97 f97_41 (h_1))))))
theorem b97_42 {X : (Nat → Int) × Nat} {d : Nat} {s : mSt} {Q : mQ} {a1 : Nat} {x2 : Int} {x3 : Int} (h1 : isBd a1) (h_1 : Wp X d 97 12 [some (mR 53), some (mR a1), some (mI x2), some (mI (w32 (x3 + 1)))] [] s Q) : Wp X d 97 42 [some (mR 53), some (mR a1), some (mI x2), some (mI x3)] [] s Q := Wp_step k97 f97_42 (Wp_step k97 f97_45 (h_1))
theorem b97_48 {X : (Nat → Int) × Nat} {d : Nat} {s : mSt} {Q : mQ} {a1 : Nat} {x2 : Int} {x3 : Int} (h1 : isBd a1) (h_1 : Wp X d 97 50 [some (mR 53), some (mR a1), some (mI x2), some (mI 0)] [] s Q) : Wp X d 97 48 [some (mR 53), some (mR a1), some (mI x2), some (mI x3)] [] s Q := Wp_step k97 f97_48 (Wp_step k97 f97_49 (h_1))
theorem b97_50 {X : (Nat → Int) × Nat} {d : Nat} {s : mSt} {Q : mQ} {a1 : Nat} {x2 : Int} {x3 : Int} (h1 : isBd a1) (h_1 : 4 ≤ x3 → Wp X d 97 68 [some (mR 53), some (mR a1), some (mI x2), some (mI x3)] [] s Q) (h_2 : ¬ 4 ≤ x3 → Wp X d 97 55 [some (mR 53), some (mR a1), some (mI x2), some (mI x3)] [] s Q) : Wp X d 97 50 [some (mR 53), some (mR a1), some (mI x2), some (mI x3)] [] s Q := Wp_step k97 f97_50 (Wp_step k97 f97_51 (Wp_step k97 f97_52 ⟨h_1, h_2⟩))
theorem b97_55 {X : (Nat → Int) × Nat} {d : Nat} {s : mSt} {Q : mQ} {a1 : Nat} {x2 : Int} {x3 : Int} (h1 : isBd a1) (h_1 : 0 ≤ x3 ∧ x3 < 4) (h_2 : Wp X d 97 50 [some (mR 53), some (mR a1), some (mI x2), some (mI (w32 (x3 + 1)))] [] (uS s 65 x3.toNat (-1)) Q) : Wp X d 97 55 [some (mR 53), some (mR a1), some (mI x2), some (mI x3)] [] s Q := Wp_step k97 f97_55 (Wp_step k97 f97_56 ⟨kf_53, 65, rf_53_6, Wp_step k97 f97_59 (Wp_step k97 f97_60 (Wp_step k97 f97_61 ⟨4, af_65, h_1, Wp_step k97 f97_62 (Wp_step k97 f97_65 (h_2))⟩))⟩)
theorem b97_68 {X : (Nat → Int) × Nat} {d : Nat} {s : mSt} {Q : mQ} {a1 : Nat} {x2 : Int} {x3 : Int} (h1 : isBd a1) (h_1 : Sp X d 98 [mR 53, mI x2, mI 0, mI 0, mI 0] (uS s 53 3 (-1)) (fun r s' => r = none ∧ Wp X (d + 1) 97 81 [some (mR 53), some (mR a1), some (mI x2), some (mI x3)] [] s' Q)) : Wp X (d + 1) 97 68 [some (mR 53), some (mR a1), some (mI x2), some (mI x3)] [] s Q := Wp_step k97 f97_68 (Wp_step k97 f97_69 (Wp_step k97 f97_70 ⟨kf_53, Wp_step k97 f97_73 (Wp_step k97 f97_74 (Wp_step k97 f97_75 (Wp_step k97 f97_76 (Wp_step k97 f97_77 (Wp_step k97 f97_78 ⟨⟨kf_53, Nat.le_of_ble_eq_true rfl⟩, Nat.le_refl _, _, rfl, Sp_V h_1⟩)))))⟩))
theorem b97_81 {X : (Nat → Int) × Nat} {d : Nat} {s : mSt} {Q : mQ} {a1 : Nat} {x2 : Int} {x3 : Int} (h1 : isBd a1) (h_1 : Q none s) : Wp X d 97 81 [some (mR 53), some (mR a1), some (mI x2), some (mI x3)] [] s Q := Wp_step k97 f97_81 ⟨⟨rfl, Or.inl rfl⟩, h_1⟩
theorem e97 {X : (Nat → Int) × Nat} {d : Nat} {s : mSt} {Q : mQ} {a1 : Nat} (h : Wp X d 97 0 [some (mR 53), some (mR a1), none, none] [] s Q) : Sp X d 97 [mR 53, mR a1] s Q := Sp_of (show mCe 97 = 0 by decide +kernel) (by rw [show mML 97 = 4 by decide +kernel]; rfl) (Nat.le_trans (Nat.le_of_ble_eq_true (show Nat.ble (mArgs _).length 4 = true from rfl)) (show 4 ≤ mML 97 by decide +kernel)) h
-- 98 ClashDay$Trials.goOnWithRow(IIII)V
theorem k98 : mRk 98 = 0 := by decide +kernel
theorem f98_0 : mFetch 98 0 = some (.iload_n 1, 1, 0, 0, 0, 0) := by decide +kernel
theorem f98_1 : mFetch 98 1 = some (.ifCond .eq 8, 3, 9, 0, 0, 0) := by decide +kernel
theorem f98_4 : mFetch 98 4 = some (.iload_n 2, 1, 0, 0, 0, 0) := by decide +kernel
theorem f98_5 : mFetch 98 5 = some (.iconst 4, 1, 0, 0, 0, 0) := by decide +kernel
theorem f98_6 : mFetch 98 6 = some (.if_icmp .lt 54, 3, 60, 0, 0, 0) := by decide +kernel
theorem f98_9 : mFetch 98 9 = some (.iload_n 3, 1, 0, 0, 0, 0) := by decide +kernel
theorem f98_10 : mFetch 98 10 = some (.aload_n 0, 1, 0, 0, 0, 0) := by decide +kernel
theorem f98_11 : mFetch 98 11 = some (.getfield 62, 3, 9, 3, 0, 1) := by decide +kernel
theorem f98_14 : mFetch 98 14 = some (.if_icmp .gt 20, 3, 34, 0, 0, 0) := by decide +kernel
theorem f98_17 : mFetch 98 17 = some (.iload_n 3, 1, 0, 0, 0, 0) := by decide +kernel
theorem f98_18 : mFetch 98 18 = some (.aload_n 0, 1, 0, 0, 0, 0) := by decide +kernel
theorem f98_19 : mFetch 98 19 = some (.getfield 62, 3, 9, 3, 0, 1) := by decide +kernel
theorem f98_22 : mFetch 98 22 = some (.if_icmp .ne 37, 3, 59, 0, 0, 0) := by decide +kernel
theorem f98_25 : mFetch 98 25 = some (.iload 4, 2, 0, 0, 0, 0) := by decide +kernel
theorem f98_27 : mFetch 98 27 = some (.aload_n 0, 1, 0, 0, 0, 0) := by decide +kernel
theorem f98_28 : mFetch 98 28 = some (.getfield 69, 3, 9, 4, 0, 1) := by decide +kernel
theorem f98_31 : mFetch 98 31 = some (.if_icmp .ge 28, 3, 59, 0, 0, 0) := by decide +kernel
theorem f98_34 : mFetch 98 34 = some (.aload_n 0, 1, 0, 0, 0, 0) := by decide +kernel
theorem f98_35 : mFetch 98 35 = some (.iload_n 3, 1, 0, 0, 0, 0) := by decide +kernel
theorem f98_36 : mFetch 98 36 = some (.putfield 62, 3, 9, 3, 0, 1) := by decide +kernel
theorem f98_39 : mFetch 98 39 = some (.aload_n 0, 1, 0, 0, 0, 0) := by decide +kernel
theorem f98_40 : mFetch 98 40 = some (.iload 4, 2, 0, 0, 0, 0) := by decide +kernel
theorem f98_42 : mFetch 98 42 = some (.putfield 69, 3, 9, 4, 0, 1) := by decide +kernel
theorem f98_45 : mFetch 98 45 = some (.aload_n 0, 1, 0, 0, 0, 0) := by decide +kernel
theorem f98_46 : mFetch 98 46 = some (.getfield 22, 3, 9, 6, 2, 1) := by decide +kernel
theorem f98_49 : mFetch 98 49 = some (.iconst 0, 1, 0, 0, 0, 0) := by decide +kernel
theorem f98_50 : mFetch 98 50 = some (.aload_n 0, 1, 0, 0, 0, 0) := by decide +kernel
theorem f98_51 : mFetch 98 51 = some (.getfield 18, 3, 9, 5, 2, 1) := by decide +kernel
theorem f98_54 : mFetch 98 54 = some (.iconst 0, 1, 0, 0, 0, 0) := by decide +kernel
theorem f98_55 : mFetch 98 55 = some (.iconst 4, 1, 0, 0, 0, 0) := by decide +kernel
theorem f98_56 : mFetch 98 56 = some (.invokestatic 72, 3, (-2), 0, 0, 0) := by decide +kernel
theorem f98_59 : mFetch 98 59 = some (.return_, 1, 0, 0, 0, 0) := by decide +kernel
theorem f98_60 : mFetch 98 60 = some (.iconst 0, 1, 0, 0, 0, 0) := by decide +kernel
theorem f98_61 : mFetch 98 61 = some (.istore 5, 2, 0, 0, 0, 0) := by decide +kernel
theorem f98_63 : mFetch 98 63 = some (.iload 5, 2, 0, 0, 0, 0) := by decide +kernel
theorem f98_65 : mFetch 98 65 = some (.aload_n 0, 1, 0, 0, 0, 0) := by decide +kernel
theorem f98_66 : mFetch 98 66 = some (.getfield 12, 3, 9, 2, 2, 1) := by decide +kernel
theorem f98_69 : mFetch 98 69 = some (.getfield 48, 3, 0, 3, 0, 0) := by decide +kernel
theorem f98_72 : mFetch 98 72 = some (.if_icmp .ge 101, 3, 173, 0, 0, 0) := by decide +kernel
theorem f98_75 : mFetch 98 75 = some (.iload_n 1, 1, 0, 0, 0, 0) := by decide +kernel
theorem f98_76 : mFetch 98 76 = some (.iload 5, 2, 0, 0, 0, 0) := by decide +kernel
theorem f98_78 : mFetch 98 78 = some (.ishr, 1, 0, 0, 0, 0) := by decide +kernel
theorem f98_79 : mFetch 98 79 = some (.iconst 1, 1, 0, 0, 0, 0) := by decide +kernel
theorem f98_80 : mFetch 98 80 = some (.iand, 1, 0, 0, 0, 0) := by decide +kernel
theorem f98_81 : mFetch 98 81 = some (.iconst 1, 1, 0, 0, 0, 0) := by decide +kernel
theorem f98_82 : mFetch 98 82 = some (.if_icmp .ne 85, 3, 167, 0, 0, 0) := by decide +kernel
theorem f98_85 : mFetch 98 85 = some (.aload_n 0, 1, 0, 0, 0, 0) := by decide +kernel
theorem f98_86 : mFetch 98 86 = some (.getfield 22, 3, 9, 6, 2, 1) := by decide +kernel
theorem f98_89 : mFetch 98 89 = some (.iload_n 2, 1, 0, 0, 0, 0) := by decide +kernel
theorem f98_90 : mFetch 98 90 = some (.iload 5, 2, 0, 0, 0, 0) := by decide +kernel
theorem f98_92 : mFetch 98 92 = some (.iastore, 1, 0, 0, 0, 0) := by decide +kernel
theorem f98_93 : mFetch 98 93 = some (.iload_n 1, 1, 0, 0, 0, 0) := by decide +kernel
theorem f98_94 : mFetch 98 94 = some (.iconst 1, 1, 0, 0, 0, 0) := by decide +kernel
theorem f98_95 : mFetch 98 95 = some (.iload 5, 2, 0, 0, 0, 0) := by decide +kernel
theorem f98_97 : mFetch 98 97 = some (.ishl, 1, 0, 0, 0, 0) := by decide +kernel
theorem f98_98 : mFetch 98 98 = some (.iconst (-1), 1, 0, 0, 0, 0) := by decide +kernel
theorem f98_99 : mFetch 98 99 = some (.ixor, 1, 0, 0, 0, 0) := by decide +kernel
theorem f98_100 : mFetch 98 100 = some (.iand, 1, 0, 0, 0, 0) := by decide +kernel
theorem f98_101 : mFetch 98 101 = some (.istore 6, 2, 0, 0, 0, 0) := by decide +kernel
theorem f98_103 : mFetch 98 103 = some (.aload_n 0, 1, 0, 0, 0, 0) := by decide +kernel
theorem f98_104 : mFetch 98 104 = some (.getfield 36, 3, 9, 0, 2, 1) := by decide +kernel
theorem f98_107 : mFetch 98 107 = some (.aload_n 0, 1, 0, 0, 0, 0) := by decide +kernel
theorem f98_108 : mFetch 98 108 = some (.getfield 12, 3, 9, 2, 2, 1) := by decide +kernel
theorem f98_111 : mFetch 98 111 = some (.iload 5, 2, 0, 0, 0, 0) := by decide +kernel
theorem f98_113 : mFetch 98 113 = some (.invokevirtual 78, 3, 60, 0, 3, 4) := by decide +kernel
theorem f98_116 : mFetch 98 116 = some (.ifCond .eq 39, 3, 155, 0, 0, 0) := by decide +kernel
theorem f98_119 : mFetch 98 119 = some (.aload_n 0, 1, 0, 0, 0, 0) := by decide +kernel
theorem f98_120 : mFetch 98 120 = some (.iload 6, 2, 0, 0, 0, 0) := by decide +kernel
theorem f98_122 : mFetch 98 122 = some (.iload_n 2, 1, 0, 0, 0, 0) := by decide +kernel
theorem f98_123 : mFetch 98 123 = some (.iconst 1, 1, 0, 0, 0, 0) := by decide +kernel
theorem f98_124 : mFetch 98 124 = some (.iadd, 1, 0, 0, 0, 0) := by decide +kernel
theorem f98_125 : mFetch 98 125 = some (.iload_n 3, 1, 0, 0, 0, 0) := by decide +kernel
theorem f98_126 : mFetch 98 126 = some (.iconst 1, 1, 0, 0, 0, 0) := by decide +kernel
theorem f98_127 : mFetch 98 127 = some (.iadd, 1, 0, 0, 0, 0) := by decide +kernel
theorem f98_128 : mFetch 98 128 = some (.iload 4, 2, 0, 0, 0, 0) := by decide +kernel
theorem f98_130 : mFetch 98 130 = some (.aload_n 0, 1, 0, 0, 0, 0) := by decide +kernel
theorem f98_131 : mFetch 98 131 = some (.getfield 12, 3, 9, 2, 2, 1) := by decide +kernel
theorem f98_134 : mFetch 98 134 = some (.iload 5, 2, 0, 0, 0, 0) := by decide +kernel
theorem f98_136 : mFetch 98 136 = some (.invokevirtual 84, 3, 21, 0, 2, 0) := by decide +kernel
theorem f98_139 : mFetch 98 139 = some (.iadd, 1, 0, 0, 0, 0) := by decide +kernel
theorem f98_140 : mFetch 98 140 = some (.invokevirtual 65, 3, 98, 0, 5, 9) := by decide +kernel
theorem f98_143 : mFetch 98 143 = some (.aload_n 0, 1, 0, 0, 0, 0) := by decide +kernel
theorem f98_144 : mFetch 98 144 = some (.getfield 12, 3, 9, 2, 2, 1) := by decide +kernel
theorem f98_147 : mFetch 98 147 = some (.iload 5, 2, 0, 0, 0, 0) := by decide +kernel
theorem f98_149 : mFetch 98 149 = some (.invokevirtual 87, 3, 24, 0, 2, 0) := by decide +kernel
theorem f98_152 : mFetch 98 152 = some (.goto 15, 3, 167, 0, 0, 0) := by decide +kernel
theorem f98_155 : mFetch 98 155 = some (.aload_n 0, 1, 0, 0, 0, 0) := by decide +kernel
theorem f98_156 : mFetch 98 156 = some (.iload 6, 2, 0, 0, 0, 0) := by decide +kernel
theorem f98_158 : mFetch 98 158 = some (.iload_n 2, 1, 0, 0, 0, 0) := by decide +kernel
theorem f98_159 : mFetch 98 159 = some (.iconst 1, 1, 0, 0, 0, 0) := by decide +kernel
theorem f98_160 : mFetch 98 160 = some (.iadd, 1, 0, 0, 0, 0) := by decide +kernel
theorem f98_161 : mFetch 98 161 = some (.iload_n 3, 1, 0, 0, 0, 0) := by decide +kernel
theorem f98_162 : mFetch 98 162 = some (.iload 4, 2, 0, 0, 0, 0) := by decide +kernel
theorem f98_164 : mFetch 98 164 = some (.invokevirtual 65, 3, 98, 0, 5, 9) := by decide +kernel
theorem f98_167 : mFetch 98 167 = some (.iinc 5 1, 3, 0, 0, 0, 0) := by decide +kernel
theorem f98_170 : mFetch 98 170 = some (.goto (-107), 3, 63, 0, 0, 0) := by decide +kernel
theorem f98_173 : mFetch 98 173 = some (.return_, 1, 0, 0, 0, 0) := by decide +kernel
theorem b98_0 {X : (Nat → Int) × Nat} {d : Nat} {s : mSt} {Q : mQ} {x1 : Int} {x2 : Int} {x3 : Int} {x4 : Int} {l5 : Option mV} {l6 : Option mV} (h_1 : x1 = 0 → Wp X d 98 9 [some (mR 53), some (mI x1), some (mI x2), some (mI x3), some (mI x4), l5, l6] [] s Q) (h_2 : ¬ x1 = 0 → Wp X d 98 4 [some (mR 53), some (mI x1), some (mI x2), some (mI x3), some (mI x4), l5, l6] [] s Q) : Wp X d 98 0 [some (mR 53), some (mI x1), some (mI x2), some (mI x3), some (mI x4), l5, l6] [] s Q := Wp_step k98 f98_0 (Wp_step k98 f98_1 ⟨h_1, h_2⟩)
theorem b98_4 {X : (Nat → Int) × Nat} {d : Nat} {s : mSt} {Q : mQ} {x1 : Int} {x2 : Int} {x3 : Int} {x4 : Int} {l5 : Option mV} {l6 : Option mV} (h_1 : x2 < 4 → Wp X d 98 60 [some (mR 53), some (mI x1), some (mI x2), some (mI x3), some (mI x4), l5, l6] [] s Q) (h_2 : ¬ x2 < 4 → Wp X d 98 9 [some (mR 53), some (mI x1), some (mI x2), some (mI x3), some (mI x4), l5, l6] [] s Q) : Wp X d 98 4 [some (mR 53), some (mI x1), some (mI x2), some (mI x3), some (mI x4), l5, l6] [] s Q := Wp_step k98 f98_4 (Wp_step k98 f98_5 (Wp_step k98 f98_6 ⟨h_1, h_2⟩))
theorem b98_9 {X : (Nat → Int) × Nat} {d : Nat} {s : mSt} {Q : mQ} {x1 : Int} {x2 : Int} {x3 : Int} {x4 : Int} {l5 : Option mV} {l6 : Option mV} (h_1 : (s 53 3) < x3 → Wp X d 98 34 [some (mR 53), some (mI x1), some (mI x2), some (mI x3), some (mI x4), l5, l6] [] s Q) (h_2 : ¬ (s 53 3) < x3 → Wp X d 98 17 [some (mR 53), some (mI x1), some (mI x2), some (mI x3), some (mI x4), l5, l6] [] s Q) : Wp X d 98 9 [some (mR 53), some (mI x1), some (mI x2), some (mI x3), some (mI x4), l5, l6] [] s Q := Wp_step k98 f98_9 (Wp_step k98 f98_10 (Wp_step k98 f98_11 ⟨kf_53, Wp_step k98 f98_14 ⟨h_1, h_2⟩⟩))
theorem b98_17 {X : (Nat → Int) × Nat} {d : Nat} {s : mSt} {Q : mQ} {x1 : Int} {x2 : Int} {x3 : Int} {x4 : Int} {l5 : Option mV} {l6 : Option mV} (h_1 : ¬ x3 = (s 53 3) → Wp X d 98 59 [some (mR 53), some (mI x1), some (mI x2), some (mI x3), some (mI x4), l5, l6] [] s Q) (h_2 : x3 = (s 53 3) → Wp X d 98 25 [some (mR 53), some (mI x1), some (mI x2), some (mI x3), some (mI x4), l5, l6] [] s Q) : Wp X d 98 17 [some (mR 53), some (mI x1), some (mI x2), some (mI x3), some (mI x4), l5, l6] [] s Q := Wp_step k98 f98_17 (Wp_step k98 f98_18 (Wp_step k98 f98_19 ⟨kf_53, Wp_step k98 f98_22 ⟨h_1, h_2⟩⟩))
theorem b98_25 {X : (Nat → Int) × Nat} {d : Nat} {s : mSt} {Q : mQ} {x1 : Int} {x2 : Int} {x3 : Int} {x4 : Int} {l5 : Option mV} {l6 : Option mV} (h_1 : (s 53 4) ≤ x4 → Wp X d 98 59 [some (mR 53), some (mI x1), some (mI x2), some (mI x3), some (mI x4), l5, l6] [] s Q) (h_2 : ¬ (s 53 4) ≤ x4 → Wp X d 98 34 [some (mR 53), some (mI x1), some (mI x2), some (mI x3), some (mI x4), l5, l6] [] s Q) : Wp X d 98 25 [some (mR 53), some (mI x1), some (mI x2), some (mI x3), some (mI x4), l5, l6] [] s Q := Wp_step k98 f98_25 (Wp_step k98 f98_27 (Wp_step k98 f98_28 ⟨kf_53, Wp_step k98 f98_31 ⟨h_1, h_2⟩⟩))
theorem b98_34 {X : (Nat → Int) × Nat} {d : Nat} {s : mSt} {Q : mQ} {x1 : Int} {x2 : Int} {x3 : Int} {x4 : Int} {l5 : Option mV} {l6 : Option mV} (h_1 : Wp X (d + 1) 98 59 [some (mR 53), some (mI x1), some (mI x2), some (mI x3), some (mI x4), l5, l6] [] (cS (uS (uS s 53 3 x3) 53 4 x4) 65 0 64 0 4) Q) : Wp X (d + 1) 98 34 [some (mR 53), some (mI x1), some (mI x2), some (mI x3), some (mI x4), l5, l6] [] s Q := Wp_step k98 f98_34 (Wp_step k98 f98_35 (Wp_step k98 f98_36 ⟨kf_53, Wp_step k98 f98_39 (Wp_step k98 f98_40 (Wp_step k98 f98_42 ⟨kf_53, Wp_step k98 f98_45 (Wp_step k98 f98_46 ⟨kf_53, 65, rf_53_6, Wp_step k98 f98_49 (Wp_step k98 f98_50 (Wp_step k98 f98_51 ⟨kf_53, 64, rf_53_5, Wp_step k98 f98_54 (Wp_step k98 f98_55 (Wp_step k98 f98_56 ⟨⟨Nat.succ_pos _, Nat.le_of_ble_eq_true rfl⟩, ⟨4, af_65, ⟨by decide, by decide, by decide⟩⟩, ⟨4, af_64, ⟨by decide, by decide⟩⟩, h_1⟩))⟩))⟩)⟩))⟩))
theorem b98_59 {X : (Nat → Int) × Nat} {d : Nat} {s : mSt} {Q : mQ} {x1 : Int} {x2 : Int} {x3 : Int} {x4 : Int} {l5 : Option mV} {l6 : Option mV} (h_1 : Q none s) : Wp X d 98 59 [some (mR 53), some (mI x1), some (mI x2), some (mI x3), some (mI x4), l5, l6] [] s Q := Wp_step k98 f98_59 ⟨⟨rfl, Or.inl rfl⟩, h_1⟩
theorem b98_60 {X : (Nat → Int) × Nat} {d : Nat} {s : mSt} {Q : mQ} {x1 : Int} {x2 : Int} {x3 : Int} {x4 : Int} {l5 : Option mV} {l6 : Option mV} (h_1 : Wp X d 98 63 [some (mR 53), some (mI x1), some (mI x2), some (mI x3), some (mI x4), some (mI 0), l6] [] s Q) : Wp X d 98 60 [some (mR 53), some (mI x1), some (mI x2), some (mI x3), some (mI x4), l5, l6] [] s Q := Wp_step k98 f98_60 (Wp_step k98 f98_61 (h_1))
theorem b98_63 {X : (Nat → Int) × Nat} {d : Nat} {s : mSt} {Q : mQ} {x1 : Int} {x2 : Int} {x3 : Int} {x4 : Int} {x5 : Int} {l6 : Option mV} (h_1 : (s 54 3) ≤ x5 → Wp X d 98 173 [some (mR 53), some (mI x1), some (mI x2), some (mI x3), some (mI x4), some (mI x5), l6] [] s Q) (h_2 : ¬ (s 54 3) ≤ x5 → Wp X d 98 75 [some (mR 53), some (mI x1), some (mI x2), some (mI x3), some (mI x4), some (mI x5), l6] [] s Q) : Wp X d 98 63 [some (mR 53), some (mI x1), some (mI x2), some (mI x3), some (mI x4), some (mI x5), l6] [] s Q := Wp_step k98 f98_63 (Wp_step k98 f98_65 (Wp_step k98 f98_66 ⟨kf_53, 54, rf_53_2, Wp_step k98 f98_69 ⟨kf_54, Wp_step k98 f98_72 ⟨h_1, h_2⟩⟩⟩))
theorem b98_75 {X : (Nat → Int) × Nat} {d : Nat} {s : mSt} {Q : mQ} {x1 : Int} {x2 : Int} {x3 : Int} {x4 : Int} {x5 : Int} {l6 : Option mV} (h_1 : ¬ (iAnd (iShr x1 x5) 1) = 1 → Wp X d 98 167 [some (mR 53), some (mI x1), some (mI x2), some (mI x3), some (mI x4), some (mI x5), l6] [] s Q) (h_2 : (iAnd (iShr x1 x5) 1) = 1 → Wp X d 98 85 [some (mR 53), some (mI x1), some (mI x2), some (mI x3), some (mI x4), some (mI x5), l6] [] s Q) : Wp X d 98 75 [some (mR 53), some (mI x1), some (mI x2), some (mI x3), some (mI x4), some (mI x5), l6] [] s Q := Wp_step k98 f98_75 (Wp_step k98 f98_76 (Wp_step k98 f98_78 (Wp_step k98 f98_79 (Wp_step k98 f98_80 (Wp_step k98 f98_81 (Wp_step k98 f98_82 ⟨h_1, h_2⟩))))))
theorem b98_85 {X : (Nat → Int) × Nat} {d : Nat} {s : mSt} {Q : mQ} {x1 : Int} {x2 : Int} {x3 : Int} {x4 : Int} {x5 : Int} {l6 : Option mV} (h_1 : 0 ≤ x2 ∧ x2 < 4) (h_2 : Sp X d 60 [mR 44, mR 54, mI x5] (uS s 65 x2.toNat x5) (fun r s' => ∃ v : Int, r = some (mI v) ∧ Wp X (d + 1) 98 116 [some (mR 53), some (mI x1), some (mI x2), some (mI x3), some (mI x4), some (mI x5), some (mI (iAnd x1 (iXor (iShl 1 x5) (-1))))] [mI v] s' Q)) : Wp X (d + 1) 98 85 [some (mR 53), some (mI x1), some (mI x2), some (mI x3), some (mI x4), some (mI x5), l6] [] s Q := Wp_step k98 f98_85 (Wp_step k98 f98_86 ⟨kf_53, 65, rf_53_6, Wp_step k98 f98_89 (Wp_step k98 f98_90 (Wp_step k98 f98_92 ⟨4, af_65, h_1, Wp_step k98 f98_93 (Wp_step k98 f98_94 (Wp_step k98 f98_95 (Wp_step k98 f98_97 (Wp_step k98 f98_98 (Wp_step k98 f98_99 (Wp_step k98 f98_100 (Wp_step k98 f98_101 (Wp_step k98 f98_103 (Wp_step k98 f98_104 ⟨kf_53, 44, rf_53_0, Wp_step k98 f98_107 (Wp_step k98 f98_108 ⟨kf_53, 54, rf_53_2, Wp_step k98 f98_111 (Wp_step k98 f98_113 ⟨⟨kf_44, Nat.le_of_ble_eq_true rfl⟩, Nat.le_refl _, _, rfl, Sp_E h_2⟩)⟩)⟩)))))))))⟩))⟩)
theorem b98_116 {X : (Nat → Int) × Nat} {d : Nat} {s : mSt} {Q : mQ} {x1 : Int} {x2 : Int} {x3 : Int} {x4 : Int} {x5 : Int} {x6 : Int} {xt0 : Int} (h_1 : xt0 = 0 → Wp X d 98 155 [some (mR 53), some (mI x1), some (mI x2), some (mI x3), some (mI x4), some (mI x5), some (mI x6)] [] s Q) (h_2 : ¬ xt0 = 0 → Wp X d 98 119 [some (mR 53), some (mI x1), some (mI x2), some (mI x3), some (mI x4), some (mI x5), some (mI x6)] [] s Q) : Wp X d 98 116 [some (mR 53), some (mI x1), some (mI x2), some (mI x3), some (mI x4), some (mI x5), some (mI x6)] [mI xt0] s Q := Wp_step k98 f98_116 ⟨h_1, h_2⟩
theorem b98_119 {X : (Nat → Int) × Nat} {d : Nat} {s : mSt} {Q : mQ} {x1 : Int} {x2 : Int} {x3 : Int} {x4 : Int} {x5 : Int} {x6 : Int} (h_1 : Sp X d 21 [mR 54, mI x5] s (fun r s' => ∃ v : Int, r = some (mI v) ∧ Wp X (d + 1) 98 139 [some (mR 53), some (mI x1), some (mI x2), some (mI x3), some (mI x4), some (mI x5), some (mI x6)] [mI v, mI x4, mI (w32 (x3 + 1)), mI (w32 (x2 + 1)), mI x6, mR 53] s' Q)) : Wp X (d + 1) 98 119 [some (mR 53), some (mI x1), some (mI x2), some (mI x3), some (mI x4), some (mI x5), some (mI x6)] [] s Q := Wp_step k98 f98_119 (Wp_step k98 f98_120 (Wp_step k98 f98_122 (Wp_step k98 f98_123 (Wp_step k98 f98_124 (Wp_step k98 f98_125 (Wp_step k98 f98_126 (Wp_step k98 f98_127 (Wp_step k98 f98_128 (Wp_step k98 f98_130 (Wp_step k98 f98_131 ⟨kf_53, 54, rf_53_2, Wp_step k98 f98_134 (Wp_step k98 f98_136 ⟨⟨kf_54, Nat.le_of_ble_eq_true rfl⟩, Nat.le_refl _, _, rfl, Sp_E h_1⟩)⟩))))))))))
theorem b98_139 {X : (Nat → Int) × Nat} {d : Nat} {s : mSt} {Q : mQ} {x1 : Int} {x2 : Int} {x3 : Int} {x4 : Int} {x5 : Int} {x6 : Int} {xt1 : Int} {xt2 : Int} {xt3 : Int} {xt4 : Int} {xt5 : Int} (h_1 : Sp X d 98 [mR 53, mI xt1, mI xt2, mI xt3, mI (w32 (xt4 + xt5))] s (fun r s' => r = none ∧ Wp X (d + 1) 98 143 [some (mR 53), some (mI x1), some (mI x2), some (mI x3), some (mI x4), some (mI x5), some (mI x6)] [] s' Q)) : Wp X (d + 1) 98 139 [some (mR 53), some (mI x1), some (mI x2), some (mI x3), some (mI x4), some (mI x5), some (mI x6)] [mI xt5, mI xt4, mI xt3, mI xt2, mI xt1, mR 53] s Q := Wp_step k98 f98_139 (Wp_step k98 f98_140 ⟨⟨kf_53, Nat.le_of_ble_eq_true rfl⟩, Nat.le_refl _, _, rfl, Sp_V h_1⟩)
theorem b98_143 {X : (Nat → Int) × Nat} {d : Nat} {s : mSt} {Q : mQ} {x1 : Int} {x2 : Int} {x3 : Int} {x4 : Int} {x5 : Int} {x6 : Int} (h_1 : Sp X d 24 [mR 54, mI x5] s (fun r s' => r = none ∧ Wp X (d + 1) 98 152 [some (mR 53), some (mI x1), some (mI x2), some (mI x3), some (mI x4), some (mI x5), some (mI x6)] [] s' Q)) : Wp X (d + 1) 98 143 [some (mR 53), some (mI x1), some (mI x2), some (mI x3), some (mI x4), some (mI x5), some (mI x6)] [] s Q := Wp_step k98 f98_143 (Wp_step k98 f98_144 ⟨kf_53, 54, rf_53_2, Wp_step k98 f98_147 (Wp_step k98 f98_149 ⟨⟨kf_54, Nat.le_of_ble_eq_true rfl⟩, Nat.le_refl _, _, rfl, Sp_V h_1⟩)⟩)
theorem b98_152 {X : (Nat → Int) × Nat} {d : Nat} {s : mSt} {Q : mQ} {x1 : Int} {x2 : Int} {x3 : Int} {x4 : Int} {x5 : Int} {x6 : Int} (h_1 : Wp X d 98 167 [some (mR 53), some (mI x1), some (mI x2), some (mI x3), some (mI x4), some (mI x5), some (mI x6)] [] s Q) : Wp X d 98 152 [some (mR 53), some (mI x1), some (mI x2), some (mI x3), some (mI x4), some (mI x5), some (mI x6)] [] s Q := Wp_step k98 f98_152 (h_1)
theorem b98_155 {X : (Nat → Int) × Nat} {d : Nat} {s : mSt} {Q : mQ} {x1 : Int} {x2 : Int} {x3 : Int} {x4 : Int} {x5 : Int} {x6 : Int} (h_1 : Sp X d 98 [mR 53, mI x6, mI (w32 (x2 + 1)), mI x3, mI x4] s (fun r s' => r = none ∧ Wp X (d + 1) 98 167 [some (mR 53), some (mI x1), some (mI x2), some (mI x3), some (mI x4), some (mI x5), some (mI x6)] [] s' Q)) : Wp X (d + 1) 98 155 [some (mR 53), some (mI x1), some (mI x2), some (mI x3), some (mI x4), some (mI x5), some (mI x6)] [] s Q := Wp_step k98 f98_155 (Wp_step k98 f98_156 (Wp_step k98 f98_158 (Wp_step k98 f98_159 (Wp_step k98 f98_160 (Wp_step k98 f98_161 (Wp_step k98 f98_162 (Wp_step k98 f98_164 ⟨⟨kf_53, Nat.le_of_ble_eq_true rfl⟩, Nat.le_refl _, _, rfl, Sp_V h_1⟩)))))))
theorem b98_167 {X : (Nat → Int) × Nat} {d : Nat} {s : mSt} {Q : mQ} {x1 : Int} {x2 : Int} {x3 : Int} {x4 : Int} {x5 : Int} {l6 : Option mV} (h_1 : Wp X d 98 63 [some (mR 53), some (mI x1), some (mI x2), some (mI x3), some (mI x4), some (mI (w32 (x5 + 1))), l6] [] s Q) : Wp X d 98 167 [some (mR 53), some (mI x1), some (mI x2), some (mI x3), some (mI x4), some (mI x5), l6] [] s Q := Wp_step k98 f98_167 (Wp_step k98 f98_170 (h_1))
theorem b98_173 {X : (Nat → Int) × Nat} {d : Nat} {s : mSt} {Q : mQ} {x1 : Int} {x2 : Int} {x3 : Int} {x4 : Int} {x5 : Int} {l6 : Option mV} (h_1 : Q none s) : Wp X d 98 173 [some (mR 53), some (mI x1), some (mI x2), some (mI x3), some (mI x4), some (mI x5), l6] [] s Q := Wp_step k98 f98_173 ⟨⟨rfl, Or.inl rfl⟩, h_1⟩
theorem e98 {X : (Nat → Int) × Nat} {d : Nat} {s : mSt} {Q : mQ} {x1 : Int} {x2 : Int} {x3 : Int} {x4 : Int} (h : Wp X d 98 0 [some (mR 53), some (mI x1), some (mI x2), some (mI x3), some (mI x4), none, none] [] s Q) : Sp X d 98 [mR 53, mI x1, mI x2, mI x3, mI x4] s Q := Sp_of (show mCe 98 = 0 by decide +kernel) (by rw [show mML 98 = 7 by decide +kernel]; rfl) (Nat.le_trans (Nat.le_of_ble_eq_true (show Nat.ble (mArgs _).length 7 = true from rfl)) (show 7 ≤ mML 98 by decide +kernel)) h
-- 99 ClashDay$Trials.worstDelay(LClashDay$Board;I)I
theorem k99 : mRk 99 = 1 := by decide +kernel
theorem f99_0 : mFetch 99 0 = some (.iconst (-1), 1, 0, 0, 0, 0) := by decide +kernel
theorem f99_1 : mFetch 99 1 = some (.istore_n 3, 1, 0, 0, 0, 0) := by decide +kernel
theorem f99_2 : mFetch 99 2 = some (.iconst (-1), 1, 0, 0, 0, 0) := by decide +kernel
theorem f99_3 : mFetch 99 3 = some (.istore 4, 2, 0, 0, 0, 0) := by decide +kernel
theorem f99_5 : mFetch 99 5 = some (.iconst 0, 1, 0, 0, 0, 0) := by decide +kernel
theorem f99_6 : mFetch 99 6 = some (.istore 5, 2, 0, 0, 0, 0) := by decide +kernel
theorem f99_8 : mFetch 99 8 = some (.iload 5, 2, 0, 0, 0, 0) := by decide +kernel
theorem f99_10 : mFetch 99 10 = some (.aload_n 1, 1, 0, 0, 0, 0) := by decide +kernel
theorem f99_11 : mFetch 99 11 = some (.getfield 91, 3, 0, 2, 0, 0) := by decide +kernel
theorem f99_14 : mFetch 99 14 = some (.if_icmp .ge 42, 3, 56, 0, 0, 0) := by decide +kernel
theorem f99_17 : mFetch 99 17 = some (.aload_n 1, 1, 0, 0, 0, 0) := by decide +kernel
theorem f99_18 : mFetch 99 18 = some (.iload 5, 2, 0, 0, 0, 0) := by decide +kernel
theorem f99_20 : mFetch 99 20 = some (.invokevirtual 94, 3, 25, 0, 2, 0) := by decide +kernel
theorem f99_23 : mFetch 99 23 = some (.ifCond .eq 27, 3, 50, 0, 0, 0) := by decide +kernel
theorem f99_26 : mFetch 99 26 = some (.aload_n 0, 1, 0, 0, 0, 0) := by decide +kernel
theorem f99_27 : mFetch 99 27 = some (.aload_n 1, 1, 0, 0, 0, 0) := by decide +kernel
theorem f99_28 : mFetch 99 28 = some (.iload 5, 2, 0, 0, 0, 0) := by decide +kernel
theorem f99_30 : mFetch 99 30 = some (.iload_n 2, 1, 0, 0, 0, 0) := by decide +kernel
theorem f99_31 : mFetch 99 31 = some (.invokevirtual 97, 3, 100, 0, 4, 9) := by decide +kernel
theorem f99_34 : mFetch 99 34 = some (.istore 6, 2, 0, 0, 0, 0) := by decide +kernel
theorem f99_36 : mFetch 99 36 = some (.iload 6, 2, 0, 0, 0, 0) := by decide +kernel
theorem f99_38 : mFetch 99 38 = some (.iload 4, 2, 0, 0, 0, 0) := by decide +kernel
theorem f99_40 : mFetch 99 40 = some (.if_icmp .le 10, 3, 50, 0, 0, 0) := by decide +kernel
theorem f99_43 : mFetch 99 43 = some (.iload 6, 2, 0, 0, 0, 0) := by decide +kernel
theorem f99_45 : mFetch 99 45 = some (.istore 4, 2, 0, 0, 0, 0) := by decide +kernel
theorem f99_47 : mFetch 99 47 = some (.iload 5, 2, 0, 0, 0, 0) := by decide +kernel
theorem f99_49 : mFetch 99 49 = some (.istore_n 3, 1, 0, 0, 0, 0) := by decide +kernel
theorem f99_50 : mFetch 99 50 = some (.iinc 5 1, 3, 0, 0, 0, 0) := by decide +kernel
theorem f99_53 : mFetch 99 53 = some (.goto (-45), 3, 8, 0, 0, 0) := by decide +kernel
theorem f99_56 : mFetch 99 56 = some (.iload_n 3, 1, 0, 0, 0, 0) := by decide +kernel
theorem f99_57 : mFetch 99 57 = some (.ireturn, 1, 0, 0, 0, 0) := by decide +kernel
theorem b99_0 {X : (Nat → Int) × Nat} {d : Nat} {s : mSt} {Q : mQ} {a1 : Nat} {x2 : Int} {l3 : Option mV} {l4 : Option mV} {l5 : Option mV} {l6 : Option mV} (h1 : isBd a1) (h_1 : Wp X d 99 8 [some (mR 53), some (mR a1), some (mI x2), some (mI (-1)), some (mI (-1)), some (mI 0), l6] [] s Q) : Wp X d 99 0 [some (mR 53), some (mR a1), some (mI x2), l3, l4, l5, l6] [] s Q := Wp_step k99 f99_0 (Wp_step k99 f99_1 (Wp_step k99 f99_2 (Wp_step k99 f99_3 (Wp_step k99 f99_5 (Wp_step k99 f99_6 (h_1))))))
theorem b99_8 {X : (Nat → Int) × Nat} {d : Nat} {s : mSt} {Q : mQ} {a1 : Nat} {x2 : Int} {x3 : Int} {x4 : Int} {x5 : Int} {l6 : Option mV} (h1 : isBd a1) (h_1 : (s a1 2) ≤ x5 → Wp X d 99 56 [some (mR 53), some (mR a1), some (mI x2), some (mI x3), some (mI x4), some (mI x5), l6] [] s Q) (h_2 : ¬ (s a1 2) ≤ x5 → Wp X d 99 17 [some (mR 53), some (mR a1), some (mI x2), some (mI x3), some (mI x4), some (mI x5), l6] [] s Q) : Wp X d 99 8 [some (mR 53), some (mR a1), some (mI x2), some (mI x3), some (mI x4), some (mI x5), l6] [] s Q := Wp_step k99 f99_8 (Wp_step k99 f99_10 (Wp_step k99 f99_11 ⟨(bd_k h1), Wp_step k99 f99_14 ⟨h_1, h_2⟩⟩))
theorem b99_17 {X : (Nat → Int) × Nat} {d : Nat} {s : mSt} {Q : mQ} {a1 : Nat} {x2 : Int} {x3 : Int} {x4 : Int} {x5 : Int} {l6 : Option mV} (h1 : isBd a1) (h_1 : Sp X d 25 [mR a1, mI x5] s (fun r s' => ∃ v : Int, r = some (mI v) ∧ Wp X (d + 1) 99 23 [some (mR 53), some (mR a1), some (mI x2), some (mI x3), some (mI x4), some (mI x5), l6] [mI v] s' Q)) : Wp X (d + 1) 99 17 [some (mR 53), some (mR a1), some (mI x2), some (mI x3), some (mI x4), some (mI x5), l6] [] s Q := Wp_step k99 f99_17 (Wp_step k99 f99_18 (Wp_step k99 f99_20 ⟨⟨(bd_k h1), Nat.le_of_ble_eq_true rfl⟩, Nat.le_refl _, _, rfl, Sp_E h_1⟩))
theorem b99_23 {X : (Nat → Int) × Nat} {d : Nat} {s : mSt} {Q : mQ} {a1 : Nat} {x2 : Int} {x3 : Int} {x4 : Int} {x5 : Int} {l6 : Option mV} {xt0 : Int} (h1 : isBd a1) (h_1 : xt0 = 0 → Wp X d 99 50 [some (mR 53), some (mR a1), some (mI x2), some (mI x3), some (mI x4), some (mI x5), l6] [] s Q) (h_2 : ¬ xt0 = 0 → Wp X d 99 26 [some (mR 53), some (mR a1), some (mI x2), some (mI x3), some (mI x4), some (mI x5), l6] [] s Q) : Wp X d 99 23 [some (mR 53), some (mR a1), some (mI x2), some (mI x3), some (mI x4), some (mI x5), l6] [mI xt0] s Q := Wp_step k99 f99_23 ⟨h_1, h_2⟩
theorem b99_26 {X : (Nat → Int) × Nat} {d : Nat} {s : mSt} {Q : mQ} {a1 : Nat} {x2 : Int} {x3 : Int} {x4 : Int} {x5 : Int} {l6 : Option mV} (h1 : isBd a1) (h_1 : Sp X d 100 [mR 53, mR a1, mI x5, mI x2] s (fun r s' => ∃ v : Int, r = some (mI v) ∧ Wp X (d + 1) 99 34 [some (mR 53), some (mR a1), some (mI x2), some (mI x3), some (mI x4), some (mI x5), l6] [mI v] s' Q)) : Wp X (d + 1) 99 26 [some (mR 53), some (mR a1), some (mI x2), some (mI x3), some (mI x4), some (mI x5), l6] [] s Q := Wp_step k99 f99_26 (Wp_step k99 f99_27 (Wp_step k99 f99_28 (Wp_step k99 f99_30 (Wp_step k99 f99_31 ⟨⟨kf_53, Nat.le_of_ble_eq_true rfl⟩, Nat.le_refl _, _, rfl, Sp_E h_1⟩))))
theorem b99_34 {X : (Nat → Int) × Nat} {d : Nat} {s : mSt} {Q : mQ} {a1 : Nat} {x2 : Int} {x3 : Int} {x4 : Int} {x5 : Int} {l6 : Option mV} {xt0 : Int} (h1 : isBd a1) (h_1 : xt0 ≤ x4 → Wp X d 99 50 [some (mR 53), some (mR a1), some (mI x2), some (mI x3), some (mI x4), some (mI x5), some (mI xt0)] [] s Q) (h_2 : ¬ xt0 ≤ x4 → Wp X d 99 43 [some (mR 53), some (mR a1), some (mI x2), some (mI x3), some (mI x4), some (mI x5), some (mI xt0)] [] s Q) : Wp X d 99 34 [some (mR 53), some (mR a1), some (mI x2), some (mI x3), some (mI x4), some (mI x5), l6] [mI xt0] s Q := Wp_step k99 f99_34 (Wp_step k99 f99_36 (Wp_step k99 f99_38 (Wp_step k99 f99_40 ⟨h_1, h_2⟩)))
theorem b99_43 {X : (Nat → Int) × Nat} {d : Nat} {s : mSt} {Q : mQ} {a1 : Nat} {x2 : Int} {x3 : Int} {x4 : Int} {x5 : Int} {x6 : Int} (h1 : isBd a1) (h_1 : Wp X d 99 50 [some (mR 53), some (mR a1), some (mI x2), some (mI x5), some (mI x6), some (mI x5), some (mI x6)] [] s Q) : Wp X d 99 43 [some (mR 53), some (mR a1), some (mI x2), some (mI x3), some (mI x4), some (mI x5), some (mI x6)] [] s Q := Wp_step k99 f99_43 (Wp_step k99 f99_45 (Wp_step k99 f99_47 (Wp_step k99 f99_49 (h_1))))
theorem b99_50 {X : (Nat → Int) × Nat} {d : Nat} {s : mSt} {Q : mQ} {a1 : Nat} {x2 : Int} {x3 : Int} {x4 : Int} {x5 : Int} {l6 : Option mV} (h1 : isBd a1) (h_1 : Wp X d 99 8 [some (mR 53), some (mR a1), some (mI x2), some (mI x3), some (mI x4), some (mI (w32 (x5 + 1))), l6] [] s Q) : Wp X d 99 50 [some (mR 53), some (mR a1), some (mI x2), some (mI x3), some (mI x4), some (mI x5), l6] [] s Q := Wp_step k99 f99_50 (Wp_step k99 f99_53 (h_1))
theorem b99_56 {X : (Nat → Int) × Nat} {d : Nat} {s : mSt} {Q : mQ} {a1 : Nat} {x2 : Int} {x3 : Int} {x4 : Int} {x5 : Int} {l6 : Option mV} (h1 : isBd a1) (h_1 : Q (some (mI x3)) s) : Wp X d 99 56 [some (mR 53), some (mR a1), some (mI x2), some (mI x3), some (mI x4), some (mI x5), l6] [] s Q := Wp_step k99 f99_56 (Wp_step k99 f99_57 ⟨⟨rfl, trivial⟩, h_1⟩)
theorem e99 {X : (Nat → Int) × Nat} {d : Nat} {s : mSt} {Q : mQ} {a1 : Nat} {x2 : Int} (h : Wp X d 99 0 [some (mR 53), some (mR a1), some (mI x2), none, none, none, none] [] s Q) : Sp X d 99 [mR 53, mR a1, mI x2] s Q := Sp_of (show mCe 99 = 0 by decide +kernel) (by rw [show mML 99 = 7 by decide +kernel]; rfl) (Nat.le_trans (Nat.le_of_ble_eq_true (show Nat.ble (mArgs _).length 7 = true from rfl)) (show 7 ≤ mML 99 by decide +kernel)) h
-- 100 ClashDay$Trials.harmed(LClashDay$Board;II)I
theorem k100 : mRk 100 = 1 := by decide +kernel
theorem f100_0 : mFetch 100 0 = some (.aload_n 0, 1, 0, 0, 0, 0) := by decide +kernel
theorem f100_1 : mFetch 100 1 = some (.getfield 12, 3, 9, 2, 2, 1) := by decide +kernel
theorem f100_4 : mFetch 100 4 = some (.aload_n 1, 1, 0, 0, 0, 0) := by decide +kernel
theorem f100_5 : mFetch 100 5 = some (.invokevirtual 44, 3, 3, 0, 2, 0) := by decide +kernel
theorem f100_8 : mFetch 100 8 = some (.aload_n 0, 1, 0, 0, 0, 0) := by decide +kernel
theorem f100_9 : mFetch 100 9 = some (.getfield 12, 3, 9, 2, 2, 1) := by decide +kernel
theorem f100_12 : mFetch 100 12 = some (.iload_n 2, 1, 0, 0, 0, 0) := by decide +kernel
theorem f100_13 : mFetch 100 13 = some (.iload_n 3, 1, 0, 0, 0, 0) := by decide +kernel
theorem f100_14 : mFetch 100 14 = some (.invokevirtual 101, 3, 26, 0, 3, 0) := by decide +kernel
theorem f100_17 : mFetch 100 17 = some (.iconst 0, 1, 0, 0, 0, 0) := by decide +kernel
theorem f100_18 : mFetch 100 18 = some (.istore 4, 2, 0, 0, 0, 0) := by decide +kernel
theorem f100_20 : mFetch 100 20 = some (.iconst 0, 1, 0, 0, 0, 0) := by decide +kernel
theorem f100_21 : mFetch 100 21 = some (.istore 5, 2, 0, 0, 0, 0) := by decide +kernel
theorem f100_23 : mFetch 100 23 = some (.iload 5, 2, 0, 0, 0, 0) := by decide +kernel
theorem f100_25 : mFetch 100 25 = some (.aload_n 0, 1, 0, 0, 0, 0) := by decide +kernel
theorem f100_26 : mFetch 100 26 = some (.getfield 12, 3, 9, 2, 2, 1) := by decide +kernel
theorem f100_29 : mFetch 100 29 = some (.getfield 48, 3, 0, 3, 0, 0) := by decide +kernel
theorem f100_32 : mFetch 100 32 = some (.if_icmp .ge 50, 3, 82, 0, 0, 0) := by decide +kernel
theorem f100_35 : mFetch 100 35 = some (.aload_n 0, 1, 0, 0, 0, 0) := by decide +kernel
theorem f100_36 : mFetch 100 36 = some (.getfield 12, 3, 9, 2, 2, 1) := by decide +kernel
theorem f100_39 : mFetch 100 39 = some (.iload 5, 2, 0, 0, 0, 0) := by decide +kernel
theorem f100_41 : mFetch 100 41 = some (.invokevirtual 58, 3, 10, 0, 2, 0) := by decide +kernel
theorem f100_44 : mFetch 100 44 = some (.ifCond .eq 32, 3, 76, 0, 0, 0) := by decide +kernel
theorem f100_47 : mFetch 100 47 = some (.aload_n 0, 1, 0, 0, 0, 0) := by decide +kernel
theorem f100_48 : mFetch 100 48 = some (.getfield 36, 3, 9, 0, 2, 1) := by decide +kernel
theorem f100_51 : mFetch 100 51 = some (.aload_n 0, 1, 0, 0, 0, 0) := by decide +kernel
theorem f100_52 : mFetch 100 52 = some (.getfield 12, 3, 9, 2, 2, 1) := by decide +kernel
theorem f100_55 : mFetch 100 55 = some (.iload 5, 2, 0, 0, 0, 0) := by decide +kernel
theorem f100_57 : mFetch 100 57 = some (.aload_n 0, 1, 0, 0, 0, 0) := by decide +kernel
theorem f100_58 : mFetch 100 58 = some (.getfield 12, 3, 9, 2, 2, 1) := by decide +kernel
theorem f100_61 : mFetch 100 61 = some (.getfield 105, 3, 0, 8, 2, 0) := by decide +kernel
theorem f100_64 : mFetch 100 64 = some (.iload 5, 2, 0, 0, 0, 0) := by decide +kernel
theorem f100_66 : mFetch 100 66 = some (.iaload, 1, 0, 0, 0, 0) := by decide +kernel
theorem f100_67 : mFetch 100 67 = some (.invokevirtual 108, 3, 59, 0, 4, 4) := by decide +kernel
theorem f100_70 : mFetch 100 70 = some (.ifCond .ne 6, 3, 76, 0, 0, 0) := by decide +kernel
theorem f100_73 : mFetch 100 73 = some (.iinc 4 1, 3, 0, 0, 0, 0) := by decide +kernel
theorem f100_76 : mFetch 100 76 = some (.iinc 5 1, 3, 0, 0, 0, 0) := by decide +kernel
theorem f100_79 : mFetch 100 79 = some (.goto (-56), 3, 23, 0, 0, 0) := by decide +kernel
theorem f100_82 : mFetch 100 82 = some (.iload 4, 2, 0, 0, 0, 0) := by decide +kernel
theorem f100_84 : mFetch 100 84 = some (.ireturn, 1, 0, 0, 0, 0) := by decide +kernel
theorem b100_0 {X : (Nat → Int) × Nat} {d : Nat} {s : mSt} {Q : mQ} {a1 : Nat} {x2 : Int} {x3 : Int} {l4 : Option mV} {l5 : Option mV} (h1 : isBd a1) (h_1 : Sp X d 3 [mR 54, mR a1] s (fun r s' => r = none ∧ Wp X (d + 1) 100 8 [some (mR 53), some (mR a1), some (mI x2), some (mI x3), l4, l5] [] s' Q)) : Wp X (d + 1) 100 0 [some (mR 53), some (mR a1), some (mI x2), some (mI x3), l4, l5] [] s Q := Wp_step k100 f100_0 (Wp_step k100 f100_1 ⟨kf_53, 54, rf_53_2, Wp_step k100 f100_4 (Wp_step k100 f100_5 ⟨⟨kf_54, Nat.le_of_ble_eq_true rfl⟩, Nat.le_refl _, _, rfl, Sp_V h_1⟩)⟩)
theorem b100_8 {X : (Nat → Int) × Nat} {d : Nat} {s : mSt} {Q : mQ} {a1 : Nat} {x2 : Int} {x3 : Int} {l4 : Option mV} {l5 : Option mV} (h1 : isBd a1) (h_1 : Sp X d 26 [mR 54, mI x2, mI x3] s (fun r s' => r = none ∧ Wp X (d + 1) 100 17 [some (mR 53), some (mR a1), some (mI x2), some (mI x3), l4, l5] [] s' Q)) : Wp X (d + 1) 100 8 [some (mR 53), some (mR a1), some (mI x2), some (mI x3), l4, l5] [] s Q := Wp_step k100 f100_8 (Wp_step k100 f100_9 ⟨kf_53, 54, rf_53_2, Wp_step k100 f100_12 (Wp_step k100 f100_13 (Wp_step k100 f100_14 ⟨⟨kf_54, Nat.le_of_ble_eq_true rfl⟩, Nat.le_refl _, _, rfl, Sp_V h_1⟩))⟩)
theorem b100_17 {X : (Nat → Int) × Nat} {d : Nat} {s : mSt} {Q : mQ} {a1 : Nat} {x2 : Int} {x3 : Int} {l4 : Option mV} {l5 : Option mV} (h1 : isBd a1) (h_1 : Wp X d 100 23 [some (mR 53), some (mR a1), some (mI x2), some (mI x3), some (mI 0), some (mI 0)] [] s Q) : Wp X d 100 17 [some (mR 53), some (mR a1), some (mI x2), some (mI x3), l4, l5] [] s Q := Wp_step k100 f100_17 (Wp_step k100 f100_18 (Wp_step k100 f100_20 (Wp_step k100 f100_21 (h_1))))
theorem b100_23 {X : (Nat → Int) × Nat} {d : Nat} {s : mSt} {Q : mQ} {a1 : Nat} {x2 : Int} {x3 : Int} {x4 : Int} {x5 : Int} (h1 : isBd a1) (h_1 : (s 54 3) ≤ x5 → Wp X d 100 82 [some (mR 53), some (mR a1), some (mI x2), some (mI x3), some (mI x4), some (mI x5)] [] s Q) (h_2 : ¬ (s 54 3) ≤ x5 → Wp X d 100 35 [some (mR 53), some (mR a1), some (mI x2), some (mI x3), some (mI x4), some (mI x5)] [] s Q) : Wp X d 100 23 [some (mR 53), some (mR a1), some (mI x2), some (mI x3), some (mI x4), some (mI x5)] [] s Q := Wp_step k100 f100_23 (Wp_step k100 f100_25 (Wp_step k100 f100_26 ⟨kf_53, 54, rf_53_2, Wp_step k100 f100_29 ⟨kf_54, Wp_step k100 f100_32 ⟨h_1, h_2⟩⟩⟩))
theorem b100_35 {X : (Nat → Int) × Nat} {d : Nat} {s : mSt} {Q : mQ} {a1 : Nat} {x2 : Int} {x3 : Int} {x4 : Int} {x5 : Int} (h1 : isBd a1) (h_1 : Sp X d 10 [mR 54, mI x5] s (fun r s' => ∃ v : Int, r = some (mI v) ∧ Wp X (d + 1) 100 44 [some (mR 53), some (mR a1), some (mI x2), some (mI x3), some (mI x4), some (mI x5)] [mI v] s' Q)) : Wp X (d + 1) 100 35 [some (mR 53), some (mR a1), some (mI x2), some (mI x3), some (mI x4), some (mI x5)] [] s Q := Wp_step k100 f100_35 (Wp_step k100 f100_36 ⟨kf_53, 54, rf_53_2, Wp_step k100 f100_39 (Wp_step k100 f100_41 ⟨⟨kf_54, Nat.le_of_ble_eq_true rfl⟩, Nat.le_refl _, _, rfl, Sp_E h_1⟩)⟩)
theorem b100_44 {X : (Nat → Int) × Nat} {d : Nat} {s : mSt} {Q : mQ} {a1 : Nat} {x2 : Int} {x3 : Int} {x4 : Int} {x5 : Int} {xt0 : Int} (h1 : isBd a1) (h_1 : xt0 = 0 → Wp X d 100 76 [some (mR 53), some (mR a1), some (mI x2), some (mI x3), some (mI x4), some (mI x5)] [] s Q) (h_2 : ¬ xt0 = 0 → Wp X d 100 47 [some (mR 53), some (mR a1), some (mI x2), some (mI x3), some (mI x4), some (mI x5)] [] s Q) : Wp X d 100 44 [some (mR 53), some (mR a1), some (mI x2), some (mI x3), some (mI x4), some (mI x5)] [mI xt0] s Q := Wp_step k100 f100_44 ⟨h_1, h_2⟩
theorem b100_47 {X : (Nat → Int) × Nat} {d : Nat} {s : mSt} {Q : mQ} {a1 : Nat} {x2 : Int} {x3 : Int} {x4 : Int} {x5 : Int} (h1 : isBd a1) (h_1 : 0 ≤ x5 ∧ x5 < 6) (h_2 : Sp X d 59 [mR 44, mR 54, mI x5, mI (s 57 x5.toNat)] s (fun r s' => ∃ v : Int, r = some (mI v) ∧ Wp X (d + 1) 100 70 [some (mR 53), some (mR a1), some (mI x2), some (mI x3), some (mI x4), some (mI x5)] [mI v] s' Q)) : Wp X (d + 1) 100 47 [some (mR 53), some (mR a1), some (mI x2), some (mI x3), some (mI x4), some (mI x5)] [] s Q := Wp_step k100 f100_47 (Wp_step k100 f100_48 ⟨kf_53, 44, rf_53_0, Wp_step k100 f100_51 (Wp_step k100 f100_52 ⟨kf_53, 54, rf_53_2, Wp_step k100 f100_55 (Wp_step k100 f100_57 (Wp_step k100 f100_58 ⟨kf_53, 54, rf_53_2, Wp_step k100 f100_61 ⟨kf_54, 57, rf_54_8, Wp_step k100 f100_64 (Wp_step k100 f100_66 ⟨6, af_57, h_1, Wp_step k100 f100_67 ⟨⟨kf_44, Nat.le_of_ble_eq_true rfl⟩, Nat.le_refl _, _, rfl, Sp_E h_2⟩⟩)⟩⟩))⟩)⟩)
theorem b100_70 {X : (Nat → Int) × Nat} {d : Nat} {s : mSt} {Q : mQ} {a1 : Nat} {x2 : Int} {x3 : Int} {x4 : Int} {x5 : Int} {xt0 : Int} (h1 : isBd a1) (h_1 : ¬ xt0 = 0 → Wp X d 100 76 [some (mR 53), some (mR a1), some (mI x2), some (mI x3), some (mI x4), some (mI x5)] [] s Q) (h_2 : xt0 = 0 → Wp X d 100 73 [some (mR 53), some (mR a1), some (mI x2), some (mI x3), some (mI x4), some (mI x5)] [] s Q) : Wp X d 100 70 [some (mR 53), some (mR a1), some (mI x2), some (mI x3), some (mI x4), some (mI x5)] [mI xt0] s Q := Wp_step k100 f100_70 ⟨h_1, h_2⟩
theorem b100_73 {X : (Nat → Int) × Nat} {d : Nat} {s : mSt} {Q : mQ} {a1 : Nat} {x2 : Int} {x3 : Int} {x4 : Int} {x5 : Int} (h1 : isBd a1) (h_1 : Wp X d 100 76 [some (mR 53), some (mR a1), some (mI x2), some (mI x3), some (mI (w32 (x4 + 1))), some (mI x5)] [] s Q) : Wp X d 100 73 [some (mR 53), some (mR a1), some (mI x2), some (mI x3), some (mI x4), some (mI x5)] [] s Q := Wp_step k100 f100_73 (h_1)
theorem b100_76 {X : (Nat → Int) × Nat} {d : Nat} {s : mSt} {Q : mQ} {a1 : Nat} {x2 : Int} {x3 : Int} {x4 : Int} {x5 : Int} (h1 : isBd a1) (h_1 : Wp X d 100 23 [some (mR 53), some (mR a1), some (mI x2), some (mI x3), some (mI x4), some (mI (w32 (x5 + 1)))] [] s Q) : Wp X d 100 76 [some (mR 53), some (mR a1), some (mI x2), some (mI x3), some (mI x4), some (mI x5)] [] s Q := Wp_step k100 f100_76 (Wp_step k100 f100_79 (h_1))
theorem b100_82 {X : (Nat → Int) × Nat} {d : Nat} {s : mSt} {Q : mQ} {a1 : Nat} {x2 : Int} {x3 : Int} {x4 : Int} {x5 : Int} (h1 : isBd a1) (h_1 : Q (some (mI x4)) s) : Wp X d 100 82 [some (mR 53), some (mR a1), some (mI x2), some (mI x3), some (mI x4), some (mI x5)] [] s Q := Wp_step k100 f100_82 (Wp_step k100 f100_84 ⟨⟨rfl, trivial⟩, h_1⟩)
theorem e100 {X : (Nat → Int) × Nat} {d : Nat} {s : mSt} {Q : mQ} {a1 : Nat} {x2 : Int} {x3 : Int} (h : Wp X d 100 0 [some (mR 53), some (mR a1), some (mI x2), some (mI x3), none, none] [] s Q) : Sp X d 100 [mR 53, mR a1, mI x2, mI x3] s Q := Sp_of (show mCe 100 = 0 by decide +kernel) (by rw [show mML 100 = 6 by decide +kernel]; rfl) (Nat.le_trans (Nat.le_of_ble_eq_true (show Nat.ble (mArgs _).length 6 = true from rfl)) (show 6 ≤ mML 100 by decide +kernel)) h
-- 101 ClashDay$Trials.behind(LClashDay$Board;LClashDay$Rule;I)LClashDay$Board;
theorem k101 : mRk 101 = 5 := by decide +kernel
theorem f101_0 : mFetch 101 0 = some (.aload_n 0, 1, 0, 0, 0, 0) := by decide +kernel
theorem f101_1 : mFetch 101 1 = some (.getfield 12, 3, 9, 2, 2, 1) := by decide +kernel
theorem f101_4 : mFetch 101 4 = some (.aload_n 1, 1, 0, 0, 0, 0) := by decide +kernel
theorem f101_5 : mFetch 101 5 = some (.invokevirtual 44, 3, 3, 0, 2, 0) := by decide +kernel
theorem f101_8 : mFetch 101 8 = some (.iconst 0, 1, 0, 0, 0, 0) := by decide +kernel
theorem f101_9 : mFetch 101 9 = some (.istore 4, 2, 0, 0, 0, 0) := by decide +kernel
theorem f101_11 : mFetch 101 11 = some (.iload 4, 2, 0, 0, 0, 0) := by decide +kernel
theorem f101_13 : mFetch 101 13 = some (.iload_n 3, 1, 0, 0, 0, 0) := by decide +kernel
theorem f101_14 : mFetch 101 14 = some (.if_icmp .ge 22, 3, 36, 0, 0, 0) := by decide +kernel
theorem f101_17 : mFetch 101 17 = some (.aload_n 0, 1, 0, 0, 0, 0) := by decide +kernel
theorem f101_18 : mFetch 101 18 = some (.getfield 40, 3, 9, 1, 2, 1) := by decide +kernel
theorem f101_21 : mFetch 101 21 = some (.aload_n 0, 1, 0, 0, 0, 0) := by decide +kernel
theorem f101_22 : mFetch 101 22 = some (.getfield 12, 3, 9, 2, 2, 1) := by decide +kernel
theorem f101_25 : mFetch 101 25 = some (.aload_n 2, 1, 0, 0, 0, 0) := by decide +kernel
theorem f101_26 : mFetch 101 26 = some (.invokevirtual 112, 3, 117, 0, 3, 10) := by decide +kernel
theorem f101_29 : mFetch 101 29 = some (.pop, 1, 0, 0, 0, 0) := by decide +kernel
theorem f101_30 : mFetch 101 30 = some (.iinc 4 1, 3, 0, 0, 0, 0) := by decide +kernel
theorem f101_33 : mFetch 101 33 = some (.goto (-22), 3, 11, 0, 0, 0) := by decide +kernel
theorem f101_36 : mFetch 101 36 = some (.aload_n 0, 1, 0, 0, 0, 0) := by decide +kernel
theorem f101_37 : mFetch 101 37 = some (.getfield 12, 3, 9, 2, 2, 1) := by decide +kernel
theorem f101_40 : mFetch 101 40 = some (.areturn, 1, 0, 0, 0, 0) := by decide +kernel
theorem b101_0 {X : (Nat → Int) × Nat} {d : Nat} {s : mSt} {Q : mQ} {a1 : Nat} {o2 : Option Nat} {x3 : Int} {l4 : Option mV} (h1 : isBd a1) (h_1 : Sp X d 3 [mR 54, mR a1] s (fun r s' => r = none ∧ Wp X (d + 1) 101 8 [some (mR 53), some (mR a1), some (Sum.inr (Sum.inr (Sum.inl o2))), some (mI x3), l4] [] s' Q)) : Wp X (d + 1) 101 0 [some (mR 53), some (mR a1), some (Sum.inr (Sum.inr (Sum.inl o2))), some (mI x3), l4] [] s Q := Wp_step k101 f101_0 (Wp_step k101 f101_1 ⟨kf_53, 54, rf_53_2, Wp_step k101 f101_4 (Wp_step k101 f101_5 ⟨⟨kf_54, Nat.le_of_ble_eq_true rfl⟩, Nat.le_refl _, _, rfl, Sp_V h_1⟩)⟩)
theorem b101_8 {X : (Nat → Int) × Nat} {d : Nat} {s : mSt} {Q : mQ} {a1 : Nat} {o2 : Option Nat} {x3 : Int} {l4 : Option mV} (h1 : isBd a1) (h_1 : Wp X d 101 11 [some (mR 53), some (mR a1), some (Sum.inr (Sum.inr (Sum.inl o2))), some (mI x3), some (mI 0)] [] s Q) : Wp X d 101 8 [some (mR 53), some (mR a1), some (Sum.inr (Sum.inr (Sum.inl o2))), some (mI x3), l4] [] s Q := Wp_step k101 f101_8 (Wp_step k101 f101_9 (h_1))
theorem b101_11 {X : (Nat → Int) × Nat} {d : Nat} {s : mSt} {Q : mQ} {a1 : Nat} {o2 : Option Nat} {x3 : Int} {x4 : Int} (h1 : isBd a1) (h_1 : x3 ≤ x4 → Wp X d 101 36 [some (mR 53), some (mR a1), some (Sum.inr (Sum.inr (Sum.inl o2))), some (mI x3), some (mI x4)] [] s Q) (h_2 : ¬ x3 ≤ x4 → Wp X d 101 17 [some (mR 53), some (mR a1), some (Sum.inr (Sum.inr (Sum.inl o2))), some (mI x3), some (mI x4)] [] s Q) : Wp X d 101 11 [some (mR 53), some (mR a1), some (Sum.inr (Sum.inr (Sum.inl o2))), some (mI x3), some (mI x4)] [] s Q := Wp_step k101 f101_11 (Wp_step k101 f101_13 (Wp_step k101 f101_14 ⟨h_1, h_2⟩))
theorem b101_17 {X : (Nat → Int) × Nat} {d : Nat} {s : mSt} {Q : mQ} {a1 : Nat} {o2 : Option Nat} {x3 : Int} {x4 : Int} (h1 : isBd a1) (h_1 : Sp X d 117 [mR 50, mR 54, Sum.inr (Sum.inr (Sum.inl o2))] s (fun r s' => ∃ v : Int, r = some (mI v) ∧ Wp X (d + 1) 101 29 [some (mR 53), some (mR a1), some (Sum.inr (Sum.inr (Sum.inl o2))), some (mI x3), some (mI x4)] [mI v] s' Q)) : Wp X (d + 1) 101 17 [some (mR 53), some (mR a1), some (Sum.inr (Sum.inr (Sum.inl o2))), some (mI x3), some (mI x4)] [] s Q := Wp_step k101 f101_17 (Wp_step k101 f101_18 ⟨kf_53, 50, rf_53_1, Wp_step k101 f101_21 (Wp_step k101 f101_22 ⟨kf_53, 54, rf_53_2, Wp_step k101 f101_25 (Wp_step k101 f101_26 ⟨⟨kf_50, Nat.le_of_ble_eq_true rfl⟩, Nat.le_refl _, _, rfl, Sp_E h_1⟩)⟩)⟩)
theorem b101_29 {X : (Nat → Int) × Nat} {d : Nat} {s : mSt} {Q : mQ} {a1 : Nat} {o2 : Option Nat} {x3 : Int} {x4 : Int} {xt0 : Int} (h1 : isBd a1) (h_1 : Wp X d 101 11 [some (mR 53), some (mR a1), some (Sum.inr (Sum.inr (Sum.inl o2))), some (mI x3), some (mI (w32 (x4 + 1)))] [] s Q) : Wp X d 101 29 [some (mR 53), some (mR a1), some (Sum.inr (Sum.inr (Sum.inl o2))), some (mI x3), some (mI x4)] [mI xt0] s Q := Wp_step k101 f101_29 (Wp_step k101 f101_30 (Wp_step k101 f101_33 (h_1)))
theorem b101_36 {X : (Nat → Int) × Nat} {d : Nat} {s : mSt} {Q : mQ} {a1 : Nat} {o2 : Option Nat} {x3 : Int} {x4 : Int} (h1 : isBd a1) (h_1 : Q (some (mR 54)) s) : Wp X d 101 36 [some (mR 53), some (mR a1), some (Sum.inr (Sum.inr (Sum.inl o2))), some (mI x3), some (mI x4)] [] s Q := Wp_step k101 f101_36 (Wp_step k101 f101_37 ⟨kf_53, 54, rf_53_2, Wp_step k101 f101_40 ⟨⟨rfl, rfl⟩, h_1⟩⟩)
theorem e101 {X : (Nat → Int) × Nat} {d : Nat} {s : mSt} {Q : mQ} {a1 : Nat} {o2 : Option Nat} {x3 : Int} (h : Wp X d 101 0 [some (mR 53), some (mR a1), some (Sum.inr (Sum.inr (Sum.inl o2))), some (mI x3), none] [] s Q) : Sp X d 101 [mR 53, mR a1, Sum.inr (Sum.inr (Sum.inl o2)), mI x3] s Q := Sp_of (show mCe 101 = 0 by decide +kernel) (by rw [show mML 101 = 5 by decide +kernel]; rfl) (Nat.le_trans (Nat.le_of_ble_eq_true (show Nat.ble (mArgs _).length 5 = true from rfl)) (show 5 ≤ mML 101 by decide +kernel)) h
-- 102 ClashDay$Trials.turnOf(LClashDay$Board;LClashDay$Rule;I)I
theorem k102 : mRk 102 = 1 := by decide +kernel
theorem f102_0 : mFetch 102 0 = some (.aload_n 0, 1, 0, 0, 0, 0) := by decide +kernel
theorem f102_1 : mFetch 102 1 = some (.getfield 12, 3, 9, 2, 2, 1) := by decide +kernel
theorem f102_4 : mFetch 102 4 = some (.aload_n 1, 1, 0, 0, 0, 0) := by decide +kernel
theorem f102_5 : mFetch 102 5 = some (.invokevirtual 44, 3, 3, 0, 2, 0) := by decide +kernel
theorem f102_8 : mFetch 102 8 = some (.iconst 0, 1, 0, 0, 0, 0) := by decide +kernel
theorem f102_9 : mFetch 102 9 = some (.istore 4, 2, 0, 0, 0, 0) := by decide +kernel
theorem f102_11 : mFetch 102 11 = some (.iload 4, 2, 0, 0, 0, 0) := by decide +kernel
theorem f102_13 : mFetch 102 13 = some (.bipush 20, 2, 0, 0, 0, 0) := by decide +kernel
theorem f102_15 : mFetch 102 15 = some (.if_icmp .ge 37, 3, 52, 0, 0, 0) := by decide +kernel
theorem f102_18 : mFetch 102 18 = some (.aload_n 0, 1, 0, 0, 0, 0) := by decide +kernel
theorem f102_19 : mFetch 102 19 = some (.getfield 12, 3, 9, 2, 2, 1) := by decide +kernel
theorem f102_22 : mFetch 102 22 = some (.getfield 118, 3, 0, 4, 0, 0) := by decide +kernel
theorem f102_25 : mFetch 102 25 = some (.istore 5, 2, 0, 0, 0, 0) := by decide +kernel
theorem f102_27 : mFetch 102 27 = some (.aload_n 0, 1, 0, 0, 0, 0) := by decide +kernel
theorem f102_28 : mFetch 102 28 = some (.getfield 40, 3, 9, 1, 2, 1) := by decide +kernel
theorem f102_31 : mFetch 102 31 = some (.aload_n 0, 1, 0, 0, 0, 0) := by decide +kernel
theorem f102_32 : mFetch 102 32 = some (.getfield 12, 3, 9, 2, 2, 1) := by decide +kernel
theorem f102_35 : mFetch 102 35 = some (.aload_n 2, 1, 0, 0, 0, 0) := by decide +kernel
theorem f102_36 : mFetch 102 36 = some (.invokevirtual 112, 3, 117, 0, 3, 10) := by decide +kernel
theorem f102_39 : mFetch 102 39 = some (.iload_n 3, 1, 0, 0, 0, 0) := by decide +kernel
theorem f102_40 : mFetch 102 40 = some (.if_icmp .ne 6, 3, 46, 0, 0, 0) := by decide +kernel
theorem f102_43 : mFetch 102 43 = some (.iload 5, 2, 0, 0, 0, 0) := by decide +kernel
theorem f102_45 : mFetch 102 45 = some (.ireturn, 1, 0, 0, 0, 0) := by decide +kernel
theorem f102_46 : mFetch 102 46 = some (.iinc 4 1, 3, 0, 0, 0, 0) := by decide +kernel
theorem f102_49 : mFetch 102 49 = some (.goto (-38), 3, 11, 0, 0, 0) := by decide +kernel
theorem f102_52 : mFetch 102 52 = some (.bipush (-2), 2, 0, 0, 0, 0) := by decide +kernel
theorem f102_54 : mFetch 102 54 = some (.ireturn, 1, 0, 0, 0, 0) := by decide +kernel
theorem b102_0 {X : (Nat → Int) × Nat} {d : Nat} {s : mSt} {Q : mQ} {a1 : Nat} {o2 : Option Nat} {x3 : Int} {l4 : Option mV} {l5 : Option mV} (h1 : isBd a1) (h_1 : Sp X d 3 [mR 54, mR a1] s (fun r s' => r = none ∧ Wp X (d + 1) 102 8 [some (mR 53), some (mR a1), some (Sum.inr (Sum.inr (Sum.inl o2))), some (mI x3), l4, l5] [] s' Q)) : Wp X (d + 1) 102 0 [some (mR 53), some (mR a1), some (Sum.inr (Sum.inr (Sum.inl o2))), some (mI x3), l4, l5] [] s Q := Wp_step k102 f102_0 (Wp_step k102 f102_1 ⟨kf_53, 54, rf_53_2, Wp_step k102 f102_4 (Wp_step k102 f102_5 ⟨⟨kf_54, Nat.le_of_ble_eq_true rfl⟩, Nat.le_refl _, _, rfl, Sp_V h_1⟩)⟩)
theorem b102_8 {X : (Nat → Int) × Nat} {d : Nat} {s : mSt} {Q : mQ} {a1 : Nat} {o2 : Option Nat} {x3 : Int} {l4 : Option mV} {l5 : Option mV} (h1 : isBd a1) (h_1 : Wp X d 102 11 [some (mR 53), some (mR a1), some (Sum.inr (Sum.inr (Sum.inl o2))), some (mI x3), some (mI 0), l5] [] s Q) : Wp X d 102 8 [some (mR 53), some (mR a1), some (Sum.inr (Sum.inr (Sum.inl o2))), some (mI x3), l4, l5] [] s Q := Wp_step k102 f102_8 (Wp_step k102 f102_9 (h_1))
theorem b102_11 {X : (Nat → Int) × Nat} {d : Nat} {s : mSt} {Q : mQ} {a1 : Nat} {o2 : Option Nat} {x3 : Int} {x4 : Int} {l5 : Option mV} (h1 : isBd a1) (h_1 : 20 ≤ x4 → Wp X d 102 52 [some (mR 53), some (mR a1), some (Sum.inr (Sum.inr (Sum.inl o2))), some (mI x3), some (mI x4), l5] [] s Q) (h_2 : ¬ 20 ≤ x4 → Wp X d 102 18 [some (mR 53), some (mR a1), some (Sum.inr (Sum.inr (Sum.inl o2))), some (mI x3), some (mI x4), l5] [] s Q) : Wp X d 102 11 [some (mR 53), some (mR a1), some (Sum.inr (Sum.inr (Sum.inl o2))), some (mI x3), some (mI x4), l5] [] s Q := Wp_step k102 f102_11 (Wp_step k102 f102_13 (Wp_step k102 f102_15 ⟨h_1, h_2⟩))
theorem b102_18 {X : (Nat → Int) × Nat} {d : Nat} {s : mSt} {Q : mQ} {a1 : Nat} {o2 : Option Nat} {x3 : Int} {x4 : Int} {l5 : Option mV} (h1 : isBd a1) (h_1 : Sp X d 117 [mR 50, mR 54, Sum.inr (Sum.inr (Sum.inl o2))] s (fun r s' => ∃ v : Int, r = some (mI v) ∧ Wp X (d + 1) 102 39 [some (mR 53), some (mR a1), some (Sum.inr (Sum.inr (Sum.inl o2))), some (mI x3), some (mI x4), some (mI (s 54 4))] [mI v] s' Q)) : Wp X (d + 1) 102 18 [some (mR 53), some (mR a1), some (Sum.inr (Sum.inr (Sum.inl o2))), some (mI x3), some (mI x4), l5] [] s Q := Wp_step k102 f102_18 (Wp_step k102 f102_19 ⟨kf_53, 54, rf_53_2, Wp_step k102 f102_22 ⟨kf_54, Wp_step k102 f102_25 (Wp_step k102 f102_27 (Wp_step k102 f102_28 ⟨kf_53, 50, rf_53_1, Wp_step k102 f102_31 (Wp_step k102 f102_32 ⟨kf_53, 54, rf_53_2, Wp_step k102 f102_35 (Wp_step k102 f102_36 ⟨⟨kf_50, Nat.le_of_ble_eq_true rfl⟩, Nat.le_refl _, _, rfl, Sp_E h_1⟩)⟩)⟩))⟩⟩)
theorem b102_39 {X : (Nat → Int) × Nat} {d : Nat} {s : mSt} {Q : mQ} {a1 : Nat} {o2 : Option Nat} {x3 : Int} {x4 : Int} {x5 : Int} {xt0 : Int} (h1 : isBd a1) (h_1 : ¬ xt0 = x3 → Wp X d 102 46 [some (mR 53), some (mR a1), some (Sum.inr (Sum.inr (Sum.inl o2))), some (mI x3), some (mI x4), some (mI x5)] [] s Q) (h_2 : xt0 = x3 → Wp X d 102 43 [some (mR 53), some (mR a1), some (Sum.inr (Sum.inr (Sum.inl o2))), some (mI x3), some (mI x4), some (mI x5)] [] s Q) : Wp X d 102 39 [some (mR 53), some (mR a1), some (Sum.inr (Sum.inr (Sum.inl o2))), some (mI x3), some (mI x4), some (mI x5)] [mI xt0] s Q := Wp_step k102 f102_39 (Wp_step k102 f102_40 ⟨h_1, h_2⟩)
theorem b102_43 {X : (Nat → Int) × Nat} {d : Nat} {s : mSt} {Q : mQ} {a1 : Nat} {o2 : Option Nat} {x3 : Int} {x4 : Int} {x5 : Int} (h1 : isBd a1) (h_1 : Q (some (mI x5)) s) : Wp X d 102 43 [some (mR 53), some (mR a1), some (Sum.inr (Sum.inr (Sum.inl o2))), some (mI x3), some (mI x4), some (mI x5)] [] s Q := Wp_step k102 f102_43 (Wp_step k102 f102_45 ⟨⟨rfl, trivial⟩, h_1⟩)
theorem b102_46 {X : (Nat → Int) × Nat} {d : Nat} {s : mSt} {Q : mQ} {a1 : Nat} {o2 : Option Nat} {x3 : Int} {x4 : Int} {x5 : Int} (h1 : isBd a1) (h_1 : Wp X d 102 11 [some (mR 53), some (mR a1), some (Sum.inr (Sum.inr (Sum.inl o2))), some (mI x3), some (mI (w32 (x4 + 1))), some (mI x5)] [] s Q) : Wp X d 102 46 [some (mR 53), some (mR a1), some (Sum.inr (Sum.inr (Sum.inl o2))), some (mI x3), some (mI x4), some (mI x5)] [] s Q := Wp_step k102 f102_46 (Wp_step k102 f102_49 (h_1))
theorem b102_52 {X : (Nat → Int) × Nat} {d : Nat} {s : mSt} {Q : mQ} {a1 : Nat} {o2 : Option Nat} {x3 : Int} {x4 : Int} {l5 : Option mV} (h1 : isBd a1) (h_1 : Q (some (mI (-2))) s) : Wp X d 102 52 [some (mR 53), some (mR a1), some (Sum.inr (Sum.inr (Sum.inl o2))), some (mI x3), some (mI x4), l5] [] s Q := Wp_step k102 f102_52 (Wp_step k102 f102_54 ⟨⟨rfl, trivial⟩, h_1⟩)
theorem e102 {X : (Nat → Int) × Nat} {d : Nat} {s : mSt} {Q : mQ} {a1 : Nat} {o2 : Option Nat} {x3 : Int} (h : Wp X d 102 0 [some (mR 53), some (mR a1), some (Sum.inr (Sum.inr (Sum.inl o2))), some (mI x3), none, none] [] s Q) : Sp X d 102 [mR 53, mR a1, Sum.inr (Sum.inr (Sum.inl o2)), mI x3] s Q := Sp_of (show mCe 102 = 0 by decide +kernel) (by rw [show mML 102 = 6 by decide +kernel]; rfl) (Nat.le_trans (Nat.le_of_ble_eq_true (show Nat.ble (mArgs _).length 6 = true from rfl)) (show 6 ≤ mML 102 by decide +kernel)) h
