theorem dX7_collect_9 : decode cX7_collect 9 = .ok (.istore_n 2, 1) := by decide +kernel
theorem dX7_collect_10 : decode cX7_collect 10 = .ok (.iconst 0, 1) := by decide +kernel
theorem dX7_collect_11 : decode cX7_collect 11 = .ok (.istore_n 3, 1) := by decide +kernel
theorem dX7_collect_12 : decode cX7_collect 12 = .ok (.iload_n 3, 1) := by decide +kernel
theorem dX7_collect_13 : decode cX7_collect 13 = .ok (.sipush 1222, 3) := by decide +kernel
theorem dX7_collect_16 : decode cX7_collect 16 = .ok (.if_icmp .ge 21, 3) := by decide +kernel
theorem dX7_collect_19 : decode cX7_collect 19 = .ok (.aload_n 0, 1) := by decide +kernel
theorem dX7_collect_20 : decode cX7_collect 20 = .ok (.getfield 13, 3) := by decide +kernel
theorem dX7_collect_23 : decode cX7_collect 23 = .ok (.iload_n 3, 1) := by decide +kernel
theorem dX7_collect_24 : decode cX7_collect 24 = .ok (.aload_n 0, 1) := by decide +kernel
theorem dX7_collect_25 : decode cX7_collect 25 = .ok (.getfield 7, 3) := by decide +kernel
theorem dX7_collect_28 : decode cX7_collect 28 = .ok (.iload_n 3, 1) := by decide +kernel
theorem dX7_collect_29 : decode cX7_collect 29 = .ok (.iaload, 1) := by decide +kernel
theorem dX7_collect_30 : decode cX7_collect 30 = .ok (.iastore, 1) := by decide +kernel
theorem dX7_collect_31 : decode cX7_collect 31 = .ok (.iinc 3 1, 3) := by decide +kernel
theorem dX7_collect_34 : decode cX7_collect 34 = .ok (.goto (-22), 3) := by decide +kernel
theorem dX7_collect_37 : decode cX7_collect 37 = .ok (.iconst 0, 1) := by decide +kernel
theorem dX7_collect_38 : decode cX7_collect 38 = .ok (.istore_n 3, 1) := by decide +kernel
theorem dX7_collect_39 : decode cX7_collect 39 = .ok (.iload_n 3, 1) := by decide +kernel
theorem dX7_collect_40 : decode cX7_collect 40 = .ok (.sipush 200, 3) := by decide +kernel
theorem dX7_collect_43 : decode cX7_collect 43 = .ok (.if_icmp .ge 20, 3) := by decide +kernel
theorem dX7_collect_46 : decode cX7_collect 46 = .ok (.aload_n 0, 1) := by decide +kernel
theorem dX7_collect_47 : decode cX7_collect 47 = .ok (.getfield 7, 3) := by decide +kernel
theorem dX7_collect_50 : decode cX7_collect 50 = .ok (.sipush 1000, 3) := by decide +kernel
theorem dX7_collect_53 : decode cX7_collect 53 = .ok (.iload_n 3, 1) := by decide +kernel
theorem dX7_collect_54 : decode cX7_collect 54 = .ok (.iadd, 1) := by decide +kernel
theorem dX7_collect_55 : decode cX7_collect 55 = .ok (.iconst (-1), 1) := by decide +kernel
theorem dX7_collect_56 : decode cX7_collect 56 = .ok (.iastore, 1) := by decide +kernel
theorem dX7_collect_57 : decode cX7_collect 57 = .ok (.iinc 3 1, 3) := by decide +kernel
theorem dX7_collect_60 : decode cX7_collect 60 = .ok (.goto (-21), 3) := by decide +kernel
theorem dX7_collect_63 : decode cX7_collect 63 = .ok (.iconst 0, 1) := by decide +kernel
theorem dX7_collect_64 : decode cX7_collect 64 = .ok (.istore_n 3, 1) := by decide +kernel
theorem dX7_collect_65 : decode cX7_collect 65 = .ok (.iconst 0, 1) := by decide +kernel
theorem dX7_collect_66 : decode cX7_collect 66 = .ok (.istore 4, 2) := by decide +kernel
theorem dX7_collect_68 : decode cX7_collect 68 = .ok (.iconst 0, 1) := by decide +kernel
theorem dX7_collect_69 : decode cX7_collect 69 = .ok (.istore 5, 2) := by decide +kernel
theorem dX7_collect_71 : decode cX7_collect 71 = .ok (.iconst 0, 1) := by decide +kernel
theorem dX7_collect_72 : decode cX7_collect 72 = .ok (.istore 6, 2) := by decide +kernel
theorem dX7_collect_74 : decode cX7_collect 74 = .ok (.iconst 0, 1) := by decide +kernel
theorem dX7_collect_75 : decode cX7_collect 75 = .ok (.istore 7, 2) := by decide +kernel
theorem dX7_collect_77 : decode cX7_collect 77 = .ok (.iconst 0, 1) := by decide +kernel
theorem dX7_collect_78 : decode cX7_collect 78 = .ok (.istore 8, 2) := by decide +kernel
theorem dX7_collect_80 : decode cX7_collect 80 = .ok (.iload 8, 2) := by decide +kernel
theorem dX7_collect_82 : decode cX7_collect 82 = .ok (.aload_n 0, 1) := by decide +kernel
theorem dX7_collect_83 : decode cX7_collect 83 = .ok (.getfield 7, 3) := by decide +kernel
theorem dX7_collect_86 : decode cX7_collect 86 = .ok (.sipush 1216, 3) := by decide +kernel
theorem dX7_collect_89 : decode cX7_collect 89 = .ok (.iaload, 1) := by decide +kernel
theorem dX7_collect_90 : decode cX7_collect 90 = .ok (.if_icmp .ge 163, 3) := by decide +kernel
theorem dX7_collect_93 : decode cX7_collect 93 = .ok (.aload_n 0, 1) := by decide +kernel
theorem dX7_collect_94 : decode cX7_collect 94 = .ok (.getfield 13, 3) := by decide +kernel
theorem dX7_collect_97 : decode cX7_collect 97 = .ok (.iconst 0, 1) := by decide +kernel
theorem dX7_collect_98 : decode cX7_collect 98 = .ok (.iload 8, 2) := by decide +kernel
theorem dX7_collect_100 : decode cX7_collect 100 = .ok (.iadd, 1) := by decide +kernel
theorem dX7_collect_101 : decode cX7_collect 101 = .ok (.iaload, 1) := by decide +kernel
theorem dX7_collect_102 : decode cX7_collect 102 = .ok (.ifCond .le 145, 3) := by decide +kernel
theorem dX7_collect_105 : decode cX7_collect 105 = .ok (.aload_n 0, 1) := by decide +kernel
theorem dX7_collect_106 : decode cX7_collect 106 = .ok (.getfield 33, 3) := by decide +kernel
theorem dX7_collect_109 : decode cX7_collect 109 = .ok (.iload 8, 2) := by decide +kernel
theorem dX7_collect_111 : decode cX7_collect 111 = .ok (.baload, 1) := by decide +kernel
theorem dX7_collect_112 : decode cX7_collect 112 = .ok (.ifCond .eq 135, 3) := by decide +kernel
theorem dX7_collect_115 : decode cX7_collect 115 = .ok (.aload_n 0, 1) := by decide +kernel
theorem dX7_collect_116 : decode cX7_collect 116 = .ok (.getfield 13, 3) := by decide +kernel
theorem dX7_collect_119 : decode cX7_collect 119 = .ok (.sipush 400, 3) := by decide +kernel
theorem dX7_collect_122 : decode cX7_collect 122 = .ok (.iload 8, 2) := by decide +kernel
theorem dX7_collect_124 : decode cX7_collect 124 = .ok (.iadd, 1) := by decide +kernel
theorem dX7_collect_125 : decode cX7_collect 125 = .ok (.iaload, 1) := by decide +kernel
theorem dX7_collect_126 : decode cX7_collect 126 = .ok (.iconst 1, 1) := by decide +kernel
theorem dX7_collect_127 : decode cX7_collect 127 = .ok (.if_icmp .ne 8, 3) := by decide +kernel
theorem dX7_collect_130 : decode cX7_collect 130 = .ok (.iload 8, 2) := by decide +kernel
theorem dX7_collect_132 : decode cX7_collect 132 = .ok (.goto 4, 3) := by decide +kernel
theorem dX7_collect_135 : decode cX7_collect 135 = .ok (.iload_n 3, 1) := by decide +kernel
theorem dX7_collect_136 : decode cX7_collect 136 = .ok (.istore 9, 2) := by decide +kernel
theorem dX7_collect_138 : decode cX7_collect 138 = .ok (.iconst 0, 1) := by decide +kernel
theorem dX7_collect_139 : decode cX7_collect 139 = .ok (.istore 10, 2) := by decide +kernel
theorem dX7_collect_141 : decode cX7_collect 141 = .ok (.iload 10, 2) := by decide +kernel
theorem dX7_collect_143 : decode cX7_collect 143 = .ok (.aload_n 0, 1) := by decide +kernel
theorem dX7_collect_144 : decode cX7_collect 144 = .ok (.getfield 13, 3) := by decide +kernel
theorem dX7_collect_147 : decode cX7_collect 147 = .ok (.iconst 0, 1) := by decide +kernel
theorem dX7_collect_148 : decode cX7_collect 148 = .ok (.iload 8, 2) := by decide +kernel
theorem dX7_collect_150 : decode cX7_collect 150 = .ok (.iadd, 1) := by decide +kernel
theorem dX7_collect_151 : decode cX7_collect 151 = .ok (.iaload, 1) := by decide +kernel
theorem dX7_collect_152 : decode cX7_collect 152 = .ok (.if_icmp .ge 28, 3) := by decide +kernel
theorem dX7_collect_155 : decode cX7_collect 155 = .ok (.aload_n 0, 1) := by decide +kernel
theorem dX7_collect_156 : decode cX7_collect 156 = .ok (.getfield 7, 3) := by decide +kernel
theorem dX7_collect_159 : decode cX7_collect 159 = .ok (.sipush 1000, 3) := by decide +kernel
theorem dX7_collect_162 : decode cX7_collect 162 = .ok (.iload 8, 2) := by decide +kernel
theorem dX7_collect_164 : decode cX7_collect 164 = .ok (.iadd, 1) := by decide +kernel
theorem dX7_collect_165 : decode cX7_collect 165 = .ok (.iload 10, 2) := by decide +kernel
theorem dX7_collect_167 : decode cX7_collect 167 = .ok (.iadd, 1) := by decide +kernel
theorem dX7_collect_168 : decode cX7_collect 168 = .ok (.iload 9, 2) := by decide +kernel
theorem dX7_collect_170 : decode cX7_collect 170 = .ok (.iload 10, 2) := by decide +kernel
theorem dX7_collect_172 : decode cX7_collect 172 = .ok (.iadd, 1) := by decide +kernel
theorem dX7_collect_173 : decode cX7_collect 173 = .ok (.iastore, 1) := by decide +kernel
theorem dX7_collect_174 : decode cX7_collect 174 = .ok (.iinc 10 1, 3) := by decide +kernel
theorem dX7_collect_177 : decode cX7_collect 177 = .ok (.goto (-36), 3) := by decide +kernel
theorem dX7_collect_180 : decode cX7_collect 180 = .ok (.iload 9, 2) := by decide +kernel
theorem dX7_collect_182 : decode cX7_collect 182 = .ok (.aload_n 0, 1) := by decide +kernel
theorem dX7_collect_183 : decode cX7_collect 183 = .ok (.getfield 13, 3) := by decide +kernel
theorem dX7_collect_186 : decode cX7_collect 186 = .ok (.iconst 0, 1) := by decide +kernel
theorem dX7_collect_187 : decode cX7_collect 187 = .ok (.iload 8, 2) := by decide +kernel
theorem dX7_collect_189 : decode cX7_collect 189 = .ok (.iadd, 1) := by decide +kernel
theorem dX7_collect_190 : decode cX7_collect 190 = .ok (.iaload, 1) := by decide +kernel
theorem dX7_collect_191 : decode cX7_collect 191 = .ok (.iadd, 1) := by decide +kernel
theorem dX7_collect_192 : decode cX7_collect 192 = .ok (.istore_n 3, 1) := by decide +kernel
theorem dX7_collect_193 : decode cX7_collect 193 = .ok (.iinc 4 1, 3) := by decide +kernel
theorem dX7_collect_196 : decode cX7_collect 196 = .ok (.iload 5, 2) := by decide +kernel
theorem dX7_collect_198 : decode cX7_collect 198 = .ok (.aload_n 0, 1) := by decide +kernel
theorem dX7_collect_199 : decode cX7_collect 199 = .ok (.getfield 13, 3) := by decide +kernel
theorem dX7_collect_202 : decode cX7_collect 202 = .ok (.iconst 0, 1) := by decide +kernel
theorem dX7_collect_203 : decode cX7_collect 203 = .ok (.iload 8, 2) := by decide +kernel
theorem dX7_collect_205 : decode cX7_collect 205 = .ok (.iadd, 1) := by decide +kernel
theorem dX7_collect_206 : decode cX7_collect 206 = .ok (.iaload, 1) := by decide +kernel
theorem dX7_collect_207 : decode cX7_collect 207 = .ok (.iadd, 1) := by decide +kernel
theorem dX7_collect_208 : decode cX7_collect 208 = .ok (.istore 5, 2) := by decide +kernel
theorem dX7_collect_210 : decode cX7_collect 210 = .ok (.iload 6, 2) := by decide +kernel
theorem dX7_collect_212 : decode cX7_collect 212 = .ok (.iload 9, 2) := by decide +kernel
theorem dX7_collect_214 : decode cX7_collect 214 = .ok (.iload 8, 2) := by decide +kernel
theorem dX7_collect_216 : decode cX7_collect 216 = .ok (.if_icmp .ne 7, 3) := by decide +kernel
theorem dX7_collect_219 : decode cX7_collect 219 = .ok (.iconst 0, 1) := by decide +kernel
theorem dX7_collect_220 : decode cX7_collect 220 = .ok (.goto 4, 3) := by decide +kernel
theorem dX7_collect_223 : decode cX7_collect 223 = .ok (.iconst 1, 1) := by decide +kernel
theorem dX7_collect_224 : decode cX7_collect 224 = .ok (.iadd, 1) := by decide +kernel
theorem dX7_collect_225 : decode cX7_collect 225 = .ok (.istore 6, 2) := by decide +kernel
theorem dX7_collect_227 : decode cX7_collect 227 = .ok (.iload 7, 2) := by decide +kernel
theorem dX7_collect_229 : decode cX7_collect 229 = .ok (.iload 8, 2) := by decide +kernel
theorem dX7_collect_231 : decode cX7_collect 231 = .ok (.iload 9, 2) := by decide +kernel
theorem dX7_collect_233 : decode cX7_collect 233 = .ok (.isub, 1) := by decide +kernel
theorem dX7_collect_234 : decode cX7_collect 234 = .ok (.aload_n 0, 1) := by decide +kernel
theorem dX7_collect_235 : decode cX7_collect 235 = .ok (.getfield 13, 3) := by decide +kernel
theorem dX7_collect_238 : decode cX7_collect 238 = .ok (.iconst 0, 1) := by decide +kernel
theorem dX7_collect_239 : decode cX7_collect 239 = .ok (.iload 8, 2) := by decide +kernel
theorem dX7_collect_241 : decode cX7_collect 241 = .ok (.iadd, 1) := by decide +kernel
theorem dX7_collect_242 : decode cX7_collect 242 = .ok (.iaload, 1) := by decide +kernel
theorem dX7_collect_243 : decode cX7_collect 243 = .ok (.imul, 1) := by decide +kernel
theorem dX7_collect_244 : decode cX7_collect 244 = .ok (.iadd, 1) := by decide +kernel
theorem dX7_collect_245 : decode cX7_collect 245 = .ok (.istore 7, 2) := by decide +kernel
theorem dX7_collect_247 : decode cX7_collect 247 = .ok (.iinc 8 1, 3) := by decide +kernel
theorem dX7_collect_250 : decode cX7_collect 250 = .ok (.goto (-170), 3) := by decide +kernel
theorem dX7_collect_253 : decode cX7_collect 253 = .ok (.aload_n 0, 1) := by decide +kernel
theorem dX7_collect_254 : decode cX7_collect 254 = .ok (.invokevirtual 117, 3) := by decide +kernel
theorem dX7_collect_257 : decode cX7_collect 257 = .ok (.aload_n 0, 1) := by decide +kernel
theorem dX7_collect_258 : decode cX7_collect 258 = .ok (.getfield 7, 3) := by decide +kernel
theorem dX7_collect_261 : decode cX7_collect 261 = .ok (.sipush 1210, 3) := by decide +kernel
theorem dX7_collect_264 : decode cX7_collect 264 = .ok (.iload 4, 2) := by decide +kernel
theorem dX7_collect_266 : decode cX7_collect 266 = .ok (.iastore, 1) := by decide +kernel
theorem dX7_collect_267 : decode cX7_collect 267 = .ok (.aload_n 0, 1) := by decide +kernel
theorem dX7_collect_268 : decode cX7_collect 268 = .ok (.getfield 7, 3) := by decide +kernel
theorem dX7_collect_271 : decode cX7_collect 271 = .ok (.sipush 1211, 3) := by decide +kernel
theorem dX7_collect_274 : decode cX7_collect 274 = .ok (.iload 5, 2) := by decide +kernel
theorem dX7_collect_276 : decode cX7_collect 276 = .ok (.iastore, 1) := by decide +kernel
theorem dX7_collect_277 : decode cX7_collect 277 = .ok (.aload_n 0, 1) := by decide +kernel
theorem dX7_collect_278 : decode cX7_collect 278 = .ok (.getfield 7, 3) := by decide +kernel
theorem dX7_collect_281 : decode cX7_collect 281 = .ok (.sipush 1212, 3) := by decide +kernel
theorem dX7_collect_284 : decode cX7_collect 284 = .ok (.iload_n 2, 1) := by decide +kernel
theorem dX7_collect_285 : decode cX7_collect 285 = .ok (.iastore, 1) := by decide +kernel
theorem dX7_collect_286 : decode cX7_collect 286 = .ok (.aload_n 0, 1) := by decide +kernel
theorem dX7_collect_287 : decode cX7_collect 287 = .ok (.getfield 7, 3) := by decide +kernel
theorem dX7_collect_290 : decode cX7_collect 290 = .ok (.sipush 1213, 3) := by decide +kernel
theorem dX7_collect_293 : decode cX7_collect 293 = .ok (.aload_n 0, 1) := by decide +kernel
theorem dX7_collect_294 : decode cX7_collect 294 = .ok (.getfield 98, 3) := by decide +kernel
theorem dX7_collect_297 : decode cX7_collect 297 = .ok (.iastore, 1) := by decide +kernel
theorem dX7_collect_298 : decode cX7_collect 298 = .ok (.aload_n 0, 1) := by decide +kernel
theorem dX7_collect_299 : decode cX7_collect 299 = .ok (.getfield 7, 3) := by decide +kernel
theorem dX7_collect_302 : decode cX7_collect 302 = .ok (.sipush 1214, 3) := by decide +kernel
theorem dX7_collect_305 : decode cX7_collect 305 = .ok (.iload 6, 2) := by decide +kernel
theorem dX7_collect_307 : decode cX7_collect 307 = .ok (.iastore, 1) := by decide +kernel
theorem dX7_collect_308 : decode cX7_collect 308 = .ok (.aload_n 0, 1) := by decide +kernel
theorem dX7_collect_309 : decode cX7_collect 309 = .ok (.getfield 7, 3) := by decide +kernel
theorem dX7_collect_312 : decode cX7_collect 312 = .ok (.sipush 1215, 3) := by decide +kernel
theorem dX7_collect_315 : decode cX7_collect 315 = .ok (.iload 7, 2) := by decide +kernel
theorem dX7_collect_317 : decode cX7_collect 317 = .ok (.iastore, 1) := by decide +kernel
theorem dX7_collect_318 : decode cX7_collect 318 = .ok (.aload_n 0, 1) := by decide +kernel
theorem dX7_collect_319 : decode cX7_collect 319 = .ok (.getfield 7, 3) := by decide +kernel
theorem dX7_collect_322 : decode cX7_collect 322 = .ok (.sipush 1221, 3) := by decide +kernel
theorem dX7_collect_325 : decode cX7_collect 325 = .ok (.iconst 1, 1) := by decide +kernel
theorem dX7_collect_326 : decode cX7_collect 326 = .ok (.iastore, 1) := by decide +kernel
theorem dX7_collect_327 : decode cX7_collect 327 = .ok (.aload_n 0, 1) := by decide +kernel
theorem dX7_collect_328 : decode cX7_collect 328 = .ok (.getfield 7, 3) := by decide +kernel
theorem dX7_collect_331 : decode cX7_collect 331 = .ok (.sipush 1219, 3) := by decide +kernel
theorem dX7_collect_334 : decode cX7_collect 334 = .ok (.dup2, 1) := by decide +kernel
theorem dX7_collect_335 : decode cX7_collect 335 = .ok (.iaload, 1) := by decide +kernel
theorem dX7_collect_336 : decode cX7_collect 336 = .ok (.iconst 1, 1) := by decide +kernel
theorem dX7_collect_337 : decode cX7_collect 337 = .ok (.iadd, 1) := by decide +kernel
theorem dX7_collect_338 : decode cX7_collect 338 = .ok (.iastore, 1) := by decide +kernel
theorem dX7_collect_339 : decode cX7_collect 339 = .ok (.aload_n 0, 1) := by decide +kernel
theorem dX7_collect_340 : decode cX7_collect 340 = .ok (.getfield 7, 3) := by decide +kernel
theorem dX7_collect_343 : decode cX7_collect 343 = .ok (.sipush 1220, 3) := by decide +kernel
theorem dX7_collect_346 : decode cX7_collect 346 = .ok (.dup2, 1) := by decide +kernel
theorem dX7_collect_347 : decode cX7_collect 347 = .ok (.iaload, 1) := by decide +kernel
theorem dX7_collect_348 : decode cX7_collect 348 = .ok (.iload_n 1, 1) := by decide +kernel
theorem dX7_collect_349 : decode cX7_collect 349 = .ok (.iload 5, 2) := by decide +kernel
theorem dX7_collect_351 : decode cX7_collect 351 = .ok (.isub, 1) := by decide +kernel
theorem dX7_collect_352 : decode cX7_collect 352 = .ok (.iadd, 1) := by decide +kernel
theorem dX7_collect_353 : decode cX7_collect 353 = .ok (.iastore, 1) := by decide +kernel
theorem dX7_collect_354 : decode cX7_collect 354 = .ok (.iload_n 1, 1) := by decide +kernel
theorem dX7_collect_355 : decode cX7_collect 355 = .ok (.iload 5, 2) := by decide +kernel
theorem dX7_collect_357 : decode cX7_collect 357 = .ok (.isub, 1) := by decide +kernel
theorem dX7_collect_358 : decode cX7_collect 358 = .ok (.ireturn, 1) := by decide +kernel
theorem dX7_rebuilds_0 : decode cX7_rebuilds 0 = .ok (.iconst 0, 1) := by decide +kernel
theorem dX7_rebuilds_1 : decode cX7_rebuilds 1 = .ok (.istore_n 1, 1) := by decide +kernel
theorem dX7_rebuilds_2 : decode cX7_rebuilds 2 = .ok (.iload_n 1, 1) := by decide +kernel
theorem dX7_rebuilds_3 : decode cX7_rebuilds 3 = .ok (.sipush 1000, 3) := by decide +kernel
theorem dX7_rebuilds_6 : decode cX7_rebuilds 6 = .ok (.if_icmp .ge 16, 3) := by decide +kernel
theorem dX7_rebuilds_9 : decode cX7_rebuilds 9 = .ok (.aload_n 0, 1) := by decide +kernel
theorem dX7_rebuilds_10 : decode cX7_rebuilds 10 = .ok (.getfield 7, 3) := by decide +kernel
theorem dX7_rebuilds_13 : decode cX7_rebuilds 13 = .ok (.iload_n 1, 1) := by decide +kernel
theorem dX7_rebuilds_14 : decode cX7_rebuilds 14 = .ok (.iconst 0, 1) := by decide +kernel
theorem dX7_rebuilds_15 : decode cX7_rebuilds 15 = .ok (.iastore, 1) := by decide +kernel
theorem dX7_rebuilds_16 : decode cX7_rebuilds 16 = .ok (.iinc 1 1, 3) := by decide +kernel
theorem dX7_rebuilds_19 : decode cX7_rebuilds 19 = .ok (.goto (-17), 3) := by decide +kernel
theorem dX7_rebuilds_22 : decode cX7_rebuilds 22 = .ok (.iconst 0, 1) := by decide +kernel
theorem dX7_rebuilds_23 : decode cX7_rebuilds 23 = .ok (.istore_n 1, 1) := by decide +kernel
theorem dX7_rebuilds_24 : decode cX7_rebuilds 24 = .ok (.iload_n 1, 1) := by decide +kernel
theorem dX7_rebuilds_25 : decode cX7_rebuilds 25 = .ok (.aload_n 0, 1) := by decide +kernel
theorem dX7_rebuilds_26 : decode cX7_rebuilds 26 = .ok (.getfield 7, 3) := by decide +kernel
theorem dX7_rebuilds_29 : decode cX7_rebuilds 29 = .ok (.sipush 1216, 3) := by decide +kernel
theorem dX7_rebuilds_32 : decode cX7_rebuilds 32 = .ok (.iaload, 1) := by decide +kernel
theorem dX7_rebuilds_33 : decode cX7_rebuilds 33 = .ok (.if_icmp .ge 189, 3) := by decide +kernel
theorem dX7_rebuilds_36 : decode cX7_rebuilds 36 = .ok (.aload_n 0, 1) := by decide +kernel
theorem dX7_rebuilds_37 : decode cX7_rebuilds 37 = .ok (.getfield 13, 3) := by decide +kernel
theorem dX7_rebuilds_40 : decode cX7_rebuilds 40 = .ok (.iconst 0, 1) := by decide +kernel
theorem dX7_rebuilds_41 : decode cX7_rebuilds 41 = .ok (.iload_n 1, 1) := by decide +kernel
theorem dX7_rebuilds_42 : decode cX7_rebuilds 42 = .ok (.iadd, 1) := by decide +kernel
theorem dX7_rebuilds_43 : decode cX7_rebuilds 43 = .ok (.iaload, 1) := by decide +kernel
theorem dX7_rebuilds_44 : decode cX7_rebuilds 44 = .ok (.ifCond .le 172, 3) := by decide +kernel
theorem dX7_rebuilds_47 : decode cX7_rebuilds 47 = .ok (.aload_n 0, 1) := by decide +kernel
theorem dX7_rebuilds_48 : decode cX7_rebuilds 48 = .ok (.getfield 33, 3) := by decide +kernel
theorem dX7_rebuilds_51 : decode cX7_rebuilds 51 = .ok (.iload_n 1, 1) := by decide +kernel
theorem dX7_rebuilds_52 : decode cX7_rebuilds 52 = .ok (.baload, 1) := by decide +kernel
theorem dX7_rebuilds_53 : decode cX7_rebuilds 53 = .ok (.ifCond .eq 163, 3) := by decide +kernel
theorem dX7_rebuilds_56 : decode cX7_rebuilds 56 = .ok (.aload_n 0, 1) := by decide +kernel
theorem dX7_rebuilds_57 : decode cX7_rebuilds 57 = .ok (.getfield 7, 3) := by decide +kernel
theorem dX7_rebuilds_60 : decode cX7_rebuilds 60 = .ok (.sipush 1000, 3) := by decide +kernel
theorem dX7_rebuilds_63 : decode cX7_rebuilds 63 = .ok (.iload_n 1, 1) := by decide +kernel
theorem dX7_rebuilds_64 : decode cX7_rebuilds 64 = .ok (.iadd, 1) := by decide +kernel
theorem dX7_rebuilds_65 : decode cX7_rebuilds 65 = .ok (.iaload, 1) := by decide +kernel
theorem dX7_rebuilds_66 : decode cX7_rebuilds 66 = .ok (.istore_n 2, 1) := by decide +kernel
theorem dX7_rebuilds_67 : decode cX7_rebuilds 67 = .ok (.aload_n 0, 1) := by decide +kernel
theorem dX7_rebuilds_68 : decode cX7_rebuilds 68 = .ok (.getfield 7, 3) := by decide +kernel
theorem dX7_rebuilds_71 : decode cX7_rebuilds 71 = .ok (.iconst 0, 1) := by decide +kernel
theorem dX7_rebuilds_72 : decode cX7_rebuilds 72 = .ok (.iload_n 2, 1) := by decide +kernel
theorem dX7_rebuilds_73 : decode cX7_rebuilds 73 = .ok (.iadd, 1) := by decide +kernel
theorem dX7_rebuilds_74 : decode cX7_rebuilds 74 = .ok (.aload_n 0, 1) := by decide +kernel
theorem dX7_rebuilds_75 : decode cX7_rebuilds 75 = .ok (.getfield 13, 3) := by decide +kernel
theorem dX7_rebuilds_78 : decode cX7_rebuilds 78 = .ok (.iconst 0, 1) := by decide +kernel
theorem dX7_rebuilds_79 : decode cX7_rebuilds 79 = .ok (.iload_n 1, 1) := by decide +kernel
theorem dX7_rebuilds_80 : decode cX7_rebuilds 80 = .ok (.iadd, 1) := by decide +kernel
theorem dX7_rebuilds_81 : decode cX7_rebuilds 81 = .ok (.iaload, 1) := by decide +kernel
theorem dX7_rebuilds_82 : decode cX7_rebuilds 82 = .ok (.iastore, 1) := by decide +kernel
theorem dX7_rebuilds_83 : decode cX7_rebuilds 83 = .ok (.aload_n 0, 1) := by decide +kernel
theorem dX7_rebuilds_84 : decode cX7_rebuilds 84 = .ok (.getfield 7, 3) := by decide +kernel
theorem dX7_rebuilds_87 : decode cX7_rebuilds 87 = .ok (.sipush 200, 3) := by decide +kernel
theorem dX7_rebuilds_90 : decode cX7_rebuilds 90 = .ok (.iload_n 2, 1) := by decide +kernel
theorem dX7_rebuilds_91 : decode cX7_rebuilds 91 = .ok (.iadd, 1) := by decide +kernel
theorem dX7_rebuilds_92 : decode cX7_rebuilds 92 = .ok (.aload_n 0, 1) := by decide +kernel
theorem dX7_rebuilds_93 : decode cX7_rebuilds 93 = .ok (.getfield 13, 3) := by decide +kernel
theorem dX7_rebuilds_96 : decode cX7_rebuilds 96 = .ok (.sipush 200, 3) := by decide +kernel
theorem dX7_rebuilds_99 : decode cX7_rebuilds 99 = .ok (.iload_n 1, 1) := by decide +kernel
theorem dX7_rebuilds_100 : decode cX7_rebuilds 100 = .ok (.iadd, 1) := by decide +kernel
theorem dX7_rebuilds_101 : decode cX7_rebuilds 101 = .ok (.iaload, 1) := by decide +kernel
theorem dX7_rebuilds_102 : decode cX7_rebuilds 102 = .ok (.iastore, 1) := by decide +kernel
theorem dX7_rebuilds_103 : decode cX7_rebuilds 103 = .ok (.aload_n 0, 1) := by decide +kernel
theorem dX7_rebuilds_104 : decode cX7_rebuilds 104 = .ok (.getfield 7, 3) := by decide +kernel
theorem dX7_rebuilds_107 : decode cX7_rebuilds 107 = .ok (.sipush 400, 3) := by decide +kernel
theorem dX7_rebuilds_110 : decode cX7_rebuilds 110 = .ok (.iload_n 2, 1) := by decide +kernel
theorem dX7_rebuilds_111 : decode cX7_rebuilds 111 = .ok (.iadd, 1) := by decide +kernel
theorem dX7_rebuilds_112 : decode cX7_rebuilds 112 = .ok (.aload_n 0, 1) := by decide +kernel
theorem dX7_rebuilds_113 : decode cX7_rebuilds 113 = .ok (.getfield 13, 3) := by decide +kernel
theorem dX7_rebuilds_116 : decode cX7_rebuilds 116 = .ok (.sipush 400, 3) := by decide +kernel
theorem dX7_rebuilds_119 : decode cX7_rebuilds 119 = .ok (.iload_n 1, 1) := by decide +kernel
theorem dX7_rebuilds_120 : decode cX7_rebuilds 120 = .ok (.iadd, 1) := by decide +kernel
theorem dX7_rebuilds_121 : decode cX7_rebuilds 121 = .ok (.iaload, 1) := by decide +kernel
theorem dX7_rebuilds_122 : decode cX7_rebuilds 122 = .ok (.iastore, 1) := by decide +kernel
theorem dX7_rebuilds_123 : decode cX7_rebuilds 123 = .ok (.aload_n 0, 1) := by decide +kernel
theorem dX7_rebuilds_124 : decode cX7_rebuilds 124 = .ok (.getfield 7, 3) := by decide +kernel
theorem dX7_rebuilds_127 : decode cX7_rebuilds 127 = .ok (.sipush 600, 3) := by decide +kernel
theorem dX7_rebuilds_130 : decode cX7_rebuilds 130 = .ok (.iload_n 2, 1) := by decide +kernel
theorem dX7_rebuilds_131 : decode cX7_rebuilds 131 = .ok (.iadd, 1) := by decide +kernel
theorem dX7_rebuilds_132 : decode cX7_rebuilds 132 = .ok (.aload_n 0, 1) := by decide +kernel
theorem dX7_rebuilds_133 : decode cX7_rebuilds 133 = .ok (.getfield 13, 3) := by decide +kernel
theorem dX7_rebuilds_136 : decode cX7_rebuilds 136 = .ok (.sipush 600, 3) := by decide +kernel
theorem dX7_rebuilds_139 : decode cX7_rebuilds 139 = .ok (.iload_n 1, 1) := by decide +kernel
theorem dX7_rebuilds_140 : decode cX7_rebuilds 140 = .ok (.iadd, 1) := by decide +kernel
theorem dX7_rebuilds_141 : decode cX7_rebuilds 141 = .ok (.iaload, 1) := by decide +kernel
theorem dX7_rebuilds_142 : decode cX7_rebuilds 142 = .ok (.iconst 1, 1) := by decide +kernel
theorem dX7_rebuilds_143 : decode cX7_rebuilds 143 = .ok (.iadd, 1) := by decide +kernel
theorem dX7_rebuilds_144 : decode cX7_rebuilds 144 = .ok (.iastore, 1) := by decide +kernel
theorem dX7_rebuilds_145 : decode cX7_rebuilds 145 = .ok (.iconst 1, 1) := by decide +kernel
theorem dX7_rebuilds_146 : decode cX7_rebuilds 146 = .ok (.istore_n 3, 1) := by decide +kernel
theorem dX7_rebuilds_147 : decode cX7_rebuilds 147 = .ok (.iload_n 3, 1) := by decide +kernel
theorem dX7_rebuilds_148 : decode cX7_rebuilds 148 = .ok (.aload_n 0, 1) := by decide +kernel
theorem dX7_rebuilds_149 : decode cX7_rebuilds 149 = .ok (.getfield 13, 3) := by decide +kernel
theorem dX7_rebuilds_152 : decode cX7_rebuilds 152 = .ok (.iconst 0, 1) := by decide +kernel
theorem dX7_rebuilds_153 : decode cX7_rebuilds 153 = .ok (.iload_n 1, 1) := by decide +kernel
theorem dX7_rebuilds_154 : decode cX7_rebuilds 154 = .ok (.iadd, 1) := by decide +kernel
theorem dX7_rebuilds_155 : decode cX7_rebuilds 155 = .ok (.iaload, 1) := by decide +kernel
theorem dX7_rebuilds_156 : decode cX7_rebuilds 156 = .ok (.if_icmp .ge 60, 3) := by decide +kernel
theorem dX7_rebuilds_159 : decode cX7_rebuilds 159 = .ok (.aload_n 0, 1) := by decide +kernel
theorem dX7_rebuilds_160 : decode cX7_rebuilds 160 = .ok (.getfield 13, 3) := by decide +kernel
theorem dX7_rebuilds_163 : decode cX7_rebuilds 163 = .ok (.sipush 800, 3) := by decide +kernel
theorem dX7_rebuilds_166 : decode cX7_rebuilds 166 = .ok (.iload_n 1, 1) := by decide +kernel
theorem dX7_rebuilds_167 : decode cX7_rebuilds 167 = .ok (.iadd, 1) := by decide +kernel
theorem dX7_rebuilds_168 : decode cX7_rebuilds 168 = .ok (.iload_n 3, 1) := by decide +kernel
theorem dX7_rebuilds_169 : decode cX7_rebuilds 169 = .ok (.iadd, 1) := by decide +kernel
theorem dX7_rebuilds_170 : decode cX7_rebuilds 170 = .ok (.iaload, 1) := by decide +kernel
theorem dX7_rebuilds_171 : decode cX7_rebuilds 171 = .ok (.istore 4, 2) := by decide +kernel
theorem dX7_rebuilds_173 : decode cX7_rebuilds 173 = .ok (.aload_n 0, 1) := by decide +kernel
theorem dX7_rebuilds_174 : decode cX7_rebuilds 174 = .ok (.getfield 7, 3) := by decide +kernel
theorem dX7_rebuilds_177 : decode cX7_rebuilds 177 = .ok (.sipush 800, 3) := by decide +kernel
theorem dX7_rebuilds_180 : decode cX7_rebuilds 180 = .ok (.iload_n 2, 1) := by decide +kernel
theorem dX7_rebuilds_181 : decode cX7_rebuilds 181 = .ok (.iadd, 1) := by decide +kernel
theorem dX7_rebuilds_182 : decode cX7_rebuilds 182 = .ok (.iload_n 3, 1) := by decide +kernel
theorem dX7_rebuilds_183 : decode cX7_rebuilds 183 = .ok (.iadd, 1) := by decide +kernel
theorem dX7_rebuilds_184 : decode cX7_rebuilds 184 = .ok (.iload_n 3, 1) := by decide +kernel
theorem dX7_rebuilds_185 : decode cX7_rebuilds 185 = .ok (.aload_n 0, 1) := by decide +kernel
theorem dX7_rebuilds_186 : decode cX7_rebuilds 186 = .ok (.getfield 13, 3) := by decide +kernel
theorem dX7_rebuilds_189 : decode cX7_rebuilds 189 = .ok (.sipush 200, 3) := by decide +kernel
theorem dX7_rebuilds_192 : decode cX7_rebuilds 192 = .ok (.iload_n 1, 1) := by decide +kernel
theorem dX7_rebuilds_193 : decode cX7_rebuilds 193 = .ok (.iadd, 1) := by decide +kernel
theorem dX7_rebuilds_194 : decode cX7_rebuilds 194 = .ok (.iaload, 1) := by decide +kernel
theorem dX7_rebuilds_195 : decode cX7_rebuilds 195 = .ok (.if_icmp .gt 12, 3) := by decide +kernel
theorem dX7_rebuilds_198 : decode cX7_rebuilds 198 = .ok (.aload_n 0, 1) := by decide +kernel
theorem dX7_rebuilds_199 : decode cX7_rebuilds 199 = .ok (.iload 4, 2) := by decide +kernel
theorem dX7_rebuilds_201 : decode cX7_rebuilds 201 = .ok (.invokevirtual 120, 3) := by decide +kernel
theorem dX7_rebuilds_204 : decode cX7_rebuilds 204 = .ok (.goto 5, 3) := by decide +kernel
theorem dX7_rebuilds_207 : decode cX7_rebuilds 207 = .ok (.iload 4, 2) := by decide +kernel
theorem dX7_rebuilds_209 : decode cX7_rebuilds 209 = .ok (.iastore, 1) := by decide +kernel
theorem dX7_rebuilds_210 : decode cX7_rebuilds 210 = .ok (.iinc 3 1, 3) := by decide +kernel
theorem dX7_rebuilds_213 : decode cX7_rebuilds 213 = .ok (.goto (-66), 3) := by decide +kernel
theorem dX7_rebuilds_216 : decode cX7_rebuilds 216 = .ok (.iinc 1 1, 3) := by decide +kernel
theorem dX7_rebuilds_219 : decode cX7_rebuilds 219 = .ok (.goto (-195), 3) := by decide +kernel
theorem dX7_rebuilds_222 : decode cX7_rebuilds 222 = .ok (.iconst 0, 1) := by decide +kernel
theorem dX7_rebuilds_223 : decode cX7_rebuilds 223 = .ok (.istore_n 1, 1) := by decide +kernel
theorem dX7_rebuilds_224 : decode cX7_rebuilds 224 = .ok (.iload_n 1, 1) := by decide +kernel
theorem dX7_rebuilds_225 : decode cX7_rebuilds 225 = .ok (.bipush 10, 2) := by decide +kernel
theorem dX7_rebuilds_227 : decode cX7_rebuilds 227 = .ok (.if_icmp .ge 33, 3) := by decide +kernel
theorem dX7_rebuilds_230 : decode cX7_rebuilds 230 = .ok (.aload_n 0, 1) := by decide +kernel
theorem dX7_rebuilds_231 : decode cX7_rebuilds 231 = .ok (.getfield 7, 3) := by decide +kernel
theorem dX7_rebuilds_234 : decode cX7_rebuilds 234 = .ok (.sipush 1200, 3) := by decide +kernel
theorem dX7_rebuilds_237 : decode cX7_rebuilds 237 = .ok (.iload_n 1, 1) := by decide +kernel
theorem dX7_rebuilds_238 : decode cX7_rebuilds 238 = .ok (.iadd, 1) := by decide +kernel
theorem dX7_rebuilds_239 : decode cX7_rebuilds 239 = .ok (.aload_n 0, 1) := by decide +kernel
theorem dX7_rebuilds_240 : decode cX7_rebuilds 240 = .ok (.aload_n 0, 1) := by decide +kernel
theorem dX7_rebuilds_241 : decode cX7_rebuilds 241 = .ok (.getfield 13, 3) := by decide +kernel
theorem dX7_rebuilds_244 : decode cX7_rebuilds 244 = .ok (.sipush 1200, 3) := by decide +kernel
theorem dX7_rebuilds_247 : decode cX7_rebuilds 247 = .ok (.iload_n 1, 1) := by decide +kernel
theorem dX7_rebuilds_248 : decode cX7_rebuilds 248 = .ok (.iadd, 1) := by decide +kernel
theorem dX7_rebuilds_249 : decode cX7_rebuilds 249 = .ok (.iaload, 1) := by decide +kernel
theorem dX7_rebuilds_250 : decode cX7_rebuilds 250 = .ok (.invokevirtual 120, 3) := by decide +kernel
theorem dX7_rebuilds_253 : decode cX7_rebuilds 253 = .ok (.iastore, 1) := by decide +kernel
theorem dX7_rebuilds_254 : decode cX7_rebuilds 254 = .ok (.iinc 1 1, 3) := by decide +kernel
theorem dX7_rebuilds_257 : decode cX7_rebuilds 257 = .ok (.goto (-33), 3) := by decide +kernel
theorem dX7_rebuilds_260 : decode cX7_rebuilds 260 = .ok (.return_, 1) := by decide +kernel
theorem dX7_moved_0 : decode cX7_moved 0 = .ok (.iload_n 1, 1) := by decide +kernel
theorem dX7_moved_1 : decode cX7_moved 1 = .ok (.iconst 0, 1) := by decide +kernel
theorem dX7_moved_2 : decode cX7_moved 2 = .ok (.aload_n 0, 1) := by decide +kernel
theorem dX7_moved_3 : decode cX7_moved 3 = .ok (.getfield 7, 3) := by decide +kernel
theorem dX7_moved_6 : decode cX7_moved 6 = .ok (.sipush 1216, 3) := by decide +kernel
theorem dX7_moved_9 : decode cX7_moved 9 = .ok (.iaload, 1) := by decide +kernel
theorem dX7_moved_10 : decode cX7_moved 10 = .ok (.iconst 1, 1) := by decide +kernel
theorem dX7_moved_11 : decode cX7_moved 11 = .ok (.isub, 1) := by decide +kernel
theorem dX7_moved_12 : decode cX7_moved 12 = .ok (.invokestatic 46, 3) := by decide +kernel
theorem dX7_moved_15 : decode cX7_moved 15 = .ok (.ifCond .ne 6, 3) := by decide +kernel
theorem dX7_moved_18 : decode cX7_moved 18 = .ok (.ldc 50, 2) := by decide +kernel
theorem dX7_moved_20 : decode cX7_moved 20 = .ok (.ireturn, 1) := by decide +kernel
theorem dX7_moved_21 : decode cX7_moved 21 = .ok (.aload_n 0, 1) := by decide +kernel
theorem dX7_moved_22 : decode cX7_moved 22 = .ok (.getfield 7, 3) := by decide +kernel
theorem dX7_moved_25 : decode cX7_moved 25 = .ok (.sipush 1221, 3) := by decide +kernel
theorem dX7_moved_28 : decode cX7_moved 28 = .ok (.iaload, 1) := by decide +kernel
theorem dX7_moved_29 : decode cX7_moved 29 = .ok (.iconst 1, 1) := by decide +kernel
theorem dX7_moved_30 : decode cX7_moved 30 = .ok (.if_icmp .ne 16, 3) := by decide +kernel
theorem dX7_moved_33 : decode cX7_moved 33 = .ok (.aload_n 0, 1) := by decide +kernel
theorem dX7_moved_34 : decode cX7_moved 34 = .ok (.getfield 7, 3) := by decide +kernel
theorem dX7_moved_37 : decode cX7_moved 37 = .ok (.sipush 1000, 3) := by decide +kernel
theorem dX7_moved_40 : decode cX7_moved 40 = .ok (.iload_n 1, 1) := by decide +kernel
theorem dX7_moved_41 : decode cX7_moved 41 = .ok (.iadd, 1) := by decide +kernel
theorem dX7_moved_42 : decode cX7_moved 42 = .ok (.iaload, 1) := by decide +kernel
theorem dX7_moved_43 : decode cX7_moved 43 = .ok (.goto 5, 3) := by decide +kernel
theorem dX7_moved_46 : decode cX7_moved 46 = .ok (.ldc 82, 2) := by decide +kernel
theorem dX7_moved_48 : decode cX7_moved 48 = .ok (.ireturn, 1) := by decide +kernel
theorem dX7_report_0 : decode cX7_report 0 = .ok (.iload_n 1, 1) := by decide +kernel
theorem dX7_report_1 : decode cX7_report 1 = .ok (.iconst 0, 1) := by decide +kernel
theorem dX7_report_2 : decode cX7_report 2 = .ok (.iconst 5, 1) := by decide +kernel
theorem dX7_report_3 : decode cX7_report 3 = .ok (.invokestatic 46, 3) := by decide +kernel
theorem dX7_report_6 : decode cX7_report 6 = .ok (.ifCond .ne 6, 3) := by decide +kernel
theorem dX7_report_9 : decode cX7_report 9 = .ok (.ldc 50, 2) := by decide +kernel
theorem dX7_report_11 : decode cX7_report 11 = .ok (.ireturn, 1) := by decide +kernel
theorem dX7_report_12 : decode cX7_report 12 = .ok (.aload_n 0, 1) := by decide +kernel
theorem dX7_report_13 : decode cX7_report 13 = .ok (.getfield 7, 3) := by decide +kernel
theorem dX7_report_16 : decode cX7_report 16 = .ok (.sipush 1221, 3) := by decide +kernel
theorem dX7_report_19 : decode cX7_report 19 = .ok (.iaload, 1) := by decide +kernel
theorem dX7_report_20 : decode cX7_report 20 = .ok (.iconst 1, 1) := by decide +kernel
theorem dX7_report_21 : decode cX7_report 21 = .ok (.if_icmp .ne 16, 3) := by decide +kernel
theorem dX7_report_24 : decode cX7_report 24 = .ok (.aload_n 0, 1) := by decide +kernel
theorem dX7_report_25 : decode cX7_report 25 = .ok (.getfield 7, 3) := by decide +kernel
theorem dX7_report_28 : decode cX7_report 28 = .ok (.sipush 1210, 3) := by decide +kernel
theorem dX7_report_31 : decode cX7_report 31 = .ok (.iload_n 1, 1) := by decide +kernel
theorem dX7_report_32 : decode cX7_report 32 = .ok (.iadd, 1) := by decide +kernel
theorem dX7_report_33 : decode cX7_report 33 = .ok (.iaload, 1) := by decide +kernel
theorem dX7_report_34 : decode cX7_report 34 = .ok (.goto 5, 3) := by decide +kernel
theorem dX7_report_37 : decode cX7_report 37 = .ok (.ldc 82, 2) := by decide +kernel
theorem dX7_report_39 : decode cX7_report 39 = .ok (.ireturn, 1) := by decide +kernel
theorem dX7_garbage_0 : decode cX7_garbage 0 = .ok (.aload_n 0, 1) := by decide +kernel
theorem dX7_garbage_1 : decode cX7_garbage 1 = .ok (.iconst (-1), 1) := by decide +kernel
theorem dX7_garbage_2 : decode cX7_garbage 2 = .ok (.invokevirtual 69, 3) := by decide +kernel
theorem dX7_garbage_5 : decode cX7_garbage 5 = .ok (.aload_n 0, 1) := by decide +kernel
theorem dX7_garbage_6 : decode cX7_garbage 6 = .ok (.invokevirtual 110, 3) := by decide +kernel
theorem dX7_garbage_9 : decode cX7_garbage 9 = .ok (.aload_n 0, 1) := by decide +kernel
theorem dX7_garbage_10 : decode cX7_garbage 10 = .ok (.invokevirtual 123, 3) := by decide +kernel
theorem dX7_garbage_13 : decode cX7_garbage 13 = .ok (.isub, 1) := by decide +kernel
theorem dX7_garbage_14 : decode cX7_garbage 14 = .ok (.ireturn, 1) := by decide +kernel
theorem dX7_distance_0 : decode cX7_distance 0 = .ok (.aload_n 0, 1) := by decide +kernel
theorem dX7_distance_1 : decode cX7_distance 1 = .ok (.iload_n 1, 1) := by decide +kernel
theorem dX7_distance_2 : decode cX7_distance 2 = .ok (.invokevirtual 51, 3) := by decide +kernel
theorem dX7_distance_5 : decode cX7_distance 5 = .ok (.istore_n 2, 1) := by decide +kernel
theorem dX7_distance_6 : decode cX7_distance 6 = .ok (.iload_n 2, 1) := by decide +kernel
theorem dX7_distance_7 : decode cX7_distance 7 = .ok (.iconst (-1), 1) := by decide +kernel
theorem dX7_distance_8 : decode cX7_distance 8 = .ok (.if_icmp .ne 6, 3) := by decide +kernel
theorem dX7_distance_11 : decode cX7_distance 11 = .ok (.ldc 50, 2) := by decide +kernel
theorem dX7_distance_13 : decode cX7_distance 13 = .ok (.ireturn, 1) := by decide +kernel
theorem dX7_distance_14 : decode cX7_distance 14 = .ok (.aload_n 0, 1) := by decide +kernel
theorem dX7_distance_15 : decode cX7_distance 15 = .ok (.iconst (-1), 1) := by decide +kernel
theorem dX7_distance_16 : decode cX7_distance 16 = .ok (.invokevirtual 69, 3) := by decide +kernel
theorem dX7_distance_19 : decode cX7_distance 19 = .ok (.aload_n 0, 1) := by decide +kernel
theorem dX7_distance_20 : decode cX7_distance 20 = .ok (.getfield 30, 3) := by decide +kernel
theorem dX7_distance_23 : decode cX7_distance 23 = .ok (.iload_n 2, 1) := by decide +kernel
theorem dX7_distance_24 : decode cX7_distance 24 = .ok (.iaload, 1) := by decide +kernel
theorem dX7_distance_25 : decode cX7_distance 25 = .ok (.ireturn, 1) := by decide +kernel
theorem dX7_retained_0 : decode cX7_retained 0 = .ok (.aload_n 0, 1) := by decide +kernel
theorem dX7_retained_1 : decode cX7_retained 1 = .ok (.iload_n 1, 1) := by decide +kernel
theorem dX7_retained_2 : decode cX7_retained 2 = .ok (.invokevirtual 51, 3) := by decide +kernel
theorem dX7_retained_5 : decode cX7_retained 5 = .ok (.istore_n 2, 1) := by decide +kernel
theorem dX7_retained_6 : decode cX7_retained 6 = .ok (.iload_n 2, 1) := by decide +kernel
theorem dX7_retained_7 : decode cX7_retained 7 = .ok (.iconst (-1), 1) := by decide +kernel
theorem dX7_retained_8 : decode cX7_retained 8 = .ok (.if_icmp .ne 6, 3) := by decide +kernel
theorem dX7_retained_11 : decode cX7_retained 11 = .ok (.ldc 50, 2) := by decide +kernel
theorem dX7_retained_13 : decode cX7_retained 13 = .ok (.ireturn, 1) := by decide +kernel
theorem dX7_retained_14 : decode cX7_retained 14 = .ok (.aload_n 0, 1) := by decide +kernel
theorem dX7_retained_15 : decode cX7_retained 15 = .ok (.iconst (-1), 1) := by decide +kernel
theorem dX7_retained_16 : decode cX7_retained 16 = .ok (.invokevirtual 69, 3) := by decide +kernel
theorem dX7_retained_19 : decode cX7_retained 19 = .ok (.aload_n 0, 1) := by decide +kernel
theorem dX7_retained_20 : decode cX7_retained 20 = .ok (.invokevirtual 123, 3) := by decide +kernel
theorem dX7_retained_23 : decode cX7_retained 23 = .ok (.istore_n 3, 1) := by decide +kernel
theorem dX7_retained_24 : decode cX7_retained 24 = .ok (.aload_n 0, 1) := by decide +kernel
theorem dX7_retained_25 : decode cX7_retained 25 = .ok (.getfield 30, 3) := by decide +kernel
theorem dX7_retained_28 : decode cX7_retained 28 = .ok (.iload_n 2, 1) := by decide +kernel
theorem dX7_retained_29 : decode cX7_retained 29 = .ok (.iaload, 1) := by decide +kernel
theorem dX7_retained_30 : decode cX7_retained 30 = .ok (.iconst (-1), 1) := by decide +kernel
theorem dX7_retained_31 : decode cX7_retained 31 = .ok (.if_icmp .ne 5, 3) := by decide +kernel
theorem dX7_retained_34 : decode cX7_retained 34 = .ok (.iconst 0, 1) := by decide +kernel
theorem dX7_retained_35 : decode cX7_retained 35 = .ok (.ireturn, 1) := by decide +kernel
theorem dX7_retained_36 : decode cX7_retained 36 = .ok (.aload_n 0, 1) := by decide +kernel
theorem dX7_retained_37 : decode cX7_retained 37 = .ok (.iload_n 2, 1) := by decide +kernel
theorem dX7_retained_38 : decode cX7_retained 38 = .ok (.invokevirtual 69, 3) := by decide +kernel
theorem dX7_retained_41 : decode cX7_retained 41 = .ok (.iload_n 3, 1) := by decide +kernel
theorem dX7_retained_42 : decode cX7_retained 42 = .ok (.aload_n 0, 1) := by decide +kernel
theorem dX7_retained_43 : decode cX7_retained 43 = .ok (.invokevirtual 123, 3) := by decide +kernel
theorem dX7_retained_46 : decode cX7_retained 46 = .ok (.isub, 1) := by decide +kernel
theorem dX7_retained_47 : decode cX7_retained 47 = .ok (.ireturn, 1) := by decide +kernel
theorem dX7_free_0 : decode cX7_free 0 = .ok (.iload_n 1, 1) := by decide +kernel
theorem dX7_free_1 : decode cX7_free 1 = .ok (.iconst 0, 1) := by decide +kernel
theorem dX7_free_2 : decode cX7_free 2 = .ok (.iconst 4, 1) := by decide +kernel
theorem dX7_free_3 : decode cX7_free 3 = .ok (.invokestatic 46, 3) := by decide +kernel
theorem dX7_free_6 : decode cX7_free 6 = .ok (.ifCond .ne 6, 3) := by decide +kernel
theorem dX7_free_9 : decode cX7_free 9 = .ok (.ldc 50, 2) := by decide +kernel
theorem dX7_free_11 : decode cX7_free 11 = .ok (.ireturn, 1) := by decide +kernel
theorem dX7_free_12 : decode cX7_free 12 = .ok (.iconst 0, 1) := by decide +kernel
theorem dX7_free_13 : decode cX7_free 13 = .ok (.istore_n 2, 1) := by decide +kernel
theorem dX7_free_14 : decode cX7_free 14 = .ok (.iconst 0, 1) := by decide +kernel
theorem dX7_free_15 : decode cX7_free 15 = .ok (.istore_n 3, 1) := by decide +kernel
theorem dX7_free_16 : decode cX7_free 16 = .ok (.iconst 0, 1) := by decide +kernel
theorem dX7_free_17 : decode cX7_free 17 = .ok (.istore 4, 2) := by decide +kernel
theorem dX7_free_19 : decode cX7_free 19 = .ok (.iconst (-1), 1) := by decide +kernel
theorem dX7_free_20 : decode cX7_free 20 = .ok (.istore 5, 2) := by decide +kernel
theorem dX7_free_22 : decode cX7_free 22 = .ok (.iconst 0, 1) := by decide +kernel
theorem dX7_free_23 : decode cX7_free 23 = .ok (.istore 6, 2) := by decide +kernel
theorem dX7_free_25 : decode cX7_free 25 = .ok (.iconst 0, 1) := by decide +kernel
theorem dX7_free_26 : decode cX7_free 26 = .ok (.istore 7, 2) := by decide +kernel
theorem dX7_free_28 : decode cX7_free 28 = .ok (.iload 7, 2) := by decide +kernel
theorem dX7_free_30 : decode cX7_free 30 = .ok (.aload_n 0, 1) := by decide +kernel
theorem dX7_free_31 : decode cX7_free 31 = .ok (.getfield 7, 3) := by decide +kernel
theorem dX7_free_34 : decode cX7_free 34 = .ok (.sipush 1216, 3) := by decide +kernel
theorem dX7_free_37 : decode cX7_free 37 = .ok (.iaload, 1) := by decide +kernel
theorem dX7_free_38 : decode cX7_free 38 = .ok (.if_icmp .ge 147, 3) := by decide +kernel
theorem dX7_free_41 : decode cX7_free 41 = .ok (.iconst 0, 1) := by decide +kernel
theorem dX7_free_42 : decode cX7_free 42 = .ok (.istore 8, 2) := by decide +kernel
theorem dX7_free_44 : decode cX7_free 44 = .ok (.iload 7, 2) := by decide +kernel
theorem dX7_free_46 : decode cX7_free 46 = .ok (.iload 8, 2) := by decide +kernel
theorem dX7_free_48 : decode cX7_free 48 = .ok (.iadd, 1) := by decide +kernel
theorem dX7_free_49 : decode cX7_free 49 = .ok (.aload_n 0, 1) := by decide +kernel
theorem dX7_free_50 : decode cX7_free 50 = .ok (.getfield 7, 3) := by decide +kernel
theorem dX7_free_53 : decode cX7_free 53 = .ok (.sipush 1216, 3) := by decide +kernel
theorem dX7_free_56 : decode cX7_free 56 = .ok (.iaload, 1) := by decide +kernel
theorem dX7_free_57 : decode cX7_free 57 = .ok (.if_icmp .ge 24, 3) := by decide +kernel
theorem dX7_free_60 : decode cX7_free 60 = .ok (.aload_n 0, 1) := by decide +kernel
theorem dX7_free_61 : decode cX7_free 61 = .ok (.getfield 7, 3) := by decide +kernel
theorem dX7_free_64 : decode cX7_free 64 = .ok (.iconst 0, 1) := by decide +kernel
theorem dX7_free_65 : decode cX7_free 65 = .ok (.iload 7, 2) := by decide +kernel
theorem dX7_free_67 : decode cX7_free 67 = .ok (.iadd, 1) := by decide +kernel
theorem dX7_free_68 : decode cX7_free 68 = .ok (.iload 8, 2) := by decide +kernel
theorem dX7_free_70 : decode cX7_free 70 = .ok (.iadd, 1) := by decide +kernel
theorem dX7_free_71 : decode cX7_free 71 = .ok (.iaload, 1) := by decide +kernel
theorem dX7_free_72 : decode cX7_free 72 = .ok (.ifCond .ne 9, 3) := by decide +kernel
theorem dX7_free_75 : decode cX7_free 75 = .ok (.iinc 8 1, 3) := by decide +kernel
theorem dX7_free_78 : decode cX7_free 78 = .ok (.goto (-34), 3) := by decide +kernel
theorem dX7_free_81 : decode cX7_free 81 = .ok (.iload 8, 2) := by decide +kernel
theorem dX7_free_83 : decode cX7_free 83 = .ok (.ifCond .le 14, 3) := by decide +kernel
theorem dX7_free_86 : decode cX7_free 86 = .ok (.iload 5, 2) := by decide +kernel
theorem dX7_free_88 : decode cX7_free 88 = .ok (.iconst (-1), 1) := by decide +kernel
theorem dX7_free_89 : decode cX7_free 89 = .ok (.if_icmp .ne 8, 3) := by decide +kernel
theorem dX7_free_92 : decode cX7_free 92 = .ok (.iload 7, 2) := by decide +kernel
theorem dX7_free_94 : decode cX7_free 94 = .ok (.goto 5, 3) := by decide +kernel
theorem dX7_free_97 : decode cX7_free 97 = .ok (.iload 5, 2) := by decide +kernel
theorem dX7_free_99 : decode cX7_free 99 = .ok (.istore 5, 2) := by decide +kernel
theorem dX7_free_101 : decode cX7_free 101 = .ok (.iload_n 2, 1) := by decide +kernel
theorem dX7_free_102 : decode cX7_free 102 = .ok (.iload 8, 2) := by decide +kernel
theorem dX7_free_104 : decode cX7_free 104 = .ok (.iadd, 1) := by decide +kernel
theorem dX7_free_105 : decode cX7_free 105 = .ok (.istore_n 2, 1) := by decide +kernel
theorem dX7_free_106 : decode cX7_free 106 = .ok (.iload_n 3, 1) := by decide +kernel
theorem dX7_free_107 : decode cX7_free 107 = .ok (.iload 8, 2) := by decide +kernel
theorem dX7_free_109 : decode cX7_free 109 = .ok (.ifCond .le 7, 3) := by decide +kernel
theorem dX7_free_112 : decode cX7_free 112 = .ok (.iconst 1, 1) := by decide +kernel
theorem dX7_free_113 : decode cX7_free 113 = .ok (.goto 4, 3) := by decide +kernel
theorem dX7_free_116 : decode cX7_free 116 = .ok (.iconst 0, 1) := by decide +kernel
theorem dX7_free_117 : decode cX7_free 117 = .ok (.iadd, 1) := by decide +kernel
theorem dX7_free_118 : decode cX7_free 118 = .ok (.istore_n 3, 1) := by decide +kernel
theorem dX7_free_119 : decode cX7_free 119 = .ok (.iload 8, 2) := by decide +kernel
theorem dX7_free_121 : decode cX7_free 121 = .ok (.iload 4, 2) := by decide +kernel
theorem dX7_free_123 : decode cX7_free 123 = .ok (.if_icmp .le 8, 3) := by decide +kernel
theorem dX7_free_126 : decode cX7_free 126 = .ok (.iload 8, 2) := by decide +kernel
theorem dX7_free_128 : decode cX7_free 128 = .ok (.goto 5, 3) := by decide +kernel
theorem dX7_free_131 : decode cX7_free 131 = .ok (.iload 4, 2) := by decide +kernel
theorem dX7_free_133 : decode cX7_free 133 = .ok (.istore 4, 2) := by decide +kernel
theorem dX7_free_135 : decode cX7_free 135 = .ok (.iload 6, 2) := by decide +kernel
theorem dX7_free_137 : decode cX7_free 137 = .ok (.iload 8, 2) := by decide +kernel
theorem dX7_free_139 : decode cX7_free 139 = .ok (.iconst 4, 1) := by decide +kernel
theorem dX7_free_140 : decode cX7_free 140 = .ok (.idiv, 1) := by decide +kernel
theorem dX7_free_141 : decode cX7_free 141 = .ok (.iadd, 1) := by decide +kernel
theorem dX7_free_142 : decode cX7_free 142 = .ok (.istore 6, 2) := by decide +kernel
theorem dX7_free_144 : decode cX7_free 144 = .ok (.iload 7, 2) := by decide +kernel
theorem dX7_free_146 : decode cX7_free 146 = .ok (.iload 8, 2) := by decide +kernel
theorem dX7_free_148 : decode cX7_free 148 = .ok (.iadd, 1) := by decide +kernel
theorem dX7_free_149 : decode cX7_free 149 = .ok (.istore 7, 2) := by decide +kernel
theorem dX7_free_151 : decode cX7_free 151 = .ok (.iload 7, 2) := by decide +kernel
theorem dX7_free_153 : decode cX7_free 153 = .ok (.iload 7, 2) := by decide +kernel
theorem dX7_free_155 : decode cX7_free 155 = .ok (.aload_n 0, 1) := by decide +kernel
theorem dX7_free_156 : decode cX7_free 156 = .ok (.getfield 7, 3) := by decide +kernel
theorem dX7_free_159 : decode cX7_free 159 = .ok (.sipush 1216, 3) := by decide +kernel
theorem dX7_free_162 : decode cX7_free 162 = .ok (.iaload, 1) := by decide +kernel
theorem dX7_free_163 : decode cX7_free 163 = .ok (.if_icmp .ge 15, 3) := by decide +kernel
theorem dX7_free_166 : decode cX7_free 166 = .ok (.aload_n 0, 1) := by decide +kernel
theorem dX7_free_167 : decode cX7_free 167 = .ok (.getfield 7, 3) := by decide +kernel
theorem dX7_free_170 : decode cX7_free 170 = .ok (.iconst 0, 1) := by decide +kernel
theorem dX7_free_171 : decode cX7_free 171 = .ok (.iload 7, 2) := by decide +kernel
theorem dX7_free_173 : decode cX7_free 173 = .ok (.iadd, 1) := by decide +kernel
theorem dX7_free_174 : decode cX7_free 174 = .ok (.iaload, 1) := by decide +kernel
theorem dX7_free_175 : decode cX7_free 175 = .ok (.goto 4, 3) := by decide +kernel
theorem dX7_free_178 : decode cX7_free 178 = .ok (.iconst 0, 1) := by decide +kernel
theorem dX7_free_179 : decode cX7_free 179 = .ok (.iadd, 1) := by decide +kernel
theorem dX7_free_180 : decode cX7_free 180 = .ok (.istore 7, 2) := by decide +kernel
theorem dX7_free_182 : decode cX7_free 182 = .ok (.goto (-154), 3) := by decide +kernel
theorem dX7_free_185 : decode cX7_free 185 = .ok (.iload_n 1, 1) := by decide +kernel
theorem dX7_free_186 : decode cX7_free 186 = .ok (.ifCond .ne 7, 3) := by decide +kernel
theorem dX7_free_189 : decode cX7_free 189 = .ok (.iload_n 2, 1) := by decide +kernel
theorem dX7_free_190 : decode cX7_free 190 = .ok (.goto 34, 3) := by decide +kernel
theorem dX7_free_193 : decode cX7_free 193 = .ok (.iload_n 1, 1) := by decide +kernel
theorem dX7_free_194 : decode cX7_free 194 = .ok (.iconst 1, 1) := by decide +kernel
theorem dX7_free_195 : decode cX7_free 195 = .ok (.if_icmp .ne 7, 3) := by decide +kernel
theorem dX7_free_198 : decode cX7_free 198 = .ok (.iload_n 3, 1) := by decide +kernel
theorem dX7_free_199 : decode cX7_free 199 = .ok (.goto 25, 3) := by decide +kernel
theorem dX7_free_202 : decode cX7_free 202 = .ok (.iload_n 1, 1) := by decide +kernel
theorem dX7_free_203 : decode cX7_free 203 = .ok (.iconst 2, 1) := by decide +kernel
theorem dX7_free_204 : decode cX7_free 204 = .ok (.if_icmp .ne 8, 3) := by decide +kernel
theorem dX7_free_207 : decode cX7_free 207 = .ok (.iload 4, 2) := by decide +kernel
theorem dX7_free_209 : decode cX7_free 209 = .ok (.goto 15, 3) := by decide +kernel
theorem dX7_free_212 : decode cX7_free 212 = .ok (.iload_n 1, 1) := by decide +kernel
theorem dX7_free_213 : decode cX7_free 213 = .ok (.iconst 3, 1) := by decide +kernel
theorem dX7_free_214 : decode cX7_free 214 = .ok (.if_icmp .ne 8, 3) := by decide +kernel
theorem dX7_free_217 : decode cX7_free 217 = .ok (.iload 5, 2) := by decide +kernel
theorem dX7_free_219 : decode cX7_free 219 = .ok (.goto 5, 3) := by decide +kernel
theorem dX7_free_222 : decode cX7_free 222 = .ok (.iload 6, 2) := by decide +kernel
theorem dX7_free_224 : decode cX7_free 224 = .ok (.ireturn, 1) := by decide +kernel
theorem dX7_type_0 : decode cX7_type 0 = .ok (.iload_n 1, 1) := by decide +kernel
theorem dX7_type_1 : decode cX7_type 1 = .ok (.iconst 0, 1) := by decide +kernel
theorem dX7_type_2 : decode cX7_type 2 = .ok (.bipush 127, 2) := by decide +kernel
theorem dX7_type_4 : decode cX7_type 4 = .ok (.invokestatic 46, 3) := by decide +kernel
theorem dX7_type_7 : decode cX7_type 7 = .ok (.ifCond .ne 6, 3) := by decide +kernel
theorem dX7_type_10 : decode cX7_type 10 = .ok (.ldc 50, 2) := by decide +kernel
theorem dX7_type_12 : decode cX7_type 12 = .ok (.ireturn, 1) := by decide +kernel
theorem dX7_type_13 : decode cX7_type 13 = .ok (.aload_n 0, 1) := by decide +kernel
theorem dX7_type_14 : decode cX7_type 14 = .ok (.getfield 126, 3) := by decide +kernel
theorem dX7_type_17 : decode cX7_type 17 = .ok (.bipush 80, 2) := by decide +kernel
theorem dX7_type_19 : decode cX7_type 19 = .ok (.if_icmp .ne 6, 3) := by decide +kernel
theorem dX7_type_22 : decode cX7_type 22 = .ok (.ldc 59, 2) := by decide +kernel
theorem dX7_type_24 : decode cX7_type 24 = .ok (.ireturn, 1) := by decide +kernel
theorem dX7_type_25 : decode cX7_type 25 = .ok (.aload_n 0, 1) := by decide +kernel
theorem dX7_type_26 : decode cX7_type 26 = .ok (.getfield 23, 3) := by decide +kernel
theorem dX7_type_29 : decode cX7_type 29 = .ok (.aload_n 0, 1) := by decide +kernel
theorem dX7_type_30 : decode cX7_type 30 = .ok (.getfield 126, 3) := by decide +kernel
theorem dX7_type_33 : decode cX7_type 33 = .ok (.iload_n 1, 1) := by decide +kernel
theorem dX7_type_34 : decode cX7_type 34 = .ok (.iastore, 1) := by decide +kernel
theorem dX7_type_35 : decode cX7_type 35 = .ok (.aload_n 0, 1) := by decide +kernel
theorem dX7_type_36 : decode cX7_type 36 = .ok (.dup, 1) := by decide +kernel
theorem dX7_type_37 : decode cX7_type 37 = .ok (.getfield 126, 3) := by decide +kernel
theorem dX7_type_40 : decode cX7_type 40 = .ok (.iconst 1, 1) := by decide +kernel
theorem dX7_type_41 : decode cX7_type 41 = .ok (.iadd, 1) := by decide +kernel
theorem dX7_type_42 : decode cX7_type 42 = .ok (.putfield 126, 3) := by decide +kernel
theorem dX7_type_45 : decode cX7_type 45 = .ok (.aload_n 0, 1) := by decide +kernel
theorem dX7_type_46 : decode cX7_type 46 = .ok (.getfield 126, 3) := by decide +kernel
theorem dX7_type_49 : decode cX7_type 49 = .ok (.ireturn, 1) := by decide +kernel
theorem dX7_clearText_0 : decode cX7_clearText 0 = .ok (.aload_n 0, 1) := by decide +kernel
theorem dX7_clearText_1 : decode cX7_clearText 1 = .ok (.getfield 126, 3) := by decide +kernel
theorem dX7_clearText_4 : decode cX7_clearText 4 = .ok (.istore_n 1, 1) := by decide +kernel
theorem dX7_clearText_5 : decode cX7_clearText 5 = .ok (.aload_n 0, 1) := by decide +kernel
theorem dX7_clearText_6 : decode cX7_clearText 6 = .ok (.iconst 0, 1) := by decide +kernel
theorem dX7_clearText_7 : decode cX7_clearText 7 = .ok (.putfield 126, 3) := by decide +kernel
theorem dX7_clearText_10 : decode cX7_clearText 10 = .ok (.iload_n 1, 1) := by decide +kernel
theorem dX7_clearText_11 : decode cX7_clearText 11 = .ok (.ireturn, 1) := by decide +kernel
theorem dX7_next__0 : decode cX7_next_ 0 = .ok (.aload_n 0, 1) := by decide +kernel
theorem dX7_next__1 : decode cX7_next_ 1 = .ok (.getfield 129, 3) := by decide +kernel
theorem dX7_next__4 : decode cX7_next_ 4 = .ok (.aload_n 0, 1) := by decide +kernel
theorem dX7_next__5 : decode cX7_next_ 5 = .ok (.getfield 126, 3) := by decide +kernel
theorem dX7_next__8 : decode cX7_next_ 8 = .ok (.if_icmp .ge 15, 3) := by decide +kernel
theorem dX7_next__11 : decode cX7_next_ 11 = .ok (.aload_n 0, 1) := by decide +kernel
theorem dX7_next__12 : decode cX7_next_ 12 = .ok (.getfield 23, 3) := by decide +kernel
theorem dX7_next__15 : decode cX7_next_ 15 = .ok (.aload_n 0, 1) := by decide +kernel
theorem dX7_next__16 : decode cX7_next_ 16 = .ok (.getfield 129, 3) := by decide +kernel
theorem dX7_next__19 : decode cX7_next_ 19 = .ok (.iaload, 1) := by decide +kernel
theorem dX7_next__20 : decode cX7_next_ 20 = .ok (.goto 4, 3) := by decide +kernel
theorem dX7_next__23 : decode cX7_next_ 23 = .ok (.iconst (-1), 1) := by decide +kernel
theorem dX7_next__24 : decode cX7_next_ 24 = .ok (.ireturn, 1) := by decide +kernel
theorem dX7_blanks_0 : decode cX7_blanks 0 = .ok (.aload_n 0, 1) := by decide +kernel
theorem dX7_blanks_1 : decode cX7_blanks 1 = .ok (.invokevirtual 132, 3) := by decide +kernel
theorem dX7_blanks_4 : decode cX7_blanks 4 = .ok (.bipush 32, 2) := by decide +kernel
theorem dX7_blanks_6 : decode cX7_blanks 6 = .ok (.if_icmp .ne 16, 3) := by decide +kernel
theorem dX7_blanks_9 : decode cX7_blanks 9 = .ok (.aload_n 0, 1) := by decide +kernel
theorem dX7_blanks_10 : decode cX7_blanks 10 = .ok (.dup, 1) := by decide +kernel
theorem dX7_blanks_11 : decode cX7_blanks 11 = .ok (.getfield 129, 3) := by decide +kernel
theorem dX7_blanks_14 : decode cX7_blanks 14 = .ok (.iconst 1, 1) := by decide +kernel
theorem dX7_blanks_15 : decode cX7_blanks 15 = .ok (.iadd, 1) := by decide +kernel
theorem dX7_blanks_16 : decode cX7_blanks 16 = .ok (.putfield 129, 3) := by decide +kernel
theorem dX7_blanks_19 : decode cX7_blanks 19 = .ok (.goto (-19), 3) := by decide +kernel
theorem dX7_blanks_22 : decode cX7_blanks 22 = .ok (.return_, 1) := by decide +kernel
theorem dX7_fails_0 : decode cX7_fails 0 = .ok (.aload_n 0, 1) := by decide +kernel
theorem dX7_fails_1 : decode cX7_fails 1 = .ok (.aload_n 0, 1) := by decide +kernel
theorem dX7_fails_2 : decode cX7_fails 2 = .ok (.getfield 135, 3) := by decide +kernel
theorem dX7_fails_5 : decode cX7_fails 5 = .ok (.iconst (-1), 1) := by decide +kernel
theorem dX7_fails_6 : decode cX7_fails 6 = .ok (.if_icmp .ne 10, 3) := by decide +kernel
theorem dX7_fails_9 : decode cX7_fails 9 = .ok (.aload_n 0, 1) := by decide +kernel
theorem dX7_fails_10 : decode cX7_fails 10 = .ok (.getfield 129, 3) := by decide +kernel
theorem dX7_fails_13 : decode cX7_fails 13 = .ok (.goto 7, 3) := by decide +kernel
theorem dX7_fails_16 : decode cX7_fails 16 = .ok (.aload_n 0, 1) := by decide +kernel
theorem dX7_fails_17 : decode cX7_fails 17 = .ok (.getfield 135, 3) := by decide +kernel
theorem dX7_fails_20 : decode cX7_fails 20 = .ok (.putfield 135, 3) := by decide +kernel
theorem dX7_fails_23 : decode cX7_fails 23 = .ok (.return_, 1) := by decide +kernel
theorem dX7_isDigit_0 : decode cX7_isDigit 0 = .ok (.aload_n 0, 1) := by decide +kernel
theorem dX7_isDigit_1 : decode cX7_isDigit 1 = .ok (.invokevirtual 132, 3) := by decide +kernel
theorem dX7_isDigit_4 : decode cX7_isDigit 4 = .ok (.bipush 48, 2) := by decide +kernel
theorem dX7_isDigit_6 : decode cX7_isDigit 6 = .ok (.bipush 57, 2) := by decide +kernel
theorem dX7_isDigit_8 : decode cX7_isDigit 8 = .ok (.invokestatic 46, 3) := by decide +kernel
theorem dX7_isDigit_11 : decode cX7_isDigit 11 = .ok (.ireturn, 1) := by decide +kernel
theorem dX7_digit_0 : decode cX7_digit 0 = .ok (.aload_n 0, 1) := by decide +kernel
theorem dX7_digit_1 : decode cX7_digit 1 = .ok (.invokevirtual 132, 3) := by decide +kernel
theorem dX7_digit_4 : decode cX7_digit 4 = .ok (.bipush 48, 2) := by decide +kernel
theorem dX7_digit_6 : decode cX7_digit 6 = .ok (.isub, 1) := by decide +kernel
theorem dX7_digit_7 : decode cX7_digit 7 = .ok (.istore_n 1, 1) := by decide +kernel
theorem dX7_digit_8 : decode cX7_digit 8 = .ok (.aload_n 0, 1) := by decide +kernel
theorem dX7_digit_9 : decode cX7_digit 9 = .ok (.getfield 135, 3) := by decide +kernel
theorem dX7_digit_12 : decode cX7_digit 12 = .ok (.iconst (-1), 1) := by decide +kernel
theorem dX7_digit_13 : decode cX7_digit 13 = .ok (.if_icmp .ne 10, 3) := by decide +kernel
theorem dX7_digit_16 : decode cX7_digit 16 = .ok (.aload_n 0, 1) := by decide +kernel
theorem dX7_digit_17 : decode cX7_digit 17 = .ok (.invokevirtual 138, 3) := by decide +kernel
theorem dX7_digit_20 : decode cX7_digit 20 = .ok (.ifCond .ne 9, 3) := by decide +kernel
theorem dX7_digit_23 : decode cX7_digit 23 = .ok (.aload_n 0, 1) := by decide +kernel
theorem dX7_digit_24 : decode cX7_digit 24 = .ok (.invokevirtual 142, 3) := by decide +kernel
theorem dX7_digit_27 : decode cX7_digit 27 = .ok (.iconst 0, 1) := by decide +kernel
theorem dX7_digit_28 : decode cX7_digit 28 = .ok (.ireturn, 1) := by decide +kernel
theorem dX7_digit_29 : decode cX7_digit 29 = .ok (.aload_n 0, 1) := by decide +kernel
theorem dX7_digit_30 : decode cX7_digit 30 = .ok (.dup, 1) := by decide +kernel
theorem dX7_digit_31 : decode cX7_digit 31 = .ok (.getfield 129, 3) := by decide +kernel
theorem dX7_digit_34 : decode cX7_digit 34 = .ok (.iconst 1, 1) := by decide +kernel
theorem dX7_digit_35 : decode cX7_digit 35 = .ok (.iadd, 1) := by decide +kernel
theorem dX7_digit_36 : decode cX7_digit 36 = .ok (.putfield 129, 3) := by decide +kernel
theorem dX7_digit_39 : decode cX7_digit 39 = .ok (.aload_n 0, 1) := by decide +kernel
theorem dX7_digit_40 : decode cX7_digit 40 = .ok (.invokevirtual 145, 3) := by decide +kernel
theorem dX7_digit_43 : decode cX7_digit 43 = .ok (.iload_n 1, 1) := by decide +kernel
theorem dX7_digit_44 : decode cX7_digit 44 = .ok (.ireturn, 1) := by decide +kernel
theorem dX7_number_0 : decode cX7_number 0 = .ok (.aload_n 0, 1) := by decide +kernel
theorem dX7_number_1 : decode cX7_number 1 = .ok (.getfield 129, 3) := by decide +kernel
theorem dX7_number_4 : decode cX7_number 4 = .ok (.istore_n 1, 1) := by decide +kernel
theorem dX7_number_5 : decode cX7_number 5 = .ok (.iconst 0, 1) := by decide +kernel
theorem dX7_number_6 : decode cX7_number 6 = .ok (.istore_n 2, 1) := by decide +kernel
theorem dX7_number_7 : decode cX7_number 7 = .ok (.aload_n 0, 1) := by decide +kernel
theorem dX7_number_8 : decode cX7_number 8 = .ok (.getfield 135, 3) := by decide +kernel
theorem dX7_number_11 : decode cX7_number 11 = .ok (.iconst (-1), 1) := by decide +kernel
theorem dX7_number_12 : decode cX7_number 12 = .ok (.if_icmp .ne 46, 3) := by decide +kernel
theorem dX7_number_15 : decode cX7_number 15 = .ok (.aload_n 0, 1) := by decide +kernel
theorem dX7_number_16 : decode cX7_number 16 = .ok (.invokevirtual 138, 3) := by decide +kernel
theorem dX7_number_19 : decode cX7_number 19 = .ok (.ifCond .eq 39, 3) := by decide +kernel
theorem dX7_number_22 : decode cX7_number 22 = .ok (.aload_n 0, 1) := by decide +kernel
theorem dX7_number_23 : decode cX7_number 23 = .ok (.getfield 129, 3) := by decide +kernel
theorem dX7_number_26 : decode cX7_number 26 = .ok (.iload_n 1, 1) := by decide +kernel
theorem dX7_number_27 : decode cX7_number 27 = .ok (.iconst 3, 1) := by decide +kernel
theorem dX7_number_28 : decode cX7_number 28 = .ok (.iadd, 1) := by decide +kernel
theorem dX7_number_29 : decode cX7_number 29 = .ok (.if_icmp .ge 29, 3) := by decide +kernel
theorem dX7_number_32 : decode cX7_number 32 = .ok (.bipush 10, 2) := by decide +kernel
theorem dX7_number_34 : decode cX7_number 34 = .ok (.iload_n 2, 1) := by decide +kernel
theorem dX7_number_35 : decode cX7_number 35 = .ok (.imul, 1) := by decide +kernel
theorem dX7_number_36 : decode cX7_number 36 = .ok (.aload_n 0, 1) := by decide +kernel
theorem dX7_number_37 : decode cX7_number 37 = .ok (.invokevirtual 132, 3) := by decide +kernel
theorem dX7_number_40 : decode cX7_number 40 = .ok (.iadd, 1) := by decide +kernel
theorem dX7_number_41 : decode cX7_number 41 = .ok (.bipush 48, 2) := by decide +kernel
theorem dX7_number_43 : decode cX7_number 43 = .ok (.isub, 1) := by decide +kernel
theorem dX7_number_44 : decode cX7_number 44 = .ok (.istore_n 2, 1) := by decide +kernel
theorem dX7_number_45 : decode cX7_number 45 = .ok (.aload_n 0, 1) := by decide +kernel
theorem dX7_number_46 : decode cX7_number 46 = .ok (.dup, 1) := by decide +kernel
theorem dX7_number_47 : decode cX7_number 47 = .ok (.getfield 129, 3) := by decide +kernel
theorem dX7_number_50 : decode cX7_number 50 = .ok (.iconst 1, 1) := by decide +kernel
theorem dX7_number_51 : decode cX7_number 51 = .ok (.iadd, 1) := by decide +kernel
theorem dX7_number_52 : decode cX7_number 52 = .ok (.putfield 129, 3) := by decide +kernel
theorem dX7_number_55 : decode cX7_number 55 = .ok (.goto (-48), 3) := by decide +kernel
theorem dX7_number_58 : decode cX7_number 58 = .ok (.aload_n 0, 1) := by decide +kernel
theorem dX7_number_59 : decode cX7_number 59 = .ok (.getfield 129, 3) := by decide +kernel
theorem dX7_number_62 : decode cX7_number 62 = .ok (.iload_n 1, 1) := by decide +kernel
theorem dX7_number_63 : decode cX7_number 63 = .ok (.if_icmp .eq 10, 3) := by decide +kernel
theorem dX7_number_66 : decode cX7_number 66 = .ok (.aload_n 0, 1) := by decide +kernel
theorem dX7_number_67 : decode cX7_number 67 = .ok (.invokevirtual 138, 3) := by decide +kernel
theorem dX7_number_70 : decode cX7_number 70 = .ok (.ifCond .eq 7, 3) := by decide +kernel
theorem dX7_number_73 : decode cX7_number 73 = .ok (.aload_n 0, 1) := by decide +kernel
theorem dX7_number_74 : decode cX7_number 74 = .ok (.invokevirtual 142, 3) := by decide +kernel
theorem dX7_number_77 : decode cX7_number 77 = .ok (.aload_n 0, 1) := by decide +kernel
theorem dX7_number_78 : decode cX7_number 78 = .ok (.invokevirtual 145, 3) := by decide +kernel
theorem dX7_number_81 : decode cX7_number 81 = .ok (.iload_n 2, 1) := by decide +kernel
theorem dX7_number_82 : decode cX7_number 82 = .ok (.ireturn, 1) := by decide +kernel
theorem dX7_place_0 : decode cX7_place 0 = .ok (.aload_n 0, 1) := by decide +kernel
theorem dX7_place_1 : decode cX7_place 1 = .ok (.getfield 135, 3) := by decide +kernel
theorem dX7_place_4 : decode cX7_place 4 = .ok (.iconst (-1), 1) := by decide +kernel
theorem dX7_place_5 : decode cX7_place 5 = .ok (.if_icmp .ne 28, 3) := by decide +kernel
theorem dX7_place_8 : decode cX7_place 8 = .ok (.aload_n 0, 1) := by decide +kernel
theorem dX7_place_9 : decode cX7_place 9 = .ok (.invokevirtual 132, 3) := by decide +kernel
theorem dX7_place_12 : decode cX7_place 12 = .ok (.bipush 45, 2) := by decide +kernel
theorem dX7_place_14 : decode cX7_place 14 = .ok (.if_icmp .ne 19, 3) := by decide +kernel
theorem dX7_place_17 : decode cX7_place 17 = .ok (.aload_n 0, 1) := by decide +kernel
theorem dX7_place_18 : decode cX7_place 18 = .ok (.dup, 1) := by decide +kernel
theorem dX7_place_19 : decode cX7_place 19 = .ok (.getfield 129, 3) := by decide +kernel
theorem dX7_place_22 : decode cX7_place 22 = .ok (.iconst 1, 1) := by decide +kernel
theorem dX7_place_23 : decode cX7_place 23 = .ok (.iadd, 1) := by decide +kernel
theorem dX7_place_24 : decode cX7_place 24 = .ok (.putfield 129, 3) := by decide +kernel
theorem dX7_place_27 : decode cX7_place 27 = .ok (.aload_n 0, 1) := by decide +kernel
theorem dX7_place_28 : decode cX7_place 28 = .ok (.invokevirtual 145, 3) := by decide +kernel
theorem dX7_place_31 : decode cX7_place 31 = .ok (.iconst (-1), 1) := by decide +kernel
theorem dX7_place_32 : decode cX7_place 32 = .ok (.ireturn, 1) := by decide +kernel
theorem dX7_place_33 : decode cX7_place 33 = .ok (.aload_n 0, 1) := by decide +kernel
theorem dX7_place_34 : decode cX7_place 34 = .ok (.invokevirtual 148, 3) := by decide +kernel
theorem dX7_place_37 : decode cX7_place 37 = .ok (.ireturn, 1) := by decide +kernel
theorem dX7_reads_0 : decode cX7_reads 0 = .ok (.aload_n 0, 1) := by decide +kernel
theorem dX7_reads_1 : decode cX7_reads 1 = .ok (.invokevirtual 132, 3) := by decide +kernel
theorem dX7_reads_4 : decode cX7_reads 4 = .ok (.istore_n 1, 1) := by decide +kernel
theorem dX7_reads_5 : decode cX7_reads 5 = .ok (.iconst 4, 1) := by decide +kernel
theorem dX7_reads_6 : decode cX7_reads 6 = .ok (.aload_n 0, 1) := by decide +kernel
theorem dX7_reads_7 : decode cX7_reads 7 = .ok (.getfield 151, 3) := by decide +kernel
theorem dX7_reads_10 : decode cX7_reads 10 = .ok (.imul, 1) := by decide +kernel
theorem dX7_reads_11 : decode cX7_reads 11 = .ok (.istore_n 2, 1) := by decide +kernel
theorem dX7_reads_12 : decode cX7_reads 12 = .ok (.iload_n 1, 1) := by decide +kernel
theorem dX7_reads_13 : decode cX7_reads 13 = .ok (.bipush 110, 2) := by decide +kernel
theorem dX7_reads_15 : decode cX7_reads 15 = .ok (.if_icmp .eq 44, 3) := by decide +kernel
theorem dX7_reads_18 : decode cX7_reads 18 = .ok (.iload_n 1, 1) := by decide +kernel
theorem dX7_reads_19 : decode cX7_reads 19 = .ok (.bipush 114, 2) := by decide +kernel
theorem dX7_reads_21 : decode cX7_reads 21 = .ok (.if_icmp .eq 38, 3) := by decide +kernel
theorem dX7_reads_24 : decode cX7_reads 24 = .ok (.iload_n 1, 1) := by decide +kernel
theorem dX7_reads_25 : decode cX7_reads 25 = .ok (.bipush 119, 2) := by decide +kernel
theorem dX7_reads_27 : decode cX7_reads 27 = .ok (.if_icmp .eq 32, 3) := by decide +kernel
theorem dX7_reads_30 : decode cX7_reads 30 = .ok (.iload_n 1, 1) := by decide +kernel
theorem dX7_reads_31 : decode cX7_reads 31 = .ok (.bipush 102, 2) := by decide +kernel
theorem dX7_reads_33 : decode cX7_reads 33 = .ok (.if_icmp .eq 26, 3) := by decide +kernel
theorem dX7_reads_36 : decode cX7_reads 36 = .ok (.iload_n 1, 1) := by decide +kernel
theorem dX7_reads_37 : decode cX7_reads 37 = .ok (.bipush 112, 2) := by decide +kernel
theorem dX7_reads_39 : decode cX7_reads 39 = .ok (.if_icmp .eq 20, 3) := by decide +kernel
theorem dX7_reads_42 : decode cX7_reads 42 = .ok (.iload_n 1, 1) := by decide +kernel
theorem dX7_reads_43 : decode cX7_reads 43 = .ok (.bipush 117, 2) := by decide +kernel
theorem dX7_reads_45 : decode cX7_reads 45 = .ok (.if_icmp .eq 14, 3) := by decide +kernel
theorem dX7_reads_48 : decode cX7_reads 48 = .ok (.iload_n 1, 1) := by decide +kernel
theorem dX7_reads_49 : decode cX7_reads 49 = .ok (.bipush 99, 2) := by decide +kernel
theorem dX7_reads_51 : decode cX7_reads 51 = .ok (.if_icmp .eq 8, 3) := by decide +kernel
theorem dX7_reads_54 : decode cX7_reads 54 = .ok (.aload_n 0, 1) := by decide +kernel
theorem dX7_reads_55 : decode cX7_reads 55 = .ok (.invokevirtual 142, 3) := by decide +kernel
theorem dX7_reads_58 : decode cX7_reads 58 = .ok (.return_, 1) := by decide +kernel
theorem dX7_reads_59 : decode cX7_reads 59 = .ok (.aload_n 0, 1) := by decide +kernel
theorem dX7_reads_60 : decode cX7_reads 60 = .ok (.getfield 39, 3) := by decide +kernel
theorem dX7_reads_63 : decode cX7_reads 63 = .ok (.iload_n 2, 1) := by decide +kernel
theorem dX7_reads_64 : decode cX7_reads 64 = .ok (.iload_n 1, 1) := by decide +kernel
theorem dX7_reads_65 : decode cX7_reads 65 = .ok (.iastore, 1) := by decide +kernel
theorem dX7_reads_66 : decode cX7_reads 66 = .ok (.aload_n 0, 1) := by decide +kernel
theorem dX7_reads_67 : decode cX7_reads 67 = .ok (.dup, 1) := by decide +kernel
theorem dX7_reads_68 : decode cX7_reads 68 = .ok (.getfield 129, 3) := by decide +kernel
theorem dX7_reads_71 : decode cX7_reads 71 = .ok (.iconst 1, 1) := by decide +kernel
theorem dX7_reads_72 : decode cX7_reads 72 = .ok (.iadd, 1) := by decide +kernel
theorem dX7_reads_73 : decode cX7_reads 73 = .ok (.putfield 129, 3) := by decide +kernel
theorem dX7_reads_76 : decode cX7_reads 76 = .ok (.aload_n 0, 1) := by decide +kernel
theorem dX7_reads_77 : decode cX7_reads 77 = .ok (.invokevirtual 145, 3) := by decide +kernel
theorem dX7_reads_80 : decode cX7_reads 80 = .ok (.iload_n 1, 1) := by decide +kernel
theorem dX7_reads_81 : decode cX7_reads 81 = .ok (.bipush 110, 2) := by decide +kernel
theorem dX7_reads_83 : decode cX7_reads 83 = .ok (.if_icmp .ne 30, 3) := by decide +kernel
theorem dX7_reads_86 : decode cX7_reads 86 = .ok (.aload_n 0, 1) := by decide +kernel
theorem dX7_reads_87 : decode cX7_reads 87 = .ok (.getfield 39, 3) := by decide +kernel
theorem dX7_reads_90 : decode cX7_reads 90 = .ok (.iload_n 2, 1) := by decide +kernel
theorem dX7_reads_91 : decode cX7_reads 91 = .ok (.iconst 1, 1) := by decide +kernel
theorem dX7_reads_92 : decode cX7_reads 92 = .ok (.iadd, 1) := by decide +kernel
theorem dX7_reads_93 : decode cX7_reads 93 = .ok (.aload_n 0, 1) := by decide +kernel
theorem dX7_reads_94 : decode cX7_reads 94 = .ok (.invokevirtual 154, 3) := by decide +kernel
theorem dX7_reads_97 : decode cX7_reads 97 = .ok (.iastore, 1) := by decide +kernel
theorem dX7_reads_98 : decode cX7_reads 98 = .ok (.aload_n 0, 1) := by decide +kernel
theorem dX7_reads_99 : decode cX7_reads 99 = .ok (.getfield 39, 3) := by decide +kernel
theorem dX7_reads_102 : decode cX7_reads 102 = .ok (.iload_n 2, 1) := by decide +kernel
theorem dX7_reads_103 : decode cX7_reads 103 = .ok (.iconst 2, 1) := by decide +kernel
theorem dX7_reads_104 : decode cX7_reads 104 = .ok (.iadd, 1) := by decide +kernel
theorem dX7_reads_105 : decode cX7_reads 105 = .ok (.aload_n 0, 1) := by decide +kernel
theorem dX7_reads_106 : decode cX7_reads 106 = .ok (.invokevirtual 154, 3) := by decide +kernel
theorem dX7_reads_109 : decode cX7_reads 109 = .ok (.iastore, 1) := by decide +kernel
theorem dX7_reads_110 : decode cX7_reads 110 = .ok (.goto 105, 3) := by decide +kernel
theorem dX7_reads_113 : decode cX7_reads 113 = .ok (.iload_n 1, 1) := by decide +kernel
theorem dX7_reads_114 : decode cX7_reads 114 = .ok (.bipush 114, 2) := by decide +kernel
theorem dX7_reads_116 : decode cX7_reads 116 = .ok (.if_icmp .eq 9, 3) := by decide +kernel
theorem dX7_reads_119 : decode cX7_reads 119 = .ok (.iload_n 1, 1) := by decide +kernel
theorem dX7_reads_120 : decode cX7_reads 120 = .ok (.bipush 119, 2) := by decide +kernel
theorem dX7_reads_122 : decode cX7_reads 122 = .ok (.if_icmp .ne 30, 3) := by decide +kernel
theorem dX7_reads_125 : decode cX7_reads 125 = .ok (.aload_n 0, 1) := by decide +kernel
theorem dX7_reads_126 : decode cX7_reads 126 = .ok (.getfield 39, 3) := by decide +kernel
theorem dX7_reads_129 : decode cX7_reads 129 = .ok (.iload_n 2, 1) := by decide +kernel
theorem dX7_reads_130 : decode cX7_reads 130 = .ok (.iconst 1, 1) := by decide +kernel
theorem dX7_reads_131 : decode cX7_reads 131 = .ok (.iadd, 1) := by decide +kernel
theorem dX7_reads_132 : decode cX7_reads 132 = .ok (.aload_n 0, 1) := by decide +kernel
theorem dX7_reads_133 : decode cX7_reads 133 = .ok (.invokevirtual 154, 3) := by decide +kernel
theorem dX7_reads_136 : decode cX7_reads 136 = .ok (.iastore, 1) := by decide +kernel
theorem dX7_reads_137 : decode cX7_reads 137 = .ok (.aload_n 0, 1) := by decide +kernel
theorem dX7_reads_138 : decode cX7_reads 138 = .ok (.getfield 39, 3) := by decide +kernel
theorem dX7_reads_141 : decode cX7_reads 141 = .ok (.iload_n 2, 1) := by decide +kernel
theorem dX7_reads_142 : decode cX7_reads 142 = .ok (.iconst 2, 1) := by decide +kernel
theorem dX7_reads_143 : decode cX7_reads 143 = .ok (.iadd, 1) := by decide +kernel
theorem dX7_reads_144 : decode cX7_reads 144 = .ok (.aload_n 0, 1) := by decide +kernel
theorem dX7_reads_145 : decode cX7_reads 145 = .ok (.invokevirtual 157, 3) := by decide +kernel
theorem dX7_reads_148 : decode cX7_reads 148 = .ok (.iastore, 1) := by decide +kernel
theorem dX7_reads_149 : decode cX7_reads 149 = .ok (.goto 66, 3) := by decide +kernel
theorem dX7_reads_152 : decode cX7_reads 152 = .ok (.iload_n 1, 1) := by decide +kernel
theorem dX7_reads_153 : decode cX7_reads 153 = .ok (.bipush 102, 2) := by decide +kernel
theorem dX7_reads_155 : decode cX7_reads 155 = .ok (.if_icmp .ne 42, 3) := by decide +kernel
theorem dX7_reads_158 : decode cX7_reads 158 = .ok (.aload_n 0, 1) := by decide +kernel
theorem dX7_reads_159 : decode cX7_reads 159 = .ok (.getfield 39, 3) := by decide +kernel
theorem dX7_reads_162 : decode cX7_reads 162 = .ok (.iload_n 2, 1) := by decide +kernel
theorem dX7_reads_163 : decode cX7_reads 163 = .ok (.iconst 1, 1) := by decide +kernel
theorem dX7_reads_164 : decode cX7_reads 164 = .ok (.iadd, 1) := by decide +kernel
theorem dX7_reads_165 : decode cX7_reads 165 = .ok (.aload_n 0, 1) := by decide +kernel
theorem dX7_reads_166 : decode cX7_reads 166 = .ok (.invokevirtual 148, 3) := by decide +kernel
theorem dX7_reads_169 : decode cX7_reads 169 = .ok (.iastore, 1) := by decide +kernel
theorem dX7_reads_170 : decode cX7_reads 170 = .ok (.aload_n 0, 1) := by decide +kernel
theorem dX7_reads_171 : decode cX7_reads 171 = .ok (.getfield 39, 3) := by decide +kernel
theorem dX7_reads_174 : decode cX7_reads 174 = .ok (.iload_n 2, 1) := by decide +kernel
theorem dX7_reads_175 : decode cX7_reads 175 = .ok (.iconst 2, 1) := by decide +kernel
theorem dX7_reads_176 : decode cX7_reads 176 = .ok (.iadd, 1) := by decide +kernel
theorem dX7_reads_177 : decode cX7_reads 177 = .ok (.aload_n 0, 1) := by decide +kernel
theorem dX7_reads_178 : decode cX7_reads 178 = .ok (.invokevirtual 154, 3) := by decide +kernel
theorem dX7_reads_181 : decode cX7_reads 181 = .ok (.iastore, 1) := by decide +kernel
theorem dX7_reads_182 : decode cX7_reads 182 = .ok (.aload_n 0, 1) := by decide +kernel
theorem dX7_reads_183 : decode cX7_reads 183 = .ok (.getfield 39, 3) := by decide +kernel
theorem dX7_reads_186 : decode cX7_reads 186 = .ok (.iload_n 2, 1) := by decide +kernel
theorem dX7_reads_187 : decode cX7_reads 187 = .ok (.iconst 3, 1) := by decide +kernel
theorem dX7_reads_188 : decode cX7_reads 188 = .ok (.iadd, 1) := by decide +kernel
theorem dX7_reads_189 : decode cX7_reads 189 = .ok (.aload_n 0, 1) := by decide +kernel
theorem dX7_reads_190 : decode cX7_reads 190 = .ok (.invokevirtual 157, 3) := by decide +kernel
theorem dX7_reads_193 : decode cX7_reads 193 = .ok (.iastore, 1) := by decide +kernel
theorem dX7_reads_194 : decode cX7_reads 194 = .ok (.goto 21, 3) := by decide +kernel
theorem dX7_reads_197 : decode cX7_reads 197 = .ok (.iload_n 1, 1) := by decide +kernel
theorem dX7_reads_198 : decode cX7_reads 198 = .ok (.bipush 99, 2) := by decide +kernel
theorem dX7_reads_200 : decode cX7_reads 200 = .ok (.if_icmp .eq 15, 3) := by decide +kernel
theorem dX7_reads_203 : decode cX7_reads 203 = .ok (.aload_n 0, 1) := by decide +kernel
theorem dX7_reads_204 : decode cX7_reads 204 = .ok (.getfield 39, 3) := by decide +kernel
theorem dX7_reads_207 : decode cX7_reads 207 = .ok (.iload_n 2, 1) := by decide +kernel
theorem dX7_reads_208 : decode cX7_reads 208 = .ok (.iconst 1, 1) := by decide +kernel
theorem dX7_reads_209 : decode cX7_reads 209 = .ok (.iadd, 1) := by decide +kernel
theorem dX7_reads_210 : decode cX7_reads 210 = .ok (.aload_n 0, 1) := by decide +kernel
theorem dX7_reads_211 : decode cX7_reads 211 = .ok (.invokevirtual 148, 3) := by decide +kernel
theorem dX7_reads_214 : decode cX7_reads 214 = .ok (.iastore, 1) := by decide +kernel
theorem dX7_reads_215 : decode cX7_reads 215 = .ok (.aload_n 0, 1) := by decide +kernel
theorem dX7_reads_216 : decode cX7_reads 216 = .ok (.getfield 135, 3) := by decide +kernel
theorem dX7_reads_219 : decode cX7_reads 219 = .ok (.iconst (-1), 1) := by decide +kernel
theorem dX7_reads_220 : decode cX7_reads 220 = .ok (.if_icmp .ne 29, 3) := by decide +kernel
theorem dX7_reads_223 : decode cX7_reads 223 = .ok (.aload_n 0, 1) := by decide +kernel
theorem dX7_reads_224 : decode cX7_reads 224 = .ok (.invokevirtual 132, 3) := by decide +kernel
theorem dX7_reads_227 : decode cX7_reads 227 = .ok (.bipush 59, 2) := by decide +kernel
theorem dX7_reads_229 : decode cX7_reads 229 = .ok (.if_icmp .ne 20, 3) := by decide +kernel
theorem dX7_reads_232 : decode cX7_reads 232 = .ok (.aload_n 0, 1) := by decide +kernel
theorem dX7_reads_233 : decode cX7_reads 233 = .ok (.dup, 1) := by decide +kernel
theorem dX7_reads_234 : decode cX7_reads 234 = .ok (.getfield 129, 3) := by decide +kernel
theorem dX7_reads_237 : decode cX7_reads 237 = .ok (.iconst 1, 1) := by decide +kernel
theorem dX7_reads_238 : decode cX7_reads 238 = .ok (.iadd, 1) := by decide +kernel
theorem dX7_reads_239 : decode cX7_reads 239 = .ok (.putfield 129, 3) := by decide +kernel
theorem dX7_reads_242 : decode cX7_reads 242 = .ok (.aload_n 0, 1) := by decide +kernel
theorem dX7_reads_243 : decode cX7_reads 243 = .ok (.invokevirtual 145, 3) := by decide +kernel
theorem dX7_reads_246 : decode cX7_reads 246 = .ok (.goto 7, 3) := by decide +kernel
theorem dX7_reads_249 : decode cX7_reads 249 = .ok (.aload_n 0, 1) := by decide +kernel
theorem dX7_reads_250 : decode cX7_reads 250 = .ok (.invokevirtual 142, 3) := by decide +kernel
theorem dX7_reads_253 : decode cX7_reads 253 = .ok (.aload_n 0, 1) := by decide +kernel
theorem dX7_reads_254 : decode cX7_reads 254 = .ok (.dup, 1) := by decide +kernel
theorem dX7_reads_255 : decode cX7_reads 255 = .ok (.getfield 151, 3) := by decide +kernel
theorem dX7_reads_258 : decode cX7_reads 258 = .ok (.iconst 1, 1) := by decide +kernel
theorem dX7_reads_259 : decode cX7_reads 259 = .ok (.iadd, 1) := by decide +kernel
theorem dX7_reads_260 : decode cX7_reads 260 = .ok (.putfield 151, 3) := by decide +kernel
theorem dX7_reads_263 : decode cX7_reads 263 = .ok (.return_, 1) := by decide +kernel
theorem dX7_fault_0 : decode cX7_fault 0 = .ok (.aload_n 0, 1) := by decide +kernel
theorem dX7_fault_1 : decode cX7_fault 1 = .ok (.iconst 0, 1) := by decide +kernel
theorem dX7_fault_2 : decode cX7_fault 2 = .ok (.putfield 129, 3) := by decide +kernel
theorem dX7_fault_5 : decode cX7_fault 5 = .ok (.aload_n 0, 1) := by decide +kernel
theorem dX7_fault_6 : decode cX7_fault 6 = .ok (.iconst 0, 1) := by decide +kernel
theorem dX7_fault_7 : decode cX7_fault 7 = .ok (.putfield 151, 3) := by decide +kernel
theorem dX7_fault_10 : decode cX7_fault 10 = .ok (.aload_n 0, 1) := by decide +kernel
theorem dX7_fault_11 : decode cX7_fault 11 = .ok (.iconst (-1), 1) := by decide +kernel
theorem dX7_fault_12 : decode cX7_fault 12 = .ok (.putfield 135, 3) := by decide +kernel
theorem dX7_fault_15 : decode cX7_fault 15 = .ok (.aload_n 0, 1) := by decide +kernel
theorem dX7_fault_16 : decode cX7_fault 16 = .ok (.invokevirtual 145, 3) := by decide +kernel
theorem dX7_fault_19 : decode cX7_fault 19 = .ok (.aload_n 0, 1) := by decide +kernel
theorem dX7_fault_20 : decode cX7_fault 20 = .ok (.getfield 135, 3) := by decide +kernel
theorem dX7_fault_23 : decode cX7_fault 23 = .ok (.iconst (-1), 1) := by decide +kernel
theorem dX7_fault_24 : decode cX7_fault 24 = .ok (.if_icmp .ne 21, 3) := by decide +kernel
theorem dX7_fault_27 : decode cX7_fault 27 = .ok (.aload_n 0, 1) := by decide +kernel
theorem dX7_fault_28 : decode cX7_fault 28 = .ok (.getfield 129, 3) := by decide +kernel
theorem dX7_fault_31 : decode cX7_fault 31 = .ok (.aload_n 0, 1) := by decide +kernel
theorem dX7_fault_32 : decode cX7_fault 32 = .ok (.getfield 126, 3) := by decide +kernel
theorem dX7_fault_35 : decode cX7_fault 35 = .ok (.if_icmp .ge 10, 3) := by decide +kernel
theorem dX7_fault_38 : decode cX7_fault 38 = .ok (.aload_n 0, 1) := by decide +kernel
theorem dX7_fault_39 : decode cX7_fault 39 = .ok (.invokevirtual 160, 3) := by decide +kernel
theorem dX7_fault_42 : decode cX7_fault 42 = .ok (.goto (-23), 3) := by decide +kernel
theorem dX7_fault_45 : decode cX7_fault 45 = .ok (.aload_n 0, 1) := by decide +kernel
theorem dX7_fault_46 : decode cX7_fault 46 = .ok (.getfield 135, 3) := by decide +kernel
theorem dX7_fault_49 : decode cX7_fault 49 = .ok (.ireturn, 1) := by decide +kernel
theorem dX7_does_0 : decode cX7_does 0 = .ok (.aload_n 0, 1) := by decide +kernel
theorem dX7_does_1 : decode cX7_does 1 = .ok (.getfield 39, 3) := by decide +kernel
theorem dX7_does_4 : decode cX7_does 4 = .ok (.iconst 4, 1) := by decide +kernel
theorem dX7_does_5 : decode cX7_does 5 = .ok (.iload_n 1, 1) := by decide +kernel
theorem dX7_does_6 : decode cX7_does 6 = .ok (.imul, 1) := by decide +kernel
theorem dX7_does_7 : decode cX7_does 7 = .ok (.iconst 1, 1) := by decide +kernel
theorem dX7_does_8 : decode cX7_does 8 = .ok (.iadd, 1) := by decide +kernel
theorem dX7_does_9 : decode cX7_does 9 = .ok (.iaload, 1) := by decide +kernel
theorem dX7_does_10 : decode cX7_does 10 = .ok (.istore_n 2, 1) := by decide +kernel
theorem dX7_does_11 : decode cX7_does 11 = .ok (.aload_n 0, 1) := by decide +kernel
theorem dX7_does_12 : decode cX7_does 12 = .ok (.getfield 39, 3) := by decide +kernel
theorem dX7_does_15 : decode cX7_does 15 = .ok (.iconst 4, 1) := by decide +kernel
theorem dX7_does_16 : decode cX7_does 16 = .ok (.iload_n 1, 1) := by decide +kernel
theorem dX7_does_17 : decode cX7_does 17 = .ok (.imul, 1) := by decide +kernel
theorem dX7_does_18 : decode cX7_does 18 = .ok (.iconst 2, 1) := by decide +kernel
theorem dX7_does_19 : decode cX7_does 19 = .ok (.iadd, 1) := by decide +kernel
theorem dX7_does_20 : decode cX7_does 20 = .ok (.iaload, 1) := by decide +kernel
theorem dX7_does_21 : decode cX7_does 21 = .ok (.istore_n 3, 1) := by decide +kernel
theorem dX7_does_22 : decode cX7_does 22 = .ok (.aload_n 0, 1) := by decide +kernel
theorem dX7_does_23 : decode cX7_does 23 = .ok (.getfield 39, 3) := by decide +kernel
theorem dX7_does_26 : decode cX7_does 26 = .ok (.iconst 4, 1) := by decide +kernel
theorem dX7_does_27 : decode cX7_does 27 = .ok (.iload_n 1, 1) := by decide +kernel
theorem dX7_does_28 : decode cX7_does 28 = .ok (.imul, 1) := by decide +kernel
theorem dX7_does_29 : decode cX7_does 29 = .ok (.iaload, 1) := by decide +kernel
theorem dX7_does_30 : decode cX7_does 30 = .ok (.tableswitch 138 102 119 #[107, 138, 138, 138, 138, 138, 138, 138, 86, 138, 124, 138, 93, 138, 138, 131, 138, 100], 86) := by decide +kernel
theorem dX7_does_116 : decode cX7_does 116 = .ok (.aload_n 0, 1) := by decide +kernel
theorem dX7_does_117 : decode cX7_does 117 = .ok (.iload_n 2, 1) := by decide +kernel
theorem dX7_does_118 : decode cX7_does 118 = .ok (.iload_n 3, 1) := by decide +kernel
theorem dX7_does_119 : decode cX7_does 119 = .ok (.invokevirtual 163, 3) := by decide +kernel
theorem dX7_does_122 : decode cX7_does 122 = .ok (.ireturn, 1) := by decide +kernel
theorem dX7_does_123 : decode cX7_does 123 = .ok (.aload_n 0, 1) := by decide +kernel
theorem dX7_does_124 : decode cX7_does 124 = .ok (.iload_n 2, 1) := by decide +kernel
theorem dX7_does_125 : decode cX7_does 125 = .ok (.iload_n 3, 1) := by decide +kernel
theorem dX7_does_126 : decode cX7_does 126 = .ok (.invokevirtual 166, 3) := by decide +kernel
theorem dX7_does_129 : decode cX7_does 129 = .ok (.ireturn, 1) := by decide +kernel
theorem dX7_does_130 : decode cX7_does 130 = .ok (.aload_n 0, 1) := by decide +kernel
theorem dX7_does_131 : decode cX7_does 131 = .ok (.iload_n 2, 1) := by decide +kernel
theorem dX7_does_132 : decode cX7_does 132 = .ok (.iload_n 3, 1) := by decide +kernel
theorem dX7_does_133 : decode cX7_does 133 = .ok (.invokevirtual 169, 3) := by decide +kernel
theorem dX7_does_136 : decode cX7_does 136 = .ok (.ireturn, 1) := by decide +kernel
theorem dX7_does_137 : decode cX7_does 137 = .ok (.aload_n 0, 1) := by decide +kernel
theorem dX7_does_138 : decode cX7_does 138 = .ok (.iload_n 2, 1) := by decide +kernel
theorem dX7_does_139 : decode cX7_does 139 = .ok (.iload_n 3, 1) := by decide +kernel
theorem dX7_does_140 : decode cX7_does 140 = .ok (.aload_n 0, 1) := by decide +kernel
theorem dX7_does_141 : decode cX7_does 141 = .ok (.getfield 39, 3) := by decide +kernel
theorem dX7_does_144 : decode cX7_does 144 = .ok (.iconst 4, 1) := by decide +kernel
theorem dX7_does_145 : decode cX7_does 145 = .ok (.iload_n 1, 1) := by decide +kernel
theorem dX7_does_146 : decode cX7_does 146 = .ok (.imul, 1) := by decide +kernel
theorem dX7_does_147 : decode cX7_does 147 = .ok (.iconst 3, 1) := by decide +kernel
theorem dX7_does_148 : decode cX7_does 148 = .ok (.iadd, 1) := by decide +kernel
theorem dX7_does_149 : decode cX7_does 149 = .ok (.iaload, 1) := by decide +kernel
theorem dX7_does_150 : decode cX7_does 150 = .ok (.invokevirtual 172, 3) := by decide +kernel
theorem dX7_does_153 : decode cX7_does 153 = .ok (.ireturn, 1) := by decide +kernel
theorem dX7_does_154 : decode cX7_does 154 = .ok (.aload_n 0, 1) := by decide +kernel
theorem dX7_does_155 : decode cX7_does 155 = .ok (.iload_n 2, 1) := by decide +kernel
theorem dX7_does_156 : decode cX7_does 156 = .ok (.iconst 1, 1) := by decide +kernel
theorem dX7_does_157 : decode cX7_does 157 = .ok (.invokevirtual 176, 3) := by decide +kernel
theorem dX7_does_160 : decode cX7_does 160 = .ok (.ireturn, 1) := by decide +kernel
theorem dX7_does_161 : decode cX7_does 161 = .ok (.aload_n 0, 1) := by decide +kernel
theorem dX7_does_162 : decode cX7_does 162 = .ok (.iload_n 2, 1) := by decide +kernel
theorem dX7_does_163 : decode cX7_does 163 = .ok (.iconst 0, 1) := by decide +kernel
theorem dX7_does_164 : decode cX7_does 164 = .ok (.invokevirtual 176, 3) := by decide +kernel
theorem dX7_does_167 : decode cX7_does 167 = .ok (.ireturn, 1) := by decide +kernel
theorem dX7_does_168 : decode cX7_does 168 = .ok (.aload_n 0, 1) := by decide +kernel
theorem dX7_does_169 : decode cX7_does 169 = .ok (.invokevirtual 180, 3) := by decide +kernel
theorem dX7_does_172 : decode cX7_does 172 = .ok (.ireturn, 1) := by decide +kernel
theorem dX7_run_0 : decode cX7_run 0 = .ok (.aload_n 0, 1) := by decide +kernel
theorem dX7_run_1 : decode cX7_run 1 = .ok (.invokevirtual 183, 3) := by decide +kernel
theorem dX7_run_4 : decode cX7_run 4 = .ok (.iconst (-1), 1) := by decide +kernel
theorem dX7_run_5 : decode cX7_run 5 = .ok (.if_icmp .eq 6, 3) := by decide +kernel
theorem dX7_run_8 : decode cX7_run 8 = .ok (.ldc 82, 2) := by decide +kernel
theorem dX7_run_10 : decode cX7_run 10 = .ok (.ireturn, 1) := by decide +kernel
theorem dX7_run_11 : decode cX7_run 11 = .ok (.aload_n 0, 1) := by decide +kernel
theorem dX7_run_12 : decode cX7_run 12 = .ok (.iconst 0, 1) := by decide +kernel
theorem dX7_run_13 : decode cX7_run 13 = .ok (.putfield 26, 3) := by decide +kernel
theorem dX7_run_16 : decode cX7_run 16 = .ok (.iconst 0, 1) := by decide +kernel
theorem dX7_run_17 : decode cX7_run 17 = .ok (.istore_n 1, 1) := by decide +kernel
theorem dX7_run_18 : decode cX7_run 18 = .ok (.iconst 0, 1) := by decide +kernel
theorem dX7_run_19 : decode cX7_run 19 = .ok (.istore_n 2, 1) := by decide +kernel
theorem dX7_run_20 : decode cX7_run 20 = .ok (.iload_n 2, 1) := by decide +kernel
theorem dX7_run_21 : decode cX7_run 21 = .ok (.aload_n 0, 1) := by decide +kernel
theorem dX7_run_22 : decode cX7_run 22 = .ok (.getfield 151, 3) := by decide +kernel
theorem dX7_run_25 : decode cX7_run 25 = .ok (.if_icmp .ge 51, 3) := by decide +kernel
theorem dX7_run_28 : decode cX7_run 28 = .ok (.aload_n 0, 1) := by decide +kernel
theorem dX7_run_29 : decode cX7_run 29 = .ok (.getfield 26, 3) := by decide +kernel
theorem dX7_run_32 : decode cX7_run 32 = .ok (.ifCond .ne 44, 3) := by decide +kernel
theorem dX7_run_35 : decode cX7_run 35 = .ok (.aload_n 0, 1) := by decide +kernel
theorem dX7_run_36 : decode cX7_run 36 = .ok (.iload_n 2, 1) := by decide +kernel
theorem dX7_run_37 : decode cX7_run 37 = .ok (.invokevirtual 185, 3) := by decide +kernel
theorem dX7_run_40 : decode cX7_run 40 = .ok (.istore_n 3, 1) := by decide +kernel
theorem dX7_run_41 : decode cX7_run 41 = .ok (.aload_n 0, 1) := by decide +kernel
theorem dX7_run_42 : decode cX7_run 42 = .ok (.iload_n 3, 1) := by decide +kernel
theorem dX7_run_43 : decode cX7_run 43 = .ok (.ldc 50, 2) := by decide +kernel
theorem dX7_run_45 : decode cX7_run 45 = .ok (.if_icmp .gt 7, 3) := by decide +kernel
theorem dX7_run_48 : decode cX7_run 48 = .ok (.iload_n 3, 1) := by decide +kernel
theorem dX7_run_49 : decode cX7_run 49 = .ok (.goto 4, 3) := by decide +kernel
theorem dX7_run_52 : decode cX7_run 52 = .ok (.iconst 0, 1) := by decide +kernel
theorem dX7_run_53 : decode cX7_run 53 = .ok (.putfield 26, 3) := by decide +kernel
theorem dX7_run_56 : decode cX7_run 56 = .ok (.iload_n 1, 1) := by decide +kernel
theorem dX7_run_57 : decode cX7_run 57 = .ok (.iload_n 3, 1) := by decide +kernel
theorem dX7_run_58 : decode cX7_run 58 = .ok (.ldc 50, 2) := by decide +kernel
theorem dX7_run_60 : decode cX7_run 60 = .ok (.if_icmp .gt 7, 3) := by decide +kernel
theorem dX7_run_63 : decode cX7_run 63 = .ok (.iconst 0, 1) := by decide +kernel
theorem dX7_run_64 : decode cX7_run 64 = .ok (.goto 4, 3) := by decide +kernel
theorem dX7_run_67 : decode cX7_run 67 = .ok (.iconst 1, 1) := by decide +kernel
theorem dX7_run_68 : decode cX7_run 68 = .ok (.iadd, 1) := by decide +kernel
theorem dX7_run_69 : decode cX7_run 69 = .ok (.istore_n 1, 1) := by decide +kernel
theorem dX7_run_70 : decode cX7_run 70 = .ok (.iinc 2 1, 3) := by decide +kernel
theorem dX7_run_73 : decode cX7_run 73 = .ok (.goto (-53), 3) := by decide +kernel
theorem dX7_run_76 : decode cX7_run 76 = .ok (.iload_n 1, 1) := by decide +kernel
theorem dX7_run_77 : decode cX7_run 77 = .ok (.ireturn, 1) := by decide +kernel
theorem dX7_refusal_0 : decode cX7_refusal 0 = .ok (.aload_n 0, 1) := by decide +kernel
theorem dX7_refusal_1 : decode cX7_refusal 1 = .ok (.getfield 26, 3) := by decide +kernel
theorem dX7_refusal_4 : decode cX7_refusal 4 = .ok (.ireturn, 1) := by decide +kernel
theorem dX7_save_0 : decode cX7_save 0 = .ok (.iload_n 1, 1) := by decide +kernel
theorem dX7_save_1 : decode cX7_save 1 = .ok (.iconst 0, 1) := by decide +kernel
theorem dX7_save_2 : decode cX7_save 2 = .ok (.iconst 1, 1) := by decide +kernel
theorem dX7_save_3 : decode cX7_save 3 = .ok (.invokestatic 46, 3) := by decide +kernel
theorem dX7_save_6 : decode cX7_save 6 = .ok (.ifCond .ne 6, 3) := by decide +kernel
theorem dX7_save_9 : decode cX7_save 9 = .ok (.ldc 50, 2) := by decide +kernel
theorem dX7_save_11 : decode cX7_save 11 = .ok (.ireturn, 1) := by decide +kernel
theorem dX7_save_12 : decode cX7_save 12 = .ok (.iconst 0, 1) := by decide +kernel
theorem dX7_save_13 : decode cX7_save 13 = .ok (.istore_n 2, 1) := by decide +kernel
theorem dX7_save_14 : decode cX7_save 14 = .ok (.iload_n 2, 1) := by decide +kernel
theorem dX7_save_15 : decode cX7_save 15 = .ok (.sipush 1222, 3) := by decide +kernel
theorem dX7_save_18 : decode cX7_save 18 = .ok (.if_icmp .ge 27, 3) := by decide +kernel
theorem dX7_save_21 : decode cX7_save 21 = .ok (.aload_n 0, 1) := by decide +kernel
theorem dX7_save_22 : decode cX7_save 22 = .ok (.getfield 16, 3) := by decide +kernel
theorem dX7_save_25 : decode cX7_save 25 = .ok (.sipush 1222, 3) := by decide +kernel
theorem dX7_save_28 : decode cX7_save 28 = .ok (.iload_n 1, 1) := by decide +kernel
theorem dX7_save_29 : decode cX7_save 29 = .ok (.imul, 1) := by decide +kernel
theorem dX7_save_30 : decode cX7_save 30 = .ok (.iload_n 2, 1) := by decide +kernel
theorem dX7_save_31 : decode cX7_save 31 = .ok (.iadd, 1) := by decide +kernel
theorem dX7_save_32 : decode cX7_save 32 = .ok (.aload_n 0, 1) := by decide +kernel
theorem dX7_save_33 : decode cX7_save 33 = .ok (.getfield 7, 3) := by decide +kernel
theorem dX7_save_36 : decode cX7_save 36 = .ok (.iload_n 2, 1) := by decide +kernel
theorem dX7_save_37 : decode cX7_save 37 = .ok (.iaload, 1) := by decide +kernel
theorem dX7_save_38 : decode cX7_save 38 = .ok (.iastore, 1) := by decide +kernel
theorem dX7_save_39 : decode cX7_save 39 = .ok (.iinc 2 1, 3) := by decide +kernel
theorem dX7_save_42 : decode cX7_save 42 = .ok (.goto (-28), 3) := by decide +kernel
theorem dX7_save_45 : decode cX7_save 45 = .ok (.aload_n 0, 1) := by decide +kernel
theorem dX7_save_46 : decode cX7_save 46 = .ok (.getfield 19, 3) := by decide +kernel
theorem dX7_save_49 : decode cX7_save 49 = .ok (.iload_n 1, 1) := by decide +kernel
theorem dX7_save_50 : decode cX7_save 50 = .ok (.iconst 1, 1) := by decide +kernel
theorem dX7_save_51 : decode cX7_save 51 = .ok (.bastore, 1) := by decide +kernel
theorem dX7_save_52 : decode cX7_save 52 = .ok (.aload_n 0, 1) := by decide +kernel
theorem dX7_save_53 : decode cX7_save 53 = .ok (.iconst 0, 1) := by decide +kernel
theorem dX7_save_54 : decode cX7_save 54 = .ok (.invokevirtual 83, 3) := by decide +kernel
theorem dX7_save_57 : decode cX7_save 57 = .ok (.ireturn, 1) := by decide +kernel
theorem dX7_restore_0 : decode cX7_restore 0 = .ok (.iload_n 1, 1) := by decide +kernel
theorem dX7_restore_1 : decode cX7_restore 1 = .ok (.iconst 0, 1) := by decide +kernel
theorem dX7_restore_2 : decode cX7_restore 2 = .ok (.iconst 1, 1) := by decide +kernel
theorem dX7_restore_3 : decode cX7_restore 3 = .ok (.invokestatic 46, 3) := by decide +kernel
theorem dX7_restore_6 : decode cX7_restore 6 = .ok (.ifCond .ne 6, 3) := by decide +kernel
theorem dX7_restore_9 : decode cX7_restore 9 = .ok (.ldc 50, 2) := by decide +kernel
theorem dX7_restore_11 : decode cX7_restore 11 = .ok (.ireturn, 1) := by decide +kernel
theorem dX7_restore_12 : decode cX7_restore 12 = .ok (.aload_n 0, 1) := by decide +kernel
theorem dX7_restore_13 : decode cX7_restore 13 = .ok (.getfield 19, 3) := by decide +kernel
theorem dX7_restore_16 : decode cX7_restore 16 = .ok (.iload_n 1, 1) := by decide +kernel
theorem dX7_restore_17 : decode cX7_restore 17 = .ok (.baload, 1) := by decide +kernel
theorem dX7_restore_18 : decode cX7_restore 18 = .ok (.ifCond .ne 6, 3) := by decide +kernel
theorem dX7_restore_21 : decode cX7_restore 21 = .ok (.ldc 82, 2) := by decide +kernel
theorem dX7_restore_23 : decode cX7_restore 23 = .ok (.ireturn, 1) := by decide +kernel
theorem dX7_restore_24 : decode cX7_restore 24 = .ok (.iconst 0, 1) := by decide +kernel
theorem dX7_restore_25 : decode cX7_restore 25 = .ok (.istore_n 2, 1) := by decide +kernel
theorem dX7_restore_26 : decode cX7_restore 26 = .ok (.iload_n 2, 1) := by decide +kernel
theorem dX7_restore_27 : decode cX7_restore 27 = .ok (.sipush 1222, 3) := by decide +kernel
theorem dX7_restore_30 : decode cX7_restore 30 = .ok (.if_icmp .ge 27, 3) := by decide +kernel
theorem dX7_restore_33 : decode cX7_restore 33 = .ok (.aload_n 0, 1) := by decide +kernel
theorem dX7_restore_34 : decode cX7_restore 34 = .ok (.getfield 7, 3) := by decide +kernel
theorem dX7_restore_37 : decode cX7_restore 37 = .ok (.iload_n 2, 1) := by decide +kernel
theorem dX7_restore_38 : decode cX7_restore 38 = .ok (.aload_n 0, 1) := by decide +kernel
theorem dX7_restore_39 : decode cX7_restore 39 = .ok (.getfield 16, 3) := by decide +kernel
theorem dX7_restore_42 : decode cX7_restore 42 = .ok (.sipush 1222, 3) := by decide +kernel
theorem dX7_restore_45 : decode cX7_restore 45 = .ok (.iload_n 1, 1) := by decide +kernel
theorem dX7_restore_46 : decode cX7_restore 46 = .ok (.imul, 1) := by decide +kernel
theorem dX7_restore_47 : decode cX7_restore 47 = .ok (.iload_n 2, 1) := by decide +kernel
theorem dX7_restore_48 : decode cX7_restore 48 = .ok (.iadd, 1) := by decide +kernel
theorem dX7_restore_49 : decode cX7_restore 49 = .ok (.iaload, 1) := by decide +kernel
theorem dX7_restore_50 : decode cX7_restore 50 = .ok (.iastore, 1) := by decide +kernel
theorem dX7_restore_51 : decode cX7_restore 51 = .ok (.iinc 2 1, 3) := by decide +kernel
theorem dX7_restore_54 : decode cX7_restore 54 = .ok (.goto (-28), 3) := by decide +kernel
theorem dX7_restore_57 : decode cX7_restore 57 = .ok (.aload_n 0, 1) := by decide +kernel
theorem dX7_restore_58 : decode cX7_restore 58 = .ok (.iconst 0, 1) := by decide +kernel
theorem dX7_restore_59 : decode cX7_restore 59 = .ok (.invokevirtual 83, 3) := by decide +kernel
theorem dX7_restore_62 : decode cX7_restore 62 = .ok (.ireturn, 1) := by decide +kernel
theorem dX7_count_0 : decode cX7_count 0 = .ok (.iload_n 1, 1) := by decide +kernel
theorem dX7_count_1 : decode cX7_count 1 = .ok (.tableswitch 109 0 7 #[47, 56, 65, 71, 77, 86, 95, 104], 47) := by decide +kernel
theorem dX7_count_48 : decode cX7_count 48 = .ok (.aload_n 0, 1) := by decide +kernel
theorem dX7_count_49 : decode cX7_count 49 = .ok (.getfield 7, 3) := by decide +kernel
theorem dX7_count_52 : decode cX7_count 52 = .ok (.sipush 1216, 3) := by decide +kernel
theorem dX7_count_55 : decode cX7_count 55 = .ok (.iaload, 1) := by decide +kernel
theorem dX7_count_56 : decode cX7_count 56 = .ok (.ireturn, 1) := by decide +kernel
theorem dX7_count_57 : decode cX7_count 57 = .ok (.aload_n 0, 1) := by decide +kernel
theorem dX7_count_58 : decode cX7_count 58 = .ok (.getfield 7, 3) := by decide +kernel
theorem dX7_count_61 : decode cX7_count 61 = .ok (.sipush 1217, 3) := by decide +kernel
theorem dX7_count_64 : decode cX7_count 64 = .ok (.iaload, 1) := by decide +kernel
theorem dX7_count_65 : decode cX7_count 65 = .ok (.ireturn, 1) := by decide +kernel
theorem dX7_count_66 : decode cX7_count 66 = .ok (.aload_n 0, 1) := by decide +kernel
theorem dX7_count_67 : decode cX7_count 67 = .ok (.iconst 0, 1) := by decide +kernel
theorem dX7_count_68 : decode cX7_count 68 = .ok (.invokevirtual 83, 3) := by decide +kernel
theorem dX7_count_71 : decode cX7_count 71 = .ok (.ireturn, 1) := by decide +kernel
theorem dX7_count_72 : decode cX7_count 72 = .ok (.aload_n 0, 1) := by decide +kernel
theorem dX7_count_73 : decode cX7_count 73 = .ok (.iconst 1, 1) := by decide +kernel
theorem dX7_count_74 : decode cX7_count 74 = .ok (.invokevirtual 83, 3) := by decide +kernel
theorem dX7_count_77 : decode cX7_count 77 = .ok (.ireturn, 1) := by decide +kernel
theorem dX7_count_78 : decode cX7_count 78 = .ok (.aload_n 0, 1) := by decide +kernel
theorem dX7_count_79 : decode cX7_count 79 = .ok (.getfield 7, 3) := by decide +kernel
theorem dX7_count_82 : decode cX7_count 82 = .ok (.sipush 1218, 3) := by decide +kernel
theorem dX7_count_85 : decode cX7_count 85 = .ok (.iaload, 1) := by decide +kernel
theorem dX7_count_86 : decode cX7_count 86 = .ok (.ireturn, 1) := by decide +kernel
theorem dX7_count_87 : decode cX7_count 87 = .ok (.aload_n 0, 1) := by decide +kernel
theorem dX7_count_88 : decode cX7_count 88 = .ok (.getfield 7, 3) := by decide +kernel
theorem dX7_count_91 : decode cX7_count 91 = .ok (.sipush 1219, 3) := by decide +kernel
theorem dX7_count_94 : decode cX7_count 94 = .ok (.iaload, 1) := by decide +kernel
theorem dX7_count_95 : decode cX7_count 95 = .ok (.ireturn, 1) := by decide +kernel
theorem dX7_count_96 : decode cX7_count 96 = .ok (.aload_n 0, 1) := by decide +kernel
theorem dX7_count_97 : decode cX7_count 97 = .ok (.getfield 7, 3) := by decide +kernel
theorem dX7_count_100 : decode cX7_count 100 = .ok (.sipush 1220, 3) := by decide +kernel
theorem dX7_count_103 : decode cX7_count 103 = .ok (.iaload, 1) := by decide +kernel
theorem dX7_count_104 : decode cX7_count 104 = .ok (.ireturn, 1) := by decide +kernel
theorem dX7_count_105 : decode cX7_count 105 = .ok (.aload_n 0, 1) := by decide +kernel
theorem dX7_count_106 : decode cX7_count 106 = .ok (.getfield 126, 3) := by decide +kernel
theorem dX7_count_109 : decode cX7_count 109 = .ok (.ireturn, 1) := by decide +kernel
theorem dX7_count_110 : decode cX7_count 110 = .ok (.ldc 50, 2) := by decide +kernel
theorem dX7_count_112 : decode cX7_count 112 = .ok (.ireturn, 1) := by decide +kernel
theorem dX7_mixes_0 : decode cX7_mixes 0 = .ok (.aload_n 0, 1) := by decide +kernel
theorem dX7_mixes_1 : decode cX7_mixes 1 = .ok (.ldc2_w 188, 3) := by decide +kernel
theorem dX7_mixes_4 : decode cX7_mixes 4 = .ok (.aload_n 0, 1) := by decide +kernel
theorem dX7_mixes_5 : decode cX7_mixes 5 = .ok (.getfield 190, 3) := by decide +kernel
theorem dX7_mixes_8 : decode cX7_mixes 8 = .ok (.lmul, 1) := by decide +kernel
theorem dX7_mixes_9 : decode cX7_mixes 9 = .ok (.iload_n 1, 1) := by decide +kernel
theorem dX7_mixes_10 : decode cX7_mixes 10 = .ok (.i2l, 1) := by decide +kernel
theorem dX7_mixes_11 : decode cX7_mixes 11 = .ok (.ladd, 1) := by decide +kernel
theorem dX7_mixes_12 : decode cX7_mixes 12 = .ok (.putfield 190, 3) := by decide +kernel
theorem dX7_mixes_15 : decode cX7_mixes 15 = .ok (.return_, 1) := by decide +kernel
theorem dX7_digest_0 : decode cX7_digest 0 = .ok (.aload_n 0, 1) := by decide +kernel
theorem dX7_digest_1 : decode cX7_digest 1 = .ok (.ldc2_w 194, 3) := by decide +kernel
theorem dX7_digest_4 : decode cX7_digest 4 = .ok (.putfield 190, 3) := by decide +kernel
theorem dX7_digest_7 : decode cX7_digest 7 = .ok (.iconst 0, 1) := by decide +kernel
theorem dX7_digest_8 : decode cX7_digest 8 = .ok (.istore_n 1, 1) := by decide +kernel
theorem dX7_digest_9 : decode cX7_digest 9 = .ok (.iload_n 1, 1) := by decide +kernel
theorem dX7_digest_10 : decode cX7_digest 10 = .ok (.bipush 8, 2) := by decide +kernel
theorem dX7_digest_12 : decode cX7_digest 12 = .ok (.if_icmp .ge 18, 3) := by decide +kernel
theorem dX7_digest_15 : decode cX7_digest 15 = .ok (.aload_n 0, 1) := by decide +kernel
theorem dX7_digest_16 : decode cX7_digest 16 = .ok (.aload_n 0, 1) := by decide +kernel
theorem dX7_digest_17 : decode cX7_digest 17 = .ok (.iload_n 1, 1) := by decide +kernel
theorem dX7_digest_18 : decode cX7_digest 18 = .ok (.invokevirtual 196, 3) := by decide +kernel
theorem dX7_digest_21 : decode cX7_digest 21 = .ok (.invokevirtual 199, 3) := by decide +kernel
theorem dX7_digest_24 : decode cX7_digest 24 = .ok (.iinc 1 1, 3) := by decide +kernel
theorem dX7_digest_27 : decode cX7_digest 27 = .ok (.goto (-18), 3) := by decide +kernel
theorem dX7_digest_30 : decode cX7_digest 30 = .ok (.iconst 0, 1) := by decide +kernel
theorem dX7_digest_31 : decode cX7_digest 31 = .ok (.istore_n 1, 1) := by decide +kernel
theorem dX7_digest_32 : decode cX7_digest 32 = .ok (.iload_n 1, 1) := by decide +kernel
theorem dX7_digest_33 : decode cX7_digest 33 = .ok (.bipush 10, 2) := by decide +kernel
theorem dX7_digest_35 : decode cX7_digest 35 = .ok (.if_icmp .ge 23, 3) := by decide +kernel
theorem dX7_digest_38 : decode cX7_digest 38 = .ok (.aload_n 0, 1) := by decide +kernel
theorem dX7_digest_39 : decode cX7_digest 39 = .ok (.aload_n 0, 1) := by decide +kernel
theorem dX7_digest_40 : decode cX7_digest 40 = .ok (.getfield 7, 3) := by decide +kernel
theorem dX7_digest_43 : decode cX7_digest 43 = .ok (.sipush 1200, 3) := by decide +kernel
theorem dX7_digest_46 : decode cX7_digest 46 = .ok (.iload_n 1, 1) := by decide +kernel
theorem dX7_digest_47 : decode cX7_digest 47 = .ok (.iadd, 1) := by decide +kernel
theorem dX7_digest_48 : decode cX7_digest 48 = .ok (.iaload, 1) := by decide +kernel
theorem dX7_digest_49 : decode cX7_digest 49 = .ok (.invokevirtual 199, 3) := by decide +kernel
theorem dX7_digest_52 : decode cX7_digest 52 = .ok (.iinc 1 1, 3) := by decide +kernel
theorem dX7_digest_55 : decode cX7_digest 55 = .ok (.goto (-23), 3) := by decide +kernel
theorem dX7_digest_58 : decode cX7_digest 58 = .ok (.aload_n 0, 1) := by decide +kernel
theorem dX7_digest_59 : decode cX7_digest 59 = .ok (.iconst 0, 1) := by decide +kernel
theorem dX7_digest_60 : decode cX7_digest 60 = .ok (.invokevirtual 73, 3) := by decide +kernel
theorem dX7_digest_63 : decode cX7_digest 63 = .ok (.istore_n 1, 1) := by decide +kernel
theorem dX7_digest_64 : decode cX7_digest 64 = .ok (.iload_n 1, 1) := by decide +kernel
theorem dX7_digest_65 : decode cX7_digest 65 = .ok (.iconst (-1), 1) := by decide +kernel
theorem dX7_digest_66 : decode cX7_digest 66 = .ok (.if_icmp .eq 74, 3) := by decide +kernel
theorem dX7_digest_69 : decode cX7_digest 69 = .ok (.iconst 0, 1) := by decide +kernel
theorem dX7_digest_70 : decode cX7_digest 70 = .ok (.istore_n 2, 1) := by decide +kernel
theorem dX7_digest_71 : decode cX7_digest 71 = .ok (.iload_n 2, 1) := by decide +kernel
theorem dX7_digest_72 : decode cX7_digest 72 = .ok (.bipush 8, 2) := by decide +kernel
theorem dX7_digest_74 : decode cX7_digest 74 = .ok (.if_icmp .ge 19, 3) := by decide +kernel
theorem dX7_digest_77 : decode cX7_digest 77 = .ok (.aload_n 0, 1) := by decide +kernel
theorem dX7_digest_78 : decode cX7_digest 78 = .ok (.aload_n 0, 1) := by decide +kernel
theorem dX7_digest_79 : decode cX7_digest 79 = .ok (.iload_n 1, 1) := by decide +kernel
theorem dX7_digest_80 : decode cX7_digest 80 = .ok (.iload_n 2, 1) := by decide +kernel
theorem dX7_digest_81 : decode cX7_digest 81 = .ok (.invokevirtual 202, 3) := by decide +kernel
theorem dX7_digest_84 : decode cX7_digest 84 = .ok (.invokevirtual 199, 3) := by decide +kernel
theorem dX7_digest_87 : decode cX7_digest 87 = .ok (.iinc 2 1, 3) := by decide +kernel
theorem dX7_digest_90 : decode cX7_digest 90 = .ok (.goto (-19), 3) := by decide +kernel
theorem dX7_digest_93 : decode cX7_digest 93 = .ok (.iconst 1, 1) := by decide +kernel
theorem dX7_digest_94 : decode cX7_digest 94 = .ok (.istore_n 2, 1) := by decide +kernel
theorem dX7_digest_95 : decode cX7_digest 95 = .ok (.iload_n 2, 1) := by decide +kernel
theorem dX7_digest_96 : decode cX7_digest 96 = .ok (.aload_n 0, 1) := by decide +kernel
theorem dX7_digest_97 : decode cX7_digest 97 = .ok (.getfield 7, 3) := by decide +kernel
theorem dX7_digest_100 : decode cX7_digest 100 = .ok (.iconst 0, 1) := by decide +kernel
theorem dX7_digest_101 : decode cX7_digest 101 = .ok (.iload_n 1, 1) := by decide +kernel
theorem dX7_digest_102 : decode cX7_digest 102 = .ok (.iadd, 1) := by decide +kernel
theorem dX7_digest_103 : decode cX7_digest 103 = .ok (.iaload, 1) := by decide +kernel
theorem dX7_digest_104 : decode cX7_digest 104 = .ok (.if_icmp .ge 25, 3) := by decide +kernel
theorem dX7_digest_107 : decode cX7_digest 107 = .ok (.aload_n 0, 1) := by decide +kernel
theorem dX7_digest_108 : decode cX7_digest 108 = .ok (.aload_n 0, 1) := by decide +kernel
theorem dX7_digest_109 : decode cX7_digest 109 = .ok (.getfield 7, 3) := by decide +kernel
theorem dX7_digest_112 : decode cX7_digest 112 = .ok (.sipush 800, 3) := by decide +kernel
theorem dX7_digest_115 : decode cX7_digest 115 = .ok (.iload_n 1, 1) := by decide +kernel
theorem dX7_digest_116 : decode cX7_digest 116 = .ok (.iadd, 1) := by decide +kernel
theorem dX7_digest_117 : decode cX7_digest 117 = .ok (.iload_n 2, 1) := by decide +kernel
theorem dX7_digest_118 : decode cX7_digest 118 = .ok (.iadd, 1) := by decide +kernel
theorem dX7_digest_119 : decode cX7_digest 119 = .ok (.iaload, 1) := by decide +kernel
theorem dX7_digest_120 : decode cX7_digest 120 = .ok (.invokevirtual 199, 3) := by decide +kernel
theorem dX7_digest_123 : decode cX7_digest 123 = .ok (.iinc 2 1, 3) := by decide +kernel
theorem dX7_digest_126 : decode cX7_digest 126 = .ok (.goto (-31), 3) := by decide +kernel
theorem dX7_digest_129 : decode cX7_digest 129 = .ok (.aload_n 0, 1) := by decide +kernel
theorem dX7_digest_130 : decode cX7_digest 130 = .ok (.iload_n 1, 1) := by decide +kernel
theorem dX7_digest_131 : decode cX7_digest 131 = .ok (.iconst 1, 1) := by decide +kernel
theorem dX7_digest_132 : decode cX7_digest 132 = .ok (.iadd, 1) := by decide +kernel
theorem dX7_digest_133 : decode cX7_digest 133 = .ok (.invokevirtual 73, 3) := by decide +kernel
theorem dX7_digest_136 : decode cX7_digest 136 = .ok (.istore_n 1, 1) := by decide +kernel
theorem dX7_digest_137 : decode cX7_digest 137 = .ok (.goto (-73), 3) := by decide +kernel
theorem dX7_digest_140 : decode cX7_digest 140 = .ok (.iconst 0, 1) := by decide +kernel
theorem dX7_digest_141 : decode cX7_digest 141 = .ok (.istore_n 1, 1) := by decide +kernel
theorem dX7_digest_142 : decode cX7_digest 142 = .ok (.iload_n 1, 1) := by decide +kernel
theorem dX7_digest_143 : decode cX7_digest 143 = .ok (.iconst 5, 1) := by decide +kernel
theorem dX7_digest_144 : decode cX7_digest 144 = .ok (.if_icmp .ge 18, 3) := by decide +kernel
theorem dX7_digest_147 : decode cX7_digest 147 = .ok (.aload_n 0, 1) := by decide +kernel
theorem dX7_digest_148 : decode cX7_digest 148 = .ok (.aload_n 0, 1) := by decide +kernel
theorem dX7_digest_149 : decode cX7_digest 149 = .ok (.iload_n 1, 1) := by decide +kernel
theorem dX7_digest_150 : decode cX7_digest 150 = .ok (.invokevirtual 205, 3) := by decide +kernel
theorem dX7_digest_153 : decode cX7_digest 153 = .ok (.invokevirtual 199, 3) := by decide +kernel
theorem dX7_digest_156 : decode cX7_digest 156 = .ok (.iinc 1 1, 3) := by decide +kernel
theorem dX7_digest_159 : decode cX7_digest 159 = .ok (.goto (-17), 3) := by decide +kernel
theorem dX7_digest_162 : decode cX7_digest 162 = .ok (.iconst 0, 1) := by decide +kernel
theorem dX7_digest_163 : decode cX7_digest 163 = .ok (.istore_n 1, 1) := by decide +kernel
theorem dX7_digest_164 : decode cX7_digest 164 = .ok (.iload_n 1, 1) := by decide +kernel
theorem dX7_digest_165 : decode cX7_digest 165 = .ok (.bipush 6, 2) := by decide +kernel
theorem dX7_digest_167 : decode cX7_digest 167 = .ok (.if_icmp .ge 35, 3) := by decide +kernel
theorem dX7_digest_170 : decode cX7_digest 170 = .ok (.aload_n 0, 1) := by decide +kernel
theorem dX7_digest_171 : decode cX7_digest 171 = .ok (.getfield 7, 3) := by decide +kernel
theorem dX7_digest_174 : decode cX7_digest 174 = .ok (.sipush 1221, 3) := by decide +kernel
theorem dX7_digest_177 : decode cX7_digest 177 = .ok (.iaload, 1) := by decide +kernel
theorem dX7_digest_178 : decode cX7_digest 178 = .ok (.iconst 1, 1) := by decide +kernel
theorem dX7_digest_179 : decode cX7_digest 179 = .ok (.if_icmp .ne 23, 3) := by decide +kernel
theorem dX7_digest_182 : decode cX7_digest 182 = .ok (.aload_n 0, 1) := by decide +kernel
theorem dX7_digest_183 : decode cX7_digest 183 = .ok (.aload_n 0, 1) := by decide +kernel
theorem dX7_digest_184 : decode cX7_digest 184 = .ok (.getfield 7, 3) := by decide +kernel
theorem dX7_digest_187 : decode cX7_digest 187 = .ok (.sipush 1210, 3) := by decide +kernel
theorem dX7_digest_190 : decode cX7_digest 190 = .ok (.iload_n 1, 1) := by decide +kernel
theorem dX7_digest_191 : decode cX7_digest 191 = .ok (.iadd, 1) := by decide +kernel
theorem dX7_digest_192 : decode cX7_digest 192 = .ok (.iaload, 1) := by decide +kernel
theorem dX7_digest_193 : decode cX7_digest 193 = .ok (.invokevirtual 199, 3) := by decide +kernel
theorem dX7_digest_196 : decode cX7_digest 196 = .ok (.iinc 1 1, 3) := by decide +kernel
theorem dX7_digest_199 : decode cX7_digest 199 = .ok (.goto (-35), 3) := by decide +kernel
theorem dX7_digest_202 : decode cX7_digest 202 = .ok (.iconst 0, 1) := by decide +kernel
theorem dX7_digest_203 : decode cX7_digest 203 = .ok (.istore_n 1, 1) := by decide +kernel
theorem dX7_digest_204 : decode cX7_digest 204 = .ok (.iload_n 1, 1) := by decide +kernel
theorem dX7_digest_205 : decode cX7_digest 205 = .ok (.aload_n 0, 1) := by decide +kernel
theorem dX7_digest_206 : decode cX7_digest 206 = .ok (.getfield 126, 3) := by decide +kernel
theorem dX7_digest_209 : decode cX7_digest 209 = .ok (.if_icmp .ge 19, 3) := by decide +kernel
theorem dX7_digest_212 : decode cX7_digest 212 = .ok (.aload_n 0, 1) := by decide +kernel
theorem dX7_digest_213 : decode cX7_digest 213 = .ok (.aload_n 0, 1) := by decide +kernel
theorem dX7_digest_214 : decode cX7_digest 214 = .ok (.getfield 23, 3) := by decide +kernel
theorem dX7_digest_217 : decode cX7_digest 217 = .ok (.iload_n 1, 1) := by decide +kernel
theorem dX7_digest_218 : decode cX7_digest 218 = .ok (.iaload, 1) := by decide +kernel
theorem dX7_digest_219 : decode cX7_digest 219 = .ok (.invokevirtual 199, 3) := by decide +kernel
theorem dX7_digest_222 : decode cX7_digest 222 = .ok (.iinc 1 1, 3) := by decide +kernel
theorem dX7_digest_225 : decode cX7_digest 225 = .ok (.goto (-21), 3) := by decide +kernel
theorem dX7_digest_228 : decode cX7_digest 228 = .ok (.aload_n 0, 1) := by decide +kernel
theorem dX7_digest_229 : decode cX7_digest 229 = .ok (.getfield 190, 3) := by decide +kernel
theorem dX7_digest_232 : decode cX7_digest 232 = .ok (.lreturn, 1) := by decide +kernel
