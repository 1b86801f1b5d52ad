theorem kd_Mo_times_132 : decode kb_Mo_times 132 = .ok (.aload_n 0, 1) := by decide +kernel
theorem kd_Mo_times_133 : decode kb_Mo_times 133 = .ok (.getfield 52, 3) := by decide +kernel
theorem kd_Mo_times_136 : decode kb_Mo_times 136 = .ok (.bipush 25, 2) := by decide +kernel
theorem kd_Mo_times_138 : decode kb_Mo_times 138 = .ok (.iload_n 1, 1) := by decide +kernel
theorem kd_Mo_times_139 : decode kb_Mo_times 139 = .ok (.imul, 1) := by decide +kernel
theorem kd_Mo_times_140 : decode kb_Mo_times 140 = .ok (.iload 5, 2) := by decide +kernel
theorem kd_Mo_times_142 : decode kb_Mo_times 142 = .ok (.iadd, 1) := by decide +kernel
theorem kd_Mo_times_143 : decode kb_Mo_times 143 = .ok (.iload 4, 2) := by decide +kernel
theorem kd_Mo_times_145 : decode kb_Mo_times 145 = .ok (.bipush 10, 2) := by decide +kernel
theorem kd_Mo_times_147 : decode kb_Mo_times 147 = .ok (.if_icmp .ge 8, 3) := by decide +kernel
theorem kd_Mo_times_150 : decode kb_Mo_times 150 = .ok (.iload 6, 2) := by decide +kernel
theorem kd_Mo_times_152 : decode kb_Mo_times 152 = .ok (.goto 5, 3) := by decide +kernel
theorem kd_Mo_times_155 : decode kb_Mo_times 155 = .ok (.iload 7, 2) := by decide +kernel
theorem kd_Mo_times_157 : decode kb_Mo_times 157 = .ok (.iastore, 1) := by decide +kernel
theorem kd_Mo_times_158 : decode kb_Mo_times 158 = .ok (.iinc 5 1, 3) := by decide +kernel
theorem kd_Mo_times_161 : decode kb_Mo_times 161 = .ok (.goto (-153), 3) := by decide +kernel
theorem kd_Mo_times_164 : decode kb_Mo_times 164 = .ok (.return_, 1) := by decide +kernel
theorem kd_Mo_work_0 : decode kb_Mo_work 0 = .ok (.aload_n 0, 1) := by decide +kernel
theorem kd_Mo_work_1 : decode kb_Mo_work 1 = .ok (.getfield 25, 3) := by decide +kernel
theorem kd_Mo_work_4 : decode kb_Mo_work 4 = .ok (.iload_n 1, 1) := by decide +kernel
theorem kd_Mo_work_5 : decode kb_Mo_work 5 = .ok (.iload_n 2, 1) := by decide +kernel
theorem kd_Mo_work_6 : decode kb_Mo_work 6 = .ok (.iadd, 1) := by decide +kernel
theorem kd_Mo_work_7 : decode kb_Mo_work 7 = .ok (.iaload, 1) := by decide +kernel
theorem kd_Mo_work_8 : decode kb_Mo_work 8 = .ok (.istore_n 3, 1) := by decide +kernel
theorem kd_Mo_work_9 : decode kb_Mo_work 9 = .ok (.aload_n 0, 1) := by decide +kernel
theorem kd_Mo_work_10 : decode kb_Mo_work 10 = .ok (.getfield 28, 3) := by decide +kernel
theorem kd_Mo_work_13 : decode kb_Mo_work 13 = .ok (.iload_n 1, 1) := by decide +kernel
theorem kd_Mo_work_14 : decode kb_Mo_work 14 = .ok (.iload_n 2, 1) := by decide +kernel
theorem kd_Mo_work_15 : decode kb_Mo_work 15 = .ok (.iadd, 1) := by decide +kernel
theorem kd_Mo_work_16 : decode kb_Mo_work 16 = .ok (.iaload, 1) := by decide +kernel
theorem kd_Mo_work_17 : decode kb_Mo_work 17 = .ok (.istore 4, 2) := by decide +kernel
theorem kd_Mo_work_19 : decode kb_Mo_work 19 = .ok (.aload_n 0, 1) := by decide +kernel
theorem kd_Mo_work_20 : decode kb_Mo_work 20 = .ok (.getfield 22, 3) := by decide +kernel
theorem kd_Mo_work_23 : decode kb_Mo_work 23 = .ok (.iload_n 1, 1) := by decide +kernel
theorem kd_Mo_work_24 : decode kb_Mo_work 24 = .ok (.iload_n 2, 1) := by decide +kernel
theorem kd_Mo_work_25 : decode kb_Mo_work 25 = .ok (.iadd, 1) := by decide +kernel
theorem kd_Mo_work_26 : decode kb_Mo_work 26 = .ok (.iaload, 1) := by decide +kernel
theorem kd_Mo_work_27 : decode kb_Mo_work 27 = .ok (.istore 5, 2) := by decide +kernel
theorem kd_Mo_work_29 : decode kb_Mo_work 29 = .ok (.iload 5, 2) := by decide +kernel
theorem kd_Mo_work_31 : decode kb_Mo_work 31 = .ok (.bipush 9, 2) := by decide +kernel
theorem kd_Mo_work_33 : decode kb_Mo_work 33 = .ok (.if_icmp .ne 21, 3) := by decide +kernel
theorem kd_Mo_work_36 : decode kb_Mo_work 36 = .ok (.aload_n 0, 1) := by decide +kernel
theorem kd_Mo_work_37 : decode kb_Mo_work 37 = .ok (.iload_n 2, 1) := by decide +kernel
theorem kd_Mo_work_38 : decode kb_Mo_work 38 = .ok (.iload_n 3, 1) := by decide +kernel
theorem kd_Mo_work_39 : decode kb_Mo_work 39 = .ok (.iload 4, 2) := by decide +kernel
theorem kd_Mo_work_41 : decode kb_Mo_work 41 = .ok (.aload_n 0, 1) := by decide +kernel
theorem kd_Mo_work_42 : decode kb_Mo_work 42 = .ok (.getfield 31, 3) := by decide +kernel
theorem kd_Mo_work_45 : decode kb_Mo_work 45 = .ok (.iconst 3, 1) := by decide +kernel
theorem kd_Mo_work_46 : decode kb_Mo_work 46 = .ok (.iload_n 1, 1) := by decide +kernel
theorem kd_Mo_work_47 : decode kb_Mo_work 47 = .ok (.iload_n 2, 1) := by decide +kernel
theorem kd_Mo_work_48 : decode kb_Mo_work 48 = .ok (.iadd, 1) := by decide +kernel
theorem kd_Mo_work_49 : decode kb_Mo_work 49 = .ok (.imul, 1) := by decide +kernel
theorem kd_Mo_work_50 : decode kb_Mo_work 50 = .ok (.iaload, 1) := by decide +kernel
theorem kd_Mo_work_51 : decode kb_Mo_work 51 = .ok (.invokevirtual 152, 3) := by decide +kernel
theorem kd_Mo_work_54 : decode kb_Mo_work 54 = .ok (.iload 5, 2) := by decide +kernel
theorem kd_Mo_work_56 : decode kb_Mo_work 56 = .ok (.bipush 6, 2) := by decide +kernel
theorem kd_Mo_work_58 : decode kb_Mo_work 58 = .ok (.if_icmp .eq 10, 3) := by decide +kernel
theorem kd_Mo_work_61 : decode kb_Mo_work 61 = .ok (.iload 5, 2) := by decide +kernel
theorem kd_Mo_work_63 : decode kb_Mo_work 63 = .ok (.bipush 7, 2) := by decide +kernel
theorem kd_Mo_work_65 : decode kb_Mo_work 65 = .ok (.if_icmp .ne 23, 3) := by decide +kernel
theorem kd_Mo_work_68 : decode kb_Mo_work 68 = .ok (.aload_n 0, 1) := by decide +kernel
theorem kd_Mo_work_69 : decode kb_Mo_work 69 = .ok (.iload_n 2, 1) := by decide +kernel
theorem kd_Mo_work_70 : decode kb_Mo_work 70 = .ok (.iload_n 3, 1) := by decide +kernel
theorem kd_Mo_work_71 : decode kb_Mo_work 71 = .ok (.iload 5, 2) := by decide +kernel
theorem kd_Mo_work_73 : decode kb_Mo_work 73 = .ok (.bipush 6, 2) := by decide +kernel
theorem kd_Mo_work_75 : decode kb_Mo_work 75 = .ok (.if_icmp .ne 7, 3) := by decide +kernel
theorem kd_Mo_work_78 : decode kb_Mo_work 78 = .ok (.iconst 0, 1) := by decide +kernel
theorem kd_Mo_work_79 : decode kb_Mo_work 79 = .ok (.goto 4, 3) := by decide +kernel
theorem kd_Mo_work_82 : decode kb_Mo_work 82 = .ok (.iconst 1, 1) := by decide +kernel
theorem kd_Mo_work_83 : decode kb_Mo_work 83 = .ok (.bipush 10, 2) := by decide +kernel
theorem kd_Mo_work_85 : decode kb_Mo_work 85 = .ok (.invokevirtual 152, 3) := by decide +kernel
theorem kd_Mo_work_88 : decode kb_Mo_work 88 = .ok (.iconst 0, 1) := by decide +kernel
theorem kd_Mo_work_89 : decode kb_Mo_work 89 = .ok (.istore 6, 2) := by decide +kernel
theorem kd_Mo_work_91 : decode kb_Mo_work 91 = .ok (.iload 6, 2) := by decide +kernel
theorem kd_Mo_work_93 : decode kb_Mo_work 93 = .ok (.aload_n 0, 1) := by decide +kernel
theorem kd_Mo_work_94 : decode kb_Mo_work 94 = .ok (.getfield 142, 3) := by decide +kernel
theorem kd_Mo_work_97 : decode kb_Mo_work 97 = .ok (.if_icmp .gt 256, 3) := by decide +kernel
theorem kd_Mo_work_100 : decode kb_Mo_work 100 = .ok (.aload_n 0, 1) := by decide +kernel
theorem kd_Mo_work_101 : decode kb_Mo_work 101 = .ok (.getfield 52, 3) := by decide +kernel
theorem kd_Mo_work_104 : decode kb_Mo_work 104 = .ok (.bipush 25, 2) := by decide +kernel
theorem kd_Mo_work_106 : decode kb_Mo_work 106 = .ok (.iload_n 3, 1) := by decide +kernel
theorem kd_Mo_work_107 : decode kb_Mo_work 107 = .ok (.imul, 1) := by decide +kernel
theorem kd_Mo_work_108 : decode kb_Mo_work 108 = .ok (.iload 6, 2) := by decide +kernel
theorem kd_Mo_work_110 : decode kb_Mo_work 110 = .ok (.iadd, 1) := by decide +kernel
theorem kd_Mo_work_111 : decode kb_Mo_work 111 = .ok (.iaload, 1) := by decide +kernel
theorem kd_Mo_work_112 : decode kb_Mo_work 112 = .ok (.istore 7, 2) := by decide +kernel
theorem kd_Mo_work_114 : decode kb_Mo_work 114 = .ok (.bipush 25, 2) := by decide +kernel
theorem kd_Mo_work_116 : decode kb_Mo_work 116 = .ok (.iload_n 2, 1) := by decide +kernel
theorem kd_Mo_work_117 : decode kb_Mo_work 117 = .ok (.imul, 1) := by decide +kernel
theorem kd_Mo_work_118 : decode kb_Mo_work 118 = .ok (.iload 6, 2) := by decide +kernel
theorem kd_Mo_work_120 : decode kb_Mo_work 120 = .ok (.iadd, 1) := by decide +kernel
theorem kd_Mo_work_121 : decode kb_Mo_work 121 = .ok (.istore 8, 2) := by decide +kernel
theorem kd_Mo_work_123 : decode kb_Mo_work 123 = .ok (.iload 5, 2) := by decide +kernel
theorem kd_Mo_work_125 : decode kb_Mo_work 125 = .ok (.tableswitch 222 0 8 #[51, 65, 109, 127, 153, 179, 222, 222, 205], 51) := by decide +kernel
theorem kd_Mo_work_176 : decode kb_Mo_work 176 = .ok (.aload_n 0, 1) := by decide +kernel
theorem kd_Mo_work_177 : decode kb_Mo_work 177 = .ok (.getfield 52, 3) := by decide +kernel
theorem kd_Mo_work_180 : decode kb_Mo_work 180 = .ok (.iload 8, 2) := by decide +kernel
theorem kd_Mo_work_182 : decode kb_Mo_work 182 = .ok (.iconst 1, 1) := by decide +kernel
theorem kd_Mo_work_183 : decode kb_Mo_work 183 = .ok (.iload 6, 2) := by decide +kernel
theorem kd_Mo_work_185 : decode kb_Mo_work 185 = .ok (.ishl, 1) := by decide +kernel
theorem kd_Mo_work_186 : decode kb_Mo_work 186 = .ok (.iastore, 1) := by decide +kernel
theorem kd_Mo_work_187 : decode kb_Mo_work 187 = .ok (.goto 160, 3) := by decide +kernel
theorem kd_Mo_work_190 : decode kb_Mo_work 190 = .ok (.aload_n 0, 1) := by decide +kernel
theorem kd_Mo_work_191 : decode kb_Mo_work 191 = .ok (.getfield 52, 3) := by decide +kernel
theorem kd_Mo_work_194 : decode kb_Mo_work 194 = .ok (.iload 8, 2) := by decide +kernel
theorem kd_Mo_work_196 : decode kb_Mo_work 196 = .ok (.iload 6, 2) := by decide +kernel
theorem kd_Mo_work_198 : decode kb_Mo_work 198 = .ok (.aload_n 0, 1) := by decide +kernel
theorem kd_Mo_work_199 : decode kb_Mo_work 199 = .ok (.getfield 142, 3) := by decide +kernel
theorem kd_Mo_work_202 : decode kb_Mo_work 202 = .ok (.if_icmp .ge 27, 3) := by decide +kernel
theorem kd_Mo_work_205 : decode kb_Mo_work 205 = .ok (.aload_n 0, 1) := by decide +kernel
theorem kd_Mo_work_206 : decode kb_Mo_work 206 = .ok (.iload_n 1, 1) := by decide +kernel
theorem kd_Mo_work_207 : decode kb_Mo_work 207 = .ok (.iload_n 2, 1) := by decide +kernel
theorem kd_Mo_work_208 : decode kb_Mo_work 208 = .ok (.iadd, 1) := by decide +kernel
theorem kd_Mo_work_209 : decode kb_Mo_work 209 = .ok (.aload_n 0, 1) := by decide +kernel
theorem kd_Mo_work_210 : decode kb_Mo_work 210 = .ok (.getfield 49, 3) := by decide +kernel
theorem kd_Mo_work_213 : decode kb_Mo_work 213 = .ok (.iload 6, 2) := by decide +kernel
theorem kd_Mo_work_215 : decode kb_Mo_work 215 = .ok (.iaload, 1) := by decide +kernel
theorem kd_Mo_work_216 : decode kb_Mo_work 216 = .ok (.invokevirtual 129, 3) := by decide +kernel
theorem kd_Mo_work_219 : decode kb_Mo_work 219 = .ok (.ifCond .eq 10, 3) := by decide +kernel
theorem kd_Mo_work_222 : decode kb_Mo_work 222 = .ok (.iconst 2, 1) := by decide +kernel
theorem kd_Mo_work_223 : decode kb_Mo_work 223 = .ok (.iload 6, 2) := by decide +kernel
theorem kd_Mo_work_225 : decode kb_Mo_work 225 = .ok (.ishl, 1) := by decide +kernel
theorem kd_Mo_work_226 : decode kb_Mo_work 226 = .ok (.goto 4, 3) := by decide +kernel
theorem kd_Mo_work_229 : decode kb_Mo_work 229 = .ok (.iconst 0, 1) := by decide +kernel
theorem kd_Mo_work_230 : decode kb_Mo_work 230 = .ok (.iastore, 1) := by decide +kernel
theorem kd_Mo_work_231 : decode kb_Mo_work 231 = .ok (.goto 116, 3) := by decide +kernel
theorem kd_Mo_work_234 : decode kb_Mo_work 234 = .ok (.aload_n 0, 1) := by decide +kernel
theorem kd_Mo_work_235 : decode kb_Mo_work 235 = .ok (.getfield 52, 3) := by decide +kernel
theorem kd_Mo_work_238 : decode kb_Mo_work 238 = .ok (.iload 8, 2) := by decide +kernel
theorem kd_Mo_work_240 : decode kb_Mo_work 240 = .ok (.aload_n 0, 1) := by decide +kernel
theorem kd_Mo_work_241 : decode kb_Mo_work 241 = .ok (.iload 7, 2) := by decide +kernel
theorem kd_Mo_work_243 : decode kb_Mo_work 243 = .ok (.iload 4, 2) := by decide +kernel
theorem kd_Mo_work_245 : decode kb_Mo_work 245 = .ok (.invokevirtual 148, 3) := by decide +kernel
theorem kd_Mo_work_248 : decode kb_Mo_work 248 = .ok (.iastore, 1) := by decide +kernel
theorem kd_Mo_work_249 : decode kb_Mo_work 249 = .ok (.goto 98, 3) := by decide +kernel
theorem kd_Mo_work_252 : decode kb_Mo_work 252 = .ok (.aload_n 0, 1) := by decide +kernel
theorem kd_Mo_work_253 : decode kb_Mo_work 253 = .ok (.getfield 52, 3) := by decide +kernel
theorem kd_Mo_work_256 : decode kb_Mo_work 256 = .ok (.iload 8, 2) := by decide +kernel
theorem kd_Mo_work_258 : decode kb_Mo_work 258 = .ok (.iload 7, 2) := by decide +kernel
theorem kd_Mo_work_260 : decode kb_Mo_work 260 = .ok (.aload_n 0, 1) := by decide +kernel
theorem kd_Mo_work_261 : decode kb_Mo_work 261 = .ok (.getfield 52, 3) := by decide +kernel
theorem kd_Mo_work_264 : decode kb_Mo_work 264 = .ok (.bipush 25, 2) := by decide +kernel
theorem kd_Mo_work_266 : decode kb_Mo_work 266 = .ok (.iload 4, 2) := by decide +kernel
theorem kd_Mo_work_268 : decode kb_Mo_work 268 = .ok (.imul, 1) := by decide +kernel
theorem kd_Mo_work_269 : decode kb_Mo_work 269 = .ok (.iload 6, 2) := by decide +kernel
theorem kd_Mo_work_271 : decode kb_Mo_work 271 = .ok (.iadd, 1) := by decide +kernel
theorem kd_Mo_work_272 : decode kb_Mo_work 272 = .ok (.iaload, 1) := by decide +kernel
theorem kd_Mo_work_273 : decode kb_Mo_work 273 = .ok (.iand, 1) := by decide +kernel
theorem kd_Mo_work_274 : decode kb_Mo_work 274 = .ok (.iastore, 1) := by decide +kernel
theorem kd_Mo_work_275 : decode kb_Mo_work 275 = .ok (.goto 72, 3) := by decide +kernel
theorem kd_Mo_work_278 : decode kb_Mo_work 278 = .ok (.aload_n 0, 1) := by decide +kernel
theorem kd_Mo_work_279 : decode kb_Mo_work 279 = .ok (.getfield 52, 3) := by decide +kernel
theorem kd_Mo_work_282 : decode kb_Mo_work 282 = .ok (.iload 8, 2) := by decide +kernel
theorem kd_Mo_work_284 : decode kb_Mo_work 284 = .ok (.iload 7, 2) := by decide +kernel
theorem kd_Mo_work_286 : decode kb_Mo_work 286 = .ok (.aload_n 0, 1) := by decide +kernel
theorem kd_Mo_work_287 : decode kb_Mo_work 287 = .ok (.getfield 52, 3) := by decide +kernel
theorem kd_Mo_work_290 : decode kb_Mo_work 290 = .ok (.bipush 25, 2) := by decide +kernel
theorem kd_Mo_work_292 : decode kb_Mo_work 292 = .ok (.iload 4, 2) := by decide +kernel
theorem kd_Mo_work_294 : decode kb_Mo_work 294 = .ok (.imul, 1) := by decide +kernel
theorem kd_Mo_work_295 : decode kb_Mo_work 295 = .ok (.iload 6, 2) := by decide +kernel
theorem kd_Mo_work_297 : decode kb_Mo_work 297 = .ok (.iadd, 1) := by decide +kernel
theorem kd_Mo_work_298 : decode kb_Mo_work 298 = .ok (.iaload, 1) := by decide +kernel
theorem kd_Mo_work_299 : decode kb_Mo_work 299 = .ok (.ior, 1) := by decide +kernel
theorem kd_Mo_work_300 : decode kb_Mo_work 300 = .ok (.iastore, 1) := by decide +kernel
theorem kd_Mo_work_301 : decode kb_Mo_work 301 = .ok (.goto 46, 3) := by decide +kernel
theorem kd_Mo_work_304 : decode kb_Mo_work 304 = .ok (.aload_n 0, 1) := by decide +kernel
theorem kd_Mo_work_305 : decode kb_Mo_work 305 = .ok (.getfield 52, 3) := by decide +kernel
theorem kd_Mo_work_308 : decode kb_Mo_work 308 = .ok (.iload 8, 2) := by decide +kernel
theorem kd_Mo_work_310 : decode kb_Mo_work 310 = .ok (.iload 7, 2) := by decide +kernel
theorem kd_Mo_work_312 : decode kb_Mo_work 312 = .ok (.iconst (-1), 1) := by decide +kernel
theorem kd_Mo_work_313 : decode kb_Mo_work 313 = .ok (.ixor, 1) := by decide +kernel
theorem kd_Mo_work_314 : decode kb_Mo_work 314 = .ok (.iconst 2, 1) := by decide +kernel
theorem kd_Mo_work_315 : decode kb_Mo_work 315 = .ok (.aload_n 0, 1) := by decide +kernel
theorem kd_Mo_work_316 : decode kb_Mo_work 316 = .ok (.getfield 142, 3) := by decide +kernel
theorem kd_Mo_work_319 : decode kb_Mo_work 319 = .ok (.ishl, 1) := by decide +kernel
theorem kd_Mo_work_320 : decode kb_Mo_work 320 = .ok (.iconst 1, 1) := by decide +kernel
theorem kd_Mo_work_321 : decode kb_Mo_work 321 = .ok (.iload 6, 2) := by decide +kernel
theorem kd_Mo_work_323 : decode kb_Mo_work 323 = .ok (.ishl, 1) := by decide +kernel
theorem kd_Mo_work_324 : decode kb_Mo_work 324 = .ok (.isub, 1) := by decide +kernel
theorem kd_Mo_work_325 : decode kb_Mo_work 325 = .ok (.iand, 1) := by decide +kernel
theorem kd_Mo_work_326 : decode kb_Mo_work 326 = .ok (.iastore, 1) := by decide +kernel
theorem kd_Mo_work_327 : decode kb_Mo_work 327 = .ok (.goto 20, 3) := by decide +kernel
theorem kd_Mo_work_330 : decode kb_Mo_work 330 = .ok (.aload_n 0, 1) := by decide +kernel
theorem kd_Mo_work_331 : decode kb_Mo_work 331 = .ok (.getfield 52, 3) := by decide +kernel
theorem kd_Mo_work_334 : decode kb_Mo_work 334 = .ok (.iload 8, 2) := by decide +kernel
theorem kd_Mo_work_336 : decode kb_Mo_work 336 = .ok (.iload 7, 2) := by decide +kernel
theorem kd_Mo_work_338 : decode kb_Mo_work 338 = .ok (.iconst 1, 1) := by decide +kernel
theorem kd_Mo_work_339 : decode kb_Mo_work 339 = .ok (.iload 6, 2) := by decide +kernel
theorem kd_Mo_work_341 : decode kb_Mo_work 341 = .ok (.ishl, 1) := by decide +kernel
theorem kd_Mo_work_342 : decode kb_Mo_work 342 = .ok (.ior, 1) := by decide +kernel
theorem kd_Mo_work_343 : decode kb_Mo_work 343 = .ok (.iastore, 1) := by decide +kernel
theorem kd_Mo_work_344 : decode kb_Mo_work 344 = .ok (.goto 3, 3) := by decide +kernel
theorem kd_Mo_work_347 : decode kb_Mo_work 347 = .ok (.iinc 6 1, 3) := by decide +kernel
theorem kd_Mo_work_350 : decode kb_Mo_work 350 = .ok (.goto (-259), 3) := by decide +kernel
theorem kd_Mo_work_353 : decode kb_Mo_work 353 = .ok (.return_, 1) := by decide +kernel
theorem kd_Mo_look_0 : decode kb_Mo_look 0 = .ok (.iconst 0, 1) := by decide +kernel
theorem kd_Mo_look_1 : decode kb_Mo_look 1 = .ok (.istore_n 2, 1) := by decide +kernel
theorem kd_Mo_look_2 : decode kb_Mo_look 2 = .ok (.iload_n 2, 1) := by decide +kernel
theorem kd_Mo_look_3 : decode kb_Mo_look 3 = .ok (.aload_n 0, 1) := by decide +kernel
theorem kd_Mo_look_4 : decode kb_Mo_look 4 = .ok (.getfield 19, 3) := by decide +kernel
theorem kd_Mo_look_7 : decode kb_Mo_look 7 = .ok (.iload_n 1, 1) := by decide +kernel
theorem kd_Mo_look_8 : decode kb_Mo_look 8 = .ok (.iaload, 1) := by decide +kernel
theorem kd_Mo_look_9 : decode kb_Mo_look 9 = .ok (.if_icmp .ge 19, 3) := by decide +kernel
theorem kd_Mo_look_12 : decode kb_Mo_look 12 = .ok (.aload_n 0, 1) := by decide +kernel
theorem kd_Mo_look_13 : decode kb_Mo_look 13 = .ok (.sipush 128, 3) := by decide +kernel
theorem kd_Mo_look_16 : decode kb_Mo_look 16 = .ok (.iload_n 1, 1) := by decide +kernel
theorem kd_Mo_look_17 : decode kb_Mo_look 17 = .ok (.imul, 1) := by decide +kernel
theorem kd_Mo_look_18 : decode kb_Mo_look 18 = .ok (.iload_n 2, 1) := by decide +kernel
theorem kd_Mo_look_19 : decode kb_Mo_look 19 = .ok (.invokevirtual 156, 3) := by decide +kernel
theorem kd_Mo_look_22 : decode kb_Mo_look 22 = .ok (.iinc 2 1, 3) := by decide +kernel
theorem kd_Mo_look_25 : decode kb_Mo_look 25 = .ok (.goto (-23), 3) := by decide +kernel
theorem kd_Mo_look_28 : decode kb_Mo_look 28 = .ok (.bipush 25, 2) := by decide +kernel
theorem kd_Mo_look_30 : decode kb_Mo_look 30 = .ok (.aload_n 0, 1) := by decide +kernel
theorem kd_Mo_look_31 : decode kb_Mo_look 31 = .ok (.getfield 19, 3) := by decide +kernel
theorem kd_Mo_look_34 : decode kb_Mo_look 34 = .ok (.iload_n 1, 1) := by decide +kernel
theorem kd_Mo_look_35 : decode kb_Mo_look 35 = .ok (.iaload, 1) := by decide +kernel
theorem kd_Mo_look_36 : decode kb_Mo_look 36 = .ok (.iconst 1, 1) := by decide +kernel
theorem kd_Mo_look_37 : decode kb_Mo_look 37 = .ok (.isub, 1) := by decide +kernel
theorem kd_Mo_look_38 : decode kb_Mo_look 38 = .ok (.imul, 1) := by decide +kernel
theorem kd_Mo_look_39 : decode kb_Mo_look 39 = .ok (.ireturn, 1) := by decide +kernel
theorem kd_Mo_lookAtText_0 : decode kb_Mo_lookAtText 0 = .ok (.aload_n 0, 1) := by decide +kernel
theorem kd_Mo_lookAtText_1 : decode kb_Mo_lookAtText 1 = .ok (.aload_n 0, 1) := by decide +kernel
theorem kd_Mo_lookAtText_2 : decode kb_Mo_lookAtText 2 = .ok (.getfield 139, 3) := by decide +kernel
theorem kd_Mo_lookAtText_5 : decode kb_Mo_lookAtText 5 = .ok (.putfield 142, 3) := by decide +kernel
theorem kd_Mo_lookAtText_8 : decode kb_Mo_lookAtText 8 = .ok (.iconst 0, 1) := by decide +kernel
theorem kd_Mo_lookAtText_9 : decode kb_Mo_lookAtText 9 = .ok (.istore_n 2, 1) := by decide +kernel
theorem kd_Mo_lookAtText_10 : decode kb_Mo_lookAtText 10 = .ok (.iload_n 2, 1) := by decide +kernel
theorem kd_Mo_lookAtText_11 : decode kb_Mo_lookAtText 11 = .ok (.aload_n 0, 1) := by decide +kernel
theorem kd_Mo_lookAtText_12 : decode kb_Mo_lookAtText 12 = .ok (.getfield 139, 3) := by decide +kernel
theorem kd_Mo_lookAtText_15 : decode kb_Mo_lookAtText 15 = .ok (.if_icmp .ge 21, 3) := by decide +kernel
theorem kd_Mo_lookAtText_18 : decode kb_Mo_lookAtText 18 = .ok (.aload_n 0, 1) := by decide +kernel
theorem kd_Mo_lookAtText_19 : decode kb_Mo_lookAtText 19 = .ok (.getfield 49, 3) := by decide +kernel
theorem kd_Mo_lookAtText_22 : decode kb_Mo_lookAtText 22 = .ok (.iload_n 2, 1) := by decide +kernel
theorem kd_Mo_lookAtText_23 : decode kb_Mo_lookAtText 23 = .ok (.aload_n 0, 1) := by decide +kernel
theorem kd_Mo_lookAtText_24 : decode kb_Mo_lookAtText 24 = .ok (.getfield 13, 3) := by decide +kernel
theorem kd_Mo_lookAtText_27 : decode kb_Mo_lookAtText 27 = .ok (.iload_n 2, 1) := by decide +kernel
theorem kd_Mo_lookAtText_28 : decode kb_Mo_lookAtText 28 = .ok (.iaload, 1) := by decide +kernel
theorem kd_Mo_lookAtText_29 : decode kb_Mo_lookAtText 29 = .ok (.iastore, 1) := by decide +kernel
theorem kd_Mo_lookAtText_30 : decode kb_Mo_lookAtText 30 = .ok (.iinc 2 1, 3) := by decide +kernel
theorem kd_Mo_lookAtText_33 : decode kb_Mo_lookAtText 33 = .ok (.goto (-23), 3) := by decide +kernel
theorem kd_Mo_lookAtText_36 : decode kb_Mo_lookAtText 36 = .ok (.aload_n 0, 1) := by decide +kernel
theorem kd_Mo_lookAtText_37 : decode kb_Mo_lookAtText 37 = .ok (.iload_n 1, 1) := by decide +kernel
theorem kd_Mo_lookAtText_38 : decode kb_Mo_lookAtText 38 = .ok (.invokevirtual 159, 3) := by decide +kernel
theorem kd_Mo_lookAtText_41 : decode kb_Mo_lookAtText 41 = .ok (.ireturn, 1) := by decide +kernel
theorem kd_Mo_matches_0 : decode kb_Mo_matches 0 = .ok (.iload_n 1, 1) := by decide +kernel
theorem kd_Mo_matches_1 : decode kb_Mo_matches 1 = .ok (.ifCond .lt 8, 3) := by decide +kernel
theorem kd_Mo_matches_4 : decode kb_Mo_matches 4 = .ok (.iload_n 1, 1) := by decide +kernel
theorem kd_Mo_matches_5 : decode kb_Mo_matches 5 = .ok (.iconst 1, 1) := by decide +kernel
theorem kd_Mo_matches_6 : decode kb_Mo_matches 6 = .ok (.if_icmp .le 5, 3) := by decide +kernel
theorem kd_Mo_matches_9 : decode kb_Mo_matches 9 = .ok (.iconst 0, 1) := by decide +kernel
theorem kd_Mo_matches_10 : decode kb_Mo_matches 10 = .ok (.ireturn, 1) := by decide +kernel
theorem kd_Mo_matches_11 : decode kb_Mo_matches 11 = .ok (.aload_n 0, 1) := by decide +kernel
theorem kd_Mo_matches_12 : decode kb_Mo_matches 12 = .ok (.iload_n 1, 1) := by decide +kernel
theorem kd_Mo_matches_13 : decode kb_Mo_matches 13 = .ok (.invokevirtual 163, 3) := by decide +kernel
theorem kd_Mo_matches_16 : decode kb_Mo_matches 16 = .ok (.istore_n 2, 1) := by decide +kernel
theorem kd_Mo_matches_17 : decode kb_Mo_matches 17 = .ok (.aload_n 0, 1) := by decide +kernel
theorem kd_Mo_matches_18 : decode kb_Mo_matches 18 = .ok (.getfield 52, 3) := by decide +kernel
theorem kd_Mo_matches_21 : decode kb_Mo_matches 21 = .ok (.iload_n 2, 1) := by decide +kernel
theorem kd_Mo_matches_22 : decode kb_Mo_matches 22 = .ok (.iaload, 1) := by decide +kernel
theorem kd_Mo_matches_23 : decode kb_Mo_matches 23 = .ok (.aload_n 0, 1) := by decide +kernel
theorem kd_Mo_matches_24 : decode kb_Mo_matches 24 = .ok (.getfield 142, 3) := by decide +kernel
theorem kd_Mo_matches_27 : decode kb_Mo_matches 27 = .ok (.ishr, 1) := by decide +kernel
theorem kd_Mo_matches_28 : decode kb_Mo_matches 28 = .ok (.iconst 1, 1) := by decide +kernel
theorem kd_Mo_matches_29 : decode kb_Mo_matches 29 = .ok (.iand, 1) := by decide +kernel
theorem kd_Mo_matches_30 : decode kb_Mo_matches 30 = .ok (.iconst 1, 1) := by decide +kernel
theorem kd_Mo_matches_31 : decode kb_Mo_matches 31 = .ok (.if_icmp .ne 7, 3) := by decide +kernel
theorem kd_Mo_matches_34 : decode kb_Mo_matches 34 = .ok (.iconst 1, 1) := by decide +kernel
theorem kd_Mo_matches_35 : decode kb_Mo_matches 35 = .ok (.goto 4, 3) := by decide +kernel
theorem kd_Mo_matches_38 : decode kb_Mo_matches 38 = .ok (.iconst 0, 1) := by decide +kernel
theorem kd_Mo_matches_39 : decode kb_Mo_matches 39 = .ok (.ireturn, 1) := by decide +kernel
theorem kd_Mo_highest_0 : decode kb_Mo_highest 0 = .ok (.bipush 31, 2) := by decide +kernel
theorem kd_Mo_highest_2 : decode kb_Mo_highest 2 = .ok (.istore_n 1, 1) := by decide +kernel
theorem kd_Mo_highest_3 : decode kb_Mo_highest 3 = .ok (.iload_n 0, 1) := by decide +kernel
theorem kd_Mo_highest_4 : decode kb_Mo_highest 4 = .ok (.iload_n 1, 1) := by decide +kernel
theorem kd_Mo_highest_5 : decode kb_Mo_highest 5 = .ok (.ishr, 1) := by decide +kernel
theorem kd_Mo_highest_6 : decode kb_Mo_highest 6 = .ok (.iconst 1, 1) := by decide +kernel
theorem kd_Mo_highest_7 : decode kb_Mo_highest 7 = .ok (.iand, 1) := by decide +kernel
theorem kd_Mo_highest_8 : decode kb_Mo_highest 8 = .ok (.ifCond .ne 9, 3) := by decide +kernel
theorem kd_Mo_highest_11 : decode kb_Mo_highest 11 = .ok (.iinc 1 (-1), 3) := by decide +kernel
theorem kd_Mo_highest_14 : decode kb_Mo_highest 14 = .ok (.goto (-11), 3) := by decide +kernel
theorem kd_Mo_highest_17 : decode kb_Mo_highest 17 = .ok (.iload_n 1, 1) := by decide +kernel
theorem kd_Mo_highest_18 : decode kb_Mo_highest 18 = .ok (.ireturn, 1) := by decide +kernel
theorem kd_Mo_found_0 : decode kb_Mo_found 0 = .ok (.iload_n 2, 1) := by decide +kernel
theorem kd_Mo_found_1 : decode kb_Mo_found 1 = .ok (.istore_n 3, 1) := by decide +kernel
theorem kd_Mo_found_2 : decode kb_Mo_found 2 = .ok (.iload_n 3, 1) := by decide +kernel
theorem kd_Mo_found_3 : decode kb_Mo_found 3 = .ok (.aload_n 0, 1) := by decide +kernel
theorem kd_Mo_found_4 : decode kb_Mo_found 4 = .ok (.getfield 142, 3) := by decide +kernel
theorem kd_Mo_found_7 : decode kb_Mo_found 7 = .ok (.if_icmp .gt 37, 3) := by decide +kernel
theorem kd_Mo_found_10 : decode kb_Mo_found 10 = .ok (.aload_n 0, 1) := by decide +kernel
theorem kd_Mo_found_11 : decode kb_Mo_found 11 = .ok (.getfield 52, 3) := by decide +kernel
theorem kd_Mo_found_14 : decode kb_Mo_found 14 = .ok (.iload_n 1, 1) := by decide +kernel
theorem kd_Mo_found_15 : decode kb_Mo_found 15 = .ok (.iload_n 3, 1) := by decide +kernel
theorem kd_Mo_found_16 : decode kb_Mo_found 16 = .ok (.iadd, 1) := by decide +kernel
theorem kd_Mo_found_17 : decode kb_Mo_found 17 = .ok (.iaload, 1) := by decide +kernel
theorem kd_Mo_found_18 : decode kb_Mo_found 18 = .ok (.ifCond .eq 20, 3) := by decide +kernel
theorem kd_Mo_found_21 : decode kb_Mo_found 21 = .ok (.bipush 100, 2) := by decide +kernel
theorem kd_Mo_found_23 : decode kb_Mo_found 23 = .ok (.iload_n 3, 1) := by decide +kernel
theorem kd_Mo_found_24 : decode kb_Mo_found 24 = .ok (.imul, 1) := by decide +kernel
theorem kd_Mo_found_25 : decode kb_Mo_found 25 = .ok (.aload_n 0, 1) := by decide +kernel
theorem kd_Mo_found_26 : decode kb_Mo_found 26 = .ok (.getfield 52, 3) := by decide +kernel
theorem kd_Mo_found_29 : decode kb_Mo_found 29 = .ok (.iload_n 1, 1) := by decide +kernel
theorem kd_Mo_found_30 : decode kb_Mo_found 30 = .ok (.iload_n 3, 1) := by decide +kernel
theorem kd_Mo_found_31 : decode kb_Mo_found 31 = .ok (.iadd, 1) := by decide +kernel
theorem kd_Mo_found_32 : decode kb_Mo_found 32 = .ok (.iaload, 1) := by decide +kernel
theorem kd_Mo_found_33 : decode kb_Mo_found 33 = .ok (.invokestatic 166, 3) := by decide +kernel
theorem kd_Mo_found_36 : decode kb_Mo_found 36 = .ok (.iadd, 1) := by decide +kernel
theorem kd_Mo_found_37 : decode kb_Mo_found 37 = .ok (.ireturn, 1) := by decide +kernel
theorem kd_Mo_found_38 : decode kb_Mo_found 38 = .ok (.iinc 3 1, 3) := by decide +kernel
theorem kd_Mo_found_41 : decode kb_Mo_found 41 = .ok (.goto (-39), 3) := by decide +kernel
theorem kd_Mo_found_44 : decode kb_Mo_found 44 = .ok (.bipush (-2), 2) := by decide +kernel
theorem kd_Mo_found_46 : decode kb_Mo_found 46 = .ok (.ireturn, 1) := by decide +kernel
theorem kd_Mo_find_0 : decode kb_Mo_find 0 = .ok (.iload_n 1, 1) := by decide +kernel
theorem kd_Mo_find_1 : decode kb_Mo_find 1 = .ok (.ifCond .lt 20, 3) := by decide +kernel
theorem kd_Mo_find_4 : decode kb_Mo_find 4 = .ok (.iload_n 1, 1) := by decide +kernel
theorem kd_Mo_find_5 : decode kb_Mo_find 5 = .ok (.iconst 1, 1) := by decide +kernel
theorem kd_Mo_find_6 : decode kb_Mo_find 6 = .ok (.if_icmp .gt 15, 3) := by decide +kernel
theorem kd_Mo_find_9 : decode kb_Mo_find 9 = .ok (.iload_n 2, 1) := by decide +kernel
theorem kd_Mo_find_10 : decode kb_Mo_find 10 = .ok (.ifCond .lt 11, 3) := by decide +kernel
theorem kd_Mo_find_13 : decode kb_Mo_find 13 = .ok (.iload_n 2, 1) := by decide +kernel
theorem kd_Mo_find_14 : decode kb_Mo_find 14 = .ok (.aload_n 0, 1) := by decide +kernel
theorem kd_Mo_find_15 : decode kb_Mo_find 15 = .ok (.getfield 139, 3) := by decide +kernel
theorem kd_Mo_find_18 : decode kb_Mo_find 18 = .ok (.if_icmp .le 5, 3) := by decide +kernel
theorem kd_Mo_find_21 : decode kb_Mo_find 21 = .ok (.iconst (-1), 1) := by decide +kernel
theorem kd_Mo_find_22 : decode kb_Mo_find 22 = .ok (.ireturn, 1) := by decide +kernel
theorem kd_Mo_find_23 : decode kb_Mo_find 23 = .ok (.aload_n 0, 1) := by decide +kernel
theorem kd_Mo_find_24 : decode kb_Mo_find 24 = .ok (.aload_n 0, 1) := by decide +kernel
theorem kd_Mo_find_25 : decode kb_Mo_find 25 = .ok (.iload_n 1, 1) := by decide +kernel
theorem kd_Mo_find_26 : decode kb_Mo_find 26 = .ok (.invokevirtual 163, 3) := by decide +kernel
theorem kd_Mo_find_29 : decode kb_Mo_find 29 = .ok (.iload_n 2, 1) := by decide +kernel
theorem kd_Mo_find_30 : decode kb_Mo_find 30 = .ok (.invokevirtual 169, 3) := by decide +kernel
theorem kd_Mo_find_33 : decode kb_Mo_find 33 = .ok (.ireturn, 1) := by decide +kernel
theorem kd_Mo_count_0 : decode kb_Mo_count 0 = .ok (.iload_n 1, 1) := by decide +kernel
theorem kd_Mo_count_1 : decode kb_Mo_count 1 = .ok (.ifCond .lt 8, 3) := by decide +kernel
theorem kd_Mo_count_4 : decode kb_Mo_count 4 = .ok (.iload_n 1, 1) := by decide +kernel
theorem kd_Mo_count_5 : decode kb_Mo_count 5 = .ok (.iconst 1, 1) := by decide +kernel
theorem kd_Mo_count_6 : decode kb_Mo_count 6 = .ok (.if_icmp .le 5, 3) := by decide +kernel
theorem kd_Mo_count_9 : decode kb_Mo_count 9 = .ok (.iconst (-1), 1) := by decide +kernel
theorem kd_Mo_count_10 : decode kb_Mo_count 10 = .ok (.ireturn, 1) := by decide +kernel
theorem kd_Mo_count_11 : decode kb_Mo_count 11 = .ok (.aload_n 0, 1) := by decide +kernel
theorem kd_Mo_count_12 : decode kb_Mo_count 12 = .ok (.iload_n 1, 1) := by decide +kernel
theorem kd_Mo_count_13 : decode kb_Mo_count 13 = .ok (.invokevirtual 163, 3) := by decide +kernel
theorem kd_Mo_count_16 : decode kb_Mo_count 16 = .ok (.istore_n 2, 1) := by decide +kernel
theorem kd_Mo_count_17 : decode kb_Mo_count 17 = .ok (.iconst 0, 1) := by decide +kernel
theorem kd_Mo_count_18 : decode kb_Mo_count 18 = .ok (.istore_n 3, 1) := by decide +kernel
theorem kd_Mo_count_19 : decode kb_Mo_count 19 = .ok (.iconst 0, 1) := by decide +kernel
theorem kd_Mo_count_20 : decode kb_Mo_count 20 = .ok (.istore 4, 2) := by decide +kernel
theorem kd_Mo_count_22 : decode kb_Mo_count 22 = .ok (.iload 4, 2) := by decide +kernel
theorem kd_Mo_count_24 : decode kb_Mo_count 24 = .ok (.aload_n 0, 1) := by decide +kernel
theorem kd_Mo_count_25 : decode kb_Mo_count 25 = .ok (.getfield 142, 3) := by decide +kernel
theorem kd_Mo_count_28 : decode kb_Mo_count 28 = .ok (.if_icmp .gt 55, 3) := by decide +kernel
theorem kd_Mo_count_31 : decode kb_Mo_count 31 = .ok (.aload_n 0, 1) := by decide +kernel
theorem kd_Mo_count_32 : decode kb_Mo_count 32 = .ok (.iload_n 2, 1) := by decide +kernel
theorem kd_Mo_count_33 : decode kb_Mo_count 33 = .ok (.iload 4, 2) := by decide +kernel
theorem kd_Mo_count_35 : decode kb_Mo_count 35 = .ok (.invokevirtual 169, 3) := by decide +kernel
theorem kd_Mo_count_38 : decode kb_Mo_count 38 = .ok (.istore 5, 2) := by decide +kernel
theorem kd_Mo_count_40 : decode kb_Mo_count 40 = .ok (.iload 5, 2) := by decide +kernel
theorem kd_Mo_count_42 : decode kb_Mo_count 42 = .ok (.ifCond .ge 5, 3) := by decide +kernel
theorem kd_Mo_count_45 : decode kb_Mo_count 45 = .ok (.iload_n 3, 1) := by decide +kernel
theorem kd_Mo_count_46 : decode kb_Mo_count 46 = .ok (.ireturn, 1) := by decide +kernel
theorem kd_Mo_count_47 : decode kb_Mo_count 47 = .ok (.iinc 3 1, 3) := by decide +kernel
theorem kd_Mo_count_50 : decode kb_Mo_count 50 = .ok (.iload 5, 2) := by decide +kernel
theorem kd_Mo_count_52 : decode kb_Mo_count 52 = .ok (.bipush 100, 2) := by decide +kernel
theorem kd_Mo_count_54 : decode kb_Mo_count 54 = .ok (.idiv, 1) := by decide +kernel
theorem kd_Mo_count_55 : decode kb_Mo_count 55 = .ok (.iload 5, 2) := by decide +kernel
theorem kd_Mo_count_57 : decode kb_Mo_count 57 = .ok (.bipush 100, 2) := by decide +kernel
theorem kd_Mo_count_59 : decode kb_Mo_count 59 = .ok (.irem, 1) := by decide +kernel
theorem kd_Mo_count_60 : decode kb_Mo_count 60 = .ok (.if_icmp .ne 13, 3) := by decide +kernel
theorem kd_Mo_count_63 : decode kb_Mo_count 63 = .ok (.iload 5, 2) := by decide +kernel
theorem kd_Mo_count_65 : decode kb_Mo_count 65 = .ok (.bipush 100, 2) := by decide +kernel
theorem kd_Mo_count_67 : decode kb_Mo_count 67 = .ok (.irem, 1) := by decide +kernel
theorem kd_Mo_count_68 : decode kb_Mo_count 68 = .ok (.iconst 1, 1) := by decide +kernel
theorem kd_Mo_count_69 : decode kb_Mo_count 69 = .ok (.iadd, 1) := by decide +kernel
theorem kd_Mo_count_70 : decode kb_Mo_count 70 = .ok (.goto 8, 3) := by decide +kernel
theorem kd_Mo_count_73 : decode kb_Mo_count 73 = .ok (.iload 5, 2) := by decide +kernel
theorem kd_Mo_count_75 : decode kb_Mo_count 75 = .ok (.bipush 100, 2) := by decide +kernel
theorem kd_Mo_count_77 : decode kb_Mo_count 77 = .ok (.irem, 1) := by decide +kernel
theorem kd_Mo_count_78 : decode kb_Mo_count 78 = .ok (.istore 4, 2) := by decide +kernel
theorem kd_Mo_count_80 : decode kb_Mo_count 80 = .ok (.goto (-58), 3) := by decide +kernel
theorem kd_Mo_count_83 : decode kb_Mo_count 83 = .ok (.iload_n 3, 1) := by decide +kernel
theorem kd_Mo_count_84 : decode kb_Mo_count 84 = .ok (.ireturn, 1) := by decide +kernel
theorem kd_Mo_earliest_0 : decode kb_Mo_earliest 0 = .ok (.iload_n 1, 1) := by decide +kernel
theorem kd_Mo_earliest_1 : decode kb_Mo_earliest 1 = .ok (.ifCond .lt 8, 3) := by decide +kernel
theorem kd_Mo_earliest_4 : decode kb_Mo_earliest 4 = .ok (.iload_n 1, 1) := by decide +kernel
theorem kd_Mo_earliest_5 : decode kb_Mo_earliest 5 = .ok (.iconst 1, 1) := by decide +kernel
theorem kd_Mo_earliest_6 : decode kb_Mo_earliest 6 = .ok (.if_icmp .le 5, 3) := by decide +kernel
theorem kd_Mo_earliest_9 : decode kb_Mo_earliest 9 = .ok (.iconst (-1), 1) := by decide +kernel
theorem kd_Mo_earliest_10 : decode kb_Mo_earliest 10 = .ok (.ireturn, 1) := by decide +kernel
theorem kd_Mo_earliest_11 : decode kb_Mo_earliest 11 = .ok (.aload_n 0, 1) := by decide +kernel
theorem kd_Mo_earliest_12 : decode kb_Mo_earliest 12 = .ok (.iload_n 1, 1) := by decide +kernel
theorem kd_Mo_earliest_13 : decode kb_Mo_earliest 13 = .ok (.invokevirtual 163, 3) := by decide +kernel
theorem kd_Mo_earliest_16 : decode kb_Mo_earliest 16 = .ok (.istore_n 2, 1) := by decide +kernel
theorem kd_Mo_earliest_17 : decode kb_Mo_earliest 17 = .ok (.iconst 0, 1) := by decide +kernel
theorem kd_Mo_earliest_18 : decode kb_Mo_earliest 18 = .ok (.istore_n 3, 1) := by decide +kernel
theorem kd_Mo_earliest_19 : decode kb_Mo_earliest 19 = .ok (.iconst 0, 1) := by decide +kernel
theorem kd_Mo_earliest_20 : decode kb_Mo_earliest 20 = .ok (.istore 4, 2) := by decide +kernel
theorem kd_Mo_earliest_22 : decode kb_Mo_earliest 22 = .ok (.iload 4, 2) := by decide +kernel
theorem kd_Mo_earliest_24 : decode kb_Mo_earliest 24 = .ok (.aload_n 0, 1) := by decide +kernel
theorem kd_Mo_earliest_25 : decode kb_Mo_earliest 25 = .ok (.getfield 142, 3) := by decide +kernel
theorem kd_Mo_earliest_28 : decode kb_Mo_earliest 28 = .ok (.if_icmp .gt 21, 3) := by decide +kernel
theorem kd_Mo_earliest_31 : decode kb_Mo_earliest 31 = .ok (.iload_n 3, 1) := by decide +kernel
theorem kd_Mo_earliest_32 : decode kb_Mo_earliest 32 = .ok (.aload_n 0, 1) := by decide +kernel
theorem kd_Mo_earliest_33 : decode kb_Mo_earliest 33 = .ok (.getfield 52, 3) := by decide +kernel
theorem kd_Mo_earliest_36 : decode kb_Mo_earliest 36 = .ok (.iload_n 2, 1) := by decide +kernel
theorem kd_Mo_earliest_37 : decode kb_Mo_earliest 37 = .ok (.iload 4, 2) := by decide +kernel
theorem kd_Mo_earliest_39 : decode kb_Mo_earliest 39 = .ok (.iadd, 1) := by decide +kernel
theorem kd_Mo_earliest_40 : decode kb_Mo_earliest 40 = .ok (.iaload, 1) := by decide +kernel
theorem kd_Mo_earliest_41 : decode kb_Mo_earliest 41 = .ok (.ior, 1) := by decide +kernel
theorem kd_Mo_earliest_42 : decode kb_Mo_earliest 42 = .ok (.istore_n 3, 1) := by decide +kernel
theorem kd_Mo_earliest_43 : decode kb_Mo_earliest 43 = .ok (.iinc 4 1, 3) := by decide +kernel
theorem kd_Mo_earliest_46 : decode kb_Mo_earliest 46 = .ok (.goto (-24), 3) := by decide +kernel
theorem kd_Mo_earliest_49 : decode kb_Mo_earliest 49 = .ok (.iconst 0, 1) := by decide +kernel
theorem kd_Mo_earliest_50 : decode kb_Mo_earliest 50 = .ok (.istore 4, 2) := by decide +kernel
theorem kd_Mo_earliest_52 : decode kb_Mo_earliest 52 = .ok (.iload 4, 2) := by decide +kernel
theorem kd_Mo_earliest_54 : decode kb_Mo_earliest 54 = .ok (.aload_n 0, 1) := by decide +kernel
theorem kd_Mo_earliest_55 : decode kb_Mo_earliest 55 = .ok (.getfield 142, 3) := by decide +kernel
theorem kd_Mo_earliest_58 : decode kb_Mo_earliest 58 = .ok (.if_icmp .gt 22, 3) := by decide +kernel
theorem kd_Mo_earliest_61 : decode kb_Mo_earliest 61 = .ok (.iload_n 3, 1) := by decide +kernel
theorem kd_Mo_earliest_62 : decode kb_Mo_earliest 62 = .ok (.iload 4, 2) := by decide +kernel
theorem kd_Mo_earliest_64 : decode kb_Mo_earliest 64 = .ok (.ishr, 1) := by decide +kernel
theorem kd_Mo_earliest_65 : decode kb_Mo_earliest 65 = .ok (.iconst 1, 1) := by decide +kernel
theorem kd_Mo_earliest_66 : decode kb_Mo_earliest 66 = .ok (.iand, 1) := by decide +kernel
theorem kd_Mo_earliest_67 : decode kb_Mo_earliest 67 = .ok (.iconst 1, 1) := by decide +kernel
theorem kd_Mo_earliest_68 : decode kb_Mo_earliest 68 = .ok (.if_icmp .ne 6, 3) := by decide +kernel
theorem kd_Mo_earliest_71 : decode kb_Mo_earliest 71 = .ok (.iload 4, 2) := by decide +kernel
theorem kd_Mo_earliest_73 : decode kb_Mo_earliest 73 = .ok (.ireturn, 1) := by decide +kernel
theorem kd_Mo_earliest_74 : decode kb_Mo_earliest 74 = .ok (.iinc 4 1, 3) := by decide +kernel
theorem kd_Mo_earliest_77 : decode kb_Mo_earliest 77 = .ok (.goto (-25), 3) := by decide +kernel
theorem kd_Mo_earliest_80 : decode kb_Mo_earliest 80 = .ok (.bipush (-2), 2) := by decide +kernel
theorem kd_Mo_earliest_82 : decode kb_Mo_earliest 82 = .ok (.ireturn, 1) := by decide +kernel
theorem kd_Mo_fits_0 : decode kb_Mo_fits 0 = .ok (.aload_n 0, 1) := by decide +kernel
theorem kd_Mo_fits_1 : decode kb_Mo_fits 1 = .ok (.getfield 52, 3) := by decide +kernel
theorem kd_Mo_fits_4 : decode kb_Mo_fits 4 = .ok (.aload_n 0, 1) := by decide +kernel
theorem kd_Mo_fits_5 : decode kb_Mo_fits 5 = .ok (.iload_n 1, 1) := by decide +kernel
theorem kd_Mo_fits_6 : decode kb_Mo_fits 6 = .ok (.invokevirtual 159, 3) := by decide +kernel
theorem kd_Mo_fits_9 : decode kb_Mo_fits 9 = .ok (.iaload, 1) := by decide +kernel
theorem kd_Mo_fits_10 : decode kb_Mo_fits 10 = .ok (.aload_n 0, 1) := by decide +kernel
theorem kd_Mo_fits_11 : decode kb_Mo_fits 11 = .ok (.getfield 142, 3) := by decide +kernel
theorem kd_Mo_fits_14 : decode kb_Mo_fits 14 = .ok (.ishr, 1) := by decide +kernel
theorem kd_Mo_fits_15 : decode kb_Mo_fits 15 = .ok (.iconst 1, 1) := by decide +kernel
theorem kd_Mo_fits_16 : decode kb_Mo_fits 16 = .ok (.iand, 1) := by decide +kernel
theorem kd_Mo_fits_17 : decode kb_Mo_fits 17 = .ok (.iconst 1, 1) := by decide +kernel
theorem kd_Mo_fits_18 : decode kb_Mo_fits 18 = .ok (.if_icmp .ne 7, 3) := by decide +kernel
theorem kd_Mo_fits_21 : decode kb_Mo_fits 21 = .ok (.iconst 1, 1) := by decide +kernel
theorem kd_Mo_fits_22 : decode kb_Mo_fits 22 = .ok (.goto 4, 3) := by decide +kernel
theorem kd_Mo_fits_25 : decode kb_Mo_fits 25 = .ok (.iconst 0, 1) := by decide +kernel
theorem kd_Mo_fits_26 : decode kb_Mo_fits 26 = .ok (.ireturn, 1) := by decide +kernel
theorem kd_Mo_first_0 : decode kb_Mo_first 0 = .ok (.iload_n 2, 1) := by decide +kernel
theorem kd_Mo_first_1 : decode kb_Mo_first 1 = .ok (.ifCond .ne 7, 3) := by decide +kernel
theorem kd_Mo_first_4 : decode kb_Mo_first 4 = .ok (.iconst 1, 1) := by decide +kernel
theorem kd_Mo_first_5 : decode kb_Mo_first 5 = .ok (.goto 34, 3) := by decide +kernel
theorem kd_Mo_first_8 : decode kb_Mo_first 8 = .ok (.iload_n 2, 1) := by decide +kernel
theorem kd_Mo_first_9 : decode kb_Mo_first 9 = .ok (.iconst 1, 1) := by decide +kernel
theorem kd_Mo_first_10 : decode kb_Mo_first 10 = .ok (.if_icmp .ne 7, 3) := by decide +kernel
theorem kd_Mo_first_13 : decode kb_Mo_first 13 = .ok (.iconst 3, 1) := by decide +kernel
theorem kd_Mo_first_14 : decode kb_Mo_first 14 = .ok (.goto 25, 3) := by decide +kernel
theorem kd_Mo_first_17 : decode kb_Mo_first 17 = .ok (.iload_n 2, 1) := by decide +kernel
theorem kd_Mo_first_18 : decode kb_Mo_first 18 = .ok (.iconst 2, 1) := by decide +kernel
theorem kd_Mo_first_19 : decode kb_Mo_first 19 = .ok (.if_icmp .ne 8, 3) := by decide +kernel
theorem kd_Mo_first_22 : decode kb_Mo_first 22 = .ok (.bipush 9, 2) := by decide +kernel
theorem kd_Mo_first_24 : decode kb_Mo_first 24 = .ok (.goto 15, 3) := by decide +kernel
theorem kd_Mo_first_27 : decode kb_Mo_first 27 = .ok (.iload_n 2, 1) := by decide +kernel
theorem kd_Mo_first_28 : decode kb_Mo_first 28 = .ok (.iconst 3, 1) := by decide +kernel
theorem kd_Mo_first_29 : decode kb_Mo_first 29 = .ok (.if_icmp .ne 8, 3) := by decide +kernel
theorem kd_Mo_first_32 : decode kb_Mo_first 32 = .ok (.bipush 27, 2) := by decide +kernel
theorem kd_Mo_first_34 : decode kb_Mo_first 34 = .ok (.goto 5, 3) := by decide +kernel
theorem kd_Mo_first_37 : decode kb_Mo_first 37 = .ok (.bipush 81, 2) := by decide +kernel
theorem kd_Mo_first_39 : decode kb_Mo_first 39 = .ok (.istore_n 3, 1) := by decide +kernel
theorem kd_Mo_first_40 : decode kb_Mo_first 40 = .ok (.aload_n 0, 1) := by decide +kernel
theorem kd_Mo_first_41 : decode kb_Mo_first 41 = .ok (.iload_n 2, 1) := by decide +kernel
theorem kd_Mo_first_42 : decode kb_Mo_first 42 = .ok (.putfield 142, 3) := by decide +kernel
theorem kd_Mo_first_45 : decode kb_Mo_first 45 = .ok (.iconst 0, 1) := by decide +kernel
theorem kd_Mo_first_46 : decode kb_Mo_first 46 = .ok (.istore 4, 2) := by decide +kernel
theorem kd_Mo_first_48 : decode kb_Mo_first 48 = .ok (.iload 4, 2) := by decide +kernel
theorem kd_Mo_first_50 : decode kb_Mo_first 50 = .ok (.iload_n 3, 1) := by decide +kernel
theorem kd_Mo_first_51 : decode kb_Mo_first 51 = .ok (.if_icmp .ge 81, 3) := by decide +kernel
theorem kd_Mo_first_54 : decode kb_Mo_first 54 = .ok (.iload 4, 2) := by decide +kernel
theorem kd_Mo_first_56 : decode kb_Mo_first 56 = .ok (.istore 5, 2) := by decide +kernel
theorem kd_Mo_first_58 : decode kb_Mo_first 58 = .ok (.iload_n 2, 1) := by decide +kernel
theorem kd_Mo_first_59 : decode kb_Mo_first 59 = .ok (.iconst 1, 1) := by decide +kernel
theorem kd_Mo_first_60 : decode kb_Mo_first 60 = .ok (.isub, 1) := by decide +kernel
theorem kd_Mo_first_61 : decode kb_Mo_first 61 = .ok (.istore 6, 2) := by decide +kernel
theorem kd_Mo_first_63 : decode kb_Mo_first 63 = .ok (.iload 6, 2) := by decide +kernel
theorem kd_Mo_first_65 : decode kb_Mo_first 65 = .ok (.ifCond .lt 29, 3) := by decide +kernel
theorem kd_Mo_first_68 : decode kb_Mo_first 68 = .ok (.aload_n 0, 1) := by decide +kernel
theorem kd_Mo_first_69 : decode kb_Mo_first 69 = .ok (.getfield 49, 3) := by decide +kernel
theorem kd_Mo_first_72 : decode kb_Mo_first 72 = .ok (.iload 6, 2) := by decide +kernel
theorem kd_Mo_first_74 : decode kb_Mo_first 74 = .ok (.bipush 97, 2) := by decide +kernel
theorem kd_Mo_first_76 : decode kb_Mo_first 76 = .ok (.iload 5, 2) := by decide +kernel
theorem kd_Mo_first_78 : decode kb_Mo_first 78 = .ok (.iconst 3, 1) := by decide +kernel
theorem kd_Mo_first_79 : decode kb_Mo_first 79 = .ok (.irem, 1) := by decide +kernel
theorem kd_Mo_first_80 : decode kb_Mo_first 80 = .ok (.iadd, 1) := by decide +kernel
theorem kd_Mo_first_81 : decode kb_Mo_first 81 = .ok (.iastore, 1) := by decide +kernel
theorem kd_Mo_first_82 : decode kb_Mo_first 82 = .ok (.iload 5, 2) := by decide +kernel
theorem kd_Mo_first_84 : decode kb_Mo_first 84 = .ok (.iconst 3, 1) := by decide +kernel
theorem kd_Mo_first_85 : decode kb_Mo_first 85 = .ok (.idiv, 1) := by decide +kernel
theorem kd_Mo_first_86 : decode kb_Mo_first 86 = .ok (.istore 5, 2) := by decide +kernel
theorem kd_Mo_first_88 : decode kb_Mo_first 88 = .ok (.iinc 6 (-1), 3) := by decide +kernel
theorem kd_Mo_first_91 : decode kb_Mo_first 91 = .ok (.goto (-28), 3) := by decide +kernel
theorem kd_Mo_first_94 : decode kb_Mo_first 94 = .ok (.iload_n 1, 1) := by decide +kernel
theorem kd_Mo_first_95 : decode kb_Mo_first 95 = .ok (.iconst 2, 1) := by decide +kernel
theorem kd_Mo_first_96 : decode kb_Mo_first 96 = .ok (.if_icmp .ge 14, 3) := by decide +kernel
theorem kd_Mo_first_99 : decode kb_Mo_first 99 = .ok (.aload_n 0, 1) := by decide +kernel
theorem kd_Mo_first_100 : decode kb_Mo_first 100 = .ok (.iload_n 1, 1) := by decide +kernel
theorem kd_Mo_first_101 : decode kb_Mo_first 101 = .ok (.invokevirtual 172, 3) := by decide +kernel
theorem kd_Mo_first_104 : decode kb_Mo_first 104 = .ok (.ifCond .eq 22, 3) := by decide +kernel
theorem kd_Mo_first_107 : decode kb_Mo_first 107 = .ok (.goto 16, 3) := by decide +kernel
theorem kd_Mo_first_110 : decode kb_Mo_first 110 = .ok (.aload_n 0, 1) := by decide +kernel
theorem kd_Mo_first_111 : decode kb_Mo_first 111 = .ok (.iconst 0, 1) := by decide +kernel
theorem kd_Mo_first_112 : decode kb_Mo_first 112 = .ok (.invokevirtual 172, 3) := by decide +kernel
theorem kd_Mo_first_115 : decode kb_Mo_first 115 = .ok (.aload_n 0, 1) := by decide +kernel
theorem kd_Mo_first_116 : decode kb_Mo_first 116 = .ok (.iconst 1, 1) := by decide +kernel
theorem kd_Mo_first_117 : decode kb_Mo_first 117 = .ok (.invokevirtual 172, 3) := by decide +kernel
theorem kd_Mo_first_120 : decode kb_Mo_first 120 = .ok (.if_icmp .eq 6, 3) := by decide +kernel
theorem kd_Mo_first_123 : decode kb_Mo_first 123 = .ok (.iload 4, 2) := by decide +kernel
theorem kd_Mo_first_125 : decode kb_Mo_first 125 = .ok (.ireturn, 1) := by decide +kernel
theorem kd_Mo_first_126 : decode kb_Mo_first 126 = .ok (.iinc 4 1, 3) := by decide +kernel
theorem kd_Mo_first_129 : decode kb_Mo_first 129 = .ok (.goto (-81), 3) := by decide +kernel
theorem kd_Mo_first_132 : decode kb_Mo_first 132 = .ok (.iconst (-1), 1) := by decide +kernel
theorem kd_Mo_first_133 : decode kb_Mo_first 133 = .ok (.ireturn, 1) := by decide +kernel
theorem kd_Mo_wordOf_0 : decode kb_Mo_wordOf 0 = .ok (.iconst 0, 1) := by decide +kernel
theorem kd_Mo_wordOf_1 : decode kb_Mo_wordOf 1 = .ok (.istore_n 3, 1) := by decide +kernel
theorem kd_Mo_wordOf_2 : decode kb_Mo_wordOf 2 = .ok (.iload_n 3, 1) := by decide +kernel
theorem kd_Mo_wordOf_3 : decode kb_Mo_wordOf 3 = .ok (.iload_n 2, 1) := by decide +kernel
theorem kd_Mo_wordOf_4 : decode kb_Mo_wordOf 4 = .ok (.if_icmp .gt 54, 3) := by decide +kernel
theorem kd_Mo_wordOf_7 : decode kb_Mo_wordOf 7 = .ok (.aload_n 0, 1) := by decide +kernel
theorem kd_Mo_wordOf_8 : decode kb_Mo_wordOf 8 = .ok (.iload_n 1, 1) := by decide +kernel
theorem kd_Mo_wordOf_9 : decode kb_Mo_wordOf 9 = .ok (.iload_n 3, 1) := by decide +kernel
theorem kd_Mo_wordOf_10 : decode kb_Mo_wordOf 10 = .ok (.invokevirtual 175, 3) := by decide +kernel
theorem kd_Mo_wordOf_13 : decode kb_Mo_wordOf 13 = .ok (.ifCond .lt 39, 3) := by decide +kernel
theorem kd_Mo_wordOf_16 : decode kb_Mo_wordOf 16 = .ok (.iconst 0, 1) := by decide +kernel
theorem kd_Mo_wordOf_17 : decode kb_Mo_wordOf 17 = .ok (.istore 4, 2) := by decide +kernel
theorem kd_Mo_wordOf_19 : decode kb_Mo_wordOf 19 = .ok (.iload 4, 2) := by decide +kernel
theorem kd_Mo_wordOf_21 : decode kb_Mo_wordOf 21 = .ok (.iload_n 3, 1) := by decide +kernel
theorem kd_Mo_wordOf_22 : decode kb_Mo_wordOf 22 = .ok (.if_icmp .ge 23, 3) := by decide +kernel
theorem kd_Mo_wordOf_25 : decode kb_Mo_wordOf 25 = .ok (.aload_n 0, 1) := by decide +kernel
theorem kd_Mo_wordOf_26 : decode kb_Mo_wordOf 26 = .ok (.getfield 16, 3) := by decide +kernel
theorem kd_Mo_wordOf_29 : decode kb_Mo_wordOf 29 = .ok (.iload 4, 2) := by decide +kernel
theorem kd_Mo_wordOf_31 : decode kb_Mo_wordOf 31 = .ok (.aload_n 0, 1) := by decide +kernel
theorem kd_Mo_wordOf_32 : decode kb_Mo_wordOf 32 = .ok (.getfield 49, 3) := by decide +kernel
theorem kd_Mo_wordOf_35 : decode kb_Mo_wordOf 35 = .ok (.iload 4, 2) := by decide +kernel
theorem kd_Mo_wordOf_37 : decode kb_Mo_wordOf 37 = .ok (.iaload, 1) := by decide +kernel
theorem kd_Mo_wordOf_38 : decode kb_Mo_wordOf 38 = .ok (.iastore, 1) := by decide +kernel
theorem kd_Mo_wordOf_39 : decode kb_Mo_wordOf 39 = .ok (.iinc 4 1, 3) := by decide +kernel
theorem kd_Mo_wordOf_42 : decode kb_Mo_wordOf 42 = .ok (.goto (-23), 3) := by decide +kernel
theorem kd_Mo_wordOf_45 : decode kb_Mo_wordOf 45 = .ok (.aload_n 0, 1) := by decide +kernel
theorem kd_Mo_wordOf_46 : decode kb_Mo_wordOf 46 = .ok (.iload_n 3, 1) := by decide +kernel
theorem kd_Mo_wordOf_47 : decode kb_Mo_wordOf 47 = .ok (.putfield 178, 3) := by decide +kernel
theorem kd_Mo_wordOf_50 : decode kb_Mo_wordOf 50 = .ok (.iload_n 3, 1) := by decide +kernel
theorem kd_Mo_wordOf_51 : decode kb_Mo_wordOf 51 = .ok (.ireturn, 1) := by decide +kernel
theorem kd_Mo_wordOf_52 : decode kb_Mo_wordOf 52 = .ok (.iinc 3 1, 3) := by decide +kernel
theorem kd_Mo_wordOf_55 : decode kb_Mo_wordOf 55 = .ok (.goto (-53), 3) := by decide +kernel
theorem kd_Mo_wordOf_58 : decode kb_Mo_wordOf 58 = .ok (.bipush (-2), 2) := by decide +kernel
theorem kd_Mo_wordOf_60 : decode kb_Mo_wordOf 60 = .ok (.ireturn, 1) := by decide +kernel
theorem kd_Mo_shortest_0 : decode kb_Mo_shortest 0 = .ok (.iload_n 1, 1) := by decide +kernel
theorem kd_Mo_shortest_1 : decode kb_Mo_shortest 1 = .ok (.ifCond .lt 17, 3) := by decide +kernel
theorem kd_Mo_shortest_4 : decode kb_Mo_shortest 4 = .ok (.iload_n 1, 1) := by decide +kernel
theorem kd_Mo_shortest_5 : decode kb_Mo_shortest 5 = .ok (.iconst 1, 1) := by decide +kernel
theorem kd_Mo_shortest_6 : decode kb_Mo_shortest 6 = .ok (.if_icmp .gt 12, 3) := by decide +kernel
theorem kd_Mo_shortest_9 : decode kb_Mo_shortest 9 = .ok (.iload_n 2, 1) := by decide +kernel
theorem kd_Mo_shortest_10 : decode kb_Mo_shortest 10 = .ok (.ifCond .lt 8, 3) := by decide +kernel
theorem kd_Mo_shortest_13 : decode kb_Mo_shortest 13 = .ok (.iload_n 2, 1) := by decide +kernel
theorem kd_Mo_shortest_14 : decode kb_Mo_shortest 14 = .ok (.iconst 4, 1) := by decide +kernel
theorem kd_Mo_shortest_15 : decode kb_Mo_shortest 15 = .ok (.if_icmp .le 7, 3) := by decide +kernel
theorem kd_Mo_shortest_18 : decode kb_Mo_shortest 18 = .ok (.iconst (-1), 1) := by decide +kernel
theorem kd_Mo_shortest_19 : decode kb_Mo_shortest 19 = .ok (.goto 9, 3) := by decide +kernel
theorem kd_Mo_shortest_22 : decode kb_Mo_shortest 22 = .ok (.aload_n 0, 1) := by decide +kernel
theorem kd_Mo_shortest_23 : decode kb_Mo_shortest 23 = .ok (.iload_n 1, 1) := by decide +kernel
theorem kd_Mo_shortest_24 : decode kb_Mo_shortest 24 = .ok (.iload_n 2, 1) := by decide +kernel
theorem kd_Mo_shortest_25 : decode kb_Mo_shortest 25 = .ok (.invokevirtual 181, 3) := by decide +kernel
theorem kd_Mo_shortest_28 : decode kb_Mo_shortest 28 = .ok (.ireturn, 1) := by decide +kernel
theorem kd_Mo_difference_0 : decode kb_Mo_difference 0 = .ok (.iload_n 1, 1) := by decide +kernel
theorem kd_Mo_difference_1 : decode kb_Mo_difference 1 = .ok (.ifCond .lt 8, 3) := by decide +kernel
theorem kd_Mo_difference_4 : decode kb_Mo_difference 4 = .ok (.iload_n 1, 1) := by decide +kernel
theorem kd_Mo_difference_5 : decode kb_Mo_difference 5 = .ok (.iconst 4, 1) := by decide +kernel
theorem kd_Mo_difference_6 : decode kb_Mo_difference 6 = .ok (.if_icmp .le 7, 3) := by decide +kernel
theorem kd_Mo_difference_9 : decode kb_Mo_difference 9 = .ok (.iconst (-1), 1) := by decide +kernel
theorem kd_Mo_difference_10 : decode kb_Mo_difference 10 = .ok (.goto 9, 3) := by decide +kernel
theorem kd_Mo_difference_13 : decode kb_Mo_difference 13 = .ok (.aload_n 0, 1) := by decide +kernel
theorem kd_Mo_difference_14 : decode kb_Mo_difference 14 = .ok (.iconst 2, 1) := by decide +kernel
theorem kd_Mo_difference_15 : decode kb_Mo_difference 15 = .ok (.iload_n 1, 1) := by decide +kernel
theorem kd_Mo_difference_16 : decode kb_Mo_difference 16 = .ok (.invokevirtual 181, 3) := by decide +kernel
theorem kd_Mo_difference_19 : decode kb_Mo_difference 19 = .ok (.ireturn, 1) := by decide +kernel
theorem kd_Mo_word_0 : decode kb_Mo_word 0 = .ok (.iload_n 1, 1) := by decide +kernel
theorem kd_Mo_word_1 : decode kb_Mo_word 1 = .ok (.ifCond .lt 20, 3) := by decide +kernel
theorem kd_Mo_word_4 : decode kb_Mo_word 4 = .ok (.iload_n 1, 1) := by decide +kernel
theorem kd_Mo_word_5 : decode kb_Mo_word 5 = .ok (.aload_n 0, 1) := by decide +kernel
theorem kd_Mo_word_6 : decode kb_Mo_word 6 = .ok (.getfield 178, 3) := by decide +kernel
theorem kd_Mo_word_9 : decode kb_Mo_word 9 = .ok (.if_icmp .ge 12, 3) := by decide +kernel
theorem kd_Mo_word_12 : decode kb_Mo_word 12 = .ok (.aload_n 0, 1) := by decide +kernel
theorem kd_Mo_word_13 : decode kb_Mo_word 13 = .ok (.getfield 16, 3) := by decide +kernel
theorem kd_Mo_word_16 : decode kb_Mo_word 16 = .ok (.iload_n 1, 1) := by decide +kernel
theorem kd_Mo_word_17 : decode kb_Mo_word 17 = .ok (.iaload, 1) := by decide +kernel
theorem kd_Mo_word_18 : decode kb_Mo_word 18 = .ok (.goto 4, 3) := by decide +kernel
theorem kd_Mo_word_21 : decode kb_Mo_word 21 = .ok (.iconst (-1), 1) := by decide +kernel
theorem kd_Mo_word_22 : decode kb_Mo_word 22 = .ok (.ireturn, 1) := by decide +kernel
theorem kd_Ln_init_0 : decode kb_Ln_init 0 = .ok (.aload_n 0, 1) := by decide +kernel
theorem kd_Ln_init_1 : decode kb_Ln_init 1 = .ok (.invokespecial 1, 3) := by decide +kernel
theorem kd_Ln_init_4 : decode kb_Ln_init 4 = .ok (.aload_n 0, 1) := by decide +kernel
theorem kd_Ln_init_5 : decode kb_Ln_init 5 = .ok (.aload_n 1, 1) := by decide +kernel
theorem kd_Ln_init_6 : decode kb_Ln_init 6 = .ok (.putfield 7, 3) := by decide +kernel
theorem kd_Ln_init_9 : decode kb_Ln_init 9 = .ok (.aload_n 0, 1) := by decide +kernel
theorem kd_Ln_init_10 : decode kb_Ln_init 10 = .ok (.iload_n 2, 1) := by decide +kernel
theorem kd_Ln_init_11 : decode kb_Ln_init 11 = .ok (.putfield 13, 3) := by decide +kernel
theorem kd_Ln_init_14 : decode kb_Ln_init 14 = .ok (.aload_n 0, 1) := by decide +kernel
theorem kd_Ln_init_15 : decode kb_Ln_init 15 = .ok (.iload_n 3, 1) := by decide +kernel
theorem kd_Ln_init_16 : decode kb_Ln_init 16 = .ok (.putfield 17, 3) := by decide +kernel
theorem kd_Ln_init_19 : decode kb_Ln_init 19 = .ok (.return_, 1) := by decide +kernel
theorem kd_Ln_reach_0 : decode kb_Ln_reach 0 = .ok (.aload_n 0, 1) := by decide +kernel
theorem kd_Ln_reach_1 : decode kb_Ln_reach 1 = .ok (.getfield 17, 3) := by decide +kernel
theorem kd_Ln_reach_4 : decode kb_Ln_reach 4 = .ok (.aload_n 0, 1) := by decide +kernel
theorem kd_Ln_reach_5 : decode kb_Ln_reach 5 = .ok (.getfield 13, 3) := by decide +kernel
theorem kd_Ln_reach_8 : decode kb_Ln_reach 8 = .ok (.iload_n 1, 1) := by decide +kernel
theorem kd_Ln_reach_9 : decode kb_Ln_reach 9 = .ok (.isub, 1) := by decide +kernel
theorem kd_Ln_reach_10 : decode kb_Ln_reach 10 = .ok (.invokestatic 20, 3) := by decide +kernel
theorem kd_Ln_reach_13 : decode kb_Ln_reach 13 = .ok (.ireturn, 1) := by decide +kernel
theorem kd_Mc_init_0 : decode kb_Mc_init 0 = .ok (.aload_n 0, 1) := by decide +kernel
theorem kd_Mc_init_1 : decode kb_Mc_init 1 = .ok (.invokespecial 3, 3) := by decide +kernel
theorem kd_Mc_init_4 : decode kb_Mc_init 4 = .ok (.aload_n 0, 1) := by decide +kernel
theorem kd_Mc_init_5 : decode kb_Mc_init 5 = .ok (.bipush 41, 2) := by decide +kernel
theorem kd_Mc_init_7 : decode kb_Mc_init 7 = .ok (.bipush 85, 2) := by decide +kernel
