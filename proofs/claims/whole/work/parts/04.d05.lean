theorem kd_Rd_readOn_156 : decode kb_Rd_readOn 156 = .ok (.iastore, 1) := by decide +kernel
theorem kd_Rd_readOn_157 : decode kb_Rd_readOn 157 = .ok (.iconst 1, 1) := by decide +kernel
theorem kd_Rd_readOn_158 : decode kb_Rd_readOn 158 = .ok (.ireturn, 1) := by decide +kernel
theorem kd_Rd_readOn_159 : decode kb_Rd_readOn 159 = .ok (.aload_n 0, 1) := by decide +kernel
theorem kd_Rd_readOn_160 : decode kb_Rd_readOn 160 = .ok (.invokevirtual 81, 3) := by decide +kernel
theorem kd_Rd_readOn_163 : decode kb_Rd_readOn 163 = .ok (.ireturn, 1) := by decide +kernel
theorem kd_Rd_readOn_164 : decode kb_Rd_readOn 164 = .ok (.aload_n 0, 1) := by decide +kernel
theorem kd_Rd_readOn_165 : decode kb_Rd_readOn 165 = .ok (.invokevirtual 84, 3) := by decide +kernel
theorem kd_Rd_readOn_168 : decode kb_Rd_readOn 168 = .ok (.ifCond .eq 14, 3) := by decide +kernel
theorem kd_Rd_readOn_171 : decode kb_Rd_readOn 171 = .ok (.aload_n 0, 1) := by decide +kernel
theorem kd_Rd_readOn_172 : decode kb_Rd_readOn 172 = .ok (.invokevirtual 87, 3) := by decide +kernel
theorem kd_Rd_readOn_175 : decode kb_Rd_readOn 175 = .ok (.ifCond .eq 7, 3) := by decide +kernel
theorem kd_Rd_readOn_178 : decode kb_Rd_readOn 178 = .ok (.iconst 1, 1) := by decide +kernel
theorem kd_Rd_readOn_179 : decode kb_Rd_readOn 179 = .ok (.goto 4, 3) := by decide +kernel
theorem kd_Rd_readOn_182 : decode kb_Rd_readOn 182 = .ok (.iconst 0, 1) := by decide +kernel
theorem kd_Rd_readOn_183 : decode kb_Rd_readOn 183 = .ok (.ireturn, 1) := by decide +kernel
theorem kd_Rd_readOn_184 : decode kb_Rd_readOn 184 = .ok (.aload_n 0, 1) := by decide +kernel
theorem kd_Rd_readOn_185 : decode kb_Rd_readOn 185 = .ok (.invokevirtual 90, 3) := by decide +kernel
theorem kd_Rd_readOn_188 : decode kb_Rd_readOn 188 = .ok (.ifCond .eq 14, 3) := by decide +kernel
theorem kd_Rd_readOn_191 : decode kb_Rd_readOn 191 = .ok (.aload_n 0, 1) := by decide +kernel
theorem kd_Rd_readOn_192 : decode kb_Rd_readOn 192 = .ok (.invokevirtual 87, 3) := by decide +kernel
theorem kd_Rd_readOn_195 : decode kb_Rd_readOn 195 = .ok (.ifCond .eq 7, 3) := by decide +kernel
theorem kd_Rd_readOn_198 : decode kb_Rd_readOn 198 = .ok (.iconst 1, 1) := by decide +kernel
theorem kd_Rd_readOn_199 : decode kb_Rd_readOn 199 = .ok (.goto 4, 3) := by decide +kernel
theorem kd_Rd_readOn_202 : decode kb_Rd_readOn 202 = .ok (.iconst 0, 1) := by decide +kernel
theorem kd_Rd_readOn_203 : decode kb_Rd_readOn 203 = .ok (.ireturn, 1) := by decide +kernel
theorem kd_Rd_readOn_204 : decode kb_Rd_readOn 204 = .ok (.aload_n 0, 1) := by decide +kernel
theorem kd_Rd_readOn_205 : decode kb_Rd_readOn 205 = .ok (.dup, 1) := by decide +kernel
theorem kd_Rd_readOn_206 : decode kb_Rd_readOn 206 = .ok (.getfield 33, 3) := by decide +kernel
theorem kd_Rd_readOn_209 : decode kb_Rd_readOn 209 = .ok (.iconst 1, 1) := by decide +kernel
theorem kd_Rd_readOn_210 : decode kb_Rd_readOn 210 = .ok (.iadd, 1) := by decide +kernel
theorem kd_Rd_readOn_211 : decode kb_Rd_readOn 211 = .ok (.putfield 33, 3) := by decide +kernel
theorem kd_Rd_readOn_214 : decode kb_Rd_readOn 214 = .ok (.aload_n 0, 1) := by decide +kernel
theorem kd_Rd_readOn_215 : decode kb_Rd_readOn 215 = .ok (.getfield 39, 3) := by decide +kernel
theorem kd_Rd_readOn_218 : decode kb_Rd_readOn 218 = .ok (.iconst 1, 1) := by decide +kernel
theorem kd_Rd_readOn_219 : decode kb_Rd_readOn 219 = .ok (.bipush 32, 2) := by decide +kernel
theorem kd_Rd_readOn_221 : decode kb_Rd_readOn 221 = .ok (.bipush 126, 2) := by decide +kernel
theorem kd_Rd_readOn_223 : decode kb_Rd_readOn 223 = .ok (.invokevirtual 71, 3) := by decide +kernel
theorem kd_Rd_readOn_226 : decode kb_Rd_readOn 226 = .ok (.aload_n 0, 1) := by decide +kernel
theorem kd_Rd_readOn_227 : decode kb_Rd_readOn 227 = .ok (.invokevirtual 87, 3) := by decide +kernel
theorem kd_Rd_readOn_230 : decode kb_Rd_readOn 230 = .ok (.ireturn, 1) := by decide +kernel
theorem kd_Rd_readOn_231 : decode kb_Rd_readOn 231 = .ok (.iconst 0, 1) := by decide +kernel
theorem kd_Rd_readOn_232 : decode kb_Rd_readOn 232 = .ok (.ireturn, 1) := by decide +kernel
theorem kd_Rd_readOn_233 : decode kb_Rd_readOn 233 = .ok (.aload_n 0, 1) := by decide +kernel
theorem kd_Rd_readOn_234 : decode kb_Rd_readOn 234 = .ok (.getfield 39, 3) := by decide +kernel
theorem kd_Rd_readOn_237 : decode kb_Rd_readOn 237 = .ok (.iconst 1, 1) := by decide +kernel
theorem kd_Rd_readOn_238 : decode kb_Rd_readOn 238 = .ok (.aload_n 0, 1) := by decide +kernel
theorem kd_Rd_readOn_239 : decode kb_Rd_readOn 239 = .ok (.getfield 26, 3) := by decide +kernel
theorem kd_Rd_readOn_242 : decode kb_Rd_readOn 242 = .ok (.aload_n 0, 1) := by decide +kernel
theorem kd_Rd_readOn_243 : decode kb_Rd_readOn 243 = .ok (.getfield 33, 3) := by decide +kernel
theorem kd_Rd_readOn_246 : decode kb_Rd_readOn 246 = .ok (.caload, 1) := by decide +kernel
theorem kd_Rd_readOn_247 : decode kb_Rd_readOn 247 = .ok (.aload_n 0, 1) := by decide +kernel
theorem kd_Rd_readOn_248 : decode kb_Rd_readOn 248 = .ok (.getfield 26, 3) := by decide +kernel
theorem kd_Rd_readOn_251 : decode kb_Rd_readOn 251 = .ok (.aload_n 0, 1) := by decide +kernel
theorem kd_Rd_readOn_252 : decode kb_Rd_readOn 252 = .ok (.getfield 33, 3) := by decide +kernel
theorem kd_Rd_readOn_255 : decode kb_Rd_readOn 255 = .ok (.caload, 1) := by decide +kernel
theorem kd_Rd_readOn_256 : decode kb_Rd_readOn 256 = .ok (.invokevirtual 71, 3) := by decide +kernel
theorem kd_Rd_readOn_259 : decode kb_Rd_readOn 259 = .ok (.aload_n 0, 1) := by decide +kernel
theorem kd_Rd_readOn_260 : decode kb_Rd_readOn 260 = .ok (.dup, 1) := by decide +kernel
theorem kd_Rd_readOn_261 : decode kb_Rd_readOn 261 = .ok (.getfield 33, 3) := by decide +kernel
theorem kd_Rd_readOn_264 : decode kb_Rd_readOn 264 = .ok (.iconst 1, 1) := by decide +kernel
theorem kd_Rd_readOn_265 : decode kb_Rd_readOn 265 = .ok (.iadd, 1) := by decide +kernel
theorem kd_Rd_readOn_266 : decode kb_Rd_readOn 266 = .ok (.putfield 33, 3) := by decide +kernel
theorem kd_Rd_readOn_269 : decode kb_Rd_readOn 269 = .ok (.aload_n 0, 1) := by decide +kernel
theorem kd_Rd_readOn_270 : decode kb_Rd_readOn 270 = .ok (.invokevirtual 87, 3) := by decide +kernel
theorem kd_Rd_readOn_273 : decode kb_Rd_readOn 273 = .ok (.ireturn, 1) := by decide +kernel
theorem kd_Rd_readUnionSign_0 : decode kb_Rd_readUnionSign 0 = .ok (.aload_n 0, 1) := by decide +kernel
theorem kd_Rd_readUnionSign_1 : decode kb_Rd_readUnionSign 1 = .ok (.getfield 9, 3) := by decide +kernel
theorem kd_Rd_readUnionSign_4 : decode kb_Rd_readUnionSign 4 = .ok (.aload_n 0, 1) := by decide +kernel
theorem kd_Rd_readUnionSign_5 : decode kb_Rd_readUnionSign 5 = .ok (.getfield 22, 3) := by decide +kernel
theorem kd_Rd_readUnionSign_8 : decode kb_Rd_readUnionSign 8 = .ok (.iaload, 1) := by decide +kernel
theorem kd_Rd_readUnionSign_9 : decode kb_Rd_readUnionSign 9 = .ok (.ifCond .le 5, 3) := by decide +kernel
theorem kd_Rd_readUnionSign_12 : decode kb_Rd_readUnionSign 12 = .ok (.iconst 0, 1) := by decide +kernel
theorem kd_Rd_readUnionSign_13 : decode kb_Rd_readUnionSign 13 = .ok (.ireturn, 1) := by decide +kernel
theorem kd_Rd_readUnionSign_14 : decode kb_Rd_readUnionSign 14 = .ok (.aload_n 0, 1) := by decide +kernel
theorem kd_Rd_readUnionSign_15 : decode kb_Rd_readUnionSign 15 = .ok (.dup, 1) := by decide +kernel
theorem kd_Rd_readUnionSign_16 : decode kb_Rd_readUnionSign 16 = .ok (.getfield 33, 3) := by decide +kernel
theorem kd_Rd_readUnionSign_19 : decode kb_Rd_readUnionSign 19 = .ok (.iconst 1, 1) := by decide +kernel
theorem kd_Rd_readUnionSign_20 : decode kb_Rd_readUnionSign 20 = .ok (.iadd, 1) := by decide +kernel
theorem kd_Rd_readUnionSign_21 : decode kb_Rd_readUnionSign 21 = .ok (.putfield 33, 3) := by decide +kernel
theorem kd_Rd_readUnionSign_24 : decode kb_Rd_readUnionSign 24 = .ok (.aload_n 0, 1) := by decide +kernel
theorem kd_Rd_readUnionSign_25 : decode kb_Rd_readUnionSign 25 = .ok (.invokevirtual 65, 3) := by decide +kernel
theorem kd_Rd_readUnionSign_28 : decode kb_Rd_readUnionSign 28 = .ok (.aload_n 0, 1) := by decide +kernel
theorem kd_Rd_readUnionSign_29 : decode kb_Rd_readUnionSign 29 = .ok (.getfield 15, 3) := by decide +kernel
theorem kd_Rd_readUnionSign_32 : decode kb_Rd_readUnionSign 32 = .ok (.aload_n 0, 1) := by decide +kernel
theorem kd_Rd_readUnionSign_33 : decode kb_Rd_readUnionSign 33 = .ok (.getfield 22, 3) := by decide +kernel
theorem kd_Rd_readUnionSign_36 : decode kb_Rd_readUnionSign 36 = .ok (.iconst 1, 1) := by decide +kernel
theorem kd_Rd_readUnionSign_37 : decode kb_Rd_readUnionSign 37 = .ok (.bastore, 1) := by decide +kernel
theorem kd_Rd_readUnionSign_38 : decode kb_Rd_readUnionSign 38 = .ok (.aload_n 0, 1) := by decide +kernel
theorem kd_Rd_readUnionSign_39 : decode kb_Rd_readUnionSign 39 = .ok (.getfield 19, 3) := by decide +kernel
theorem kd_Rd_readUnionSign_42 : decode kb_Rd_readUnionSign 42 = .ok (.aload_n 0, 1) := by decide +kernel
theorem kd_Rd_readUnionSign_43 : decode kb_Rd_readUnionSign 43 = .ok (.getfield 22, 3) := by decide +kernel
theorem kd_Rd_readUnionSign_46 : decode kb_Rd_readUnionSign 46 = .ok (.iconst 0, 1) := by decide +kernel
theorem kd_Rd_readUnionSign_47 : decode kb_Rd_readUnionSign 47 = .ok (.bastore, 1) := by decide +kernel
theorem kd_Rd_readUnionSign_48 : decode kb_Rd_readUnionSign 48 = .ok (.aload_n 0, 1) := by decide +kernel
theorem kd_Rd_readUnionSign_49 : decode kb_Rd_readUnionSign 49 = .ok (.invokevirtual 68, 3) := by decide +kernel
theorem kd_Rd_readUnionSign_52 : decode kb_Rd_readUnionSign 52 = .ok (.iconst 1, 1) := by decide +kernel
theorem kd_Rd_readUnionSign_53 : decode kb_Rd_readUnionSign 53 = .ok (.ireturn, 1) := by decide +kernel
theorem kd_Rd_readIntersectionSign_0 : decode kb_Rd_readIntersectionSign 0 = .ok (.aload_n 0, 1) := by decide +kernel
theorem kd_Rd_readIntersectionSign_1 : decode kb_Rd_readIntersectionSign 1 = .ok (.getfield 9, 3) := by decide +kernel
theorem kd_Rd_readIntersectionSign_4 : decode kb_Rd_readIntersectionSign 4 = .ok (.aload_n 0, 1) := by decide +kernel
theorem kd_Rd_readIntersectionSign_5 : decode kb_Rd_readIntersectionSign 5 = .ok (.getfield 22, 3) := by decide +kernel
theorem kd_Rd_readIntersectionSign_8 : decode kb_Rd_readIntersectionSign 8 = .ok (.iaload, 1) := by decide +kernel
theorem kd_Rd_readIntersectionSign_9 : decode kb_Rd_readIntersectionSign 9 = .ok (.ifCond .le 5, 3) := by decide +kernel
theorem kd_Rd_readIntersectionSign_12 : decode kb_Rd_readIntersectionSign 12 = .ok (.iconst 0, 1) := by decide +kernel
theorem kd_Rd_readIntersectionSign_13 : decode kb_Rd_readIntersectionSign 13 = .ok (.ireturn, 1) := by decide +kernel
theorem kd_Rd_readIntersectionSign_14 : decode kb_Rd_readIntersectionSign 14 = .ok (.aload_n 0, 1) := by decide +kernel
theorem kd_Rd_readIntersectionSign_15 : decode kb_Rd_readIntersectionSign 15 = .ok (.dup, 1) := by decide +kernel
theorem kd_Rd_readIntersectionSign_16 : decode kb_Rd_readIntersectionSign 16 = .ok (.getfield 33, 3) := by decide +kernel
theorem kd_Rd_readIntersectionSign_19 : decode kb_Rd_readIntersectionSign 19 = .ok (.iconst 1, 1) := by decide +kernel
theorem kd_Rd_readIntersectionSign_20 : decode kb_Rd_readIntersectionSign 20 = .ok (.iadd, 1) := by decide +kernel
theorem kd_Rd_readIntersectionSign_21 : decode kb_Rd_readIntersectionSign 21 = .ok (.putfield 33, 3) := by decide +kernel
theorem kd_Rd_readIntersectionSign_24 : decode kb_Rd_readIntersectionSign 24 = .ok (.aload_n 0, 1) := by decide +kernel
theorem kd_Rd_readIntersectionSign_25 : decode kb_Rd_readIntersectionSign 25 = .ok (.invokevirtual 93, 3) := by decide +kernel
theorem kd_Rd_readIntersectionSign_28 : decode kb_Rd_readIntersectionSign 28 = .ok (.aload_n 0, 1) := by decide +kernel
theorem kd_Rd_readIntersectionSign_29 : decode kb_Rd_readIntersectionSign 29 = .ok (.getfield 19, 3) := by decide +kernel
theorem kd_Rd_readIntersectionSign_32 : decode kb_Rd_readIntersectionSign 32 = .ok (.aload_n 0, 1) := by decide +kernel
theorem kd_Rd_readIntersectionSign_33 : decode kb_Rd_readIntersectionSign 33 = .ok (.getfield 22, 3) := by decide +kernel
theorem kd_Rd_readIntersectionSign_36 : decode kb_Rd_readIntersectionSign 36 = .ok (.iconst 1, 1) := by decide +kernel
theorem kd_Rd_readIntersectionSign_37 : decode kb_Rd_readIntersectionSign 37 = .ok (.bastore, 1) := by decide +kernel
theorem kd_Rd_readIntersectionSign_38 : decode kb_Rd_readIntersectionSign 38 = .ok (.aload_n 0, 1) := by decide +kernel
theorem kd_Rd_readIntersectionSign_39 : decode kb_Rd_readIntersectionSign 39 = .ok (.invokevirtual 68, 3) := by decide +kernel
theorem kd_Rd_readIntersectionSign_42 : decode kb_Rd_readIntersectionSign 42 = .ok (.iconst 1, 1) := by decide +kernel
theorem kd_Rd_readIntersectionSign_43 : decode kb_Rd_readIntersectionSign 43 = .ok (.ireturn, 1) := by decide +kernel
theorem kd_Rd_endIntersection_0 : decode kb_Rd_endIntersection 0 = .ok (.aload_n 0, 1) := by decide +kernel
theorem kd_Rd_endIntersection_1 : decode kb_Rd_endIntersection 1 = .ok (.getfield 19, 3) := by decide +kernel
theorem kd_Rd_endIntersection_4 : decode kb_Rd_endIntersection 4 = .ok (.aload_n 0, 1) := by decide +kernel
theorem kd_Rd_endIntersection_5 : decode kb_Rd_endIntersection 5 = .ok (.getfield 22, 3) := by decide +kernel
theorem kd_Rd_endIntersection_8 : decode kb_Rd_endIntersection 8 = .ok (.baload, 1) := by decide +kernel
theorem kd_Rd_endIntersection_9 : decode kb_Rd_endIntersection 9 = .ok (.ifCond .eq 13, 3) := by decide +kernel
theorem kd_Rd_endIntersection_12 : decode kb_Rd_endIntersection 12 = .ok (.aload_n 0, 1) := by decide +kernel
theorem kd_Rd_endIntersection_13 : decode kb_Rd_endIntersection 13 = .ok (.getfield 39, 3) := by decide +kernel
theorem kd_Rd_endIntersection_16 : decode kb_Rd_endIntersection 16 = .ok (.iconst 4, 1) := by decide +kernel
theorem kd_Rd_endIntersection_17 : decode kb_Rd_endIntersection 17 = .ok (.iconst 0, 1) := by decide +kernel
theorem kd_Rd_endIntersection_18 : decode kb_Rd_endIntersection 18 = .ok (.iconst 0, 1) := by decide +kernel
theorem kd_Rd_endIntersection_19 : decode kb_Rd_endIntersection 19 = .ok (.invokevirtual 71, 3) := by decide +kernel
theorem kd_Rd_endIntersection_22 : decode kb_Rd_endIntersection 22 = .ok (.return_, 1) := by decide +kernel
theorem kd_Rd_endUnion_0 : decode kb_Rd_endUnion 0 = .ok (.aload_n 0, 1) := by decide +kernel
theorem kd_Rd_endUnion_1 : decode kb_Rd_endUnion 1 = .ok (.invokevirtual 93, 3) := by decide +kernel
theorem kd_Rd_endUnion_4 : decode kb_Rd_endUnion 4 = .ok (.aload_n 0, 1) := by decide +kernel
theorem kd_Rd_endUnion_5 : decode kb_Rd_endUnion 5 = .ok (.getfield 15, 3) := by decide +kernel
theorem kd_Rd_endUnion_8 : decode kb_Rd_endUnion 8 = .ok (.aload_n 0, 1) := by decide +kernel
theorem kd_Rd_endUnion_9 : decode kb_Rd_endUnion 9 = .ok (.getfield 22, 3) := by decide +kernel
theorem kd_Rd_endUnion_12 : decode kb_Rd_endUnion 12 = .ok (.baload, 1) := by decide +kernel
theorem kd_Rd_endUnion_13 : decode kb_Rd_endUnion 13 = .ok (.ifCond .eq 13, 3) := by decide +kernel
theorem kd_Rd_endUnion_16 : decode kb_Rd_endUnion 16 = .ok (.aload_n 0, 1) := by decide +kernel
theorem kd_Rd_endUnion_17 : decode kb_Rd_endUnion 17 = .ok (.getfield 39, 3) := by decide +kernel
theorem kd_Rd_endUnion_20 : decode kb_Rd_endUnion 20 = .ok (.iconst 3, 1) := by decide +kernel
theorem kd_Rd_endUnion_21 : decode kb_Rd_endUnion 21 = .ok (.iconst 0, 1) := by decide +kernel
theorem kd_Rd_endUnion_22 : decode kb_Rd_endUnion 22 = .ok (.iconst 0, 1) := by decide +kernel
theorem kd_Rd_endUnion_23 : decode kb_Rd_endUnion 23 = .ok (.invokevirtual 71, 3) := by decide +kernel
theorem kd_Rd_endUnion_26 : decode kb_Rd_endUnion 26 = .ok (.return_, 1) := by decide +kernel
theorem kd_Rd_readOpening_0 : decode kb_Rd_readOpening 0 = .ok (.aload_n 0, 1) := by decide +kernel
theorem kd_Rd_readOpening_1 : decode kb_Rd_readOpening 1 = .ok (.getfield 22, 3) := by decide +kernel
theorem kd_Rd_readOpening_4 : decode kb_Rd_readOpening 4 = .ok (.iconst 1, 1) := by decide +kernel
theorem kd_Rd_readOpening_5 : decode kb_Rd_readOpening 5 = .ok (.iadd, 1) := by decide +kernel
theorem kd_Rd_readOpening_6 : decode kb_Rd_readOpening 6 = .ok (.bipush 41, 2) := by decide +kernel
theorem kd_Rd_readOpening_8 : decode kb_Rd_readOpening 8 = .ok (.if_icmp .lt 5, 3) := by decide +kernel
theorem kd_Rd_readOpening_11 : decode kb_Rd_readOpening 11 = .ok (.iconst 0, 1) := by decide +kernel
theorem kd_Rd_readOpening_12 : decode kb_Rd_readOpening 12 = .ok (.ireturn, 1) := by decide +kernel
theorem kd_Rd_readOpening_13 : decode kb_Rd_readOpening 13 = .ok (.aload_n 0, 1) := by decide +kernel
theorem kd_Rd_readOpening_14 : decode kb_Rd_readOpening 14 = .ok (.dup, 1) := by decide +kernel
theorem kd_Rd_readOpening_15 : decode kb_Rd_readOpening 15 = .ok (.getfield 33, 3) := by decide +kernel
theorem kd_Rd_readOpening_18 : decode kb_Rd_readOpening 18 = .ok (.iconst 1, 1) := by decide +kernel
theorem kd_Rd_readOpening_19 : decode kb_Rd_readOpening 19 = .ok (.iadd, 1) := by decide +kernel
theorem kd_Rd_readOpening_20 : decode kb_Rd_readOpening 20 = .ok (.putfield 33, 3) := by decide +kernel
theorem kd_Rd_readOpening_23 : decode kb_Rd_readOpening 23 = .ok (.aload_n 0, 1) := by decide +kernel
theorem kd_Rd_readOpening_24 : decode kb_Rd_readOpening 24 = .ok (.dup, 1) := by decide +kernel
theorem kd_Rd_readOpening_25 : decode kb_Rd_readOpening 25 = .ok (.getfield 22, 3) := by decide +kernel
theorem kd_Rd_readOpening_28 : decode kb_Rd_readOpening 28 = .ok (.iconst 1, 1) := by decide +kernel
theorem kd_Rd_readOpening_29 : decode kb_Rd_readOpening 29 = .ok (.iadd, 1) := by decide +kernel
theorem kd_Rd_readOpening_30 : decode kb_Rd_readOpening 30 = .ok (.putfield 22, 3) := by decide +kernel
theorem kd_Rd_readOpening_33 : decode kb_Rd_readOpening 33 = .ok (.aload_n 0, 1) := by decide +kernel
theorem kd_Rd_readOpening_34 : decode kb_Rd_readOpening 34 = .ok (.invokevirtual 58, 3) := by decide +kernel
theorem kd_Rd_readOpening_37 : decode kb_Rd_readOpening 37 = .ok (.iconst 1, 1) := by decide +kernel
theorem kd_Rd_readOpening_38 : decode kb_Rd_readOpening 38 = .ok (.ireturn, 1) := by decide +kernel
theorem kd_Rd_readClosing_0 : decode kb_Rd_readClosing 0 = .ok (.aload_n 0, 1) := by decide +kernel
theorem kd_Rd_readClosing_1 : decode kb_Rd_readClosing 1 = .ok (.getfield 22, 3) := by decide +kernel
theorem kd_Rd_readClosing_4 : decode kb_Rd_readClosing 4 = .ok (.ifCond .eq 15, 3) := by decide +kernel
theorem kd_Rd_readClosing_7 : decode kb_Rd_readClosing 7 = .ok (.aload_n 0, 1) := by decide +kernel
theorem kd_Rd_readClosing_8 : decode kb_Rd_readClosing 8 = .ok (.getfield 9, 3) := by decide +kernel
theorem kd_Rd_readClosing_11 : decode kb_Rd_readClosing 11 = .ok (.aload_n 0, 1) := by decide +kernel
theorem kd_Rd_readClosing_12 : decode kb_Rd_readClosing 12 = .ok (.getfield 22, 3) := by decide +kernel
theorem kd_Rd_readClosing_15 : decode kb_Rd_readClosing 15 = .ok (.iaload, 1) := by decide +kernel
theorem kd_Rd_readClosing_16 : decode kb_Rd_readClosing 16 = .ok (.ifCond .le 5, 3) := by decide +kernel
theorem kd_Rd_readClosing_19 : decode kb_Rd_readClosing 19 = .ok (.iconst 0, 1) := by decide +kernel
theorem kd_Rd_readClosing_20 : decode kb_Rd_readClosing 20 = .ok (.ireturn, 1) := by decide +kernel
theorem kd_Rd_readClosing_21 : decode kb_Rd_readClosing 21 = .ok (.aload_n 0, 1) := by decide +kernel
theorem kd_Rd_readClosing_22 : decode kb_Rd_readClosing 22 = .ok (.dup, 1) := by decide +kernel
theorem kd_Rd_readClosing_23 : decode kb_Rd_readClosing 23 = .ok (.getfield 33, 3) := by decide +kernel
theorem kd_Rd_readClosing_26 : decode kb_Rd_readClosing 26 = .ok (.iconst 1, 1) := by decide +kernel
theorem kd_Rd_readClosing_27 : decode kb_Rd_readClosing 27 = .ok (.iadd, 1) := by decide +kernel
theorem kd_Rd_readClosing_28 : decode kb_Rd_readClosing 28 = .ok (.putfield 33, 3) := by decide +kernel
theorem kd_Rd_readClosing_31 : decode kb_Rd_readClosing 31 = .ok (.aload_n 0, 1) := by decide +kernel
theorem kd_Rd_readClosing_32 : decode kb_Rd_readClosing 32 = .ok (.invokevirtual 65, 3) := by decide +kernel
theorem kd_Rd_readClosing_35 : decode kb_Rd_readClosing 35 = .ok (.aload_n 0, 1) := by decide +kernel
theorem kd_Rd_readClosing_36 : decode kb_Rd_readClosing 36 = .ok (.dup, 1) := by decide +kernel
theorem kd_Rd_readClosing_37 : decode kb_Rd_readClosing 37 = .ok (.getfield 22, 3) := by decide +kernel
theorem kd_Rd_readClosing_40 : decode kb_Rd_readClosing 40 = .ok (.iconst 1, 1) := by decide +kernel
theorem kd_Rd_readClosing_41 : decode kb_Rd_readClosing 41 = .ok (.isub, 1) := by decide +kernel
theorem kd_Rd_readClosing_42 : decode kb_Rd_readClosing 42 = .ok (.putfield 22, 3) := by decide +kernel
theorem kd_Rd_readClosing_45 : decode kb_Rd_readClosing 45 = .ok (.iconst 1, 1) := by decide +kernel
theorem kd_Rd_readClosing_46 : decode kb_Rd_readClosing 46 = .ok (.ireturn, 1) := by decide +kernel
theorem kd_Rd_endPiece_0 : decode kb_Rd_endPiece 0 = .ok (.iconst 0, 1) := by decide +kernel
theorem kd_Rd_endPiece_1 : decode kb_Rd_endPiece 1 = .ok (.istore_n 1, 1) := by decide +kernel
theorem kd_Rd_endPiece_2 : decode kb_Rd_endPiece 2 = .ok (.iload_n 1, 1) := by decide +kernel
theorem kd_Rd_endPiece_3 : decode kb_Rd_endPiece 3 = .ok (.aload_n 0, 1) := by decide +kernel
theorem kd_Rd_endPiece_4 : decode kb_Rd_endPiece 4 = .ok (.getfield 30, 3) := by decide +kernel
theorem kd_Rd_endPiece_7 : decode kb_Rd_endPiece 7 = .ok (.if_icmp .ge 44, 3) := by decide +kernel
theorem kd_Rd_endPiece_10 : decode kb_Rd_endPiece 10 = .ok (.aload_n 0, 1) := by decide +kernel
theorem kd_Rd_endPiece_11 : decode kb_Rd_endPiece 11 = .ok (.getfield 33, 3) := by decide +kernel
theorem kd_Rd_endPiece_14 : decode kb_Rd_endPiece 14 = .ok (.aload_n 0, 1) := by decide +kernel
theorem kd_Rd_endPiece_15 : decode kb_Rd_endPiece 15 = .ok (.getfield 30, 3) := by decide +kernel
theorem kd_Rd_endPiece_18 : decode kb_Rd_endPiece 18 = .ok (.if_icmp .ge 33, 3) := by decide +kernel
theorem kd_Rd_endPiece_21 : decode kb_Rd_endPiece 21 = .ok (.aload_n 0, 1) := by decide +kernel
theorem kd_Rd_endPiece_22 : decode kb_Rd_endPiece 22 = .ok (.getfield 26, 3) := by decide +kernel
theorem kd_Rd_endPiece_25 : decode kb_Rd_endPiece 25 = .ok (.aload_n 0, 1) := by decide +kernel
theorem kd_Rd_endPiece_26 : decode kb_Rd_endPiece 26 = .ok (.getfield 33, 3) := by decide +kernel
theorem kd_Rd_endPiece_29 : decode kb_Rd_endPiece 29 = .ok (.caload, 1) := by decide +kernel
theorem kd_Rd_endPiece_30 : decode kb_Rd_endPiece 30 = .ok (.invokestatic 96, 3) := by decide +kernel
theorem kd_Rd_endPiece_33 : decode kb_Rd_endPiece 33 = .ok (.ifCond .eq 18, 3) := by decide +kernel
theorem kd_Rd_endPiece_36 : decode kb_Rd_endPiece 36 = .ok (.aload_n 0, 1) := by decide +kernel
theorem kd_Rd_endPiece_37 : decode kb_Rd_endPiece 37 = .ok (.invokevirtual 100, 3) := by decide +kernel
theorem kd_Rd_endPiece_40 : decode kb_Rd_endPiece 40 = .ok (.ifCond .ne 5, 3) := by decide +kernel
theorem kd_Rd_endPiece_43 : decode kb_Rd_endPiece 43 = .ok (.iconst 0, 1) := by decide +kernel
theorem kd_Rd_endPiece_44 : decode kb_Rd_endPiece 44 = .ok (.ireturn, 1) := by decide +kernel
theorem kd_Rd_endPiece_45 : decode kb_Rd_endPiece 45 = .ok (.iinc 1 1, 3) := by decide +kernel
theorem kd_Rd_endPiece_48 : decode kb_Rd_endPiece 48 = .ok (.goto (-46), 3) := by decide +kernel
theorem kd_Rd_endPiece_51 : decode kb_Rd_endPiece 51 = .ok (.iconst 0, 1) := by decide +kernel
theorem kd_Rd_endPiece_52 : decode kb_Rd_endPiece 52 = .ok (.istore_n 1, 1) := by decide +kernel
theorem kd_Rd_endPiece_53 : decode kb_Rd_endPiece 53 = .ok (.iload_n 1, 1) := by decide +kernel
theorem kd_Rd_endPiece_54 : decode kb_Rd_endPiece 54 = .ok (.aload_n 0, 1) := by decide +kernel
theorem kd_Rd_endPiece_55 : decode kb_Rd_endPiece 55 = .ok (.getfield 9, 3) := by decide +kernel
theorem kd_Rd_endPiece_58 : decode kb_Rd_endPiece 58 = .ok (.aload_n 0, 1) := by decide +kernel
theorem kd_Rd_endPiece_59 : decode kb_Rd_endPiece 59 = .ok (.getfield 22, 3) := by decide +kernel
theorem kd_Rd_endPiece_62 : decode kb_Rd_endPiece 62 = .ok (.iaload, 1) := by decide +kernel
theorem kd_Rd_endPiece_63 : decode kb_Rd_endPiece 63 = .ok (.if_icmp .ge 19, 3) := by decide +kernel
theorem kd_Rd_endPiece_66 : decode kb_Rd_endPiece 66 = .ok (.aload_n 0, 1) := by decide +kernel
theorem kd_Rd_endPiece_67 : decode kb_Rd_endPiece 67 = .ok (.getfield 39, 3) := by decide +kernel
theorem kd_Rd_endPiece_70 : decode kb_Rd_endPiece 70 = .ok (.iconst 5, 1) := by decide +kernel
theorem kd_Rd_endPiece_71 : decode kb_Rd_endPiece 71 = .ok (.iconst 0, 1) := by decide +kernel
theorem kd_Rd_endPiece_72 : decode kb_Rd_endPiece 72 = .ok (.iconst 0, 1) := by decide +kernel
theorem kd_Rd_endPiece_73 : decode kb_Rd_endPiece 73 = .ok (.invokevirtual 71, 3) := by decide +kernel
theorem kd_Rd_endPiece_76 : decode kb_Rd_endPiece 76 = .ok (.iinc 1 1, 3) := by decide +kernel
theorem kd_Rd_endPiece_79 : decode kb_Rd_endPiece 79 = .ok (.goto (-26), 3) := by decide +kernel
theorem kd_Rd_endPiece_82 : decode kb_Rd_endPiece 82 = .ok (.aload_n 0, 1) := by decide +kernel
theorem kd_Rd_endPiece_83 : decode kb_Rd_endPiece 83 = .ok (.getfield 9, 3) := by decide +kernel
theorem kd_Rd_endPiece_86 : decode kb_Rd_endPiece 86 = .ok (.aload_n 0, 1) := by decide +kernel
theorem kd_Rd_endPiece_87 : decode kb_Rd_endPiece 87 = .ok (.getfield 22, 3) := by decide +kernel
theorem kd_Rd_endPiece_90 : decode kb_Rd_endPiece 90 = .ok (.iconst 0, 1) := by decide +kernel
theorem kd_Rd_endPiece_91 : decode kb_Rd_endPiece 91 = .ok (.iastore, 1) := by decide +kernel
theorem kd_Rd_endPiece_92 : decode kb_Rd_endPiece 92 = .ok (.aload_n 0, 1) := by decide +kernel
theorem kd_Rd_endPiece_93 : decode kb_Rd_endPiece 93 = .ok (.getfield 39, 3) := by decide +kernel
theorem kd_Rd_endPiece_96 : decode kb_Rd_endPiece 96 = .ok (.iconst 2, 1) := by decide +kernel
theorem kd_Rd_endPiece_97 : decode kb_Rd_endPiece 97 = .ok (.iconst 0, 1) := by decide +kernel
theorem kd_Rd_endPiece_98 : decode kb_Rd_endPiece 98 = .ok (.iconst 0, 1) := by decide +kernel
theorem kd_Rd_endPiece_99 : decode kb_Rd_endPiece 99 = .ok (.invokevirtual 71, 3) := by decide +kernel
theorem kd_Rd_endPiece_102 : decode kb_Rd_endPiece 102 = .ok (.iconst 1, 1) := by decide +kernel
theorem kd_Rd_endPiece_103 : decode kb_Rd_endPiece 103 = .ok (.ireturn, 1) := by decide +kernel
theorem kd_Rd_isMark_0 : decode kb_Rd_isMark 0 = .ok (.iload_n 0, 1) := by decide +kernel
theorem kd_Rd_isMark_1 : decode kb_Rd_isMark 1 = .ok (.bipush 42, 2) := by decide +kernel
theorem kd_Rd_isMark_3 : decode kb_Rd_isMark 3 = .ok (.if_icmp .eq 21, 3) := by decide +kernel
theorem kd_Rd_isMark_6 : decode kb_Rd_isMark 6 = .ok (.iload_n 0, 1) := by decide +kernel
theorem kd_Rd_isMark_7 : decode kb_Rd_isMark 7 = .ok (.bipush 43, 2) := by decide +kernel
theorem kd_Rd_isMark_9 : decode kb_Rd_isMark 9 = .ok (.if_icmp .eq 15, 3) := by decide +kernel
theorem kd_Rd_isMark_12 : decode kb_Rd_isMark 12 = .ok (.iload_n 0, 1) := by decide +kernel
theorem kd_Rd_isMark_13 : decode kb_Rd_isMark 13 = .ok (.bipush 63, 2) := by decide +kernel
theorem kd_Rd_isMark_15 : decode kb_Rd_isMark 15 = .ok (.if_icmp .eq 9, 3) := by decide +kernel
theorem kd_Rd_isMark_18 : decode kb_Rd_isMark 18 = .ok (.iload_n 0, 1) := by decide +kernel
theorem kd_Rd_isMark_19 : decode kb_Rd_isMark 19 = .ok (.bipush 123, 2) := by decide +kernel
theorem kd_Rd_isMark_21 : decode kb_Rd_isMark 21 = .ok (.if_icmp .ne 7, 3) := by decide +kernel
theorem kd_Rd_isMark_24 : decode kb_Rd_isMark 24 = .ok (.iconst 1, 1) := by decide +kernel
theorem kd_Rd_isMark_25 : decode kb_Rd_isMark 25 = .ok (.goto 4, 3) := by decide +kernel
theorem kd_Rd_isMark_28 : decode kb_Rd_isMark 28 = .ok (.iconst 0, 1) := by decide +kernel
theorem kd_Rd_isMark_29 : decode kb_Rd_isMark 29 = .ok (.ireturn, 1) := by decide +kernel
theorem kd_Rd_readMark_0 : decode kb_Rd_readMark 0 = .ok (.aload_n 0, 1) := by decide +kernel
theorem kd_Rd_readMark_1 : decode kb_Rd_readMark 1 = .ok (.getfield 26, 3) := by decide +kernel
theorem kd_Rd_readMark_4 : decode kb_Rd_readMark 4 = .ok (.aload_n 0, 1) := by decide +kernel
theorem kd_Rd_readMark_5 : decode kb_Rd_readMark 5 = .ok (.getfield 33, 3) := by decide +kernel
theorem kd_Rd_readMark_8 : decode kb_Rd_readMark 8 = .ok (.caload, 1) := by decide +kernel
theorem kd_Rd_readMark_9 : decode kb_Rd_readMark 9 = .ok (.istore_n 1, 1) := by decide +kernel
theorem kd_Rd_readMark_10 : decode kb_Rd_readMark 10 = .ok (.aload_n 0, 1) := by decide +kernel
theorem kd_Rd_readMark_11 : decode kb_Rd_readMark 11 = .ok (.dup, 1) := by decide +kernel
theorem kd_Rd_readMark_12 : decode kb_Rd_readMark 12 = .ok (.getfield 33, 3) := by decide +kernel
theorem kd_Rd_readMark_15 : decode kb_Rd_readMark 15 = .ok (.iconst 1, 1) := by decide +kernel
theorem kd_Rd_readMark_16 : decode kb_Rd_readMark 16 = .ok (.iadd, 1) := by decide +kernel
theorem kd_Rd_readMark_17 : decode kb_Rd_readMark 17 = .ok (.putfield 33, 3) := by decide +kernel
theorem kd_Rd_readMark_20 : decode kb_Rd_readMark 20 = .ok (.iload_n 1, 1) := by decide +kernel
theorem kd_Rd_readMark_21 : decode kb_Rd_readMark 21 = .ok (.bipush 123, 2) := by decide +kernel
theorem kd_Rd_readMark_23 : decode kb_Rd_readMark 23 = .ok (.if_icmp .ne 8, 3) := by decide +kernel
theorem kd_Rd_readMark_26 : decode kb_Rd_readMark 26 = .ok (.aload_n 0, 1) := by decide +kernel
theorem kd_Rd_readMark_27 : decode kb_Rd_readMark 27 = .ok (.invokevirtual 103, 3) := by decide +kernel
theorem kd_Rd_readMark_30 : decode kb_Rd_readMark 30 = .ok (.ireturn, 1) := by decide +kernel
theorem kd_Rd_readMark_31 : decode kb_Rd_readMark 31 = .ok (.aload_n 0, 1) := by decide +kernel
theorem kd_Rd_readMark_32 : decode kb_Rd_readMark 32 = .ok (.getfield 39, 3) := by decide +kernel
theorem kd_Rd_readMark_35 : decode kb_Rd_readMark 35 = .ok (.bipush 6, 2) := by decide +kernel
theorem kd_Rd_readMark_37 : decode kb_Rd_readMark 37 = .ok (.iload_n 1, 1) := by decide +kernel
theorem kd_Rd_readMark_38 : decode kb_Rd_readMark 38 = .ok (.bipush 43, 2) := by decide +kernel
theorem kd_Rd_readMark_40 : decode kb_Rd_readMark 40 = .ok (.if_icmp .ne 7, 3) := by decide +kernel
theorem kd_Rd_readMark_43 : decode kb_Rd_readMark 43 = .ok (.iconst 1, 1) := by decide +kernel
theorem kd_Rd_readMark_44 : decode kb_Rd_readMark 44 = .ok (.goto 4, 3) := by decide +kernel
theorem kd_Rd_readMark_47 : decode kb_Rd_readMark 47 = .ok (.iconst 0, 1) := by decide +kernel
theorem kd_Rd_readMark_48 : decode kb_Rd_readMark 48 = .ok (.iload_n 1, 1) := by decide +kernel
theorem kd_Rd_readMark_49 : decode kb_Rd_readMark 49 = .ok (.bipush 63, 2) := by decide +kernel
theorem kd_Rd_readMark_51 : decode kb_Rd_readMark 51 = .ok (.if_icmp .ne 7, 3) := by decide +kernel
theorem kd_Rd_readMark_54 : decode kb_Rd_readMark 54 = .ok (.iconst 1, 1) := by decide +kernel
theorem kd_Rd_readMark_55 : decode kb_Rd_readMark 55 = .ok (.goto 4, 3) := by decide +kernel
theorem kd_Rd_readMark_58 : decode kb_Rd_readMark 58 = .ok (.iconst (-1), 1) := by decide +kernel
theorem kd_Rd_readMark_59 : decode kb_Rd_readMark 59 = .ok (.invokevirtual 71, 3) := by decide +kernel
theorem kd_Rd_readMark_62 : decode kb_Rd_readMark 62 = .ok (.iconst 1, 1) := by decide +kernel
theorem kd_Rd_readMark_63 : decode kb_Rd_readMark 63 = .ok (.ireturn, 1) := by decide +kernel
theorem kd_Rd_readTimes_0 : decode kb_Rd_readTimes 0 = .ok (.aload_n 0, 1) := by decide +kernel
theorem kd_Rd_readTimes_1 : decode kb_Rd_readTimes 1 = .ok (.bipush 48, 2) := by decide +kernel
theorem kd_Rd_readTimes_3 : decode kb_Rd_readTimes 3 = .ok (.invokevirtual 106, 3) := by decide +kernel
theorem kd_Rd_readTimes_6 : decode kb_Rd_readTimes 6 = .ok (.ifCond .ne 5, 3) := by decide +kernel
theorem kd_Rd_readTimes_9 : decode kb_Rd_readTimes 9 = .ok (.iconst 0, 1) := by decide +kernel
theorem kd_Rd_readTimes_10 : decode kb_Rd_readTimes 10 = .ok (.ireturn, 1) := by decide +kernel
theorem kd_Rd_readTimes_11 : decode kb_Rd_readTimes 11 = .ok (.aload_n 0, 1) := by decide +kernel
theorem kd_Rd_readTimes_12 : decode kb_Rd_readTimes 12 = .ok (.getfield 26, 3) := by decide +kernel
theorem kd_Rd_readTimes_15 : decode kb_Rd_readTimes 15 = .ok (.aload_n 0, 1) := by decide +kernel
theorem kd_Rd_readTimes_16 : decode kb_Rd_readTimes 16 = .ok (.getfield 33, 3) := by decide +kernel
theorem kd_Rd_readTimes_19 : decode kb_Rd_readTimes 19 = .ok (.caload, 1) := by decide +kernel
theorem kd_Rd_readTimes_20 : decode kb_Rd_readTimes 20 = .ok (.istore_n 1, 1) := by decide +kernel
theorem kd_Rd_readTimes_21 : decode kb_Rd_readTimes 21 = .ok (.iload_n 1, 1) := by decide +kernel
theorem kd_Rd_readTimes_22 : decode kb_Rd_readTimes 22 = .ok (.bipush 48, 2) := by decide +kernel
theorem kd_Rd_readTimes_24 : decode kb_Rd_readTimes 24 = .ok (.isub, 1) := by decide +kernel
theorem kd_Rd_readTimes_25 : decode kb_Rd_readTimes 25 = .ok (.istore_n 2, 1) := by decide +kernel
theorem kd_Rd_readTimes_26 : decode kb_Rd_readTimes 26 = .ok (.iload_n 2, 1) := by decide +kernel
theorem kd_Rd_readTimes_27 : decode kb_Rd_readTimes 27 = .ok (.istore_n 3, 1) := by decide +kernel
theorem kd_Rd_readTimes_28 : decode kb_Rd_readTimes 28 = .ok (.aload_n 0, 1) := by decide +kernel
theorem kd_Rd_readTimes_29 : decode kb_Rd_readTimes 29 = .ok (.dup, 1) := by decide +kernel
theorem kd_Rd_readTimes_30 : decode kb_Rd_readTimes 30 = .ok (.getfield 33, 3) := by decide +kernel
theorem kd_Rd_readTimes_33 : decode kb_Rd_readTimes 33 = .ok (.iconst 1, 1) := by decide +kernel
theorem kd_Rd_readTimes_34 : decode kb_Rd_readTimes 34 = .ok (.iadd, 1) := by decide +kernel
theorem kd_Rd_readTimes_35 : decode kb_Rd_readTimes 35 = .ok (.putfield 33, 3) := by decide +kernel
theorem kd_Rd_readTimes_38 : decode kb_Rd_readTimes 38 = .ok (.aload_n 0, 1) := by decide +kernel
theorem kd_Rd_readTimes_39 : decode kb_Rd_readTimes 39 = .ok (.bipush 44, 2) := by decide +kernel
theorem kd_Rd_readTimes_41 : decode kb_Rd_readTimes 41 = .ok (.invokevirtual 109, 3) := by decide +kernel
theorem kd_Rd_readTimes_44 : decode kb_Rd_readTimes 44 = .ok (.ifCond .eq 46, 3) := by decide +kernel
theorem kd_Rd_readTimes_47 : decode kb_Rd_readTimes 47 = .ok (.aload_n 0, 1) := by decide +kernel
theorem kd_Rd_readTimes_48 : decode kb_Rd_readTimes 48 = .ok (.dup, 1) := by decide +kernel
theorem kd_Rd_readTimes_49 : decode kb_Rd_readTimes 49 = .ok (.getfield 33, 3) := by decide +kernel
theorem kd_Rd_readTimes_52 : decode kb_Rd_readTimes 52 = .ok (.iconst 1, 1) := by decide +kernel
theorem kd_Rd_readTimes_53 : decode kb_Rd_readTimes 53 = .ok (.iadd, 1) := by decide +kernel
theorem kd_Rd_readTimes_54 : decode kb_Rd_readTimes 54 = .ok (.putfield 33, 3) := by decide +kernel
theorem kd_Rd_readTimes_57 : decode kb_Rd_readTimes 57 = .ok (.iconst (-1), 1) := by decide +kernel
theorem kd_Rd_readTimes_58 : decode kb_Rd_readTimes 58 = .ok (.istore_n 3, 1) := by decide +kernel
theorem kd_Rd_readTimes_59 : decode kb_Rd_readTimes 59 = .ok (.aload_n 0, 1) := by decide +kernel
theorem kd_Rd_readTimes_60 : decode kb_Rd_readTimes 60 = .ok (.iload_n 1, 1) := by decide +kernel
theorem kd_Rd_readTimes_61 : decode kb_Rd_readTimes 61 = .ok (.invokevirtual 106, 3) := by decide +kernel
theorem kd_Rd_readTimes_64 : decode kb_Rd_readTimes 64 = .ok (.ifCond .eq 26, 3) := by decide +kernel
theorem kd_Rd_readTimes_67 : decode kb_Rd_readTimes 67 = .ok (.aload_n 0, 1) := by decide +kernel
theorem kd_Rd_readTimes_68 : decode kb_Rd_readTimes 68 = .ok (.getfield 26, 3) := by decide +kernel
theorem kd_Rd_readTimes_71 : decode kb_Rd_readTimes 71 = .ok (.aload_n 0, 1) := by decide +kernel
theorem kd_Rd_readTimes_72 : decode kb_Rd_readTimes 72 = .ok (.getfield 33, 3) := by decide +kernel
theorem kd_Rd_readTimes_75 : decode kb_Rd_readTimes 75 = .ok (.caload, 1) := by decide +kernel
theorem kd_Rd_readTimes_76 : decode kb_Rd_readTimes 76 = .ok (.bipush 48, 2) := by decide +kernel
theorem kd_Rd_readTimes_78 : decode kb_Rd_readTimes 78 = .ok (.isub, 1) := by decide +kernel
theorem kd_Rd_readTimes_79 : decode kb_Rd_readTimes 79 = .ok (.istore_n 3, 1) := by decide +kernel
theorem kd_Rd_readTimes_80 : decode kb_Rd_readTimes 80 = .ok (.aload_n 0, 1) := by decide +kernel
theorem kd_Rd_readTimes_81 : decode kb_Rd_readTimes 81 = .ok (.dup, 1) := by decide +kernel
theorem kd_Rd_readTimes_82 : decode kb_Rd_readTimes 82 = .ok (.getfield 33, 3) := by decide +kernel
theorem kd_Rd_readTimes_85 : decode kb_Rd_readTimes 85 = .ok (.iconst 1, 1) := by decide +kernel
theorem kd_Rd_readTimes_86 : decode kb_Rd_readTimes 86 = .ok (.iadd, 1) := by decide +kernel
theorem kd_Rd_readTimes_87 : decode kb_Rd_readTimes 87 = .ok (.putfield 33, 3) := by decide +kernel
theorem kd_Rd_readTimes_90 : decode kb_Rd_readTimes 90 = .ok (.aload_n 0, 1) := by decide +kernel
theorem kd_Rd_readTimes_91 : decode kb_Rd_readTimes 91 = .ok (.bipush 125, 2) := by decide +kernel
theorem kd_Rd_readTimes_93 : decode kb_Rd_readTimes 93 = .ok (.invokevirtual 109, 3) := by decide +kernel
theorem kd_Rd_readTimes_96 : decode kb_Rd_readTimes 96 = .ok (.ifCond .ne 5, 3) := by decide +kernel
theorem kd_Rd_readTimes_99 : decode kb_Rd_readTimes 99 = .ok (.iconst 0, 1) := by decide +kernel
theorem kd_Rd_readTimes_100 : decode kb_Rd_readTimes 100 = .ok (.ireturn, 1) := by decide +kernel
theorem kd_Rd_readTimes_101 : decode kb_Rd_readTimes 101 = .ok (.aload_n 0, 1) := by decide +kernel
theorem kd_Rd_readTimes_102 : decode kb_Rd_readTimes 102 = .ok (.dup, 1) := by decide +kernel
theorem kd_Rd_readTimes_103 : decode kb_Rd_readTimes 103 = .ok (.getfield 33, 3) := by decide +kernel
theorem kd_Rd_readTimes_106 : decode kb_Rd_readTimes 106 = .ok (.iconst 1, 1) := by decide +kernel
theorem kd_Rd_readTimes_107 : decode kb_Rd_readTimes 107 = .ok (.iadd, 1) := by decide +kernel
theorem kd_Rd_readTimes_108 : decode kb_Rd_readTimes 108 = .ok (.putfield 33, 3) := by decide +kernel
theorem kd_Rd_readTimes_111 : decode kb_Rd_readTimes 111 = .ok (.aload_n 0, 1) := by decide +kernel
theorem kd_Rd_readTimes_112 : decode kb_Rd_readTimes 112 = .ok (.getfield 39, 3) := by decide +kernel
theorem kd_Rd_readTimes_115 : decode kb_Rd_readTimes 115 = .ok (.bipush 6, 2) := by decide +kernel
theorem kd_Rd_readTimes_117 : decode kb_Rd_readTimes 117 = .ok (.iload_n 2, 1) := by decide +kernel
theorem kd_Rd_readTimes_118 : decode kb_Rd_readTimes 118 = .ok (.iload_n 3, 1) := by decide +kernel
theorem kd_Rd_readTimes_119 : decode kb_Rd_readTimes 119 = .ok (.invokevirtual 71, 3) := by decide +kernel
theorem kd_Rd_readTimes_122 : decode kb_Rd_readTimes 122 = .ok (.iconst 1, 1) := by decide +kernel
theorem kd_Rd_readTimes_123 : decode kb_Rd_readTimes 123 = .ok (.ireturn, 1) := by decide +kernel
theorem kd_Rd_isNext_0 : decode kb_Rd_isNext 0 = .ok (.aload_n 0, 1) := by decide +kernel
theorem kd_Rd_isNext_1 : decode kb_Rd_isNext 1 = .ok (.getfield 33, 3) := by decide +kernel
theorem kd_Rd_isNext_4 : decode kb_Rd_isNext 4 = .ok (.aload_n 0, 1) := by decide +kernel
theorem kd_Rd_isNext_5 : decode kb_Rd_isNext 5 = .ok (.getfield 30, 3) := by decide +kernel
theorem kd_Rd_isNext_8 : decode kb_Rd_isNext 8 = .ok (.if_icmp .ge 20, 3) := by decide +kernel
theorem kd_Rd_isNext_11 : decode kb_Rd_isNext 11 = .ok (.aload_n 0, 1) := by decide +kernel
theorem kd_Rd_isNext_12 : decode kb_Rd_isNext 12 = .ok (.getfield 26, 3) := by decide +kernel
theorem kd_Rd_isNext_15 : decode kb_Rd_isNext 15 = .ok (.aload_n 0, 1) := by decide +kernel
theorem kd_Rd_isNext_16 : decode kb_Rd_isNext 16 = .ok (.getfield 33, 3) := by decide +kernel
theorem kd_Rd_isNext_19 : decode kb_Rd_isNext 19 = .ok (.caload, 1) := by decide +kernel
theorem kd_Rd_isNext_20 : decode kb_Rd_isNext 20 = .ok (.iload_n 1, 1) := by decide +kernel
theorem kd_Rd_isNext_21 : decode kb_Rd_isNext 21 = .ok (.if_icmp .ne 7, 3) := by decide +kernel
theorem kd_Rd_isNext_24 : decode kb_Rd_isNext 24 = .ok (.iconst 1, 1) := by decide +kernel
theorem kd_Rd_isNext_25 : decode kb_Rd_isNext 25 = .ok (.goto 4, 3) := by decide +kernel
theorem kd_Rd_isNext_28 : decode kb_Rd_isNext 28 = .ok (.iconst 0, 1) := by decide +kernel
theorem kd_Rd_isNext_29 : decode kb_Rd_isNext 29 = .ok (.ireturn, 1) := by decide +kernel
theorem kd_Rd_isDigitFrom_0 : decode kb_Rd_isDigitFrom 0 = .ok (.aload_n 0, 1) := by decide +kernel
theorem kd_Rd_isDigitFrom_1 : decode kb_Rd_isDigitFrom 1 = .ok (.getfield 33, 3) := by decide +kernel
theorem kd_Rd_isDigitFrom_4 : decode kb_Rd_isDigitFrom 4 = .ok (.aload_n 0, 1) := by decide +kernel
theorem kd_Rd_isDigitFrom_5 : decode kb_Rd_isDigitFrom 5 = .ok (.getfield 30, 3) := by decide +kernel
theorem kd_Rd_isDigitFrom_8 : decode kb_Rd_isDigitFrom 8 = .ok (.if_icmp .ge 34, 3) := by decide +kernel
theorem kd_Rd_isDigitFrom_11 : decode kb_Rd_isDigitFrom 11 = .ok (.aload_n 0, 1) := by decide +kernel
theorem kd_Rd_isDigitFrom_12 : decode kb_Rd_isDigitFrom 12 = .ok (.getfield 26, 3) := by decide +kernel
theorem kd_Rd_isDigitFrom_15 : decode kb_Rd_isDigitFrom 15 = .ok (.aload_n 0, 1) := by decide +kernel
theorem kd_Rd_isDigitFrom_16 : decode kb_Rd_isDigitFrom 16 = .ok (.getfield 33, 3) := by decide +kernel
theorem kd_Rd_isDigitFrom_19 : decode kb_Rd_isDigitFrom 19 = .ok (.caload, 1) := by decide +kernel
theorem kd_Rd_isDigitFrom_20 : decode kb_Rd_isDigitFrom 20 = .ok (.iload_n 1, 1) := by decide +kernel
theorem kd_Rd_isDigitFrom_21 : decode kb_Rd_isDigitFrom 21 = .ok (.if_icmp .lt 21, 3) := by decide +kernel
theorem kd_Rd_isDigitFrom_24 : decode kb_Rd_isDigitFrom 24 = .ok (.aload_n 0, 1) := by decide +kernel
theorem kd_Rd_isDigitFrom_25 : decode kb_Rd_isDigitFrom 25 = .ok (.getfield 26, 3) := by decide +kernel
theorem kd_Rd_isDigitFrom_28 : decode kb_Rd_isDigitFrom 28 = .ok (.aload_n 0, 1) := by decide +kernel
theorem kd_Rd_isDigitFrom_29 : decode kb_Rd_isDigitFrom 29 = .ok (.getfield 33, 3) := by decide +kernel
theorem kd_Rd_isDigitFrom_32 : decode kb_Rd_isDigitFrom 32 = .ok (.caload, 1) := by decide +kernel
theorem kd_Rd_isDigitFrom_33 : decode kb_Rd_isDigitFrom 33 = .ok (.bipush 57, 2) := by decide +kernel
theorem kd_Rd_isDigitFrom_35 : decode kb_Rd_isDigitFrom 35 = .ok (.if_icmp .gt 7, 3) := by decide +kernel
theorem kd_Rd_isDigitFrom_38 : decode kb_Rd_isDigitFrom 38 = .ok (.iconst 1, 1) := by decide +kernel
theorem kd_Rd_isDigitFrom_39 : decode kb_Rd_isDigitFrom 39 = .ok (.goto 4, 3) := by decide +kernel
theorem kd_Rd_isDigitFrom_42 : decode kb_Rd_isDigitFrom 42 = .ok (.iconst 0, 1) := by decide +kernel
theorem kd_Rd_isDigitFrom_43 : decode kb_Rd_isDigitFrom 43 = .ok (.ireturn, 1) := by decide +kernel
theorem kd_Rd_readClass_0 : decode kb_Rd_readClass 0 = .ok (.aload_n 0, 1) := by decide +kernel
theorem kd_Rd_readClass_1 : decode kb_Rd_readClass 1 = .ok (.dup, 1) := by decide +kernel
theorem kd_Rd_readClass_2 : decode kb_Rd_readClass 2 = .ok (.getfield 33, 3) := by decide +kernel
theorem kd_Rd_readClass_5 : decode kb_Rd_readClass 5 = .ok (.iconst 1, 1) := by decide +kernel
theorem kd_Rd_readClass_6 : decode kb_Rd_readClass 6 = .ok (.iadd, 1) := by decide +kernel
theorem kd_Rd_readClass_7 : decode kb_Rd_readClass 7 = .ok (.putfield 33, 3) := by decide +kernel
theorem kd_Rd_readClass_10 : decode kb_Rd_readClass 10 = .ok (.aload_n 0, 1) := by decide +kernel
theorem kd_Rd_readClass_11 : decode kb_Rd_readClass 11 = .ok (.bipush 94, 2) := by decide +kernel
theorem kd_Rd_readClass_13 : decode kb_Rd_readClass 13 = .ok (.invokevirtual 109, 3) := by decide +kernel
theorem kd_Rd_readClass_16 : decode kb_Rd_readClass 16 = .ok (.istore_n 1, 1) := by decide +kernel
theorem kd_Rd_readClass_17 : decode kb_Rd_readClass 17 = .ok (.iload_n 1, 1) := by decide +kernel
theorem kd_Rd_readClass_18 : decode kb_Rd_readClass 18 = .ok (.ifCond .eq 13, 3) := by decide +kernel
theorem kd_Rd_readClass_21 : decode kb_Rd_readClass 21 = .ok (.aload_n 0, 1) := by decide +kernel
theorem kd_Rd_readClass_22 : decode kb_Rd_readClass 22 = .ok (.dup, 1) := by decide +kernel
theorem kd_Rd_readClass_23 : decode kb_Rd_readClass 23 = .ok (.getfield 33, 3) := by decide +kernel
theorem kd_Rd_readClass_26 : decode kb_Rd_readClass 26 = .ok (.iconst 1, 1) := by decide +kernel
theorem kd_Rd_readClass_27 : decode kb_Rd_readClass 27 = .ok (.iadd, 1) := by decide +kernel
theorem kd_Rd_readClass_28 : decode kb_Rd_readClass 28 = .ok (.putfield 33, 3) := by decide +kernel
theorem kd_Rd_readClass_31 : decode kb_Rd_readClass 31 = .ok (.aload_n 0, 1) := by decide +kernel
theorem kd_Rd_readClass_32 : decode kb_Rd_readClass 32 = .ok (.bipush 93, 2) := by decide +kernel
theorem kd_Rd_readClass_34 : decode kb_Rd_readClass 34 = .ok (.invokevirtual 109, 3) := by decide +kernel
theorem kd_Rd_readClass_37 : decode kb_Rd_readClass 37 = .ok (.ifCond .ne 10, 3) := by decide +kernel
theorem kd_Rd_readClass_40 : decode kb_Rd_readClass 40 = .ok (.aload_n 0, 1) := by decide +kernel
theorem kd_Rd_readClass_41 : decode kb_Rd_readClass 41 = .ok (.invokevirtual 112, 3) := by decide +kernel
theorem kd_Rd_readClass_44 : decode kb_Rd_readClass 44 = .ok (.ifCond .ne 5, 3) := by decide +kernel
theorem kd_Rd_readClass_47 : decode kb_Rd_readClass 47 = .ok (.iconst 0, 1) := by decide +kernel
theorem kd_Rd_readClass_48 : decode kb_Rd_readClass 48 = .ok (.ireturn, 1) := by decide +kernel
theorem kd_Rd_readClass_49 : decode kb_Rd_readClass 49 = .ok (.iconst 0, 1) := by decide +kernel
theorem kd_Rd_readClass_50 : decode kb_Rd_readClass 50 = .ok (.istore_n 2, 1) := by decide +kernel
theorem kd_Rd_readClass_51 : decode kb_Rd_readClass 51 = .ok (.iload_n 2, 1) := by decide +kernel
theorem kd_Rd_readClass_52 : decode kb_Rd_readClass 52 = .ok (.aload_n 0, 1) := by decide +kernel
theorem kd_Rd_readClass_53 : decode kb_Rd_readClass 53 = .ok (.getfield 30, 3) := by decide +kernel
theorem kd_Rd_readClass_56 : decode kb_Rd_readClass 56 = .ok (.if_icmp .ge 53, 3) := by decide +kernel
theorem kd_Rd_readClass_59 : decode kb_Rd_readClass 59 = .ok (.aload_n 0, 1) := by decide +kernel
theorem kd_Rd_readClass_60 : decode kb_Rd_readClass 60 = .ok (.getfield 33, 3) := by decide +kernel
theorem kd_Rd_readClass_63 : decode kb_Rd_readClass 63 = .ok (.aload_n 0, 1) := by decide +kernel
theorem kd_Rd_readClass_64 : decode kb_Rd_readClass 64 = .ok (.getfield 30, 3) := by decide +kernel
theorem kd_Rd_readClass_67 : decode kb_Rd_readClass 67 = .ok (.if_icmp .ge 42, 3) := by decide +kernel
theorem kd_Rd_readClass_70 : decode kb_Rd_readClass 70 = .ok (.aload_n 0, 1) := by decide +kernel
theorem kd_Rd_readClass_71 : decode kb_Rd_readClass 71 = .ok (.getfield 26, 3) := by decide +kernel
theorem kd_Rd_readClass_74 : decode kb_Rd_readClass 74 = .ok (.aload_n 0, 1) := by decide +kernel
theorem kd_Rd_readClass_75 : decode kb_Rd_readClass 75 = .ok (.getfield 33, 3) := by decide +kernel
theorem kd_Rd_readClass_78 : decode kb_Rd_readClass 78 = .ok (.caload, 1) := by decide +kernel
theorem kd_Rd_readClass_79 : decode kb_Rd_readClass 79 = .ok (.bipush 93, 2) := by decide +kernel
theorem kd_Rd_readClass_81 : decode kb_Rd_readClass 81 = .ok (.if_icmp .eq 28, 3) := by decide +kernel
theorem kd_Rd_readClass_84 : decode kb_Rd_readClass 84 = .ok (.aload_n 0, 1) := by decide +kernel
theorem kd_Rd_readClass_85 : decode kb_Rd_readClass 85 = .ok (.invokevirtual 112, 3) := by decide +kernel
theorem kd_Rd_readClass_88 : decode kb_Rd_readClass 88 = .ok (.ifCond .ne 5, 3) := by decide +kernel
theorem kd_Rd_readClass_91 : decode kb_Rd_readClass 91 = .ok (.iconst 0, 1) := by decide +kernel
theorem kd_Rd_readClass_92 : decode kb_Rd_readClass 92 = .ok (.ireturn, 1) := by decide +kernel
theorem kd_Rd_readClass_93 : decode kb_Rd_readClass 93 = .ok (.aload_n 0, 1) := by decide +kernel
theorem kd_Rd_readClass_94 : decode kb_Rd_readClass 94 = .ok (.getfield 39, 3) := by decide +kernel
theorem kd_Rd_readClass_97 : decode kb_Rd_readClass 97 = .ok (.iconst 3, 1) := by decide +kernel
theorem kd_Rd_readClass_98 : decode kb_Rd_readClass 98 = .ok (.iconst 0, 1) := by decide +kernel
theorem kd_Rd_readClass_99 : decode kb_Rd_readClass 99 = .ok (.iconst 0, 1) := by decide +kernel
theorem kd_Rd_readClass_100 : decode kb_Rd_readClass 100 = .ok (.invokevirtual 71, 3) := by decide +kernel
theorem kd_Rd_readClass_103 : decode kb_Rd_readClass 103 = .ok (.iinc 2 1, 3) := by decide +kernel
theorem kd_Rd_readClass_106 : decode kb_Rd_readClass 106 = .ok (.goto (-55), 3) := by decide +kernel
theorem kd_Rd_readClass_109 : decode kb_Rd_readClass 109 = .ok (.aload_n 0, 1) := by decide +kernel
theorem kd_Rd_readClass_110 : decode kb_Rd_readClass 110 = .ok (.bipush 93, 2) := by decide +kernel
theorem kd_Rd_readClass_112 : decode kb_Rd_readClass 112 = .ok (.invokevirtual 109, 3) := by decide +kernel
theorem kd_Rd_readClass_115 : decode kb_Rd_readClass 115 = .ok (.ifCond .ne 5, 3) := by decide +kernel
theorem kd_Rd_readClass_118 : decode kb_Rd_readClass 118 = .ok (.iconst 0, 1) := by decide +kernel
theorem kd_Rd_readClass_119 : decode kb_Rd_readClass 119 = .ok (.ireturn, 1) := by decide +kernel
theorem kd_Rd_readClass_120 : decode kb_Rd_readClass 120 = .ok (.aload_n 0, 1) := by decide +kernel
theorem kd_Rd_readClass_121 : decode kb_Rd_readClass 121 = .ok (.dup, 1) := by decide +kernel
theorem kd_Rd_readClass_122 : decode kb_Rd_readClass 122 = .ok (.getfield 33, 3) := by decide +kernel
theorem kd_Rd_readClass_125 : decode kb_Rd_readClass 125 = .ok (.iconst 1, 1) := by decide +kernel
theorem kd_Rd_readClass_126 : decode kb_Rd_readClass 126 = .ok (.iadd, 1) := by decide +kernel
theorem kd_Rd_readClass_127 : decode kb_Rd_readClass 127 = .ok (.putfield 33, 3) := by decide +kernel
theorem kd_Rd_readClass_130 : decode kb_Rd_readClass 130 = .ok (.iload_n 1, 1) := by decide +kernel
theorem kd_Rd_readClass_131 : decode kb_Rd_readClass 131 = .ok (.ifCond .eq 35, 3) := by decide +kernel
theorem kd_Rd_readClass_134 : decode kb_Rd_readClass 134 = .ok (.aload_n 0, 1) := by decide +kernel
theorem kd_Rd_readClass_135 : decode kb_Rd_readClass 135 = .ok (.getfield 39, 3) := by decide +kernel
theorem kd_Rd_readClass_138 : decode kb_Rd_readClass 138 = .ok (.iconst 5, 1) := by decide +kernel
theorem kd_Rd_readClass_139 : decode kb_Rd_readClass 139 = .ok (.iconst 0, 1) := by decide +kernel
theorem kd_Rd_readClass_140 : decode kb_Rd_readClass 140 = .ok (.iconst 0, 1) := by decide +kernel
theorem kd_Rd_readClass_141 : decode kb_Rd_readClass 141 = .ok (.invokevirtual 71, 3) := by decide +kernel
theorem kd_Rd_readClass_144 : decode kb_Rd_readClass 144 = .ok (.aload_n 0, 1) := by decide +kernel
theorem kd_Rd_readClass_145 : decode kb_Rd_readClass 145 = .ok (.getfield 39, 3) := by decide +kernel
theorem kd_Rd_readClass_148 : decode kb_Rd_readClass 148 = .ok (.iconst 1, 1) := by decide +kernel
theorem kd_Rd_readClass_149 : decode kb_Rd_readClass 149 = .ok (.bipush 32, 2) := by decide +kernel
theorem kd_Rd_readClass_151 : decode kb_Rd_readClass 151 = .ok (.bipush 126, 2) := by decide +kernel
theorem kd_Rd_readClass_153 : decode kb_Rd_readClass 153 = .ok (.invokevirtual 71, 3) := by decide +kernel
theorem kd_Rd_readClass_156 : decode kb_Rd_readClass 156 = .ok (.aload_n 0, 1) := by decide +kernel
theorem kd_Rd_readClass_157 : decode kb_Rd_readClass 157 = .ok (.getfield 39, 3) := by decide +kernel
theorem kd_Rd_readClass_160 : decode kb_Rd_readClass 160 = .ok (.iconst 4, 1) := by decide +kernel
theorem kd_Rd_readClass_161 : decode kb_Rd_readClass 161 = .ok (.iconst 0, 1) := by decide +kernel
theorem kd_Rd_readClass_162 : decode kb_Rd_readClass 162 = .ok (.iconst 0, 1) := by decide +kernel
theorem kd_Rd_readClass_163 : decode kb_Rd_readClass 163 = .ok (.invokevirtual 71, 3) := by decide +kernel
theorem kd_Rd_readClass_166 : decode kb_Rd_readClass 166 = .ok (.iconst 1, 1) := by decide +kernel
theorem kd_Rd_readClass_167 : decode kb_Rd_readClass 167 = .ok (.ireturn, 1) := by decide +kernel
theorem kd_Rd_readItem_0 : decode kb_Rd_readItem 0 = .ok (.aload_n 0, 1) := by decide +kernel
theorem kd_Rd_readItem_1 : decode kb_Rd_readItem 1 = .ok (.getfield 33, 3) := by decide +kernel
theorem kd_Rd_readItem_4 : decode kb_Rd_readItem 4 = .ok (.aload_n 0, 1) := by decide +kernel
theorem kd_Rd_readItem_5 : decode kb_Rd_readItem 5 = .ok (.getfield 30, 3) := by decide +kernel
theorem kd_Rd_readItem_8 : decode kb_Rd_readItem 8 = .ok (.if_icmp .lt 5, 3) := by decide +kernel
theorem kd_Rd_readItem_11 : decode kb_Rd_readItem 11 = .ok (.iconst 0, 1) := by decide +kernel
theorem kd_Rd_readItem_12 : decode kb_Rd_readItem 12 = .ok (.ireturn, 1) := by decide +kernel
theorem kd_Rd_readItem_13 : decode kb_Rd_readItem 13 = .ok (.aload_n 0, 1) := by decide +kernel
theorem kd_Rd_readItem_14 : decode kb_Rd_readItem 14 = .ok (.getfield 26, 3) := by decide +kernel
theorem kd_Rd_readItem_17 : decode kb_Rd_readItem 17 = .ok (.aload_n 0, 1) := by decide +kernel
theorem kd_Rd_readItem_18 : decode kb_Rd_readItem 18 = .ok (.getfield 33, 3) := by decide +kernel
theorem kd_Rd_readItem_21 : decode kb_Rd_readItem 21 = .ok (.caload, 1) := by decide +kernel
theorem kd_Rd_readItem_22 : decode kb_Rd_readItem 22 = .ok (.istore_n 1, 1) := by decide +kernel
theorem kd_Rd_readItem_23 : decode kb_Rd_readItem 23 = .ok (.iload_n 1, 1) := by decide +kernel
theorem kd_Rd_readItem_24 : decode kb_Rd_readItem 24 = .ok (.istore_n 2, 1) := by decide +kernel
theorem kd_Rd_readItem_25 : decode kb_Rd_readItem 25 = .ok (.aload_n 0, 1) := by decide +kernel
theorem kd_Rd_readItem_26 : decode kb_Rd_readItem 26 = .ok (.dup, 1) := by decide +kernel
theorem kd_Rd_readItem_27 : decode kb_Rd_readItem 27 = .ok (.getfield 33, 3) := by decide +kernel
theorem kd_Rd_readItem_30 : decode kb_Rd_readItem 30 = .ok (.iconst 1, 1) := by decide +kernel
theorem kd_Rd_readItem_31 : decode kb_Rd_readItem 31 = .ok (.iadd, 1) := by decide +kernel
theorem kd_Rd_readItem_32 : decode kb_Rd_readItem 32 = .ok (.putfield 33, 3) := by decide +kernel
theorem kd_Rd_readItem_35 : decode kb_Rd_readItem 35 = .ok (.aload_n 0, 1) := by decide +kernel
theorem kd_Rd_readItem_36 : decode kb_Rd_readItem 36 = .ok (.bipush 45, 2) := by decide +kernel
theorem kd_Rd_readItem_38 : decode kb_Rd_readItem 38 = .ok (.invokevirtual 109, 3) := by decide +kernel
theorem kd_Rd_readItem_41 : decode kb_Rd_readItem 41 = .ok (.ifCond .eq 69, 3) := by decide +kernel
theorem kd_Rd_readItem_44 : decode kb_Rd_readItem 44 = .ok (.aload_n 0, 1) := by decide +kernel
theorem kd_Rd_readItem_45 : decode kb_Rd_readItem 45 = .ok (.getfield 33, 3) := by decide +kernel
theorem kd_Rd_readItem_48 : decode kb_Rd_readItem 48 = .ok (.iconst 1, 1) := by decide +kernel
theorem kd_Rd_readItem_49 : decode kb_Rd_readItem 49 = .ok (.iadd, 1) := by decide +kernel
theorem kd_Rd_readItem_50 : decode kb_Rd_readItem 50 = .ok (.aload_n 0, 1) := by decide +kernel
theorem kd_Rd_readItem_51 : decode kb_Rd_readItem 51 = .ok (.getfield 30, 3) := by decide +kernel
theorem kd_Rd_readItem_54 : decode kb_Rd_readItem 54 = .ok (.if_icmp .ge 56, 3) := by decide +kernel
theorem kd_Rd_readItem_57 : decode kb_Rd_readItem 57 = .ok (.aload_n 0, 1) := by decide +kernel
theorem kd_Rd_readItem_58 : decode kb_Rd_readItem 58 = .ok (.getfield 26, 3) := by decide +kernel
theorem kd_Rd_readItem_61 : decode kb_Rd_readItem 61 = .ok (.aload_n 0, 1) := by decide +kernel
theorem kd_Rd_readItem_62 : decode kb_Rd_readItem 62 = .ok (.getfield 33, 3) := by decide +kernel
theorem kd_Rd_readItem_65 : decode kb_Rd_readItem 65 = .ok (.iconst 1, 1) := by decide +kernel
theorem kd_Rd_readItem_66 : decode kb_Rd_readItem 66 = .ok (.iadd, 1) := by decide +kernel
theorem kd_Rd_readItem_67 : decode kb_Rd_readItem 67 = .ok (.caload, 1) := by decide +kernel
theorem kd_Rd_readItem_68 : decode kb_Rd_readItem 68 = .ok (.bipush 93, 2) := by decide +kernel
theorem kd_Rd_readItem_70 : decode kb_Rd_readItem 70 = .ok (.if_icmp .eq 40, 3) := by decide +kernel
theorem kd_Rd_readItem_73 : decode kb_Rd_readItem 73 = .ok (.aload_n 0, 1) := by decide +kernel
theorem kd_Rd_readItem_74 : decode kb_Rd_readItem 74 = .ok (.dup, 1) := by decide +kernel
theorem kd_Rd_readItem_75 : decode kb_Rd_readItem 75 = .ok (.getfield 33, 3) := by decide +kernel
theorem kd_Rd_readItem_78 : decode kb_Rd_readItem 78 = .ok (.iconst 1, 1) := by decide +kernel
theorem kd_Rd_readItem_79 : decode kb_Rd_readItem 79 = .ok (.iadd, 1) := by decide +kernel
theorem kd_Rd_readItem_80 : decode kb_Rd_readItem 80 = .ok (.putfield 33, 3) := by decide +kernel
theorem kd_Rd_readItem_83 : decode kb_Rd_readItem 83 = .ok (.aload_n 0, 1) := by decide +kernel
theorem kd_Rd_readItem_84 : decode kb_Rd_readItem 84 = .ok (.getfield 26, 3) := by decide +kernel
theorem kd_Rd_readItem_87 : decode kb_Rd_readItem 87 = .ok (.aload_n 0, 1) := by decide +kernel
theorem kd_Rd_readItem_88 : decode kb_Rd_readItem 88 = .ok (.getfield 33, 3) := by decide +kernel
theorem kd_Rd_readItem_91 : decode kb_Rd_readItem 91 = .ok (.caload, 1) := by decide +kernel
theorem kd_Rd_readItem_92 : decode kb_Rd_readItem 92 = .ok (.istore_n 2, 1) := by decide +kernel
theorem kd_Rd_readItem_93 : decode kb_Rd_readItem 93 = .ok (.iload_n 2, 1) := by decide +kernel
theorem kd_Rd_readItem_94 : decode kb_Rd_readItem 94 = .ok (.iload_n 1, 1) := by decide +kernel
theorem kd_Rd_readItem_95 : decode kb_Rd_readItem 95 = .ok (.if_icmp .ge 5, 3) := by decide +kernel
theorem kd_Rd_readItem_98 : decode kb_Rd_readItem 98 = .ok (.iconst 0, 1) := by decide +kernel
theorem kd_Rd_readItem_99 : decode kb_Rd_readItem 99 = .ok (.ireturn, 1) := by decide +kernel
theorem kd_Rd_readItem_100 : decode kb_Rd_readItem 100 = .ok (.aload_n 0, 1) := by decide +kernel
theorem kd_Rd_readItem_101 : decode kb_Rd_readItem 101 = .ok (.dup, 1) := by decide +kernel
theorem kd_Rd_readItem_102 : decode kb_Rd_readItem 102 = .ok (.getfield 33, 3) := by decide +kernel
theorem kd_Rd_readItem_105 : decode kb_Rd_readItem 105 = .ok (.iconst 1, 1) := by decide +kernel
theorem kd_Rd_readItem_106 : decode kb_Rd_readItem 106 = .ok (.iadd, 1) := by decide +kernel
theorem kd_Rd_readItem_107 : decode kb_Rd_readItem 107 = .ok (.putfield 33, 3) := by decide +kernel
theorem kd_Rd_readItem_110 : decode kb_Rd_readItem 110 = .ok (.aload_n 0, 1) := by decide +kernel
theorem kd_Rd_readItem_111 : decode kb_Rd_readItem 111 = .ok (.getfield 39, 3) := by decide +kernel
theorem kd_Rd_readItem_114 : decode kb_Rd_readItem 114 = .ok (.iconst 1, 1) := by decide +kernel
theorem kd_Rd_readItem_115 : decode kb_Rd_readItem 115 = .ok (.iload_n 1, 1) := by decide +kernel
theorem kd_Rd_readItem_116 : decode kb_Rd_readItem 116 = .ok (.iload_n 2, 1) := by decide +kernel
theorem kd_Rd_readItem_117 : decode kb_Rd_readItem 117 = .ok (.invokevirtual 71, 3) := by decide +kernel
theorem kd_Rd_readItem_120 : decode kb_Rd_readItem 120 = .ok (.iconst 1, 1) := by decide +kernel
theorem kd_Rd_readItem_121 : decode kb_Rd_readItem 121 = .ok (.ireturn, 1) := by decide +kernel
theorem kd_Lw_law_0 : decode kb_Lw_law 0 = .ok (.new 7, 3) := by decide +kernel
theorem kd_Lw_law_3 : decode kb_Lw_law 3 = .ok (.dup, 1) := by decide +kernel
theorem kd_Lw_law_4 : decode kb_Lw_law 4 = .ok (.invokespecial 9, 3) := by decide +kernel
theorem kd_Lw_law_7 : decode kb_Lw_law 7 = .ok (.astore_n 1, 1) := by decide +kernel
theorem kd_Lw_law_8 : decode kb_Lw_law 8 = .ok (.new 10, 3) := by decide +kernel
theorem kd_Lw_law_11 : decode kb_Lw_law 11 = .ok (.dup, 1) := by decide +kernel
theorem kd_Lw_law_12 : decode kb_Lw_law 12 = .ok (.invokespecial 12, 3) := by decide +kernel
theorem kd_Lw_law_15 : decode kb_Lw_law 15 = .ok (.astore_n 2, 1) := by decide +kernel
theorem kd_Lw_law_16 : decode kb_Lw_law 16 = .ok (.iconst 0, 1) := by decide +kernel
theorem kd_Lw_law_17 : decode kb_Lw_law 17 = .ok (.istore_n 3, 1) := by decide +kernel
theorem kd_Lw_law_18 : decode kb_Lw_law 18 = .ok (.iload_n 3, 1) := by decide +kernel
theorem kd_Lw_law_19 : decode kb_Lw_law 19 = .ok (.aload_n 0, 1) := by decide +kernel
theorem kd_Lw_law_20 : decode kb_Lw_law 20 = .ok (.arraylength, 1) := by decide +kernel
theorem kd_Lw_law_21 : decode kb_Lw_law 21 = .ok (.iconst 3, 1) := by decide +kernel
theorem kd_Lw_law_22 : decode kb_Lw_law 22 = .ok (.isub, 1) := by decide +kernel
theorem kd_Lw_law_23 : decode kb_Lw_law 23 = .ok (.if_icmp .gt 313, 3) := by decide +kernel
theorem kd_Lw_law_26 : decode kb_Lw_law 26 = .ok (.aload_n 0, 1) := by decide +kernel
theorem kd_Lw_law_27 : decode kb_Lw_law 27 = .ok (.iload_n 3, 1) := by decide +kernel
theorem kd_Lw_law_28 : decode kb_Lw_law 28 = .ok (.iaload, 1) := by decide +kernel
theorem kd_Lw_law_29 : decode kb_Lw_law 29 = .ok (.bipush 15, 2) := by decide +kernel
theorem kd_Lw_law_31 : decode kb_Lw_law 31 = .ok (.iand, 1) := by decide +kernel
theorem kd_Lw_law_32 : decode kb_Lw_law 32 = .ok (.tableswitch 298 0 9 #[56, 81, 104, 117, 140, 173, 196, 219, 252, 275], 56) := by decide +kernel
theorem kd_Lw_law_88 : decode kb_Lw_law 88 = .ok (.aload_n 1, 1) := by decide +kernel
theorem kd_Lw_law_89 : decode kb_Lw_law 89 = .ok (.aload_n 0, 1) := by decide +kernel
theorem kd_Lw_law_90 : decode kb_Lw_law 90 = .ok (.iload_n 3, 1) := by decide +kernel
theorem kd_Lw_law_91 : decode kb_Lw_law 91 = .ok (.iconst 1, 1) := by decide +kernel
theorem kd_Lw_law_92 : decode kb_Lw_law 92 = .ok (.iadd, 1) := by decide +kernel
theorem kd_Lw_law_93 : decode kb_Lw_law 93 = .ok (.iaload, 1) := by decide +kernel
theorem kd_Lw_law_94 : decode kb_Lw_law 94 = .ok (.i2c, 1) := by decide +kernel
theorem kd_Lw_law_95 : decode kb_Lw_law 95 = .ok (.invokevirtual 13, 3) := by decide +kernel
theorem kd_Lw_law_98 : decode kb_Lw_law 98 = .ok (.aload_n 2, 1) := by decide +kernel
theorem kd_Lw_law_99 : decode kb_Lw_law 99 = .ok (.aload_n 0, 1) := by decide +kernel
