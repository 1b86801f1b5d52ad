theorem kd_Mc_init_9 : decode kb_Mc_init 9 = .ok (.multianewarray 9 2, 4) := by decide +kernel
theorem kd_Mc_init_13 : decode kb_Mc_init 13 = .ok (.putfield 11, 3) := by decide +kernel
theorem kd_Mc_init_16 : decode kb_Mc_init 16 = .ok (.return_, 1) := by decide +kernel
theorem kd_Mc_run_0 : decode kb_Mc_run 0 = .ok (.iconst 0, 1) := by decide +kernel
theorem kd_Mc_run_1 : decode kb_Mc_run 1 = .ok (.istore_n 3, 1) := by decide +kernel
theorem kd_Mc_run_2 : decode kb_Mc_run 2 = .ok (.iconst 0, 1) := by decide +kernel
theorem kd_Mc_run_3 : decode kb_Mc_run 3 = .ok (.istore 4, 2) := by decide +kernel
theorem kd_Mc_run_5 : decode kb_Mc_run 5 = .ok (.iload 4, 2) := by decide +kernel
theorem kd_Mc_run_7 : decode kb_Mc_run 7 = .ok (.aload_n 1, 1) := by decide +kernel
theorem kd_Mc_run_8 : decode kb_Mc_run 8 = .ok (.getfield 16, 3) := by decide +kernel
theorem kd_Mc_run_11 : decode kb_Mc_run 11 = .ok (.if_icmp .ge 232, 3) := by decide +kernel
theorem kd_Mc_run_14 : decode kb_Mc_run 14 = .ok (.aload_n 1, 1) := by decide +kernel
theorem kd_Mc_run_15 : decode kb_Mc_run 15 = .ok (.getfield 22, 3) := by decide +kernel
theorem kd_Mc_run_18 : decode kb_Mc_run 18 = .ok (.iload 4, 2) := by decide +kernel
theorem kd_Mc_run_20 : decode kb_Mc_run 20 = .ok (.iaload, 1) := by decide +kernel
theorem kd_Mc_run_21 : decode kb_Mc_run 21 = .ok (.iload_n 3, 1) := by decide +kernel
theorem kd_Mc_run_22 : decode kb_Mc_run 22 = .ok (.invokestatic 26, 3) := by decide +kernel
theorem kd_Mc_run_25 : decode kb_Mc_run 25 = .ok (.ifCond .eq 218, 3) := by decide +kernel
theorem kd_Mc_run_28 : decode kb_Mc_run 28 = .ok (.aload_n 1, 1) := by decide +kernel
theorem kd_Mc_run_29 : decode kb_Mc_run 29 = .ok (.getfield 30, 3) := by decide +kernel
theorem kd_Mc_run_32 : decode kb_Mc_run 32 = .ok (.iload 4, 2) := by decide +kernel
theorem kd_Mc_run_34 : decode kb_Mc_run 34 = .ok (.iaload, 1) := by decide +kernel
theorem kd_Mc_run_35 : decode kb_Mc_run 35 = .ok (.istore 5, 2) := by decide +kernel
theorem kd_Mc_run_37 : decode kb_Mc_run 37 = .ok (.aload_n 1, 1) := by decide +kernel
theorem kd_Mc_run_38 : decode kb_Mc_run 38 = .ok (.getfield 33, 3) := by decide +kernel
theorem kd_Mc_run_41 : decode kb_Mc_run 41 = .ok (.iload 4, 2) := by decide +kernel
theorem kd_Mc_run_43 : decode kb_Mc_run 43 = .ok (.iaload, 1) := by decide +kernel
theorem kd_Mc_run_44 : decode kb_Mc_run 44 = .ok (.istore 6, 2) := by decide +kernel
theorem kd_Mc_run_46 : decode kb_Mc_run 46 = .ok (.aload_n 1, 1) := by decide +kernel
theorem kd_Mc_run_47 : decode kb_Mc_run 47 = .ok (.getfield 22, 3) := by decide +kernel
theorem kd_Mc_run_50 : decode kb_Mc_run 50 = .ok (.iload 4, 2) := by decide +kernel
theorem kd_Mc_run_52 : decode kb_Mc_run 52 = .ok (.iaload, 1) := by decide +kernel
theorem kd_Mc_run_53 : decode kb_Mc_run 53 = .ok (.tableswitch 162 0 5 #[39, 55, 75, 99, 123, 147], 39) := by decide +kernel
theorem kd_Mc_run_92 : decode kb_Mc_run 92 = .ok (.aload_n 2, 1) := by decide +kernel
theorem kd_Mc_run_93 : decode kb_Mc_run 93 = .ok (.aload_n 0, 1) := by decide +kernel
theorem kd_Mc_run_94 : decode kb_Mc_run 94 = .ok (.getfield 11, 3) := by decide +kernel
theorem kd_Mc_run_97 : decode kb_Mc_run 97 = .ok (.iload_n 3, 1) := by decide +kernel
theorem kd_Mc_run_98 : decode kb_Mc_run 98 = .ok (.aaload, 1) := by decide +kernel
theorem kd_Mc_run_99 : decode kb_Mc_run 99 = .ok (.invokestatic 36, 3) := by decide +kernel
theorem kd_Mc_run_102 : decode kb_Mc_run 102 = .ok (.iinc 3 1, 3) := by decide +kernel
theorem kd_Mc_run_105 : decode kb_Mc_run 105 = .ok (.goto 132, 3) := by decide +kernel
theorem kd_Mc_run_108 : decode kb_Mc_run 108 = .ok (.aload_n 2, 1) := by decide +kernel
theorem kd_Mc_run_109 : decode kb_Mc_run 109 = .ok (.aload_n 0, 1) := by decide +kernel
theorem kd_Mc_run_110 : decode kb_Mc_run 110 = .ok (.getfield 11, 3) := by decide +kernel
theorem kd_Mc_run_113 : decode kb_Mc_run 113 = .ok (.iload_n 3, 1) := by decide +kernel
theorem kd_Mc_run_114 : decode kb_Mc_run 114 = .ok (.aaload, 1) := by decide +kernel
theorem kd_Mc_run_115 : decode kb_Mc_run 115 = .ok (.iload 5, 2) := by decide +kernel
theorem kd_Mc_run_117 : decode kb_Mc_run 117 = .ok (.iload 6, 2) := by decide +kernel
theorem kd_Mc_run_119 : decode kb_Mc_run 119 = .ok (.invokestatic 40, 3) := by decide +kernel
theorem kd_Mc_run_122 : decode kb_Mc_run 122 = .ok (.iinc 3 1, 3) := by decide +kernel
theorem kd_Mc_run_125 : decode kb_Mc_run 125 = .ok (.goto 112, 3) := by decide +kernel
theorem kd_Mc_run_128 : decode kb_Mc_run 128 = .ok (.iinc 3 (-1), 3) := by decide +kernel
theorem kd_Mc_run_131 : decode kb_Mc_run 131 = .ok (.aload_n 2, 1) := by decide +kernel
theorem kd_Mc_run_132 : decode kb_Mc_run 132 = .ok (.aload_n 0, 1) := by decide +kernel
theorem kd_Mc_run_133 : decode kb_Mc_run 133 = .ok (.getfield 11, 3) := by decide +kernel
theorem kd_Mc_run_136 : decode kb_Mc_run 136 = .ok (.iload_n 3, 1) := by decide +kernel
theorem kd_Mc_run_137 : decode kb_Mc_run 137 = .ok (.iconst 1, 1) := by decide +kernel
theorem kd_Mc_run_138 : decode kb_Mc_run 138 = .ok (.isub, 1) := by decide +kernel
theorem kd_Mc_run_139 : decode kb_Mc_run 139 = .ok (.aaload, 1) := by decide +kernel
theorem kd_Mc_run_140 : decode kb_Mc_run 140 = .ok (.aload_n 0, 1) := by decide +kernel
theorem kd_Mc_run_141 : decode kb_Mc_run 141 = .ok (.getfield 11, 3) := by decide +kernel
theorem kd_Mc_run_144 : decode kb_Mc_run 144 = .ok (.iload_n 3, 1) := by decide +kernel
theorem kd_Mc_run_145 : decode kb_Mc_run 145 = .ok (.aaload, 1) := by decide +kernel
theorem kd_Mc_run_146 : decode kb_Mc_run 146 = .ok (.invokestatic 44, 3) := by decide +kernel
theorem kd_Mc_run_149 : decode kb_Mc_run 149 = .ok (.goto 88, 3) := by decide +kernel
theorem kd_Mc_run_152 : decode kb_Mc_run 152 = .ok (.iinc 3 (-1), 3) := by decide +kernel
theorem kd_Mc_run_155 : decode kb_Mc_run 155 = .ok (.aload_n 2, 1) := by decide +kernel
theorem kd_Mc_run_156 : decode kb_Mc_run 156 = .ok (.aload_n 0, 1) := by decide +kernel
theorem kd_Mc_run_157 : decode kb_Mc_run 157 = .ok (.getfield 11, 3) := by decide +kernel
theorem kd_Mc_run_160 : decode kb_Mc_run 160 = .ok (.iload_n 3, 1) := by decide +kernel
theorem kd_Mc_run_161 : decode kb_Mc_run 161 = .ok (.iconst 1, 1) := by decide +kernel
theorem kd_Mc_run_162 : decode kb_Mc_run 162 = .ok (.isub, 1) := by decide +kernel
theorem kd_Mc_run_163 : decode kb_Mc_run 163 = .ok (.aaload, 1) := by decide +kernel
theorem kd_Mc_run_164 : decode kb_Mc_run 164 = .ok (.aload_n 0, 1) := by decide +kernel
theorem kd_Mc_run_165 : decode kb_Mc_run 165 = .ok (.getfield 11, 3) := by decide +kernel
theorem kd_Mc_run_168 : decode kb_Mc_run 168 = .ok (.iload_n 3, 1) := by decide +kernel
theorem kd_Mc_run_169 : decode kb_Mc_run 169 = .ok (.aaload, 1) := by decide +kernel
theorem kd_Mc_run_170 : decode kb_Mc_run 170 = .ok (.invokestatic 48, 3) := by decide +kernel
theorem kd_Mc_run_173 : decode kb_Mc_run 173 = .ok (.goto 64, 3) := by decide +kernel
theorem kd_Mc_run_176 : decode kb_Mc_run 176 = .ok (.iinc 3 (-1), 3) := by decide +kernel
theorem kd_Mc_run_179 : decode kb_Mc_run 179 = .ok (.aload_n 2, 1) := by decide +kernel
theorem kd_Mc_run_180 : decode kb_Mc_run 180 = .ok (.aload_n 0, 1) := by decide +kernel
theorem kd_Mc_run_181 : decode kb_Mc_run 181 = .ok (.getfield 11, 3) := by decide +kernel
theorem kd_Mc_run_184 : decode kb_Mc_run 184 = .ok (.iload_n 3, 1) := by decide +kernel
theorem kd_Mc_run_185 : decode kb_Mc_run 185 = .ok (.iconst 1, 1) := by decide +kernel
theorem kd_Mc_run_186 : decode kb_Mc_run 186 = .ok (.isub, 1) := by decide +kernel
theorem kd_Mc_run_187 : decode kb_Mc_run 187 = .ok (.aaload, 1) := by decide +kernel
theorem kd_Mc_run_188 : decode kb_Mc_run 188 = .ok (.aload_n 0, 1) := by decide +kernel
theorem kd_Mc_run_189 : decode kb_Mc_run 189 = .ok (.getfield 11, 3) := by decide +kernel
theorem kd_Mc_run_192 : decode kb_Mc_run 192 = .ok (.iload_n 3, 1) := by decide +kernel
theorem kd_Mc_run_193 : decode kb_Mc_run 193 = .ok (.aaload, 1) := by decide +kernel
theorem kd_Mc_run_194 : decode kb_Mc_run 194 = .ok (.invokestatic 51, 3) := by decide +kernel
theorem kd_Mc_run_197 : decode kb_Mc_run 197 = .ok (.goto 40, 3) := by decide +kernel
theorem kd_Mc_run_200 : decode kb_Mc_run 200 = .ok (.aload_n 2, 1) := by decide +kernel
theorem kd_Mc_run_201 : decode kb_Mc_run 201 = .ok (.aload_n 0, 1) := by decide +kernel
theorem kd_Mc_run_202 : decode kb_Mc_run 202 = .ok (.getfield 11, 3) := by decide +kernel
theorem kd_Mc_run_205 : decode kb_Mc_run 205 = .ok (.iload_n 3, 1) := by decide +kernel
theorem kd_Mc_run_206 : decode kb_Mc_run 206 = .ok (.iconst 1, 1) := by decide +kernel
theorem kd_Mc_run_207 : decode kb_Mc_run 207 = .ok (.isub, 1) := by decide +kernel
theorem kd_Mc_run_208 : decode kb_Mc_run 208 = .ok (.aaload, 1) := by decide +kernel
theorem kd_Mc_run_209 : decode kb_Mc_run 209 = .ok (.invokestatic 54, 3) := by decide +kernel
theorem kd_Mc_run_212 : decode kb_Mc_run 212 = .ok (.goto 25, 3) := by decide +kernel
theorem kd_Mc_run_215 : decode kb_Mc_run 215 = .ok (.aload_n 2, 1) := by decide +kernel
theorem kd_Mc_run_216 : decode kb_Mc_run 216 = .ok (.aload_n 0, 1) := by decide +kernel
theorem kd_Mc_run_217 : decode kb_Mc_run 217 = .ok (.getfield 11, 3) := by decide +kernel
theorem kd_Mc_run_220 : decode kb_Mc_run 220 = .ok (.iload_n 3, 1) := by decide +kernel
theorem kd_Mc_run_221 : decode kb_Mc_run 221 = .ok (.iconst 1, 1) := by decide +kernel
theorem kd_Mc_run_222 : decode kb_Mc_run 222 = .ok (.isub, 1) := by decide +kernel
theorem kd_Mc_run_223 : decode kb_Mc_run 223 = .ok (.aaload, 1) := by decide +kernel
theorem kd_Mc_run_224 : decode kb_Mc_run 224 = .ok (.aload_n 0, 1) := by decide +kernel
theorem kd_Mc_run_225 : decode kb_Mc_run 225 = .ok (.getfield 11, 3) := by decide +kernel
theorem kd_Mc_run_228 : decode kb_Mc_run 228 = .ok (.iload_n 3, 1) := by decide +kernel
theorem kd_Mc_run_229 : decode kb_Mc_run 229 = .ok (.aaload, 1) := by decide +kernel
theorem kd_Mc_run_230 : decode kb_Mc_run 230 = .ok (.iload 5, 2) := by decide +kernel
theorem kd_Mc_run_232 : decode kb_Mc_run 232 = .ok (.iload 6, 2) := by decide +kernel
theorem kd_Mc_run_234 : decode kb_Mc_run 234 = .ok (.invokestatic 57, 3) := by decide +kernel
theorem kd_Mc_run_237 : decode kb_Mc_run 237 = .ok (.iinc 4 1, 3) := by decide +kernel
theorem kd_Mc_run_240 : decode kb_Mc_run 240 = .ok (.goto (-235), 3) := by decide +kernel
theorem kd_Mc_run_243 : decode kb_Mc_run 243 = .ok (.aload_n 0, 1) := by decide +kernel
theorem kd_Mc_run_244 : decode kb_Mc_run 244 = .ok (.getfield 11, 3) := by decide +kernel
theorem kd_Mc_run_247 : decode kb_Mc_run 247 = .ok (.iconst 0, 1) := by decide +kernel
theorem kd_Mc_run_248 : decode kb_Mc_run 248 = .ok (.aaload, 1) := by decide +kernel
theorem kd_Mc_run_249 : decode kb_Mc_run 249 = .ok (.areturn, 1) := by decide +kernel
theorem kd_Mc_hasRowsFor_0 : decode kb_Mc_hasRowsFor 0 = .ok (.iload_n 1, 1) := by decide +kernel
theorem kd_Mc_hasRowsFor_1 : decode kb_Mc_hasRowsFor 1 = .ok (.iload_n 0, 1) := by decide +kernel
theorem kd_Mc_hasRowsFor_2 : decode kb_Mc_hasRowsFor 2 = .ok (.invokestatic 61, 3) := by decide +kernel
theorem kd_Mc_hasRowsFor_5 : decode kb_Mc_hasRowsFor 5 = .ok (.if_icmp .lt 13, 3) := by decide +kernel
theorem kd_Mc_hasRowsFor_8 : decode kb_Mc_hasRowsFor 8 = .ok (.iload_n 1, 1) := by decide +kernel
theorem kd_Mc_hasRowsFor_9 : decode kb_Mc_hasRowsFor 9 = .ok (.bipush 41, 2) := by decide +kernel
theorem kd_Mc_hasRowsFor_11 : decode kb_Mc_hasRowsFor 11 = .ok (.if_icmp .ge 7, 3) := by decide +kernel
theorem kd_Mc_hasRowsFor_14 : decode kb_Mc_hasRowsFor 14 = .ok (.iconst 1, 1) := by decide +kernel
theorem kd_Mc_hasRowsFor_15 : decode kb_Mc_hasRowsFor 15 = .ok (.goto 4, 3) := by decide +kernel
theorem kd_Mc_hasRowsFor_18 : decode kb_Mc_hasRowsFor 18 = .ok (.iconst 0, 1) := by decide +kernel
theorem kd_Mc_hasRowsFor_19 : decode kb_Mc_hasRowsFor 19 = .ok (.ireturn, 1) := by decide +kernel
theorem kd_Mc_valuesTakenBy_0 : decode kb_Mc_valuesTakenBy 0 = .ok (.iload_n 0, 1) := by decide +kernel
theorem kd_Mc_valuesTakenBy_1 : decode kb_Mc_valuesTakenBy 1 = .ok (.tableswitch 47 0 6 #[43, 43, 47, 47, 47, 45, 45], 43) := by decide +kernel
theorem kd_Mc_valuesTakenBy_44 : decode kb_Mc_valuesTakenBy 44 = .ok (.iconst 0, 1) := by decide +kernel
theorem kd_Mc_valuesTakenBy_45 : decode kb_Mc_valuesTakenBy 45 = .ok (.ireturn, 1) := by decide +kernel
theorem kd_Mc_valuesTakenBy_46 : decode kb_Mc_valuesTakenBy 46 = .ok (.iconst 1, 1) := by decide +kernel
theorem kd_Mc_valuesTakenBy_47 : decode kb_Mc_valuesTakenBy 47 = .ok (.ireturn, 1) := by decide +kernel
theorem kd_Mc_valuesTakenBy_48 : decode kb_Mc_valuesTakenBy 48 = .ok (.iconst 2, 1) := by decide +kernel
theorem kd_Mc_valuesTakenBy_49 : decode kb_Mc_valuesTakenBy 49 = .ok (.ireturn, 1) := by decide +kernel
theorem kd_Mc_putEmpty_0 : decode kb_Mc_putEmpty 0 = .ok (.iconst 0, 1) := by decide +kernel
theorem kd_Mc_putEmpty_1 : decode kb_Mc_putEmpty 1 = .ok (.istore_n 2, 1) := by decide +kernel
theorem kd_Mc_putEmpty_2 : decode kb_Mc_putEmpty 2 = .ok (.iload_n 2, 1) := by decide +kernel
theorem kd_Mc_putEmpty_3 : decode kb_Mc_putEmpty 3 = .ok (.aload_n 0, 1) := by decide +kernel
theorem kd_Mc_putEmpty_4 : decode kb_Mc_putEmpty 4 = .ok (.getfield 65, 3) := by decide +kernel
theorem kd_Mc_putEmpty_7 : decode kb_Mc_putEmpty 7 = .ok (.if_icmp .gt 13, 3) := by decide +kernel
theorem kd_Mc_putEmpty_10 : decode kb_Mc_putEmpty 10 = .ok (.aload_n 1, 1) := by decide +kernel
theorem kd_Mc_putEmpty_11 : decode kb_Mc_putEmpty 11 = .ok (.iload_n 2, 1) := by decide +kernel
theorem kd_Mc_putEmpty_12 : decode kb_Mc_putEmpty 12 = .ok (.iconst 1, 1) := by decide +kernel
theorem kd_Mc_putEmpty_13 : decode kb_Mc_putEmpty 13 = .ok (.iastore, 1) := by decide +kernel
theorem kd_Mc_putEmpty_14 : decode kb_Mc_putEmpty 14 = .ok (.iinc 2 1, 3) := by decide +kernel
theorem kd_Mc_putEmpty_17 : decode kb_Mc_putEmpty 17 = .ok (.goto (-15), 3) := by decide +kernel
theorem kd_Mc_putEmpty_20 : decode kb_Mc_putEmpty 20 = .ok (.return_, 1) := by decide +kernel
theorem kd_Mc_putRange_0 : decode kb_Mc_putRange 0 = .ok (.iconst 0, 1) := by decide +kernel
theorem kd_Mc_putRange_1 : decode kb_Mc_putRange 1 = .ok (.istore 4, 2) := by decide +kernel
theorem kd_Mc_putRange_3 : decode kb_Mc_putRange 3 = .ok (.iload 4, 2) := by decide +kernel
theorem kd_Mc_putRange_5 : decode kb_Mc_putRange 5 = .ok (.aload_n 0, 1) := by decide +kernel
theorem kd_Mc_putRange_6 : decode kb_Mc_putRange 6 = .ok (.getfield 65, 3) := by decide +kernel
theorem kd_Mc_putRange_9 : decode kb_Mc_putRange 9 = .ok (.if_icmp .ge 39, 3) := by decide +kernel
theorem kd_Mc_putRange_12 : decode kb_Mc_putRange 12 = .ok (.aload_n 0, 1) := by decide +kernel
theorem kd_Mc_putRange_13 : decode kb_Mc_putRange 13 = .ok (.getfield 70, 3) := by decide +kernel
theorem kd_Mc_putRange_16 : decode kb_Mc_putRange 16 = .ok (.iload 4, 2) := by decide +kernel
theorem kd_Mc_putRange_18 : decode kb_Mc_putRange 18 = .ok (.caload, 1) := by decide +kernel
theorem kd_Mc_putRange_19 : decode kb_Mc_putRange 19 = .ok (.istore 5, 2) := by decide +kernel
theorem kd_Mc_putRange_21 : decode kb_Mc_putRange 21 = .ok (.aload_n 1, 1) := by decide +kernel
theorem kd_Mc_putRange_22 : decode kb_Mc_putRange 22 = .ok (.iload 4, 2) := by decide +kernel
theorem kd_Mc_putRange_24 : decode kb_Mc_putRange 24 = .ok (.iload 5, 2) := by decide +kernel
theorem kd_Mc_putRange_26 : decode kb_Mc_putRange 26 = .ok (.iload_n 2, 1) := by decide +kernel
theorem kd_Mc_putRange_27 : decode kb_Mc_putRange 27 = .ok (.if_icmp .lt 13, 3) := by decide +kernel
theorem kd_Mc_putRange_30 : decode kb_Mc_putRange 30 = .ok (.iload 5, 2) := by decide +kernel
theorem kd_Mc_putRange_32 : decode kb_Mc_putRange 32 = .ok (.iload_n 3, 1) := by decide +kernel
theorem kd_Mc_putRange_33 : decode kb_Mc_putRange 33 = .ok (.if_icmp .gt 7, 3) := by decide +kernel
theorem kd_Mc_putRange_36 : decode kb_Mc_putRange 36 = .ok (.iconst 2, 1) := by decide +kernel
theorem kd_Mc_putRange_37 : decode kb_Mc_putRange 37 = .ok (.goto 4, 3) := by decide +kernel
theorem kd_Mc_putRange_40 : decode kb_Mc_putRange 40 = .ok (.iconst 0, 1) := by decide +kernel
theorem kd_Mc_putRange_41 : decode kb_Mc_putRange 41 = .ok (.iastore, 1) := by decide +kernel
theorem kd_Mc_putRange_42 : decode kb_Mc_putRange 42 = .ok (.iinc 4 1, 3) := by decide +kernel
theorem kd_Mc_putRange_45 : decode kb_Mc_putRange 45 = .ok (.goto (-42), 3) := by decide +kernel
theorem kd_Mc_putRange_48 : decode kb_Mc_putRange 48 = .ok (.aload_n 1, 1) := by decide +kernel
theorem kd_Mc_putRange_49 : decode kb_Mc_putRange 49 = .ok (.aload_n 0, 1) := by decide +kernel
theorem kd_Mc_putRange_50 : decode kb_Mc_putRange 50 = .ok (.getfield 65, 3) := by decide +kernel
theorem kd_Mc_putRange_53 : decode kb_Mc_putRange 53 = .ok (.iconst 0, 1) := by decide +kernel
theorem kd_Mc_putRange_54 : decode kb_Mc_putRange 54 = .ok (.iastore, 1) := by decide +kernel
theorem kd_Mc_putRange_55 : decode kb_Mc_putRange 55 = .ok (.return_, 1) := by decide +kernel
theorem kd_Mc_unite_0 : decode kb_Mc_unite 0 = .ok (.iconst 0, 1) := by decide +kernel
theorem kd_Mc_unite_1 : decode kb_Mc_unite 1 = .ok (.istore_n 3, 1) := by decide +kernel
theorem kd_Mc_unite_2 : decode kb_Mc_unite 2 = .ok (.iload_n 3, 1) := by decide +kernel
theorem kd_Mc_unite_3 : decode kb_Mc_unite 3 = .ok (.aload_n 0, 1) := by decide +kernel
theorem kd_Mc_unite_4 : decode kb_Mc_unite 4 = .ok (.getfield 65, 3) := by decide +kernel
theorem kd_Mc_unite_7 : decode kb_Mc_unite 7 = .ok (.if_icmp .gt 18, 3) := by decide +kernel
theorem kd_Mc_unite_10 : decode kb_Mc_unite 10 = .ok (.aload_n 1, 1) := by decide +kernel
theorem kd_Mc_unite_11 : decode kb_Mc_unite 11 = .ok (.iload_n 3, 1) := by decide +kernel
theorem kd_Mc_unite_12 : decode kb_Mc_unite 12 = .ok (.dup2, 1) := by decide +kernel
theorem kd_Mc_unite_13 : decode kb_Mc_unite 13 = .ok (.iaload, 1) := by decide +kernel
theorem kd_Mc_unite_14 : decode kb_Mc_unite 14 = .ok (.aload_n 2, 1) := by decide +kernel
theorem kd_Mc_unite_15 : decode kb_Mc_unite 15 = .ok (.iload_n 3, 1) := by decide +kernel
theorem kd_Mc_unite_16 : decode kb_Mc_unite 16 = .ok (.iaload, 1) := by decide +kernel
theorem kd_Mc_unite_17 : decode kb_Mc_unite 17 = .ok (.ior, 1) := by decide +kernel
theorem kd_Mc_unite_18 : decode kb_Mc_unite 18 = .ok (.iastore, 1) := by decide +kernel
theorem kd_Mc_unite_19 : decode kb_Mc_unite 19 = .ok (.iinc 3 1, 3) := by decide +kernel
theorem kd_Mc_unite_22 : decode kb_Mc_unite 22 = .ok (.goto (-20), 3) := by decide +kernel
theorem kd_Mc_unite_25 : decode kb_Mc_unite 25 = .ok (.return_, 1) := by decide +kernel
theorem kd_Mc_intersect_0 : decode kb_Mc_intersect 0 = .ok (.iconst 0, 1) := by decide +kernel
theorem kd_Mc_intersect_1 : decode kb_Mc_intersect 1 = .ok (.istore_n 3, 1) := by decide +kernel
theorem kd_Mc_intersect_2 : decode kb_Mc_intersect 2 = .ok (.iload_n 3, 1) := by decide +kernel
theorem kd_Mc_intersect_3 : decode kb_Mc_intersect 3 = .ok (.aload_n 0, 1) := by decide +kernel
theorem kd_Mc_intersect_4 : decode kb_Mc_intersect 4 = .ok (.getfield 65, 3) := by decide +kernel
theorem kd_Mc_intersect_7 : decode kb_Mc_intersect 7 = .ok (.if_icmp .gt 18, 3) := by decide +kernel
theorem kd_Mc_intersect_10 : decode kb_Mc_intersect 10 = .ok (.aload_n 1, 1) := by decide +kernel
theorem kd_Mc_intersect_11 : decode kb_Mc_intersect 11 = .ok (.iload_n 3, 1) := by decide +kernel
theorem kd_Mc_intersect_12 : decode kb_Mc_intersect 12 = .ok (.dup2, 1) := by decide +kernel
theorem kd_Mc_intersect_13 : decode kb_Mc_intersect 13 = .ok (.iaload, 1) := by decide +kernel
theorem kd_Mc_intersect_14 : decode kb_Mc_intersect 14 = .ok (.aload_n 2, 1) := by decide +kernel
theorem kd_Mc_intersect_15 : decode kb_Mc_intersect 15 = .ok (.iload_n 3, 1) := by decide +kernel
theorem kd_Mc_intersect_16 : decode kb_Mc_intersect 16 = .ok (.iaload, 1) := by decide +kernel
theorem kd_Mc_intersect_17 : decode kb_Mc_intersect 17 = .ok (.iand, 1) := by decide +kernel
theorem kd_Mc_intersect_18 : decode kb_Mc_intersect 18 = .ok (.iastore, 1) := by decide +kernel
theorem kd_Mc_intersect_19 : decode kb_Mc_intersect 19 = .ok (.iinc 3 1, 3) := by decide +kernel
theorem kd_Mc_intersect_22 : decode kb_Mc_intersect 22 = .ok (.goto (-20), 3) := by decide +kernel
theorem kd_Mc_intersect_25 : decode kb_Mc_intersect 25 = .ok (.return_, 1) := by decide +kernel
theorem kd_Mc_complement_0 : decode kb_Mc_complement 0 = .ok (.iconst 0, 1) := by decide +kernel
theorem kd_Mc_complement_1 : decode kb_Mc_complement 1 = .ok (.istore_n 2, 1) := by decide +kernel
theorem kd_Mc_complement_2 : decode kb_Mc_complement 2 = .ok (.iload_n 2, 1) := by decide +kernel
theorem kd_Mc_complement_3 : decode kb_Mc_complement 3 = .ok (.aload_n 0, 1) := by decide +kernel
theorem kd_Mc_complement_4 : decode kb_Mc_complement 4 = .ok (.getfield 65, 3) := by decide +kernel
theorem kd_Mc_complement_7 : decode kb_Mc_complement 7 = .ok (.if_icmp .gt 26, 3) := by decide +kernel
theorem kd_Mc_complement_10 : decode kb_Mc_complement 10 = .ok (.aload_n 1, 1) := by decide +kernel
theorem kd_Mc_complement_11 : decode kb_Mc_complement 11 = .ok (.iload_n 2, 1) := by decide +kernel
theorem kd_Mc_complement_12 : decode kb_Mc_complement 12 = .ok (.aload_n 1, 1) := by decide +kernel
theorem kd_Mc_complement_13 : decode kb_Mc_complement 13 = .ok (.iload_n 2, 1) := by decide +kernel
theorem kd_Mc_complement_14 : decode kb_Mc_complement 14 = .ok (.iaload, 1) := by decide +kernel
theorem kd_Mc_complement_15 : decode kb_Mc_complement 15 = .ok (.iconst (-1), 1) := by decide +kernel
theorem kd_Mc_complement_16 : decode kb_Mc_complement 16 = .ok (.ixor, 1) := by decide +kernel
theorem kd_Mc_complement_17 : decode kb_Mc_complement 17 = .ok (.aload_n 0, 1) := by decide +kernel
theorem kd_Mc_complement_18 : decode kb_Mc_complement 18 = .ok (.iload_n 2, 1) := by decide +kernel
theorem kd_Mc_complement_19 : decode kb_Mc_complement 19 = .ok (.invokevirtual 74, 3) := by decide +kernel
theorem kd_Mc_complement_22 : decode kb_Mc_complement 22 = .ok (.invokestatic 77, 3) := by decide +kernel
theorem kd_Mc_complement_25 : decode kb_Mc_complement 25 = .ok (.iand, 1) := by decide +kernel
theorem kd_Mc_complement_26 : decode kb_Mc_complement 26 = .ok (.iastore, 1) := by decide +kernel
theorem kd_Mc_complement_27 : decode kb_Mc_complement 27 = .ok (.iinc 2 1, 3) := by decide +kernel
theorem kd_Mc_complement_30 : decode kb_Mc_complement 30 = .ok (.goto (-28), 3) := by decide +kernel
theorem kd_Mc_complement_33 : decode kb_Mc_complement 33 = .ok (.return_, 1) := by decide +kernel
theorem kd_Mc_join_0 : decode kb_Mc_join 0 = .ok (.iconst 0, 1) := by decide +kernel
theorem kd_Mc_join_1 : decode kb_Mc_join 1 = .ok (.istore_n 3, 1) := by decide +kernel
theorem kd_Mc_join_2 : decode kb_Mc_join 2 = .ok (.iload_n 3, 1) := by decide +kernel
theorem kd_Mc_join_3 : decode kb_Mc_join 3 = .ok (.aload_n 0, 1) := by decide +kernel
theorem kd_Mc_join_4 : decode kb_Mc_join 4 = .ok (.getfield 65, 3) := by decide +kernel
theorem kd_Mc_join_7 : decode kb_Mc_join 7 = .ok (.if_icmp .gt 21, 3) := by decide +kernel
theorem kd_Mc_join_10 : decode kb_Mc_join 10 = .ok (.aload_n 1, 1) := by decide +kernel
theorem kd_Mc_join_11 : decode kb_Mc_join 11 = .ok (.iload_n 3, 1) := by decide +kernel
theorem kd_Mc_join_12 : decode kb_Mc_join 12 = .ok (.aload_n 0, 1) := by decide +kernel
theorem kd_Mc_join_13 : decode kb_Mc_join 13 = .ok (.iload_n 3, 1) := by decide +kernel
theorem kd_Mc_join_14 : decode kb_Mc_join 14 = .ok (.aload_n 1, 1) := by decide +kernel
theorem kd_Mc_join_15 : decode kb_Mc_join 15 = .ok (.iload_n 3, 1) := by decide +kernel
theorem kd_Mc_join_16 : decode kb_Mc_join 16 = .ok (.iaload, 1) := by decide +kernel
theorem kd_Mc_join_17 : decode kb_Mc_join 17 = .ok (.aload_n 2, 1) := by decide +kernel
theorem kd_Mc_join_18 : decode kb_Mc_join 18 = .ok (.invokestatic 80, 3) := by decide +kernel
theorem kd_Mc_join_21 : decode kb_Mc_join 21 = .ok (.iastore, 1) := by decide +kernel
theorem kd_Mc_join_22 : decode kb_Mc_join 22 = .ok (.iinc 3 1, 3) := by decide +kernel
theorem kd_Mc_join_25 : decode kb_Mc_join 25 = .ok (.goto (-23), 3) := by decide +kernel
theorem kd_Mc_join_28 : decode kb_Mc_join 28 = .ok (.return_, 1) := by decide +kernel
theorem kd_Mc_lengthsThrough_0 : decode kb_Mc_lengthsThrough 0 = .ok (.aload_n 0, 1) := by decide +kernel
theorem kd_Mc_lengthsThrough_1 : decode kb_Mc_lengthsThrough 1 = .ok (.iload_n 1, 1) := by decide +kernel
theorem kd_Mc_lengthsThrough_2 : decode kb_Mc_lengthsThrough 2 = .ok (.invokevirtual 74, 3) := by decide +kernel
theorem kd_Mc_lengthsThrough_5 : decode kb_Mc_lengthsThrough 5 = .ok (.istore 4, 2) := by decide +kernel
theorem kd_Mc_lengthsThrough_7 : decode kb_Mc_lengthsThrough 7 = .ok (.iconst 0, 1) := by decide +kernel
theorem kd_Mc_lengthsThrough_8 : decode kb_Mc_lengthsThrough 8 = .ok (.istore 5, 2) := by decide +kernel
theorem kd_Mc_lengthsThrough_10 : decode kb_Mc_lengthsThrough 10 = .ok (.iconst 0, 1) := by decide +kernel
theorem kd_Mc_lengthsThrough_11 : decode kb_Mc_lengthsThrough 11 = .ok (.istore 6, 2) := by decide +kernel
theorem kd_Mc_lengthsThrough_13 : decode kb_Mc_lengthsThrough 13 = .ok (.iload 6, 2) := by decide +kernel
theorem kd_Mc_lengthsThrough_15 : decode kb_Mc_lengthsThrough 15 = .ok (.iload 4, 2) := by decide +kernel
theorem kd_Mc_lengthsThrough_17 : decode kb_Mc_lengthsThrough 17 = .ok (.if_icmp .gt 32, 3) := by decide +kernel
theorem kd_Mc_lengthsThrough_20 : decode kb_Mc_lengthsThrough 20 = .ok (.iload_n 2, 1) := by decide +kernel
theorem kd_Mc_lengthsThrough_21 : decode kb_Mc_lengthsThrough 21 = .ok (.iload 6, 2) := by decide +kernel
theorem kd_Mc_lengthsThrough_23 : decode kb_Mc_lengthsThrough 23 = .ok (.invokestatic 84, 3) := by decide +kernel
theorem kd_Mc_lengthsThrough_26 : decode kb_Mc_lengthsThrough 26 = .ok (.ifCond .eq 17, 3) := by decide +kernel
theorem kd_Mc_lengthsThrough_29 : decode kb_Mc_lengthsThrough 29 = .ok (.iload 5, 2) := by decide +kernel
theorem kd_Mc_lengthsThrough_31 : decode kb_Mc_lengthsThrough 31 = .ok (.aload_n 3, 1) := by decide +kernel
theorem kd_Mc_lengthsThrough_32 : decode kb_Mc_lengthsThrough 32 = .ok (.iload_n 1, 1) := by decide +kernel
theorem kd_Mc_lengthsThrough_33 : decode kb_Mc_lengthsThrough 33 = .ok (.iload 6, 2) := by decide +kernel
theorem kd_Mc_lengthsThrough_35 : decode kb_Mc_lengthsThrough 35 = .ok (.iadd, 1) := by decide +kernel
theorem kd_Mc_lengthsThrough_36 : decode kb_Mc_lengthsThrough 36 = .ok (.iaload, 1) := by decide +kernel
theorem kd_Mc_lengthsThrough_37 : decode kb_Mc_lengthsThrough 37 = .ok (.iload 6, 2) := by decide +kernel
theorem kd_Mc_lengthsThrough_39 : decode kb_Mc_lengthsThrough 39 = .ok (.ishl, 1) := by decide +kernel
theorem kd_Mc_lengthsThrough_40 : decode kb_Mc_lengthsThrough 40 = .ok (.ior, 1) := by decide +kernel
theorem kd_Mc_lengthsThrough_41 : decode kb_Mc_lengthsThrough 41 = .ok (.istore 5, 2) := by decide +kernel
theorem kd_Mc_lengthsThrough_43 : decode kb_Mc_lengthsThrough 43 = .ok (.iinc 6 1, 3) := by decide +kernel
theorem kd_Mc_lengthsThrough_46 : decode kb_Mc_lengthsThrough 46 = .ok (.goto (-33), 3) := by decide +kernel
theorem kd_Mc_lengthsThrough_49 : decode kb_Mc_lengthsThrough 49 = .ok (.iload 5, 2) := by decide +kernel
theorem kd_Mc_lengthsThrough_51 : decode kb_Mc_lengthsThrough 51 = .ok (.iload 4, 2) := by decide +kernel
theorem kd_Mc_lengthsThrough_53 : decode kb_Mc_lengthsThrough 53 = .ok (.invokestatic 77, 3) := by decide +kernel
theorem kd_Mc_lengthsThrough_56 : decode kb_Mc_lengthsThrough 56 = .ok (.iand, 1) := by decide +kernel
theorem kd_Mc_lengthsThrough_57 : decode kb_Mc_lengthsThrough 57 = .ok (.ireturn, 1) := by decide +kernel
theorem kd_Mc_repeat_0 : decode kb_Mc_repeat 0 = .ok (.aload_n 0, 1) := by decide +kernel
theorem kd_Mc_repeat_1 : decode kb_Mc_repeat 1 = .ok (.aload_n 2, 1) := by decide +kernel
theorem kd_Mc_repeat_2 : decode kb_Mc_repeat 2 = .ok (.invokestatic 36, 3) := by decide +kernel
theorem kd_Mc_repeat_5 : decode kb_Mc_repeat 5 = .ok (.iconst 0, 1) := by decide +kernel
theorem kd_Mc_repeat_6 : decode kb_Mc_repeat 6 = .ok (.istore 5, 2) := by decide +kernel
theorem kd_Mc_repeat_8 : decode kb_Mc_repeat 8 = .ok (.iload 5, 2) := by decide +kernel
theorem kd_Mc_repeat_10 : decode kb_Mc_repeat 10 = .ok (.iload_n 3, 1) := by decide +kernel
theorem kd_Mc_repeat_11 : decode kb_Mc_repeat 11 = .ok (.if_icmp .ge 15, 3) := by decide +kernel
theorem kd_Mc_repeat_14 : decode kb_Mc_repeat 14 = .ok (.aload_n 0, 1) := by decide +kernel
theorem kd_Mc_repeat_15 : decode kb_Mc_repeat 15 = .ok (.aload_n 2, 1) := by decide +kernel
theorem kd_Mc_repeat_16 : decode kb_Mc_repeat 16 = .ok (.aload_n 1, 1) := by decide +kernel
theorem kd_Mc_repeat_17 : decode kb_Mc_repeat 17 = .ok (.invokestatic 44, 3) := by decide +kernel
theorem kd_Mc_repeat_20 : decode kb_Mc_repeat 20 = .ok (.iinc 5 1, 3) := by decide +kernel
theorem kd_Mc_repeat_23 : decode kb_Mc_repeat 23 = .ok (.goto (-15), 3) := by decide +kernel
theorem kd_Mc_repeat_26 : decode kb_Mc_repeat 26 = .ok (.iload 4, 2) := by decide +kernel
theorem kd_Mc_repeat_28 : decode kb_Mc_repeat 28 = .ok (.iconst (-1), 1) := by decide +kernel
theorem kd_Mc_repeat_29 : decode kb_Mc_repeat 29 = .ok (.if_icmp .ne 7, 3) := by decide +kernel
theorem kd_Mc_repeat_32 : decode kb_Mc_repeat 32 = .ok (.iconst 1, 1) := by decide +kernel
theorem kd_Mc_repeat_33 : decode kb_Mc_repeat 33 = .ok (.goto 7, 3) := by decide +kernel
theorem kd_Mc_repeat_36 : decode kb_Mc_repeat 36 = .ok (.iload 4, 2) := by decide +kernel
theorem kd_Mc_repeat_38 : decode kb_Mc_repeat 38 = .ok (.iload_n 3, 1) := by decide +kernel
theorem kd_Mc_repeat_39 : decode kb_Mc_repeat 39 = .ok (.isub, 1) := by decide +kernel
theorem kd_Mc_repeat_40 : decode kb_Mc_repeat 40 = .ok (.istore 5, 2) := by decide +kernel
theorem kd_Mc_repeat_42 : decode kb_Mc_repeat 42 = .ok (.iload 4, 2) := by decide +kernel
theorem kd_Mc_repeat_44 : decode kb_Mc_repeat 44 = .ok (.iconst (-1), 1) := by decide +kernel
theorem kd_Mc_repeat_45 : decode kb_Mc_repeat 45 = .ok (.if_icmp .ne 11, 3) := by decide +kernel
theorem kd_Mc_repeat_48 : decode kb_Mc_repeat 48 = .ok (.aload_n 0, 1) := by decide +kernel
theorem kd_Mc_repeat_49 : decode kb_Mc_repeat 49 = .ok (.aload_n 1, 1) := by decide +kernel
theorem kd_Mc_repeat_50 : decode kb_Mc_repeat 50 = .ok (.invokestatic 87, 3) := by decide +kernel
theorem kd_Mc_repeat_53 : decode kb_Mc_repeat 53 = .ok (.goto 8, 3) := by decide +kernel
theorem kd_Mc_repeat_56 : decode kb_Mc_repeat 56 = .ok (.aload_n 0, 1) := by decide +kernel
theorem kd_Mc_repeat_57 : decode kb_Mc_repeat 57 = .ok (.aload_n 1, 1) := by decide +kernel
theorem kd_Mc_repeat_58 : decode kb_Mc_repeat 58 = .ok (.invokestatic 90, 3) := by decide +kernel
theorem kd_Mc_repeat_61 : decode kb_Mc_repeat 61 = .ok (.iconst 0, 1) := by decide +kernel
theorem kd_Mc_repeat_62 : decode kb_Mc_repeat 62 = .ok (.istore 6, 2) := by decide +kernel
theorem kd_Mc_repeat_64 : decode kb_Mc_repeat 64 = .ok (.iload 6, 2) := by decide +kernel
theorem kd_Mc_repeat_66 : decode kb_Mc_repeat 66 = .ok (.iload 5, 2) := by decide +kernel
theorem kd_Mc_repeat_68 : decode kb_Mc_repeat 68 = .ok (.if_icmp .ge 15, 3) := by decide +kernel
theorem kd_Mc_repeat_71 : decode kb_Mc_repeat 71 = .ok (.aload_n 0, 1) := by decide +kernel
theorem kd_Mc_repeat_72 : decode kb_Mc_repeat 72 = .ok (.aload_n 2, 1) := by decide +kernel
theorem kd_Mc_repeat_73 : decode kb_Mc_repeat 73 = .ok (.aload_n 1, 1) := by decide +kernel
theorem kd_Mc_repeat_74 : decode kb_Mc_repeat 74 = .ok (.invokestatic 44, 3) := by decide +kernel
theorem kd_Mc_repeat_77 : decode kb_Mc_repeat 77 = .ok (.iinc 6 1, 3) := by decide +kernel
theorem kd_Mc_repeat_80 : decode kb_Mc_repeat 80 = .ok (.goto (-16), 3) := by decide +kernel
theorem kd_Mc_repeat_83 : decode kb_Mc_repeat 83 = .ok (.aload_n 2, 1) := by decide +kernel
theorem kd_Mc_repeat_84 : decode kb_Mc_repeat 84 = .ok (.iconst 0, 1) := by decide +kernel
theorem kd_Mc_repeat_85 : decode kb_Mc_repeat 85 = .ok (.aload_n 1, 1) := by decide +kernel
theorem kd_Mc_repeat_86 : decode kb_Mc_repeat 86 = .ok (.iconst 0, 1) := by decide +kernel
theorem kd_Mc_repeat_87 : decode kb_Mc_repeat 87 = .ok (.aload_n 0, 1) := by decide +kernel
theorem kd_Mc_repeat_88 : decode kb_Mc_repeat 88 = .ok (.getfield 65, 3) := by decide +kernel
theorem kd_Mc_repeat_91 : decode kb_Mc_repeat 91 = .ok (.iconst 1, 1) := by decide +kernel
theorem kd_Mc_repeat_92 : decode kb_Mc_repeat 92 = .ok (.iadd, 1) := by decide +kernel
theorem kd_Mc_repeat_93 : decode kb_Mc_repeat 93 = .ok (.invokestatic 93, 3) := by decide +kernel
theorem kd_Mc_repeat_96 : decode kb_Mc_repeat 96 = .ok (.return_, 1) := by decide +kernel
theorem kd_Mc_addEmpty_0 : decode kb_Mc_addEmpty 0 = .ok (.iconst 0, 1) := by decide +kernel
theorem kd_Mc_addEmpty_1 : decode kb_Mc_addEmpty 1 = .ok (.istore_n 2, 1) := by decide +kernel
theorem kd_Mc_addEmpty_2 : decode kb_Mc_addEmpty 2 = .ok (.iload_n 2, 1) := by decide +kernel
theorem kd_Mc_addEmpty_3 : decode kb_Mc_addEmpty 3 = .ok (.aload_n 0, 1) := by decide +kernel
theorem kd_Mc_addEmpty_4 : decode kb_Mc_addEmpty 4 = .ok (.getfield 65, 3) := by decide +kernel
theorem kd_Mc_addEmpty_7 : decode kb_Mc_addEmpty 7 = .ok (.if_icmp .gt 16, 3) := by decide +kernel
theorem kd_Mc_addEmpty_10 : decode kb_Mc_addEmpty 10 = .ok (.aload_n 1, 1) := by decide +kernel
theorem kd_Mc_addEmpty_11 : decode kb_Mc_addEmpty 11 = .ok (.iload_n 2, 1) := by decide +kernel
theorem kd_Mc_addEmpty_12 : decode kb_Mc_addEmpty 12 = .ok (.dup2, 1) := by decide +kernel
theorem kd_Mc_addEmpty_13 : decode kb_Mc_addEmpty 13 = .ok (.iaload, 1) := by decide +kernel
theorem kd_Mc_addEmpty_14 : decode kb_Mc_addEmpty 14 = .ok (.iconst 1, 1) := by decide +kernel
theorem kd_Mc_addEmpty_15 : decode kb_Mc_addEmpty 15 = .ok (.ior, 1) := by decide +kernel
theorem kd_Mc_addEmpty_16 : decode kb_Mc_addEmpty 16 = .ok (.iastore, 1) := by decide +kernel
theorem kd_Mc_addEmpty_17 : decode kb_Mc_addEmpty 17 = .ok (.iinc 2 1, 3) := by decide +kernel
theorem kd_Mc_addEmpty_20 : decode kb_Mc_addEmpty 20 = .ok (.goto (-18), 3) := by decide +kernel
theorem kd_Mc_addEmpty_23 : decode kb_Mc_addEmpty 23 = .ok (.return_, 1) := by decide +kernel
theorem kd_Mc_loop_0 : decode kb_Mc_loop 0 = .ok (.aload_n 0, 1) := by decide +kernel
theorem kd_Mc_loop_1 : decode kb_Mc_loop 1 = .ok (.getfield 65, 3) := by decide +kernel
theorem kd_Mc_loop_4 : decode kb_Mc_loop 4 = .ok (.istore_n 2, 1) := by decide +kernel
theorem kd_Mc_loop_5 : decode kb_Mc_loop 5 = .ok (.iload_n 2, 1) := by decide +kernel
theorem kd_Mc_loop_6 : decode kb_Mc_loop 6 = .ok (.ifCond .lt 28, 3) := by decide +kernel
theorem kd_Mc_loop_9 : decode kb_Mc_loop 9 = .ok (.aload_n 1, 1) := by decide +kernel
theorem kd_Mc_loop_10 : decode kb_Mc_loop 10 = .ok (.iload_n 2, 1) := by decide +kernel
theorem kd_Mc_loop_11 : decode kb_Mc_loop 11 = .ok (.iaload, 1) := by decide +kernel
theorem kd_Mc_loop_12 : decode kb_Mc_loop 12 = .ok (.bipush (-2), 2) := by decide +kernel
theorem kd_Mc_loop_14 : decode kb_Mc_loop 14 = .ok (.iand, 1) := by decide +kernel
theorem kd_Mc_loop_15 : decode kb_Mc_loop 15 = .ok (.istore_n 3, 1) := by decide +kernel
theorem kd_Mc_loop_16 : decode kb_Mc_loop 16 = .ok (.aload_n 1, 1) := by decide +kernel
theorem kd_Mc_loop_17 : decode kb_Mc_loop 17 = .ok (.iload_n 2, 1) := by decide +kernel
theorem kd_Mc_loop_18 : decode kb_Mc_loop 18 = .ok (.iconst 1, 1) := by decide +kernel
theorem kd_Mc_loop_19 : decode kb_Mc_loop 19 = .ok (.aload_n 0, 1) := by decide +kernel
theorem kd_Mc_loop_20 : decode kb_Mc_loop 20 = .ok (.iload_n 2, 1) := by decide +kernel
theorem kd_Mc_loop_21 : decode kb_Mc_loop 21 = .ok (.iload_n 3, 1) := by decide +kernel
theorem kd_Mc_loop_22 : decode kb_Mc_loop 22 = .ok (.aload_n 1, 1) := by decide +kernel
theorem kd_Mc_loop_23 : decode kb_Mc_loop 23 = .ok (.invokestatic 80, 3) := by decide +kernel
theorem kd_Mc_loop_26 : decode kb_Mc_loop 26 = .ok (.ior, 1) := by decide +kernel
theorem kd_Mc_loop_27 : decode kb_Mc_loop 27 = .ok (.iastore, 1) := by decide +kernel
theorem kd_Mc_loop_28 : decode kb_Mc_loop 28 = .ok (.iinc 2 (-1), 3) := by decide +kernel
theorem kd_Mc_loop_31 : decode kb_Mc_loop 31 = .ok (.goto (-26), 3) := by decide +kernel
theorem kd_Mc_loop_34 : decode kb_Mc_loop 34 = .ok (.return_, 1) := by decide +kernel
theorem kd_Pa_init_0 : decode kb_Pa_init 0 = .ok (.aload_n 0, 1) := by decide +kernel
theorem kd_Pa_init_1 : decode kb_Pa_init 1 = .ok (.invokespecial 3, 3) := by decide +kernel
theorem kd_Pa_init_4 : decode kb_Pa_init 4 = .ok (.aload_n 0, 1) := by decide +kernel
theorem kd_Pa_init_5 : decode kb_Pa_init 5 = .ok (.new 9, 3) := by decide +kernel
theorem kd_Pa_init_8 : decode kb_Pa_init 8 = .ok (.dup, 1) := by decide +kernel
theorem kd_Pa_init_9 : decode kb_Pa_init 9 = .ok (.invokespecial 11, 3) := by decide +kernel
theorem kd_Pa_init_12 : decode kb_Pa_init 12 = .ok (.putfield 12, 3) := by decide +kernel
theorem kd_Pa_init_15 : decode kb_Pa_init 15 = .ok (.aload_n 0, 1) := by decide +kernel
theorem kd_Pa_init_16 : decode kb_Pa_init 16 = .ok (.bipush 25, 2) := by decide +kernel
theorem kd_Pa_init_18 : decode kb_Pa_init 18 = .ok (.newarray .int, 2) := by decide +kernel
theorem kd_Pa_init_20 : decode kb_Pa_init 20 = .ok (.putfield 18, 3) := by decide +kernel
theorem kd_Pa_init_23 : decode kb_Pa_init 23 = .ok (.aload_n 0, 1) := by decide +kernel
theorem kd_Pa_init_24 : decode kb_Pa_init 24 = .ok (.iconst 0, 1) := by decide +kernel
theorem kd_Pa_init_25 : decode kb_Pa_init 25 = .ok (.putfield 22, 3) := by decide +kernel
theorem kd_Pa_init_28 : decode kb_Pa_init 28 = .ok (.aload_n 0, 1) := by decide +kernel
theorem kd_Pa_init_29 : decode kb_Pa_init 29 = .ok (.bipush 121, 2) := by decide +kernel
theorem kd_Pa_init_31 : decode kb_Pa_init 31 = .ok (.newarray .boolean, 2) := by decide +kernel
theorem kd_Pa_init_33 : decode kb_Pa_init 33 = .ok (.putfield 26, 3) := by decide +kernel
theorem kd_Pa_init_36 : decode kb_Pa_init 36 = .ok (.aload_n 0, 1) := by decide +kernel
theorem kd_Pa_init_37 : decode kb_Pa_init 37 = .ok (.iconst 0, 1) := by decide +kernel
theorem kd_Pa_init_38 : decode kb_Pa_init 38 = .ok (.putfield 30, 3) := by decide +kernel
theorem kd_Pa_init_41 : decode kb_Pa_init 41 = .ok (.aload_n 0, 1) := by decide +kernel
theorem kd_Pa_init_42 : decode kb_Pa_init 42 = .ok (.getfield 12, 3) := by decide +kernel
theorem kd_Pa_init_45 : decode kb_Pa_init 45 = .ok (.iconst 0, 1) := by decide +kernel
theorem kd_Pa_init_46 : decode kb_Pa_init 46 = .ok (.iconst 0, 1) := by decide +kernel
theorem kd_Pa_init_47 : decode kb_Pa_init 47 = .ok (.iconst 0, 1) := by decide +kernel
theorem kd_Pa_init_48 : decode kb_Pa_init 48 = .ok (.invokevirtual 33, 3) := by decide +kernel
theorem kd_Pa_init_51 : decode kb_Pa_init 51 = .ok (.return_, 1) := by decide +kernel
theorem kd_Pg_init_0 : decode kb_Pg_init 0 = .ok (.aload_n 0, 1) := by decide +kernel
theorem kd_Pg_init_1 : decode kb_Pg_init 1 = .ok (.invokespecial 3, 3) := by decide +kernel
theorem kd_Pg_init_4 : decode kb_Pg_init 4 = .ok (.aload_n 0, 1) := by decide +kernel
theorem kd_Pg_init_5 : decode kb_Pg_init 5 = .ok (.bipush 81, 2) := by decide +kernel
theorem kd_Pg_init_7 : decode kb_Pg_init 7 = .ok (.newarray .int, 2) := by decide +kernel
theorem kd_Pg_init_9 : decode kb_Pg_init 9 = .ok (.putfield 9, 3) := by decide +kernel
theorem kd_Pg_init_12 : decode kb_Pg_init 12 = .ok (.aload_n 0, 1) := by decide +kernel
theorem kd_Pg_init_13 : decode kb_Pg_init 13 = .ok (.bipush 81, 2) := by decide +kernel
theorem kd_Pg_init_15 : decode kb_Pg_init 15 = .ok (.newarray .int, 2) := by decide +kernel
theorem kd_Pg_init_17 : decode kb_Pg_init 17 = .ok (.putfield 15, 3) := by decide +kernel
theorem kd_Pg_init_20 : decode kb_Pg_init 20 = .ok (.aload_n 0, 1) := by decide +kernel
theorem kd_Pg_init_21 : decode kb_Pg_init 21 = .ok (.bipush 81, 2) := by decide +kernel
theorem kd_Pg_init_23 : decode kb_Pg_init 23 = .ok (.newarray .int, 2) := by decide +kernel
theorem kd_Pg_init_25 : decode kb_Pg_init 25 = .ok (.putfield 18, 3) := by decide +kernel
theorem kd_Pg_init_28 : decode kb_Pg_init 28 = .ok (.aload_n 0, 1) := by decide +kernel
theorem kd_Pg_init_29 : decode kb_Pg_init 29 = .ok (.iconst 0, 1) := by decide +kernel
theorem kd_Pg_init_30 : decode kb_Pg_init 30 = .ok (.putfield 21, 3) := by decide +kernel
theorem kd_Pg_init_33 : decode kb_Pg_init 33 = .ok (.return_, 1) := by decide +kernel
theorem kd_Pg_add_0 : decode kb_Pg_add 0 = .ok (.aload_n 0, 1) := by decide +kernel
theorem kd_Pg_add_1 : decode kb_Pg_add 1 = .ok (.getfield 21, 3) := by decide +kernel
theorem kd_Pg_add_4 : decode kb_Pg_add 4 = .ok (.bipush 81, 2) := by decide +kernel
theorem kd_Pg_add_6 : decode kb_Pg_add 6 = .ok (.if_icmp .ge 43, 3) := by decide +kernel
theorem kd_Pg_add_9 : decode kb_Pg_add 9 = .ok (.aload_n 0, 1) := by decide +kernel
theorem kd_Pg_add_10 : decode kb_Pg_add 10 = .ok (.getfield 9, 3) := by decide +kernel
theorem kd_Pg_add_13 : decode kb_Pg_add 13 = .ok (.aload_n 0, 1) := by decide +kernel
theorem kd_Pg_add_14 : decode kb_Pg_add 14 = .ok (.getfield 21, 3) := by decide +kernel
theorem kd_Pg_add_17 : decode kb_Pg_add 17 = .ok (.iload_n 1, 1) := by decide +kernel
theorem kd_Pg_add_18 : decode kb_Pg_add 18 = .ok (.iastore, 1) := by decide +kernel
theorem kd_Pg_add_19 : decode kb_Pg_add 19 = .ok (.aload_n 0, 1) := by decide +kernel
theorem kd_Pg_add_20 : decode kb_Pg_add 20 = .ok (.getfield 15, 3) := by decide +kernel
theorem kd_Pg_add_23 : decode kb_Pg_add 23 = .ok (.aload_n 0, 1) := by decide +kernel
theorem kd_Pg_add_24 : decode kb_Pg_add 24 = .ok (.getfield 21, 3) := by decide +kernel
theorem kd_Pg_add_27 : decode kb_Pg_add 27 = .ok (.iload_n 2, 1) := by decide +kernel
theorem kd_Pg_add_28 : decode kb_Pg_add 28 = .ok (.iastore, 1) := by decide +kernel
theorem kd_Pg_add_29 : decode kb_Pg_add 29 = .ok (.aload_n 0, 1) := by decide +kernel
theorem kd_Pg_add_30 : decode kb_Pg_add 30 = .ok (.getfield 18, 3) := by decide +kernel
theorem kd_Pg_add_33 : decode kb_Pg_add 33 = .ok (.aload_n 0, 1) := by decide +kernel
theorem kd_Pg_add_34 : decode kb_Pg_add 34 = .ok (.getfield 21, 3) := by decide +kernel
theorem kd_Pg_add_37 : decode kb_Pg_add 37 = .ok (.iload_n 3, 1) := by decide +kernel
theorem kd_Pg_add_38 : decode kb_Pg_add 38 = .ok (.iastore, 1) := by decide +kernel
theorem kd_Pg_add_39 : decode kb_Pg_add 39 = .ok (.aload_n 0, 1) := by decide +kernel
theorem kd_Pg_add_40 : decode kb_Pg_add 40 = .ok (.dup, 1) := by decide +kernel
theorem kd_Pg_add_41 : decode kb_Pg_add 41 = .ok (.getfield 21, 3) := by decide +kernel
theorem kd_Pg_add_44 : decode kb_Pg_add 44 = .ok (.iconst 1, 1) := by decide +kernel
theorem kd_Pg_add_45 : decode kb_Pg_add 45 = .ok (.iadd, 1) := by decide +kernel
theorem kd_Pg_add_46 : decode kb_Pg_add 46 = .ok (.putfield 21, 3) := by decide +kernel
theorem kd_Pg_add_49 : decode kb_Pg_add 49 = .ok (.return_, 1) := by decide +kernel
theorem kd_Rd_init_0 : decode kb_Rd_init 0 = .ok (.aload_n 0, 1) := by decide +kernel
theorem kd_Rd_init_1 : decode kb_Rd_init 1 = .ok (.invokespecial 3, 3) := by decide +kernel
theorem kd_Rd_init_4 : decode kb_Rd_init 4 = .ok (.aload_n 0, 1) := by decide +kernel
theorem kd_Rd_init_5 : decode kb_Rd_init 5 = .ok (.bipush 41, 2) := by decide +kernel
theorem kd_Rd_init_7 : decode kb_Rd_init 7 = .ok (.newarray .int, 2) := by decide +kernel
theorem kd_Rd_init_9 : decode kb_Rd_init 9 = .ok (.putfield 9, 3) := by decide +kernel
theorem kd_Rd_init_12 : decode kb_Rd_init 12 = .ok (.aload_n 0, 1) := by decide +kernel
theorem kd_Rd_init_13 : decode kb_Rd_init 13 = .ok (.bipush 41, 2) := by decide +kernel
theorem kd_Rd_init_15 : decode kb_Rd_init 15 = .ok (.newarray .boolean, 2) := by decide +kernel
theorem kd_Rd_init_17 : decode kb_Rd_init 17 = .ok (.putfield 15, 3) := by decide +kernel
theorem kd_Rd_init_20 : decode kb_Rd_init 20 = .ok (.aload_n 0, 1) := by decide +kernel
theorem kd_Rd_init_21 : decode kb_Rd_init 21 = .ok (.bipush 41, 2) := by decide +kernel
theorem kd_Rd_init_23 : decode kb_Rd_init 23 = .ok (.newarray .boolean, 2) := by decide +kernel
theorem kd_Rd_init_25 : decode kb_Rd_init 25 = .ok (.putfield 19, 3) := by decide +kernel
theorem kd_Rd_init_28 : decode kb_Rd_init 28 = .ok (.aload_n 0, 1) := by decide +kernel
theorem kd_Rd_init_29 : decode kb_Rd_init 29 = .ok (.iconst 0, 1) := by decide +kernel
theorem kd_Rd_init_30 : decode kb_Rd_init 30 = .ok (.putfield 22, 3) := by decide +kernel
theorem kd_Rd_init_33 : decode kb_Rd_init 33 = .ok (.aload_n 0, 1) := by decide +kernel
theorem kd_Rd_init_34 : decode kb_Rd_init 34 = .ok (.bipush 40, 2) := by decide +kernel
theorem kd_Rd_init_36 : decode kb_Rd_init 36 = .ok (.newarray .char, 2) := by decide +kernel
theorem kd_Rd_init_38 : decode kb_Rd_init 38 = .ok (.putfield 26, 3) := by decide +kernel
theorem kd_Rd_init_41 : decode kb_Rd_init 41 = .ok (.aload_n 0, 1) := by decide +kernel
theorem kd_Rd_init_42 : decode kb_Rd_init 42 = .ok (.iconst 0, 1) := by decide +kernel
theorem kd_Rd_init_43 : decode kb_Rd_init 43 = .ok (.putfield 30, 3) := by decide +kernel
theorem kd_Rd_init_46 : decode kb_Rd_init 46 = .ok (.aload_n 0, 1) := by decide +kernel
theorem kd_Rd_init_47 : decode kb_Rd_init 47 = .ok (.iconst 0, 1) := by decide +kernel
theorem kd_Rd_init_48 : decode kb_Rd_init 48 = .ok (.putfield 33, 3) := by decide +kernel
theorem kd_Rd_init_51 : decode kb_Rd_init 51 = .ok (.aload_n 0, 1) := by decide +kernel
theorem kd_Rd_init_52 : decode kb_Rd_init 52 = .ok (.new 36, 3) := by decide +kernel
theorem kd_Rd_init_55 : decode kb_Rd_init 55 = .ok (.dup, 1) := by decide +kernel
theorem kd_Rd_init_56 : decode kb_Rd_init 56 = .ok (.invokespecial 38, 3) := by decide +kernel
theorem kd_Rd_init_59 : decode kb_Rd_init 59 = .ok (.putfield 39, 3) := by decide +kernel
theorem kd_Rd_init_62 : decode kb_Rd_init 62 = .ok (.return_, 1) := by decide +kernel
theorem kd_Rd_read_0 : decode kb_Rd_read 0 = .ok (.aload_n 0, 1) := by decide +kernel
theorem kd_Rd_read_1 : decode kb_Rd_read 1 = .ok (.iload_n 2, 1) := by decide +kernel
theorem kd_Rd_read_2 : decode kb_Rd_read 2 = .ok (.bipush 40, 2) := by decide +kernel
theorem kd_Rd_read_4 : decode kb_Rd_read 4 = .ok (.invokestatic 43, 3) := by decide +kernel
theorem kd_Rd_read_7 : decode kb_Rd_read 7 = .ok (.putfield 30, 3) := by decide +kernel
theorem kd_Rd_read_10 : decode kb_Rd_read 10 = .ok (.aload_n 1, 1) := by decide +kernel
theorem kd_Rd_read_11 : decode kb_Rd_read 11 = .ok (.iconst 0, 1) := by decide +kernel
theorem kd_Rd_read_12 : decode kb_Rd_read 12 = .ok (.aload_n 0, 1) := by decide +kernel
theorem kd_Rd_read_13 : decode kb_Rd_read 13 = .ok (.getfield 26, 3) := by decide +kernel
theorem kd_Rd_read_16 : decode kb_Rd_read 16 = .ok (.iconst 0, 1) := by decide +kernel
theorem kd_Rd_read_17 : decode kb_Rd_read 17 = .ok (.aload_n 0, 1) := by decide +kernel
theorem kd_Rd_read_18 : decode kb_Rd_read 18 = .ok (.getfield 30, 3) := by decide +kernel
theorem kd_Rd_read_21 : decode kb_Rd_read 21 = .ok (.invokestatic 49, 3) := by decide +kernel
theorem kd_Rd_read_24 : decode kb_Rd_read 24 = .ok (.aload_n 0, 1) := by decide +kernel
theorem kd_Rd_read_25 : decode kb_Rd_read 25 = .ok (.iconst 0, 1) := by decide +kernel
theorem kd_Rd_read_26 : decode kb_Rd_read 26 = .ok (.putfield 33, 3) := by decide +kernel
theorem kd_Rd_read_29 : decode kb_Rd_read 29 = .ok (.aload_n 0, 1) := by decide +kernel
theorem kd_Rd_read_30 : decode kb_Rd_read 30 = .ok (.getfield 39, 3) := by decide +kernel
theorem kd_Rd_read_33 : decode kb_Rd_read 33 = .ok (.iconst 0, 1) := by decide +kernel
theorem kd_Rd_read_34 : decode kb_Rd_read 34 = .ok (.putfield 55, 3) := by decide +kernel
theorem kd_Rd_read_37 : decode kb_Rd_read 37 = .ok (.aload_n 0, 1) := by decide +kernel
theorem kd_Rd_read_38 : decode kb_Rd_read 38 = .ok (.iconst 0, 1) := by decide +kernel
theorem kd_Rd_read_39 : decode kb_Rd_read 39 = .ok (.putfield 22, 3) := by decide +kernel
theorem kd_Rd_read_42 : decode kb_Rd_read 42 = .ok (.aload_n 0, 1) := by decide +kernel
theorem kd_Rd_read_43 : decode kb_Rd_read 43 = .ok (.invokevirtual 58, 3) := by decide +kernel
theorem kd_Rd_read_46 : decode kb_Rd_read 46 = .ok (.iconst 0, 1) := by decide +kernel
theorem kd_Rd_read_47 : decode kb_Rd_read 47 = .ok (.istore_n 3, 1) := by decide +kernel
theorem kd_Rd_read_48 : decode kb_Rd_read 48 = .ok (.iload_n 3, 1) := by decide +kernel
theorem kd_Rd_read_49 : decode kb_Rd_read 49 = .ok (.aload_n 0, 1) := by decide +kernel
theorem kd_Rd_read_50 : decode kb_Rd_read 50 = .ok (.getfield 30, 3) := by decide +kernel
theorem kd_Rd_read_53 : decode kb_Rd_read 53 = .ok (.if_icmp .ge 29, 3) := by decide +kernel
theorem kd_Rd_read_56 : decode kb_Rd_read 56 = .ok (.aload_n 0, 1) := by decide +kernel
theorem kd_Rd_read_57 : decode kb_Rd_read 57 = .ok (.getfield 33, 3) := by decide +kernel
theorem kd_Rd_read_60 : decode kb_Rd_read 60 = .ok (.aload_n 0, 1) := by decide +kernel
theorem kd_Rd_read_61 : decode kb_Rd_read 61 = .ok (.getfield 30, 3) := by decide +kernel
theorem kd_Rd_read_64 : decode kb_Rd_read 64 = .ok (.if_icmp .ge 18, 3) := by decide +kernel
theorem kd_Rd_read_67 : decode kb_Rd_read 67 = .ok (.aload_n 0, 1) := by decide +kernel
theorem kd_Rd_read_68 : decode kb_Rd_read 68 = .ok (.invokevirtual 61, 3) := by decide +kernel
theorem kd_Rd_read_71 : decode kb_Rd_read 71 = .ok (.ifCond .ne 5, 3) := by decide +kernel
theorem kd_Rd_read_74 : decode kb_Rd_read 74 = .ok (.iconst 0, 1) := by decide +kernel
theorem kd_Rd_read_75 : decode kb_Rd_read 75 = .ok (.ireturn, 1) := by decide +kernel
theorem kd_Rd_read_76 : decode kb_Rd_read 76 = .ok (.iinc 3 1, 3) := by decide +kernel
theorem kd_Rd_read_79 : decode kb_Rd_read 79 = .ok (.goto (-31), 3) := by decide +kernel
theorem kd_Rd_read_82 : decode kb_Rd_read 82 = .ok (.aload_n 0, 1) := by decide +kernel
theorem kd_Rd_read_83 : decode kb_Rd_read 83 = .ok (.getfield 22, 3) := by decide +kernel
theorem kd_Rd_read_86 : decode kb_Rd_read 86 = .ok (.ifCond .gt 15, 3) := by decide +kernel
theorem kd_Rd_read_89 : decode kb_Rd_read 89 = .ok (.aload_n 0, 1) := by decide +kernel
theorem kd_Rd_read_90 : decode kb_Rd_read 90 = .ok (.getfield 9, 3) := by decide +kernel
theorem kd_Rd_read_93 : decode kb_Rd_read 93 = .ok (.aload_n 0, 1) := by decide +kernel
theorem kd_Rd_read_94 : decode kb_Rd_read 94 = .ok (.getfield 22, 3) := by decide +kernel
theorem kd_Rd_read_97 : decode kb_Rd_read 97 = .ok (.iaload, 1) := by decide +kernel
theorem kd_Rd_read_98 : decode kb_Rd_read 98 = .ok (.ifCond .le 5, 3) := by decide +kernel
theorem kd_Rd_read_101 : decode kb_Rd_read 101 = .ok (.iconst 0, 1) := by decide +kernel
theorem kd_Rd_read_102 : decode kb_Rd_read 102 = .ok (.ireturn, 1) := by decide +kernel
theorem kd_Rd_read_103 : decode kb_Rd_read 103 = .ok (.aload_n 0, 1) := by decide +kernel
theorem kd_Rd_read_104 : decode kb_Rd_read 104 = .ok (.invokevirtual 65, 3) := by decide +kernel
theorem kd_Rd_read_107 : decode kb_Rd_read 107 = .ok (.iconst 1, 1) := by decide +kernel
theorem kd_Rd_read_108 : decode kb_Rd_read 108 = .ok (.ireturn, 1) := by decide +kernel
theorem kd_Rd_place_0 : decode kb_Rd_place 0 = .ok (.aload_n 0, 1) := by decide +kernel
theorem kd_Rd_place_1 : decode kb_Rd_place 1 = .ok (.getfield 33, 3) := by decide +kernel
theorem kd_Rd_place_4 : decode kb_Rd_place 4 = .ok (.ireturn, 1) := by decide +kernel
theorem kd_Rd_giveFor_0 : decode kb_Rd_giveFor 0 = .ok (.aload_n 0, 1) := by decide +kernel
theorem kd_Rd_giveFor_1 : decode kb_Rd_giveFor 1 = .ok (.getfield 39, 3) := by decide +kernel
theorem kd_Rd_giveFor_4 : decode kb_Rd_giveFor 4 = .ok (.astore_n 2, 1) := by decide +kernel
theorem kd_Rd_giveFor_5 : decode kb_Rd_giveFor 5 = .ok (.aload_n 0, 1) := by decide +kernel
theorem kd_Rd_giveFor_6 : decode kb_Rd_giveFor 6 = .ok (.aload_n 1, 1) := by decide +kernel
theorem kd_Rd_giveFor_7 : decode kb_Rd_giveFor 7 = .ok (.putfield 39, 3) := by decide +kernel
theorem kd_Rd_giveFor_10 : decode kb_Rd_giveFor 10 = .ok (.aload_n 2, 1) := by decide +kernel
theorem kd_Rd_giveFor_11 : decode kb_Rd_giveFor 11 = .ok (.areturn, 1) := by decide +kernel
theorem kd_Rd_beginLevel_0 : decode kb_Rd_beginLevel 0 = .ok (.aload_n 0, 1) := by decide +kernel
theorem kd_Rd_beginLevel_1 : decode kb_Rd_beginLevel 1 = .ok (.getfield 9, 3) := by decide +kernel
theorem kd_Rd_beginLevel_4 : decode kb_Rd_beginLevel 4 = .ok (.aload_n 0, 1) := by decide +kernel
theorem kd_Rd_beginLevel_5 : decode kb_Rd_beginLevel 5 = .ok (.getfield 22, 3) := by decide +kernel
theorem kd_Rd_beginLevel_8 : decode kb_Rd_beginLevel 8 = .ok (.iconst 0, 1) := by decide +kernel
theorem kd_Rd_beginLevel_9 : decode kb_Rd_beginLevel 9 = .ok (.iastore, 1) := by decide +kernel
theorem kd_Rd_beginLevel_10 : decode kb_Rd_beginLevel 10 = .ok (.aload_n 0, 1) := by decide +kernel
theorem kd_Rd_beginLevel_11 : decode kb_Rd_beginLevel 11 = .ok (.getfield 15, 3) := by decide +kernel
theorem kd_Rd_beginLevel_14 : decode kb_Rd_beginLevel 14 = .ok (.aload_n 0, 1) := by decide +kernel
theorem kd_Rd_beginLevel_15 : decode kb_Rd_beginLevel 15 = .ok (.getfield 22, 3) := by decide +kernel
theorem kd_Rd_beginLevel_18 : decode kb_Rd_beginLevel 18 = .ok (.iconst 0, 1) := by decide +kernel
theorem kd_Rd_beginLevel_19 : decode kb_Rd_beginLevel 19 = .ok (.bastore, 1) := by decide +kernel
theorem kd_Rd_beginLevel_20 : decode kb_Rd_beginLevel 20 = .ok (.aload_n 0, 1) := by decide +kernel
theorem kd_Rd_beginLevel_21 : decode kb_Rd_beginLevel 21 = .ok (.getfield 19, 3) := by decide +kernel
theorem kd_Rd_beginLevel_24 : decode kb_Rd_beginLevel 24 = .ok (.aload_n 0, 1) := by decide +kernel
theorem kd_Rd_beginLevel_25 : decode kb_Rd_beginLevel 25 = .ok (.getfield 22, 3) := by decide +kernel
theorem kd_Rd_beginLevel_28 : decode kb_Rd_beginLevel 28 = .ok (.iconst 0, 1) := by decide +kernel
theorem kd_Rd_beginLevel_29 : decode kb_Rd_beginLevel 29 = .ok (.bastore, 1) := by decide +kernel
theorem kd_Rd_beginLevel_30 : decode kb_Rd_beginLevel 30 = .ok (.aload_n 0, 1) := by decide +kernel
theorem kd_Rd_beginLevel_31 : decode kb_Rd_beginLevel 31 = .ok (.invokevirtual 68, 3) := by decide +kernel
theorem kd_Rd_beginLevel_34 : decode kb_Rd_beginLevel 34 = .ok (.return_, 1) := by decide +kernel
theorem kd_Rd_beginRow_0 : decode kb_Rd_beginRow 0 = .ok (.aload_n 0, 1) := by decide +kernel
theorem kd_Rd_beginRow_1 : decode kb_Rd_beginRow 1 = .ok (.getfield 39, 3) := by decide +kernel
theorem kd_Rd_beginRow_4 : decode kb_Rd_beginRow 4 = .ok (.iconst 0, 1) := by decide +kernel
theorem kd_Rd_beginRow_5 : decode kb_Rd_beginRow 5 = .ok (.iconst 0, 1) := by decide +kernel
theorem kd_Rd_beginRow_6 : decode kb_Rd_beginRow 6 = .ok (.iconst 0, 1) := by decide +kernel
theorem kd_Rd_beginRow_7 : decode kb_Rd_beginRow 7 = .ok (.invokevirtual 71, 3) := by decide +kernel
theorem kd_Rd_beginRow_10 : decode kb_Rd_beginRow 10 = .ok (.return_, 1) := by decide +kernel
theorem kd_Rd_readOn_0 : decode kb_Rd_readOn 0 = .ok (.aload_n 0, 1) := by decide +kernel
theorem kd_Rd_readOn_1 : decode kb_Rd_readOn 1 = .ok (.getfield 26, 3) := by decide +kernel
theorem kd_Rd_readOn_4 : decode kb_Rd_readOn 4 = .ok (.aload_n 0, 1) := by decide +kernel
theorem kd_Rd_readOn_5 : decode kb_Rd_readOn 5 = .ok (.getfield 33, 3) := by decide +kernel
theorem kd_Rd_readOn_8 : decode kb_Rd_readOn 8 = .ok (.caload, 1) := by decide +kernel
theorem kd_Rd_readOn_9 : decode kb_Rd_readOn 9 = .ok (.lookupswitch 224 #[(38, 120), (40, 150), (41, 155), (42, 222), (43, 222), (46, 195), (63, 222), (91, 175), (93, 222), (123, 222), (124, 115), (125, 222), (126, 125)], 115) := by decide +kernel
theorem kd_Rd_readOn_124 : decode kb_Rd_readOn 124 = .ok (.aload_n 0, 1) := by decide +kernel
theorem kd_Rd_readOn_125 : decode kb_Rd_readOn 125 = .ok (.invokevirtual 75, 3) := by decide +kernel
theorem kd_Rd_readOn_128 : decode kb_Rd_readOn 128 = .ok (.ireturn, 1) := by decide +kernel
theorem kd_Rd_readOn_129 : decode kb_Rd_readOn 129 = .ok (.aload_n 0, 1) := by decide +kernel
theorem kd_Rd_readOn_130 : decode kb_Rd_readOn 130 = .ok (.invokevirtual 78, 3) := by decide +kernel
theorem kd_Rd_readOn_133 : decode kb_Rd_readOn 133 = .ok (.ireturn, 1) := by decide +kernel
theorem kd_Rd_readOn_134 : decode kb_Rd_readOn 134 = .ok (.aload_n 0, 1) := by decide +kernel
theorem kd_Rd_readOn_135 : decode kb_Rd_readOn 135 = .ok (.dup, 1) := by decide +kernel
theorem kd_Rd_readOn_136 : decode kb_Rd_readOn 136 = .ok (.getfield 33, 3) := by decide +kernel
theorem kd_Rd_readOn_139 : decode kb_Rd_readOn 139 = .ok (.iconst 1, 1) := by decide +kernel
theorem kd_Rd_readOn_140 : decode kb_Rd_readOn 140 = .ok (.iadd, 1) := by decide +kernel
theorem kd_Rd_readOn_141 : decode kb_Rd_readOn 141 = .ok (.putfield 33, 3) := by decide +kernel
theorem kd_Rd_readOn_144 : decode kb_Rd_readOn 144 = .ok (.aload_n 0, 1) := by decide +kernel
theorem kd_Rd_readOn_145 : decode kb_Rd_readOn 145 = .ok (.getfield 9, 3) := by decide +kernel
theorem kd_Rd_readOn_148 : decode kb_Rd_readOn 148 = .ok (.aload_n 0, 1) := by decide +kernel
theorem kd_Rd_readOn_149 : decode kb_Rd_readOn 149 = .ok (.getfield 22, 3) := by decide +kernel
theorem kd_Rd_readOn_152 : decode kb_Rd_readOn 152 = .ok (.dup2, 1) := by decide +kernel
theorem kd_Rd_readOn_153 : decode kb_Rd_readOn 153 = .ok (.iaload, 1) := by decide +kernel
theorem kd_Rd_readOn_154 : decode kb_Rd_readOn 154 = .ok (.iconst 1, 1) := by decide +kernel
theorem kd_Rd_readOn_155 : decode kb_Rd_readOn 155 = .ok (.iadd, 1) := by decide +kernel
