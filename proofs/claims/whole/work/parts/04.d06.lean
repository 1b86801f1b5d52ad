theorem kd_Lw_law_100 : decode kb_Lw_law 100 = .ok (.iload_n 3, 1) := by decide +kernel
theorem kd_Lw_law_101 : decode kb_Lw_law 101 = .ok (.iconst 1, 1) := by decide +kernel
theorem kd_Lw_law_102 : decode kb_Lw_law 102 = .ok (.iadd, 1) := by decide +kernel
theorem kd_Lw_law_103 : decode kb_Lw_law 103 = .ok (.iaload, 1) := by decide +kernel
theorem kd_Lw_law_104 : decode kb_Lw_law 104 = .ok (.i2c, 1) := by decide +kernel
theorem kd_Lw_law_105 : decode kb_Lw_law 105 = .ok (.invokevirtual 17, 3) := by decide +kernel
theorem kd_Lw_law_108 : decode kb_Lw_law 108 = .ok (.if_icmp .eq 222, 3) := by decide +kernel
theorem kd_Lw_law_111 : decode kb_Lw_law 111 = .ok (.iconst 0, 1) := by decide +kernel
theorem kd_Lw_law_112 : decode kb_Lw_law 112 = .ok (.ireturn, 1) := by decide +kernel
theorem kd_Lw_law_113 : decode kb_Lw_law 113 = .ok (.aload_n 1, 1) := by decide +kernel
theorem kd_Lw_law_114 : decode kb_Lw_law 114 = .ok (.aload_n 0, 1) := by decide +kernel
theorem kd_Lw_law_115 : decode kb_Lw_law 115 = .ok (.iload_n 3, 1) := by decide +kernel
theorem kd_Lw_law_116 : decode kb_Lw_law 116 = .ok (.iconst 1, 1) := by decide +kernel
theorem kd_Lw_law_117 : decode kb_Lw_law 117 = .ok (.iadd, 1) := by decide +kernel
theorem kd_Lw_law_118 : decode kb_Lw_law 118 = .ok (.iaload, 1) := by decide +kernel
theorem kd_Lw_law_119 : decode kb_Lw_law 119 = .ok (.invokevirtual 18, 3) := by decide +kernel
theorem kd_Lw_law_122 : decode kb_Lw_law 122 = .ok (.aload_n 2, 1) := by decide +kernel
theorem kd_Lw_law_123 : decode kb_Lw_law 123 = .ok (.aload_n 0, 1) := by decide +kernel
theorem kd_Lw_law_124 : decode kb_Lw_law 124 = .ok (.iload_n 3, 1) := by decide +kernel
theorem kd_Lw_law_125 : decode kb_Lw_law 125 = .ok (.iconst 1, 1) := by decide +kernel
theorem kd_Lw_law_126 : decode kb_Lw_law 126 = .ok (.iadd, 1) := by decide +kernel
theorem kd_Lw_law_127 : decode kb_Lw_law 127 = .ok (.iaload, 1) := by decide +kernel
theorem kd_Lw_law_128 : decode kb_Lw_law 128 = .ok (.invokevirtual 22, 3) := by decide +kernel
theorem kd_Lw_law_131 : decode kb_Lw_law 131 = .ok (.if_icmp .eq 199, 3) := by decide +kernel
theorem kd_Lw_law_134 : decode kb_Lw_law 134 = .ok (.iconst 0, 1) := by decide +kernel
theorem kd_Lw_law_135 : decode kb_Lw_law 135 = .ok (.ireturn, 1) := by decide +kernel
theorem kd_Lw_law_136 : decode kb_Lw_law 136 = .ok (.aload_n 1, 1) := by decide +kernel
theorem kd_Lw_law_137 : decode kb_Lw_law 137 = .ok (.invokevirtual 23, 3) := by decide +kernel
theorem kd_Lw_law_140 : decode kb_Lw_law 140 = .ok (.aload_n 2, 1) := by decide +kernel
theorem kd_Lw_law_141 : decode kb_Lw_law 141 = .ok (.invokevirtual 27, 3) := by decide +kernel
theorem kd_Lw_law_144 : decode kb_Lw_law 144 = .ok (.if_icmp .eq 186, 3) := by decide +kernel
theorem kd_Lw_law_147 : decode kb_Lw_law 147 = .ok (.iconst 0, 1) := by decide +kernel
theorem kd_Lw_law_148 : decode kb_Lw_law 148 = .ok (.ireturn, 1) := by decide +kernel
theorem kd_Lw_law_149 : decode kb_Lw_law 149 = .ok (.aload_n 1, 1) := by decide +kernel
theorem kd_Lw_law_150 : decode kb_Lw_law 150 = .ok (.aload_n 0, 1) := by decide +kernel
theorem kd_Lw_law_151 : decode kb_Lw_law 151 = .ok (.iload_n 3, 1) := by decide +kernel
theorem kd_Lw_law_152 : decode kb_Lw_law 152 = .ok (.iconst 1, 1) := by decide +kernel
theorem kd_Lw_law_153 : decode kb_Lw_law 153 = .ok (.iadd, 1) := by decide +kernel
theorem kd_Lw_law_154 : decode kb_Lw_law 154 = .ok (.iaload, 1) := by decide +kernel
theorem kd_Lw_law_155 : decode kb_Lw_law 155 = .ok (.invokevirtual 28, 3) := by decide +kernel
theorem kd_Lw_law_158 : decode kb_Lw_law 158 = .ok (.aload_n 2, 1) := by decide +kernel
theorem kd_Lw_law_159 : decode kb_Lw_law 159 = .ok (.aload_n 0, 1) := by decide +kernel
theorem kd_Lw_law_160 : decode kb_Lw_law 160 = .ok (.iload_n 3, 1) := by decide +kernel
theorem kd_Lw_law_161 : decode kb_Lw_law 161 = .ok (.iconst 1, 1) := by decide +kernel
theorem kd_Lw_law_162 : decode kb_Lw_law 162 = .ok (.iadd, 1) := by decide +kernel
theorem kd_Lw_law_163 : decode kb_Lw_law 163 = .ok (.iaload, 1) := by decide +kernel
theorem kd_Lw_law_164 : decode kb_Lw_law 164 = .ok (.invokevirtual 32, 3) := by decide +kernel
theorem kd_Lw_law_167 : decode kb_Lw_law 167 = .ok (.if_icmp .eq 163, 3) := by decide +kernel
theorem kd_Lw_law_170 : decode kb_Lw_law 170 = .ok (.iconst 0, 1) := by decide +kernel
theorem kd_Lw_law_171 : decode kb_Lw_law 171 = .ok (.ireturn, 1) := by decide +kernel
theorem kd_Lw_law_172 : decode kb_Lw_law 172 = .ok (.aload_n 1, 1) := by decide +kernel
theorem kd_Lw_law_173 : decode kb_Lw_law 173 = .ok (.aload_n 0, 1) := by decide +kernel
theorem kd_Lw_law_174 : decode kb_Lw_law 174 = .ok (.iload_n 3, 1) := by decide +kernel
theorem kd_Lw_law_175 : decode kb_Lw_law 175 = .ok (.iconst 1, 1) := by decide +kernel
theorem kd_Lw_law_176 : decode kb_Lw_law 176 = .ok (.iadd, 1) := by decide +kernel
theorem kd_Lw_law_177 : decode kb_Lw_law 177 = .ok (.iaload, 1) := by decide +kernel
theorem kd_Lw_law_178 : decode kb_Lw_law 178 = .ok (.aload_n 0, 1) := by decide +kernel
theorem kd_Lw_law_179 : decode kb_Lw_law 179 = .ok (.iload_n 3, 1) := by decide +kernel
theorem kd_Lw_law_180 : decode kb_Lw_law 180 = .ok (.iconst 2, 1) := by decide +kernel
theorem kd_Lw_law_181 : decode kb_Lw_law 181 = .ok (.iadd, 1) := by decide +kernel
theorem kd_Lw_law_182 : decode kb_Lw_law 182 = .ok (.iaload, 1) := by decide +kernel
theorem kd_Lw_law_183 : decode kb_Lw_law 183 = .ok (.invokevirtual 33, 3) := by decide +kernel
theorem kd_Lw_law_186 : decode kb_Lw_law 186 = .ok (.aload_n 2, 1) := by decide +kernel
theorem kd_Lw_law_187 : decode kb_Lw_law 187 = .ok (.aload_n 0, 1) := by decide +kernel
theorem kd_Lw_law_188 : decode kb_Lw_law 188 = .ok (.iload_n 3, 1) := by decide +kernel
theorem kd_Lw_law_189 : decode kb_Lw_law 189 = .ok (.iconst 1, 1) := by decide +kernel
theorem kd_Lw_law_190 : decode kb_Lw_law 190 = .ok (.iadd, 1) := by decide +kernel
theorem kd_Lw_law_191 : decode kb_Lw_law 191 = .ok (.iaload, 1) := by decide +kernel
theorem kd_Lw_law_192 : decode kb_Lw_law 192 = .ok (.aload_n 0, 1) := by decide +kernel
theorem kd_Lw_law_193 : decode kb_Lw_law 193 = .ok (.iload_n 3, 1) := by decide +kernel
theorem kd_Lw_law_194 : decode kb_Lw_law 194 = .ok (.iconst 2, 1) := by decide +kernel
theorem kd_Lw_law_195 : decode kb_Lw_law 195 = .ok (.iadd, 1) := by decide +kernel
theorem kd_Lw_law_196 : decode kb_Lw_law 196 = .ok (.iaload, 1) := by decide +kernel
theorem kd_Lw_law_197 : decode kb_Lw_law 197 = .ok (.invokevirtual 37, 3) := by decide +kernel
theorem kd_Lw_law_200 : decode kb_Lw_law 200 = .ok (.if_icmp .eq 130, 3) := by decide +kernel
theorem kd_Lw_law_203 : decode kb_Lw_law 203 = .ok (.iconst 0, 1) := by decide +kernel
theorem kd_Lw_law_204 : decode kb_Lw_law 204 = .ok (.ireturn, 1) := by decide +kernel
theorem kd_Lw_law_205 : decode kb_Lw_law 205 = .ok (.aload_n 1, 1) := by decide +kernel
theorem kd_Lw_law_206 : decode kb_Lw_law 206 = .ok (.aload_n 0, 1) := by decide +kernel
theorem kd_Lw_law_207 : decode kb_Lw_law 207 = .ok (.iload_n 3, 1) := by decide +kernel
theorem kd_Lw_law_208 : decode kb_Lw_law 208 = .ok (.iconst 1, 1) := by decide +kernel
theorem kd_Lw_law_209 : decode kb_Lw_law 209 = .ok (.iadd, 1) := by decide +kernel
theorem kd_Lw_law_210 : decode kb_Lw_law 210 = .ok (.iaload, 1) := by decide +kernel
theorem kd_Lw_law_211 : decode kb_Lw_law 211 = .ok (.invokevirtual 38, 3) := by decide +kernel
theorem kd_Lw_law_214 : decode kb_Lw_law 214 = .ok (.aload_n 2, 1) := by decide +kernel
theorem kd_Lw_law_215 : decode kb_Lw_law 215 = .ok (.aload_n 0, 1) := by decide +kernel
theorem kd_Lw_law_216 : decode kb_Lw_law 216 = .ok (.iload_n 3, 1) := by decide +kernel
theorem kd_Lw_law_217 : decode kb_Lw_law 217 = .ok (.iconst 1, 1) := by decide +kernel
theorem kd_Lw_law_218 : decode kb_Lw_law 218 = .ok (.iadd, 1) := by decide +kernel
theorem kd_Lw_law_219 : decode kb_Lw_law 219 = .ok (.iaload, 1) := by decide +kernel
theorem kd_Lw_law_220 : decode kb_Lw_law 220 = .ok (.invokevirtual 41, 3) := by decide +kernel
theorem kd_Lw_law_223 : decode kb_Lw_law 223 = .ok (.if_icmp .eq 107, 3) := by decide +kernel
theorem kd_Lw_law_226 : decode kb_Lw_law 226 = .ok (.iconst 0, 1) := by decide +kernel
theorem kd_Lw_law_227 : decode kb_Lw_law 227 = .ok (.ireturn, 1) := by decide +kernel
theorem kd_Lw_law_228 : decode kb_Lw_law 228 = .ok (.aload_n 1, 1) := by decide +kernel
theorem kd_Lw_law_229 : decode kb_Lw_law 229 = .ok (.aload_n 0, 1) := by decide +kernel
theorem kd_Lw_law_230 : decode kb_Lw_law 230 = .ok (.iload_n 3, 1) := by decide +kernel
theorem kd_Lw_law_231 : decode kb_Lw_law 231 = .ok (.iconst 1, 1) := by decide +kernel
theorem kd_Lw_law_232 : decode kb_Lw_law 232 = .ok (.iadd, 1) := by decide +kernel
theorem kd_Lw_law_233 : decode kb_Lw_law 233 = .ok (.iaload, 1) := by decide +kernel
theorem kd_Lw_law_234 : decode kb_Lw_law 234 = .ok (.invokevirtual 42, 3) := by decide +kernel
theorem kd_Lw_law_237 : decode kb_Lw_law 237 = .ok (.aload_n 2, 1) := by decide +kernel
theorem kd_Lw_law_238 : decode kb_Lw_law 238 = .ok (.aload_n 0, 1) := by decide +kernel
theorem kd_Lw_law_239 : decode kb_Lw_law 239 = .ok (.iload_n 3, 1) := by decide +kernel
theorem kd_Lw_law_240 : decode kb_Lw_law 240 = .ok (.iconst 1, 1) := by decide +kernel
theorem kd_Lw_law_241 : decode kb_Lw_law 241 = .ok (.iadd, 1) := by decide +kernel
theorem kd_Lw_law_242 : decode kb_Lw_law 242 = .ok (.iaload, 1) := by decide +kernel
theorem kd_Lw_law_243 : decode kb_Lw_law 243 = .ok (.invokevirtual 45, 3) := by decide +kernel
theorem kd_Lw_law_246 : decode kb_Lw_law 246 = .ok (.if_icmp .eq 84, 3) := by decide +kernel
theorem kd_Lw_law_249 : decode kb_Lw_law 249 = .ok (.iconst 0, 1) := by decide +kernel
theorem kd_Lw_law_250 : decode kb_Lw_law 250 = .ok (.ireturn, 1) := by decide +kernel
theorem kd_Lw_law_251 : decode kb_Lw_law 251 = .ok (.aload_n 1, 1) := by decide +kernel
theorem kd_Lw_law_252 : decode kb_Lw_law 252 = .ok (.aload_n 0, 1) := by decide +kernel
theorem kd_Lw_law_253 : decode kb_Lw_law 253 = .ok (.iload_n 3, 1) := by decide +kernel
theorem kd_Lw_law_254 : decode kb_Lw_law 254 = .ok (.iconst 1, 1) := by decide +kernel
theorem kd_Lw_law_255 : decode kb_Lw_law 255 = .ok (.iadd, 1) := by decide +kernel
theorem kd_Lw_law_256 : decode kb_Lw_law 256 = .ok (.iaload, 1) := by decide +kernel
theorem kd_Lw_law_257 : decode kb_Lw_law 257 = .ok (.aload_n 0, 1) := by decide +kernel
theorem kd_Lw_law_258 : decode kb_Lw_law 258 = .ok (.iload_n 3, 1) := by decide +kernel
theorem kd_Lw_law_259 : decode kb_Lw_law 259 = .ok (.iconst 2, 1) := by decide +kernel
theorem kd_Lw_law_260 : decode kb_Lw_law 260 = .ok (.iadd, 1) := by decide +kernel
theorem kd_Lw_law_261 : decode kb_Lw_law 261 = .ok (.iaload, 1) := by decide +kernel
theorem kd_Lw_law_262 : decode kb_Lw_law 262 = .ok (.invokevirtual 46, 3) := by decide +kernel
theorem kd_Lw_law_265 : decode kb_Lw_law 265 = .ok (.aload_n 2, 1) := by decide +kernel
theorem kd_Lw_law_266 : decode kb_Lw_law 266 = .ok (.aload_n 0, 1) := by decide +kernel
theorem kd_Lw_law_267 : decode kb_Lw_law 267 = .ok (.iload_n 3, 1) := by decide +kernel
theorem kd_Lw_law_268 : decode kb_Lw_law 268 = .ok (.iconst 1, 1) := by decide +kernel
theorem kd_Lw_law_269 : decode kb_Lw_law 269 = .ok (.iadd, 1) := by decide +kernel
theorem kd_Lw_law_270 : decode kb_Lw_law 270 = .ok (.iaload, 1) := by decide +kernel
theorem kd_Lw_law_271 : decode kb_Lw_law 271 = .ok (.aload_n 0, 1) := by decide +kernel
theorem kd_Lw_law_272 : decode kb_Lw_law 272 = .ok (.iload_n 3, 1) := by decide +kernel
theorem kd_Lw_law_273 : decode kb_Lw_law 273 = .ok (.iconst 2, 1) := by decide +kernel
theorem kd_Lw_law_274 : decode kb_Lw_law 274 = .ok (.iadd, 1) := by decide +kernel
theorem kd_Lw_law_275 : decode kb_Lw_law 275 = .ok (.iaload, 1) := by decide +kernel
theorem kd_Lw_law_276 : decode kb_Lw_law 276 = .ok (.invokevirtual 49, 3) := by decide +kernel
theorem kd_Lw_law_279 : decode kb_Lw_law 279 = .ok (.if_icmp .eq 51, 3) := by decide +kernel
theorem kd_Lw_law_282 : decode kb_Lw_law 282 = .ok (.iconst 0, 1) := by decide +kernel
theorem kd_Lw_law_283 : decode kb_Lw_law 283 = .ok (.ireturn, 1) := by decide +kernel
theorem kd_Lw_law_284 : decode kb_Lw_law 284 = .ok (.aload_n 1, 1) := by decide +kernel
theorem kd_Lw_law_285 : decode kb_Lw_law 285 = .ok (.aload_n 0, 1) := by decide +kernel
theorem kd_Lw_law_286 : decode kb_Lw_law 286 = .ok (.iload_n 3, 1) := by decide +kernel
theorem kd_Lw_law_287 : decode kb_Lw_law 287 = .ok (.iconst 1, 1) := by decide +kernel
theorem kd_Lw_law_288 : decode kb_Lw_law 288 = .ok (.iadd, 1) := by decide +kernel
theorem kd_Lw_law_289 : decode kb_Lw_law 289 = .ok (.iaload, 1) := by decide +kernel
theorem kd_Lw_law_290 : decode kb_Lw_law 290 = .ok (.invokevirtual 50, 3) := by decide +kernel
theorem kd_Lw_law_293 : decode kb_Lw_law 293 = .ok (.aload_n 2, 1) := by decide +kernel
theorem kd_Lw_law_294 : decode kb_Lw_law 294 = .ok (.aload_n 0, 1) := by decide +kernel
theorem kd_Lw_law_295 : decode kb_Lw_law 295 = .ok (.iload_n 3, 1) := by decide +kernel
theorem kd_Lw_law_296 : decode kb_Lw_law 296 = .ok (.iconst 1, 1) := by decide +kernel
theorem kd_Lw_law_297 : decode kb_Lw_law 297 = .ok (.iadd, 1) := by decide +kernel
theorem kd_Lw_law_298 : decode kb_Lw_law 298 = .ok (.iaload, 1) := by decide +kernel
theorem kd_Lw_law_299 : decode kb_Lw_law 299 = .ok (.invokevirtual 53, 3) := by decide +kernel
theorem kd_Lw_law_302 : decode kb_Lw_law 302 = .ok (.if_icmp .eq 28, 3) := by decide +kernel
theorem kd_Lw_law_305 : decode kb_Lw_law 305 = .ok (.iconst 0, 1) := by decide +kernel
theorem kd_Lw_law_306 : decode kb_Lw_law 306 = .ok (.ireturn, 1) := by decide +kernel
theorem kd_Lw_law_307 : decode kb_Lw_law 307 = .ok (.aload_n 1, 1) := by decide +kernel
theorem kd_Lw_law_308 : decode kb_Lw_law 308 = .ok (.aload_n 0, 1) := by decide +kernel
theorem kd_Lw_law_309 : decode kb_Lw_law 309 = .ok (.iload_n 3, 1) := by decide +kernel
theorem kd_Lw_law_310 : decode kb_Lw_law 310 = .ok (.iconst 1, 1) := by decide +kernel
theorem kd_Lw_law_311 : decode kb_Lw_law 311 = .ok (.iadd, 1) := by decide +kernel
theorem kd_Lw_law_312 : decode kb_Lw_law 312 = .ok (.iaload, 1) := by decide +kernel
theorem kd_Lw_law_313 : decode kb_Lw_law 313 = .ok (.invokevirtual 54, 3) := by decide +kernel
theorem kd_Lw_law_316 : decode kb_Lw_law 316 = .ok (.aload_n 2, 1) := by decide +kernel
theorem kd_Lw_law_317 : decode kb_Lw_law 317 = .ok (.aload_n 0, 1) := by decide +kernel
theorem kd_Lw_law_318 : decode kb_Lw_law 318 = .ok (.iload_n 3, 1) := by decide +kernel
theorem kd_Lw_law_319 : decode kb_Lw_law 319 = .ok (.iconst 1, 1) := by decide +kernel
theorem kd_Lw_law_320 : decode kb_Lw_law 320 = .ok (.iadd, 1) := by decide +kernel
theorem kd_Lw_law_321 : decode kb_Lw_law 321 = .ok (.iaload, 1) := by decide +kernel
theorem kd_Lw_law_322 : decode kb_Lw_law 322 = .ok (.invokevirtual 57, 3) := by decide +kernel
theorem kd_Lw_law_325 : decode kb_Lw_law 325 = .ok (.if_icmp .eq 5, 3) := by decide +kernel
theorem kd_Lw_law_328 : decode kb_Lw_law 328 = .ok (.iconst 0, 1) := by decide +kernel
theorem kd_Lw_law_329 : decode kb_Lw_law 329 = .ok (.ireturn, 1) := by decide +kernel
theorem kd_Lw_law_330 : decode kb_Lw_law 330 = .ok (.iinc 3 3, 3) := by decide +kernel
theorem kd_Lw_law_333 : decode kb_Lw_law 333 = .ok (.goto (-315), 3) := by decide +kernel
theorem kd_Lw_law_336 : decode kb_Lw_law 336 = .ok (.iconst 1, 1) := by decide +kernel
theorem kd_Lw_law_337 : decode kb_Lw_law 337 = .ok (.ireturn, 1) := by decide +kernel
