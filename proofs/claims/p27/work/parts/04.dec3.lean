/-! decode rows (printed), 3 -/
theorem dL_areMachines_170 : decode cL_areMachines 170 = .ok (.goto 4, 3) := by decide +kernel
theorem dL_areMachines_173 : decode cL_areMachines 173 = .ok (.iconst 0, 1) := by decide +kernel
theorem dL_areMachines_174 : decode cL_areMachines 174 = .ok (.istore 8, 2) := by decide +kernel
theorem dL_areMachines_176 : decode cL_areMachines 176 = .ok (.iload 7, 2) := by decide +kernel
theorem dL_areMachines_178 : decode cL_areMachines 178 = .ok (.ifCond .ge 16, 3) := by decide +kernel
theorem dL_areMachines_181 : decode cL_areMachines 181 = .ok (.iload 8, 2) := by decide +kernel
theorem dL_areMachines_183 : decode cL_areMachines 183 = .ok (.ifCond .ne 7, 3) := by decide +kernel
theorem dL_areMachines_186 : decode cL_areMachines 186 = .ok (.iconst 1, 1) := by decide +kernel
theorem dL_areMachines_187 : decode cL_areMachines 187 = .ok (.goto 39, 3) := by decide +kernel
theorem dL_areMachines_190 : decode cL_areMachines 190 = .ok (.iconst 0, 1) := by decide +kernel
theorem dL_areMachines_191 : decode cL_areMachines 191 = .ok (.goto 35, 3) := by decide +kernel
theorem dL_areMachines_194 : decode cL_areMachines 194 = .ok (.aload_n 0, 1) := by decide +kernel
theorem dL_areMachines_195 : decode cL_areMachines 195 = .ok (.iload 7, 2) := by decide +kernel
theorem dL_areMachines_197 : decode cL_areMachines 197 = .ok (.invokevirtual 66, 3) := by decide +kernel
theorem dL_areMachines_200 : decode cL_areMachines 200 = .ok (.bipush 40, 2) := by decide +kernel
theorem dL_areMachines_202 : decode cL_areMachines 202 = .ok (.if_icmp .ge 23, 3) := by decide +kernel
theorem dL_areMachines_205 : decode cL_areMachines 205 = .ok (.aload_n 0, 1) := by decide +kernel
theorem dL_areMachines_206 : decode cL_areMachines 206 = .ok (.iload 7, 2) := by decide +kernel
theorem dL_areMachines_208 : decode cL_areMachines 208 = .ok (.invokevirtual 66, 3) := by decide +kernel
theorem dL_areMachines_211 : decode cL_areMachines 211 = .ok (.bipush 10, 2) := by decide +kernel
theorem dL_areMachines_213 : decode cL_areMachines 213 = .ok (.if_icmp .lt 8, 3) := by decide +kernel
theorem dL_areMachines_216 : decode cL_areMachines 216 = .ok (.iload 8, 2) := by decide +kernel
theorem dL_areMachines_218 : decode cL_areMachines 218 = .ok (.ifCond .eq 7, 3) := by decide +kernel
theorem dL_areMachines_221 : decode cL_areMachines 221 = .ok (.iconst 1, 1) := by decide +kernel
theorem dL_areMachines_222 : decode cL_areMachines 222 = .ok (.goto 4, 3) := by decide +kernel
theorem dL_areMachines_225 : decode cL_areMachines 225 = .ok (.iconst 0, 1) := by decide +kernel
theorem dL_areMachines_226 : decode cL_areMachines 226 = .ok (.istore 4, 2) := by decide +kernel
theorem dL_areMachines_228 : decode cL_areMachines 228 = .ok (.iinc 6 1, 3) := by decide +kernel
theorem dL_areMachines_231 : decode cL_areMachines 231 = .ok (.goto (-91), 3) := by decide +kernel
theorem dL_areMachines_234 : decode cL_areMachines 234 = .ok (.iload 4, 2) := by decide +kernel
theorem dL_areMachines_236 : decode cL_areMachines 236 = .ok (.ireturn, 1) := by decide +kernel
theorem dL_law_0 : decode cL_law 0 = .ok (.new 8, 3) := by decide +kernel
theorem dL_law_3 : decode cL_law 3 = .ok (.dup, 1) := by decide +kernel
theorem dL_law_4 : decode cL_law 4 = .ok (.invokespecial 84, 3) := by decide +kernel
theorem dL_law_7 : decode cL_law 7 = .ok (.astore_n 1, 1) := by decide +kernel
theorem dL_law_8 : decode cL_law 8 = .ok (.bipush 10, 2) := by decide +kernel
theorem dL_law_10 : decode cL_law 10 = .ok (.newarray .int, 2) := by decide +kernel
theorem dL_law_12 : decode cL_law 12 = .ok (.astore_n 2, 1) := by decide +kernel
theorem dL_law_13 : decode cL_law 13 = .ok (.bipush 10, 2) := by decide +kernel
theorem dL_law_15 : decode cL_law 15 = .ok (.newarray .int, 2) := by decide +kernel
theorem dL_law_17 : decode cL_law 17 = .ok (.astore_n 3, 1) := by decide +kernel
theorem dL_law_18 : decode cL_law 18 = .ok (.bipush 10, 2) := by decide +kernel
theorem dL_law_20 : decode cL_law 20 = .ok (.newarray .int, 2) := by decide +kernel
theorem dL_law_22 : decode cL_law 22 = .ok (.astore 4, 2) := by decide +kernel
theorem dL_law_24 : decode cL_law 24 = .ok (.iconst 0, 1) := by decide +kernel
theorem dL_law_25 : decode cL_law 25 = .ok (.istore 5, 2) := by decide +kernel
theorem dL_law_27 : decode cL_law 27 = .ok (.iconst 0, 1) := by decide +kernel
theorem dL_law_28 : decode cL_law 28 = .ok (.istore 6, 2) := by decide +kernel
theorem dL_law_30 : decode cL_law 30 = .ok (.aload_n 1, 1) := by decide +kernel
theorem dL_law_31 : decode cL_law 31 = .ok (.aload_n 2, 1) := by decide +kernel
theorem dL_law_32 : decode cL_law 32 = .ok (.iconst 0, 1) := by decide +kernel
theorem dL_law_33 : decode cL_law 33 = .ok (.invokestatic 85, 3) := by decide +kernel
theorem dL_law_36 : decode cL_law 36 = .ok (.istore 7, 2) := by decide +kernel
theorem dL_law_38 : decode cL_law 38 = .ok (.aload_n 0, 1) := by decide +kernel
theorem dL_law_39 : decode cL_law 39 = .ok (.arraylength, 1) := by decide +kernel
theorem dL_law_40 : decode cL_law 40 = .ok (.bipush 40, 2) := by decide +kernel
theorem dL_law_42 : decode cL_law 42 = .ok (.if_icmp .ge 9, 3) := by decide +kernel
theorem dL_law_45 : decode cL_law 45 = .ok (.sipush 170, 3) := by decide +kernel
theorem dL_law_48 : decode cL_law 48 = .ok (.goto 20, 3) := by decide +kernel
theorem dL_law_51 : decode cL_law 51 = .ok (.aload_n 0, 1) := by decide +kernel
theorem dL_law_52 : decode cL_law 52 = .ok (.arraylength, 1) := by decide +kernel
theorem dL_law_53 : decode cL_law 53 = .ok (.bipush 80, 2) := by decide +kernel
theorem dL_law_55 : decode cL_law 55 = .ok (.if_icmp .ge 10, 3) := by decide +kernel
theorem dL_law_58 : decode cL_law 58 = .ok (.iconst 3, 1) := by decide +kernel
theorem dL_law_59 : decode cL_law 59 = .ok (.aload_n 0, 1) := by decide +kernel
theorem dL_law_60 : decode cL_law 60 = .ok (.arraylength, 1) := by decide +kernel
theorem dL_law_61 : decode cL_law 61 = .ok (.imul, 1) := by decide +kernel
theorem dL_law_62 : decode cL_law 62 = .ok (.goto 6, 3) := by decide +kernel
theorem dL_law_65 : decode cL_law 65 = .ok (.sipush 280, 3) := by decide +kernel
theorem dL_law_68 : decode cL_law 68 = .ok (.istore 8, 2) := by decide +kernel
theorem dL_law_70 : decode cL_law 70 = .ok (.iconst 0, 1) := by decide +kernel
theorem dL_law_71 : decode cL_law 71 = .ok (.istore 9, 2) := by decide +kernel
theorem dL_law_73 : decode cL_law 73 = .ok (.iload 9, 2) := by decide +kernel
theorem dL_law_75 : decode cL_law 75 = .ok (.iload 8, 2) := by decide +kernel
theorem dL_law_77 : decode cL_law 77 = .ok (.if_icmp .ge 1759, 3) := by decide +kernel
theorem dL_law_80 : decode cL_law 80 = .ok (.iload 7, 2) := by decide +kernel
theorem dL_law_82 : decode cL_law 82 = .ok (.ifCond .eq 1754, 3) := by decide +kernel
theorem dL_law_85 : decode cL_law 85 = .ok (.iload 9, 2) := by decide +kernel
theorem dL_law_87 : decode cL_law 87 = .ok (.aload_n 0, 1) := by decide +kernel
theorem dL_law_88 : decode cL_law 88 = .ok (.arraylength, 1) := by decide +kernel
theorem dL_law_89 : decode cL_law 89 = .ok (.if_icmp .ge 10, 3) := by decide +kernel
theorem dL_law_92 : decode cL_law 92 = .ok (.aload_n 0, 1) := by decide +kernel
theorem dL_law_93 : decode cL_law 93 = .ok (.iload 9, 2) := by decide +kernel
theorem dL_law_95 : decode cL_law 95 = .ok (.iaload, 1) := by decide +kernel
theorem dL_law_96 : decode cL_law 96 = .ok (.goto 20, 3) := by decide +kernel
theorem dL_law_99 : decode cL_law 99 = .ok (.ldc 91, 2) := by decide +kernel
theorem dL_law_101 : decode cL_law 101 = .ok (.iload 9, 2) := by decide +kernel
theorem dL_law_103 : decode cL_law 103 = .ok (.imul, 1) := by decide +kernel
theorem dL_law_104 : decode cL_law 104 = .ok (.iload 9, 2) := by decide +kernel
theorem dL_law_106 : decode cL_law 106 = .ok (.imul, 1) := by decide +kernel
theorem dL_law_107 : decode cL_law 107 = .ok (.ldc 92, 2) := by decide +kernel
theorem dL_law_109 : decode cL_law 109 = .ok (.iload 9, 2) := by decide +kernel
theorem dL_law_111 : decode cL_law 111 = .ok (.imul, 1) := by decide +kernel
theorem dL_law_112 : decode cL_law 112 = .ok (.iadd, 1) := by decide +kernel
theorem dL_law_113 : decode cL_law 113 = .ok (.bipush 78, 2) := by decide +kernel
theorem dL_law_115 : decode cL_law 115 = .ok (.iadd, 1) := by decide +kernel
theorem dL_law_116 : decode cL_law 116 = .ok (.istore 10, 2) := by decide +kernel
theorem dL_law_118 : decode cL_law 118 = .ok (.iload 10, 2) := by decide +kernel
theorem dL_law_120 : decode cL_law 120 = .ok (.iconst 4, 1) := by decide +kernel
theorem dL_law_121 : decode cL_law 121 = .ok (.ishr, 1) := by decide +kernel
theorem dL_law_122 : decode cL_law 122 = .ok (.ldc 93, 2) := by decide +kernel
theorem dL_law_124 : decode cL_law 124 = .ok (.iand, 1) := by decide +kernel
theorem dL_law_125 : decode cL_law 125 = .ok (.istore 11, 2) := by decide +kernel
theorem dL_law_127 : decode cL_law 127 = .ok (.iload 9, 2) := by decide +kernel
theorem dL_law_129 : decode cL_law 129 = .ok (.iconst 3, 1) := by decide +kernel
theorem dL_law_130 : decode cL_law 130 = .ok (.if_icmp .ge 7, 3) := by decide +kernel
theorem dL_law_133 : decode cL_law 133 = .ok (.iconst 0, 1) := by decide +kernel
theorem dL_law_134 : decode cL_law 134 = .ok (.goto 19, 3) := by decide +kernel
theorem dL_law_137 : decode cL_law 137 = .ok (.iload 9, 2) := by decide +kernel
theorem dL_law_139 : decode cL_law 139 = .ok (.bipush 8, 2) := by decide +kernel
theorem dL_law_141 : decode cL_law 141 = .ok (.if_icmp .ge 7, 3) := by decide +kernel
theorem dL_law_144 : decode cL_law 144 = .ok (.iconst 1, 1) := by decide +kernel
theorem dL_law_145 : decode cL_law 145 = .ok (.goto 8, 3) := by decide +kernel
theorem dL_law_148 : decode cL_law 148 = .ok (.iload 10, 2) := by decide +kernel
theorem dL_law_150 : decode cL_law 150 = .ok (.bipush 15, 2) := by decide +kernel
theorem dL_law_152 : decode cL_law 152 = .ok (.iand, 1) := by decide +kernel
theorem dL_law_153 : decode cL_law 153 = .ok (.istore 12, 2) := by decide +kernel
theorem dL_law_155 : decode cL_law 155 = .ok (.iload 5, 2) := by decide +kernel
theorem dL_law_157 : decode cL_law 157 = .ok (.ifCond .ne 7, 3) := by decide +kernel
theorem dL_law_160 : decode cL_law 160 = .ok (.iconst 0, 1) := by decide +kernel
theorem dL_law_161 : decode cL_law 161 = .ok (.goto 8, 3) := by decide +kernel
theorem dL_law_164 : decode cL_law 164 = .ok (.iload 11, 2) := by decide +kernel
theorem dL_law_166 : decode cL_law 166 = .ok (.iload 5, 2) := by decide +kernel
theorem dL_law_168 : decode cL_law 168 = .ok (.irem, 1) := by decide +kernel
theorem dL_law_169 : decode cL_law 169 = .ok (.istore 13, 2) := by decide +kernel
theorem dL_law_171 : decode cL_law 171 = .ok (.aload_n 1, 1) := by decide +kernel
theorem dL_law_172 : decode cL_law 172 = .ok (.invokevirtual 53, 3) := by decide +kernel
theorem dL_law_175 : decode cL_law 175 = .ok (.istore 14, 2) := by decide +kernel
theorem dL_law_177 : decode cL_law 177 = .ok (.aload_n 1, 1) := by decide +kernel
theorem dL_law_178 : decode cL_law 178 = .ok (.invokevirtual 72, 3) := by decide +kernel
theorem dL_law_181 : decode cL_law 181 = .ok (.istore 15, 2) := by decide +kernel
theorem dL_law_183 : decode cL_law 183 = .ok (.iload 14, 2) := by decide +kernel
theorem dL_law_185 : decode cL_law 185 = .ok (.ifCond .ne 7, 3) := by decide +kernel
theorem dL_law_188 : decode cL_law 188 = .ok (.iconst 0, 1) := by decide +kernel
theorem dL_law_189 : decode cL_law 189 = .ok (.goto 10, 3) := by decide +kernel
theorem dL_law_192 : decode cL_law 192 = .ok (.iload 11, 2) := by decide +kernel
theorem dL_law_194 : decode cL_law 194 = .ok (.iconst 2, 1) := by decide +kernel
theorem dL_law_195 : decode cL_law 195 = .ok (.ishr, 1) := by decide +kernel
theorem dL_law_196 : decode cL_law 196 = .ok (.iload 14, 2) := by decide +kernel
theorem dL_law_198 : decode cL_law 198 = .ok (.irem, 1) := by decide +kernel
theorem dL_law_199 : decode cL_law 199 = .ok (.istore 16, 2) := by decide +kernel
theorem dL_law_201 : decode cL_law 201 = .ok (.iload 12, 2) := by decide +kernel
theorem dL_law_203 : decode cL_law 203 = .ok (.ifCond .ne 83, 3) := by decide +kernel
theorem dL_law_206 : decode cL_law 206 = .ok (.iload 5, 2) := by decide +kernel
theorem dL_law_208 : decode cL_law 208 = .ok (.bipush 10, 2) := by decide +kernel
theorem dL_law_210 : decode cL_law 210 = .ok (.if_icmp .ge 76, 3) := by decide +kernel
theorem dL_law_213 : decode cL_law 213 = .ok (.iload 9, 2) := by decide +kernel
theorem dL_law_215 : decode cL_law 215 = .ok (.iconst 3, 1) := by decide +kernel
theorem dL_law_216 : decode cL_law 216 = .ok (.if_icmp .lt 10, 3) := by decide +kernel
theorem dL_law_219 : decode cL_law 219 = .ok (.iload 11, 2) := by decide +kernel
theorem dL_law_221 : decode cL_law 221 = .ok (.iconst 3, 1) := by decide +kernel
theorem dL_law_222 : decode cL_law 222 = .ok (.iand, 1) := by decide +kernel
theorem dL_law_223 : decode cL_law 223 = .ok (.ifCond .ne 63, 3) := by decide +kernel
theorem dL_law_226 : decode cL_law 226 = .ok (.aload_n 2, 1) := by decide +kernel
theorem dL_law_227 : decode cL_law 227 = .ok (.iload 5, 2) := by decide +kernel
theorem dL_law_229 : decode cL_law 229 = .ok (.iload 11, 2) := by decide +kernel
theorem dL_law_231 : decode cL_law 231 = .ok (.iconst 2, 1) := by decide +kernel
theorem dL_law_232 : decode cL_law 232 = .ok (.ishr, 1) := by decide +kernel
theorem dL_law_233 : decode cL_law 233 = .ok (.iload 5, 2) := by decide +kernel
theorem dL_law_235 : decode cL_law 235 = .ok (.iconst 1, 1) := by decide +kernel
theorem dL_law_236 : decode cL_law 236 = .ok (.iadd, 1) := by decide +kernel
theorem dL_law_237 : decode cL_law 237 = .ok (.irem, 1) := by decide +kernel
theorem dL_law_238 : decode cL_law 238 = .ok (.iconst 1, 1) := by decide +kernel
theorem dL_law_239 : decode cL_law 239 = .ok (.isub, 1) := by decide +kernel
theorem dL_law_240 : decode cL_law 240 = .ok (.iastore, 1) := by decide +kernel
theorem dL_law_241 : decode cL_law 241 = .ok (.aload_n 1, 1) := by decide +kernel
theorem dL_law_242 : decode cL_law 242 = .ok (.aload_n 2, 1) := by decide +kernel
theorem dL_law_243 : decode cL_law 243 = .ok (.iload 5, 2) := by decide +kernel
theorem dL_law_245 : decode cL_law 245 = .ok (.iaload, 1) := by decide +kernel
theorem dL_law_246 : decode cL_law 246 = .ok (.invokevirtual 94, 3) := by decide +kernel
theorem dL_law_249 : decode cL_law 249 = .ok (.iload 5, 2) := by decide +kernel
theorem dL_law_251 : decode cL_law 251 = .ok (.if_icmp .ne 26, 3) := by decide +kernel
theorem dL_law_254 : decode cL_law 254 = .ok (.aload_n 1, 1) := by decide +kernel
theorem dL_law_255 : decode cL_law 255 = .ok (.iload 5, 2) := by decide +kernel
theorem dL_law_257 : decode cL_law 257 = .ok (.invokevirtual 56, 3) := by decide +kernel
theorem dL_law_260 : decode cL_law 260 = .ok (.iconst (-1), 1) := by decide +kernel
theorem dL_law_261 : decode cL_law 261 = .ok (.if_icmp .ne 16, 3) := by decide +kernel
theorem dL_law_264 : decode cL_law 264 = .ok (.aload_n 1, 1) := by decide +kernel
theorem dL_law_265 : decode cL_law 265 = .ok (.iload 5, 2) := by decide +kernel
theorem dL_law_267 : decode cL_law 267 = .ok (.invokevirtual 59, 3) := by decide +kernel
theorem dL_law_270 : decode cL_law 270 = .ok (.ifCond .ne 7, 3) := by decide +kernel
theorem dL_law_273 : decode cL_law 273 = .ok (.iconst 1, 1) := by decide +kernel
theorem dL_law_274 : decode cL_law 274 = .ok (.goto 4, 3) := by decide +kernel
theorem dL_law_277 : decode cL_law 277 = .ok (.iconst 0, 1) := by decide +kernel
theorem dL_law_278 : decode cL_law 278 = .ok (.istore 7, 2) := by decide +kernel
theorem dL_law_280 : decode cL_law 280 = .ok (.iinc 5 1, 3) := by decide +kernel
theorem dL_law_283 : decode cL_law 283 = .ok (.goto 1516, 3) := by decide +kernel
theorem dL_law_286 : decode cL_law 286 = .ok (.iload 12, 2) := by decide +kernel
theorem dL_law_288 : decode cL_law 288 = .ok (.iconst 2, 1) := by decide +kernel
theorem dL_law_289 : decode cL_law 289 = .ok (.if_icmp .ge 86, 3) := by decide +kernel
theorem dL_law_292 : decode cL_law 292 = .ok (.aload_n 1, 1) := by decide +kernel
theorem dL_law_293 : decode cL_law 293 = .ok (.iload 13, 2) := by decide +kernel
theorem dL_law_295 : decode cL_law 295 = .ok (.iload 11, 2) := by decide +kernel
theorem dL_law_297 : decode cL_law 297 = .ok (.iconst 4, 1) := by decide +kernel
theorem dL_law_298 : decode cL_law 298 = .ok (.ishr, 1) := by decide +kernel
theorem dL_law_299 : decode cL_law 299 = .ok (.iconst 4, 1) := by decide +kernel
theorem dL_law_300 : decode cL_law 300 = .ok (.irem, 1) := by decide +kernel
theorem dL_law_301 : decode cL_law 301 = .ok (.invokestatic 97, 3) := by decide +kernel
theorem dL_law_304 : decode cL_law 304 = .ok (.istore 17, 2) := by decide +kernel
theorem dL_law_306 : decode cL_law 306 = .ok (.iload 17, 2) := by decide +kernel
theorem dL_law_308 : decode cL_law 308 = .ok (.aload_n 3, 1) := by decide +kernel
theorem dL_law_309 : decode cL_law 309 = .ok (.iload 13, 2) := by decide +kernel
theorem dL_law_311 : decode cL_law 311 = .ok (.iaload, 1) := by decide +kernel
theorem dL_law_312 : decode cL_law 312 = .ok (.iconst 5, 1) := by decide +kernel
theorem dL_law_313 : decode cL_law 313 = .ok (.if_icmp .ge 12, 3) := by decide +kernel
theorem dL_law_316 : decode cL_law 316 = .ok (.aload_n 3, 1) := by decide +kernel
theorem dL_law_317 : decode cL_law 317 = .ok (.iload 13, 2) := by decide +kernel
theorem dL_law_319 : decode cL_law 319 = .ok (.iaload, 1) := by decide +kernel
theorem dL_law_320 : decode cL_law 320 = .ok (.iconst 1, 1) := by decide +kernel
theorem dL_law_321 : decode cL_law 321 = .ok (.iadd, 1) := by decide +kernel
theorem dL_law_322 : decode cL_law 322 = .ok (.goto 5, 3) := by decide +kernel
theorem dL_law_325 : decode cL_law 325 = .ok (.bipush (-3), 2) := by decide +kernel
theorem dL_law_327 : decode cL_law 327 = .ok (.if_icmp .ne 25, 3) := by decide +kernel
theorem dL_law_330 : decode cL_law 330 = .ok (.aload_n 1, 1) := by decide +kernel
theorem dL_law_331 : decode cL_law 331 = .ok (.invokevirtual 53, 3) := by decide +kernel
theorem dL_law_334 : decode cL_law 334 = .ok (.iload 14, 2) := by decide +kernel
theorem dL_law_336 : decode cL_law 336 = .ok (.if_icmp .ne 16, 3) := by decide +kernel
theorem dL_law_339 : decode cL_law 339 = .ok (.aload_n 1, 1) := by decide +kernel
theorem dL_law_340 : decode cL_law 340 = .ok (.invokevirtual 72, 3) := by decide +kernel
theorem dL_law_343 : decode cL_law 343 = .ok (.iload 15, 2) := by decide +kernel
theorem dL_law_345 : decode cL_law 345 = .ok (.if_icmp .ne 7, 3) := by decide +kernel
theorem dL_law_348 : decode cL_law 348 = .ok (.iconst 1, 1) := by decide +kernel
theorem dL_law_349 : decode cL_law 349 = .ok (.goto 4, 3) := by decide +kernel
theorem dL_law_352 : decode cL_law 352 = .ok (.iconst 0, 1) := by decide +kernel
theorem dL_law_353 : decode cL_law 353 = .ok (.istore 7, 2) := by decide +kernel
theorem dL_law_355 : decode cL_law 355 = .ok (.aload_n 3, 1) := by decide +kernel
theorem dL_law_356 : decode cL_law 356 = .ok (.iload 13, 2) := by decide +kernel
theorem dL_law_358 : decode cL_law 358 = .ok (.dup2, 1) := by decide +kernel
theorem dL_law_359 : decode cL_law 359 = .ok (.iaload, 1) := by decide +kernel
theorem dL_law_360 : decode cL_law 360 = .ok (.iload 17, 2) := by decide +kernel
theorem dL_law_362 : decode cL_law 362 = .ok (.ifCond .le 7, 3) := by decide +kernel
theorem dL_law_365 : decode cL_law 365 = .ok (.iconst 1, 1) := by decide +kernel
theorem dL_law_366 : decode cL_law 366 = .ok (.goto 4, 3) := by decide +kernel
theorem dL_law_369 : decode cL_law 369 = .ok (.iconst 0, 1) := by decide +kernel
theorem dL_law_370 : decode cL_law 370 = .ok (.iadd, 1) := by decide +kernel
theorem dL_law_371 : decode cL_law 371 = .ok (.iastore, 1) := by decide +kernel
theorem dL_law_372 : decode cL_law 372 = .ok (.goto 1427, 3) := by decide +kernel
theorem dL_law_375 : decode cL_law 375 = .ok (.iload 12, 2) := by decide +kernel
theorem dL_law_377 : decode cL_law 377 = .ok (.iconst 2, 1) := by decide +kernel
theorem dL_law_378 : decode cL_law 378 = .ok (.if_icmp .ne 123, 3) := by decide +kernel
theorem dL_law_381 : decode cL_law 381 = .ok (.iload 11, 2) := by decide +kernel
theorem dL_law_383 : decode cL_law 383 = .ok (.iconst 4, 1) := by decide +kernel
theorem dL_law_384 : decode cL_law 384 = .ok (.ishr, 1) := by decide +kernel
theorem dL_law_385 : decode cL_law 385 = .ok (.iconst 4, 1) := by decide +kernel
theorem dL_law_386 : decode cL_law 386 = .ok (.irem, 1) := by decide +kernel
theorem dL_law_387 : decode cL_law 387 = .ok (.istore 17, 2) := by decide +kernel
theorem dL_law_389 : decode cL_law 389 = .ok (.iload 11, 2) := by decide +kernel
theorem dL_law_391 : decode cL_law 391 = .ok (.iconst 1, 1) := by decide +kernel
theorem dL_law_392 : decode cL_law 392 = .ok (.iand, 1) := by decide +kernel
theorem dL_law_393 : decode cL_law 393 = .ok (.ifCond .ne 7, 3) := by decide +kernel
theorem dL_law_396 : decode cL_law 396 = .ok (.iconst (-1), 1) := by decide +kernel
theorem dL_law_397 : decode cL_law 397 = .ok (.goto 16, 3) := by decide +kernel
theorem dL_law_400 : decode cL_law 400 = .ok (.iload 11, 2) := by decide +kernel
theorem dL_law_402 : decode cL_law 402 = .ok (.bipush 6, 2) := by decide +kernel
theorem dL_law_404 : decode cL_law 404 = .ok (.ishr, 1) := by decide +kernel
theorem dL_law_405 : decode cL_law 405 = .ok (.aload 4, 2) := by decide +kernel
theorem dL_law_407 : decode cL_law 407 = .ok (.iload 17, 2) := by decide +kernel
theorem dL_law_409 : decode cL_law 409 = .ok (.iaload, 1) := by decide +kernel
theorem dL_law_410 : decode cL_law 410 = .ok (.iconst 1, 1) := by decide +kernel
theorem dL_law_411 : decode cL_law 411 = .ok (.iadd, 1) := by decide +kernel
theorem dL_law_412 : decode cL_law 412 = .ok (.irem, 1) := by decide +kernel
theorem dL_law_413 : decode cL_law 413 = .ok (.istore 18, 2) := by decide +kernel
theorem dL_law_415 : decode cL_law 415 = .ok (.aload_n 1, 1) := by decide +kernel
theorem dL_law_416 : decode cL_law 416 = .ok (.iload 17, 2) := by decide +kernel
theorem dL_law_418 : decode cL_law 418 = .ok (.iload 18, 2) := by decide +kernel
theorem dL_law_420 : decode cL_law 420 = .ok (.invokestatic 101, 3) := by decide +kernel
theorem dL_law_423 : decode cL_law 423 = .ok (.istore 19, 2) := by decide +kernel
theorem dL_law_425 : decode cL_law 425 = .ok (.iload 19, 2) := by decide +kernel
theorem dL_law_427 : decode cL_law 427 = .ok (.iload 18, 2) := by decide +kernel
theorem dL_law_429 : decode cL_law 429 = .ok (.iconst (-1), 1) := by decide +kernel
theorem dL_law_430 : decode cL_law 430 = .ok (.if_icmp .ne 13, 3) := by decide +kernel
theorem dL_law_433 : decode cL_law 433 = .ok (.aload 4, 2) := by decide +kernel
theorem dL_law_435 : decode cL_law 435 = .ok (.iload 17, 2) := by decide +kernel
theorem dL_law_437 : decode cL_law 437 = .ok (.iaload, 1) := by decide +kernel
theorem dL_law_438 : decode cL_law 438 = .ok (.iconst 1, 1) := by decide +kernel
theorem dL_law_439 : decode cL_law 439 = .ok (.iadd, 1) := by decide +kernel
theorem dL_law_440 : decode cL_law 440 = .ok (.goto 20, 3) := by decide +kernel
theorem dL_law_443 : decode cL_law 443 = .ok (.iload 18, 2) := by decide +kernel
theorem dL_law_445 : decode cL_law 445 = .ok (.aload 4, 2) := by decide +kernel
theorem dL_law_447 : decode cL_law 447 = .ok (.iload 17, 2) := by decide +kernel
theorem dL_law_449 : decode cL_law 449 = .ok (.iaload, 1) := by decide +kernel
theorem dL_law_450 : decode cL_law 450 = .ok (.if_icmp .ge 8, 3) := by decide +kernel
theorem dL_law_453 : decode cL_law 453 = .ok (.iload 18, 2) := by decide +kernel
theorem dL_law_455 : decode cL_law 455 = .ok (.goto 5, 3) := by decide +kernel
theorem dL_law_458 : decode cL_law 458 = .ok (.bipush (-2), 2) := by decide +kernel
theorem dL_law_460 : decode cL_law 460 = .ok (.if_icmp .ne 16, 3) := by decide +kernel
theorem dL_law_463 : decode cL_law 463 = .ok (.aload_n 1, 1) := by decide +kernel
theorem dL_law_464 : decode cL_law 464 = .ok (.invokevirtual 72, 3) := by decide +kernel
theorem dL_law_467 : decode cL_law 467 = .ok (.iload 15, 2) := by decide +kernel
theorem dL_law_469 : decode cL_law 469 = .ok (.if_icmp .ne 7, 3) := by decide +kernel
theorem dL_law_472 : decode cL_law 472 = .ok (.iconst 1, 1) := by decide +kernel
theorem dL_law_473 : decode cL_law 473 = .ok (.goto 4, 3) := by decide +kernel
theorem dL_law_476 : decode cL_law 476 = .ok (.iconst 0, 1) := by decide +kernel
theorem dL_law_477 : decode cL_law 477 = .ok (.istore 7, 2) := by decide +kernel
theorem dL_law_479 : decode cL_law 479 = .ok (.aload 4, 2) := by decide +kernel
theorem dL_law_481 : decode cL_law 481 = .ok (.iload 17, 2) := by decide +kernel
theorem dL_law_483 : decode cL_law 483 = .ok (.dup2, 1) := by decide +kernel
theorem dL_law_484 : decode cL_law 484 = .ok (.iaload, 1) := by decide +kernel
theorem dL_law_485 : decode cL_law 485 = .ok (.iload 18, 2) := by decide +kernel
theorem dL_law_487 : decode cL_law 487 = .ok (.iconst (-1), 1) := by decide +kernel
theorem dL_law_488 : decode cL_law 488 = .ok (.if_icmp .ne 7, 3) := by decide +kernel
theorem dL_law_491 : decode cL_law 491 = .ok (.iconst 1, 1) := by decide +kernel
theorem dL_law_492 : decode cL_law 492 = .ok (.goto 4, 3) := by decide +kernel
theorem dL_law_495 : decode cL_law 495 = .ok (.iconst 0, 1) := by decide +kernel
theorem dL_law_496 : decode cL_law 496 = .ok (.iadd, 1) := by decide +kernel
theorem dL_law_497 : decode cL_law 497 = .ok (.iastore, 1) := by decide +kernel
theorem dL_law_498 : decode cL_law 498 = .ok (.goto 1301, 3) := by decide +kernel
theorem dL_law_501 : decode cL_law 501 = .ok (.iload 12, 2) := by decide +kernel
theorem dL_law_503 : decode cL_law 503 = .ok (.iconst 5, 1) := by decide +kernel
theorem dL_law_504 : decode cL_law 504 = .ok (.if_icmp .ge 246, 3) := by decide +kernel
theorem dL_law_507 : decode cL_law 507 = .ok (.aload_n 2, 1) := by decide +kernel
theorem dL_law_508 : decode cL_law 508 = .ok (.iload 13, 2) := by decide +kernel
theorem dL_law_510 : decode cL_law 510 = .ok (.iaload, 1) := by decide +kernel
theorem dL_law_511 : decode cL_law 511 = .ok (.ifCond .lt 14, 3) := by decide +kernel
theorem dL_law_514 : decode cL_law 514 = .ok (.aload_n 1, 1) := by decide +kernel
theorem dL_law_515 : decode cL_law 515 = .ok (.aload_n 2, 1) := by decide +kernel
theorem dL_law_516 : decode cL_law 516 = .ok (.iload 13, 2) := by decide +kernel
theorem dL_law_518 : decode cL_law 518 = .ok (.iaload, 1) := by decide +kernel
theorem dL_law_519 : decode cL_law 519 = .ok (.invokevirtual 56, 3) := by decide +kernel
theorem dL_law_522 : decode cL_law 522 = .ok (.ifCond .lt 7, 3) := by decide +kernel
theorem dL_law_525 : decode cL_law 525 = .ok (.iconst 1, 1) := by decide +kernel
theorem dL_law_526 : decode cL_law 526 = .ok (.goto 4, 3) := by decide +kernel
theorem dL_law_529 : decode cL_law 529 = .ok (.iconst 0, 1) := by decide +kernel
theorem dL_law_530 : decode cL_law 530 = .ok (.istore 17, 2) := by decide +kernel
theorem dL_law_532 : decode cL_law 532 = .ok (.aload_n 2, 1) := by decide +kernel
theorem dL_law_533 : decode cL_law 533 = .ok (.iload 13, 2) := by decide +kernel
theorem dL_law_535 : decode cL_law 535 = .ok (.iaload, 1) := by decide +kernel
theorem dL_law_536 : decode cL_law 536 = .ok (.ifCond .lt 14, 3) := by decide +kernel
theorem dL_law_539 : decode cL_law 539 = .ok (.aload_n 1, 1) := by decide +kernel
theorem dL_law_540 : decode cL_law 540 = .ok (.aload_n 2, 1) := by decide +kernel
theorem dL_law_541 : decode cL_law 541 = .ok (.iload 13, 2) := by decide +kernel
theorem dL_law_543 : decode cL_law 543 = .ok (.iaload, 1) := by decide +kernel
theorem dL_law_544 : decode cL_law 544 = .ok (.invokevirtual 59, 3) := by decide +kernel
theorem dL_law_547 : decode cL_law 547 = .ok (.ifCond .eq 7, 3) := by decide +kernel
theorem dL_law_550 : decode cL_law 550 = .ok (.iconst 1, 1) := by decide +kernel
theorem dL_law_551 : decode cL_law 551 = .ok (.goto 4, 3) := by decide +kernel
theorem dL_law_554 : decode cL_law 554 = .ok (.iconst 0, 1) := by decide +kernel
theorem dL_law_555 : decode cL_law 555 = .ok (.istore 18, 2) := by decide +kernel
theorem dL_law_557 : decode cL_law 557 = .ok (.aload_n 1, 1) := by decide +kernel
theorem dL_law_558 : decode cL_law 558 = .ok (.iload 13, 2) := by decide +kernel
theorem dL_law_560 : decode cL_law 560 = .ok (.invokevirtual 56, 3) := by decide +kernel
theorem dL_law_563 : decode cL_law 563 = .ok (.istore 19, 2) := by decide +kernel
theorem dL_law_565 : decode cL_law 565 = .ok (.aload_n 1, 1) := by decide +kernel
theorem dL_law_566 : decode cL_law 566 = .ok (.iconst 0, 1) := by decide +kernel
theorem dL_law_567 : decode cL_law 567 = .ok (.iload 13, 2) := by decide +kernel
theorem dL_law_569 : decode cL_law 569 = .ok (.iconst 0, 1) := by decide +kernel
theorem dL_law_570 : decode cL_law 570 = .ok (.invokestatic 104, 3) := by decide +kernel
theorem dL_law_573 : decode cL_law 573 = .ok (.istore 20, 2) := by decide +kernel
theorem dL_law_575 : decode cL_law 575 = .ok (.iload 20, 2) := by decide +kernel
theorem dL_law_577 : decode cL_law 577 = .ok (.bipush (-3), 2) := by decide +kernel
theorem dL_law_579 : decode cL_law 579 = .ok (.if_icmp .ne 43, 3) := by decide +kernel
theorem dL_law_582 : decode cL_law 582 = .ok (.iload 17, 2) := by decide +kernel
theorem dL_law_584 : decode cL_law 584 = .ok (.ifCond .eq 10, 3) := by decide +kernel
theorem dL_law_587 : decode cL_law 587 = .ok (.iload 14, 2) := by decide +kernel
theorem dL_law_589 : decode cL_law 589 = .ok (.bipush 60, 2) := by decide +kernel
theorem dL_law_591 : decode cL_law 591 = .ok (.if_icmp .ne 27, 3) := by decide +kernel
theorem dL_law_594 : decode cL_law 594 = .ok (.aload_n 1, 1) := by decide +kernel
theorem dL_law_595 : decode cL_law 595 = .ok (.invokevirtual 72, 3) := by decide +kernel
theorem dL_law_598 : decode cL_law 598 = .ok (.iload 15, 2) := by decide +kernel
theorem dL_law_600 : decode cL_law 600 = .ok (.if_icmp .ne 18, 3) := by decide +kernel
theorem dL_law_603 : decode cL_law 603 = .ok (.aload_n 1, 1) := by decide +kernel
theorem dL_law_604 : decode cL_law 604 = .ok (.iload 13, 2) := by decide +kernel
theorem dL_law_606 : decode cL_law 606 = .ok (.invokevirtual 56, 3) := by decide +kernel
theorem dL_law_609 : decode cL_law 609 = .ok (.iload 19, 2) := by decide +kernel
theorem dL_law_611 : decode cL_law 611 = .ok (.if_icmp .ne 7, 3) := by decide +kernel
theorem dL_law_614 : decode cL_law 614 = .ok (.iconst 1, 1) := by decide +kernel
theorem dL_law_615 : decode cL_law 615 = .ok (.goto 100, 3) := by decide +kernel
theorem dL_law_618 : decode cL_law 618 = .ok (.iconst 0, 1) := by decide +kernel
theorem dL_law_619 : decode cL_law 619 = .ok (.goto 96, 3) := by decide +kernel
theorem dL_law_622 : decode cL_law 622 = .ok (.iload 17, 2) := by decide +kernel
theorem dL_law_624 : decode cL_law 624 = .ok (.ifCond .eq 90, 3) := by decide +kernel
theorem dL_law_627 : decode cL_law 627 = .ok (.iload 20, 2) := by decide +kernel
theorem dL_law_629 : decode cL_law 629 = .ok (.aload_n 1, 1) := by decide +kernel
theorem dL_law_630 : decode cL_law 630 = .ok (.iload 13, 2) := by decide +kernel
theorem dL_law_632 : decode cL_law 632 = .ok (.invokevirtual 56, 3) := by decide +kernel
theorem dL_law_635 : decode cL_law 635 = .ok (.if_icmp .ne 79, 3) := by decide +kernel
theorem dL_law_638 : decode cL_law 638 = .ok (.aload_n 1, 1) := by decide +kernel
theorem dL_law_639 : decode cL_law 639 = .ok (.invokevirtual 53, 3) := by decide +kernel
theorem dL_law_642 : decode cL_law 642 = .ok (.iload 14, 2) := by decide +kernel
theorem dL_law_644 : decode cL_law 644 = .ok (.iconst 1, 1) := by decide +kernel
theorem dL_law_645 : decode cL_law 645 = .ok (.iadd, 1) := by decide +kernel
theorem dL_law_646 : decode cL_law 646 = .ok (.if_icmp .gt 68, 3) := by decide +kernel
theorem dL_law_649 : decode cL_law 649 = .ok (.aload_n 1, 1) := by decide +kernel
theorem dL_law_650 : decode cL_law 650 = .ok (.invokevirtual 72, 3) := by decide +kernel
theorem dL_law_653 : decode cL_law 653 = .ok (.iload 15, 2) := by decide +kernel
theorem dL_law_655 : decode cL_law 655 = .ok (.aload_n 3, 1) := by decide +kernel
theorem dL_law_656 : decode cL_law 656 = .ok (.iload 13, 2) := by decide +kernel
theorem dL_law_658 : decode cL_law 658 = .ok (.iaload, 1) := by decide +kernel
theorem dL_law_659 : decode cL_law 659 = .ok (.iadd, 1) := by decide +kernel
theorem dL_law_660 : decode cL_law 660 = .ok (.if_icmp .gt 54, 3) := by decide +kernel
theorem dL_law_663 : decode cL_law 663 = .ok (.iload 20, 2) := by decide +kernel
theorem dL_law_665 : decode cL_law 665 = .ok (.iload 19, 2) := by decide +kernel
theorem dL_law_667 : decode cL_law 667 = .ok (.if_icmp .ne 24, 3) := by decide +kernel
theorem dL_law_670 : decode cL_law 670 = .ok (.aload_n 1, 1) := by decide +kernel
theorem dL_law_671 : decode cL_law 671 = .ok (.invokevirtual 53, 3) := by decide +kernel
theorem dL_law_674 : decode cL_law 674 = .ok (.iload 14, 2) := by decide +kernel
theorem dL_law_676 : decode cL_law 676 = .ok (.if_icmp .ne 38, 3) := by decide +kernel
theorem dL_law_679 : decode cL_law 679 = .ok (.aload_n 1, 1) := by decide +kernel
theorem dL_law_680 : decode cL_law 680 = .ok (.invokevirtual 72, 3) := by decide +kernel
theorem dL_law_683 : decode cL_law 683 = .ok (.iload 15, 2) := by decide +kernel
theorem dL_law_685 : decode cL_law 685 = .ok (.if_icmp .ne 29, 3) := by decide +kernel
theorem dL_law_688 : decode cL_law 688 = .ok (.goto 22, 3) := by decide +kernel
theorem dL_law_691 : decode cL_law 691 = .ok (.iload 20, 2) := by decide +kernel
theorem dL_law_693 : decode cL_law 693 = .ok (.iload 14, 2) := by decide +kernel
theorem dL_law_695 : decode cL_law 695 = .ok (.if_icmp .ne 19, 3) := by decide +kernel
theorem dL_law_698 : decode cL_law 698 = .ok (.aload_n 1, 1) := by decide +kernel
theorem dL_law_699 : decode cL_law 699 = .ok (.iload 20, 2) := by decide +kernel
theorem dL_law_701 : decode cL_law 701 = .ok (.invokevirtual 66, 3) := by decide +kernel
theorem dL_law_704 : decode cL_law 704 = .ok (.bipush 10, 2) := by decide +kernel
theorem dL_law_706 : decode cL_law 706 = .ok (.irem, 1) := by decide +kernel
theorem dL_law_707 : decode cL_law 707 = .ok (.ifCond .ne 7, 3) := by decide +kernel
theorem dL_law_710 : decode cL_law 710 = .ok (.iconst 1, 1) := by decide +kernel
theorem dL_law_711 : decode cL_law 711 = .ok (.goto 4, 3) := by decide +kernel
theorem dL_law_714 : decode cL_law 714 = .ok (.iconst 0, 1) := by decide +kernel
theorem dL_law_715 : decode cL_law 715 = .ok (.istore 7, 2) := by decide +kernel
theorem dL_law_717 : decode cL_law 717 = .ok (.iload 7, 2) := by decide +kernel
theorem dL_law_719 : decode cL_law 719 = .ok (.ifCond .eq 25, 3) := by decide +kernel
theorem dL_law_722 : decode cL_law 722 = .ok (.iload 20, 2) := by decide +kernel
theorem dL_law_724 : decode cL_law 724 = .ok (.bipush (-3), 2) := by decide +kernel
theorem dL_law_726 : decode cL_law 726 = .ok (.if_icmp .eq 14, 3) := by decide +kernel
theorem dL_law_729 : decode cL_law 729 = .ok (.aload_n 1, 1) := by decide +kernel
theorem dL_law_730 : decode cL_law 730 = .ok (.iload 13, 2) := by decide +kernel
theorem dL_law_732 : decode cL_law 732 = .ok (.invokevirtual 59, 3) := by decide +kernel
theorem dL_law_735 : decode cL_law 735 = .ok (.iload 18, 2) := by decide +kernel
theorem dL_law_737 : decode cL_law 737 = .ok (.if_icmp .ne 7, 3) := by decide +kernel
theorem dL_law_740 : decode cL_law 740 = .ok (.iconst 1, 1) := by decide +kernel
theorem dL_law_741 : decode cL_law 741 = .ok (.goto 4, 3) := by decide +kernel
theorem dL_law_744 : decode cL_law 744 = .ok (.iconst 0, 1) := by decide +kernel
theorem dL_law_745 : decode cL_law 745 = .ok (.istore 7, 2) := by decide +kernel
theorem dL_law_747 : decode cL_law 747 = .ok (.goto 1052, 3) := by decide +kernel
theorem dL_law_750 : decode cL_law 750 = .ok (.iload 12, 2) := by decide +kernel
theorem dL_law_752 : decode cL_law 752 = .ok (.iconst 5, 1) := by decide +kernel
theorem dL_law_753 : decode cL_law 753 = .ok (.if_icmp .ne 119, 3) := by decide +kernel
theorem dL_law_756 : decode cL_law 756 = .ok (.aload_n 1, 1) := by decide +kernel
theorem dL_law_757 : decode cL_law 757 = .ok (.iconst 4, 1) := by decide +kernel
theorem dL_law_758 : decode cL_law 758 = .ok (.iconst 0, 1) := by decide +kernel
theorem dL_law_759 : decode cL_law 759 = .ok (.iconst 0, 1) := by decide +kernel
theorem dL_law_760 : decode cL_law 760 = .ok (.invokestatic 104, 3) := by decide +kernel
theorem dL_law_763 : decode cL_law 763 = .ok (.istore 17, 2) := by decide +kernel
theorem dL_law_765 : decode cL_law 765 = .ok (.iload 17, 2) := by decide +kernel
theorem dL_law_767 : decode cL_law 767 = .ok (.bipush (-3), 2) := by decide +kernel
theorem dL_law_769 : decode cL_law 769 = .ok (.if_icmp .ne 29, 3) := by decide +kernel
theorem dL_law_772 : decode cL_law 772 = .ok (.aload_n 1, 1) := by decide +kernel
theorem dL_law_773 : decode cL_law 773 = .ok (.invokevirtual 53, 3) := by decide +kernel
theorem dL_law_776 : decode cL_law 776 = .ok (.iload 14, 2) := by decide +kernel
theorem dL_law_778 : decode cL_law 778 = .ok (.if_icmp .ne 16, 3) := by decide +kernel
theorem dL_law_781 : decode cL_law 781 = .ok (.aload_n 1, 1) := by decide +kernel
theorem dL_law_782 : decode cL_law 782 = .ok (.invokevirtual 72, 3) := by decide +kernel
theorem dL_law_785 : decode cL_law 785 = .ok (.iload 15, 2) := by decide +kernel
theorem dL_law_787 : decode cL_law 787 = .ok (.if_icmp .ne 7, 3) := by decide +kernel
theorem dL_law_790 : decode cL_law 790 = .ok (.iconst 1, 1) := by decide +kernel
theorem dL_law_791 : decode cL_law 791 = .ok (.goto 34, 3) := by decide +kernel
theorem dL_law_794 : decode cL_law 794 = .ok (.iconst 0, 1) := by decide +kernel
theorem dL_law_795 : decode cL_law 795 = .ok (.goto 30, 3) := by decide +kernel
theorem dL_law_798 : decode cL_law 798 = .ok (.aload_n 1, 1) := by decide +kernel
theorem dL_law_799 : decode cL_law 799 = .ok (.invokevirtual 53, 3) := by decide +kernel
theorem dL_law_802 : decode cL_law 802 = .ok (.iload 14, 2) := by decide +kernel
theorem dL_law_804 : decode cL_law 804 = .ok (.iload 17, 2) := by decide +kernel
theorem dL_law_806 : decode cL_law 806 = .ok (.iadd, 1) := by decide +kernel
theorem dL_law_807 : decode cL_law 807 = .ok (.if_icmp .ne 17, 3) := by decide +kernel
theorem dL_law_810 : decode cL_law 810 = .ok (.aload_n 1, 1) := by decide +kernel
theorem dL_law_811 : decode cL_law 811 = .ok (.iconst 4, 1) := by decide +kernel
theorem dL_law_812 : decode cL_law 812 = .ok (.iconst 0, 1) := by decide +kernel
theorem dL_law_813 : decode cL_law 813 = .ok (.iconst 0, 1) := by decide +kernel
theorem dL_law_814 : decode cL_law 814 = .ok (.invokestatic 104, 3) := by decide +kernel
theorem dL_law_817 : decode cL_law 817 = .ok (.ifCond .ne 7, 3) := by decide +kernel
theorem dL_law_820 : decode cL_law 820 = .ok (.iconst 1, 1) := by decide +kernel
theorem dL_law_821 : decode cL_law 821 = .ok (.goto 4, 3) := by decide +kernel
theorem dL_law_824 : decode cL_law 824 = .ok (.iconst 0, 1) := by decide +kernel
theorem dL_law_825 : decode cL_law 825 = .ok (.istore 7, 2) := by decide +kernel
theorem dL_law_827 : decode cL_law 827 = .ok (.iconst 0, 1) := by decide +kernel
theorem dL_law_828 : decode cL_law 828 = .ok (.istore 18, 2) := by decide +kernel
theorem dL_law_830 : decode cL_law 830 = .ok (.iload 18, 2) := by decide +kernel
theorem dL_law_832 : decode cL_law 832 = .ok (.iload 5, 2) := by decide +kernel
theorem dL_law_834 : decode cL_law 834 = .ok (.if_icmp .ge 35, 3) := by decide +kernel
theorem dL_law_837 : decode cL_law 837 = .ok (.iload 17, 2) := by decide +kernel
theorem dL_law_839 : decode cL_law 839 = .ok (.ifCond .lt 30, 3) := by decide +kernel
theorem dL_law_842 : decode cL_law 842 = .ok (.iload 7, 2) := by decide +kernel
theorem dL_law_844 : decode cL_law 844 = .ok (.ifCond .eq 16, 3) := by decide +kernel
theorem dL_law_847 : decode cL_law 847 = .ok (.aload_n 1, 1) := by decide +kernel
theorem dL_law_848 : decode cL_law 848 = .ok (.iload 18, 2) := by decide +kernel
theorem dL_law_850 : decode cL_law 850 = .ok (.invokevirtual 59, 3) := by decide +kernel
theorem dL_law_853 : decode cL_law 853 = .ok (.ifCond .eq 7, 3) := by decide +kernel
theorem dL_law_856 : decode cL_law 856 = .ok (.iconst 1, 1) := by decide +kernel
theorem dL_law_857 : decode cL_law 857 = .ok (.goto 4, 3) := by decide +kernel
theorem dL_law_860 : decode cL_law 860 = .ok (.iconst 0, 1) := by decide +kernel
theorem dL_law_861 : decode cL_law 861 = .ok (.istore 7, 2) := by decide +kernel
theorem dL_law_863 : decode cL_law 863 = .ok (.iinc 18 1, 3) := by decide +kernel
theorem dL_law_866 : decode cL_law 866 = .ok (.goto (-36), 3) := by decide +kernel
theorem dL_law_869 : decode cL_law 869 = .ok (.goto 930, 3) := by decide +kernel
theorem dL_law_872 : decode cL_law 872 = .ok (.iload 12, 2) := by decide +kernel
theorem dL_law_874 : decode cL_law 874 = .ok (.bipush 8, 2) := by decide +kernel
theorem dL_law_876 : decode cL_law 876 = .ok (.if_icmp .ge 128, 3) := by decide +kernel
theorem dL_law_879 : decode cL_law 879 = .ok (.iload 14, 2) := by decide +kernel
theorem dL_law_881 : decode cL_law 881 = .ok (.ifCond .le 123, 3) := by decide +kernel
theorem dL_law_884 : decode cL_law 884 = .ok (.aload_n 1, 1) := by decide +kernel
theorem dL_law_885 : decode cL_law 885 = .ok (.iload 16, 2) := by decide +kernel
theorem dL_law_887 : decode cL_law 887 = .ok (.invokevirtual 66, 3) := by decide +kernel
theorem dL_law_890 : decode cL_law 890 = .ok (.istore 17, 2) := by decide +kernel
theorem dL_law_892 : decode cL_law 892 = .ok (.iload 11, 2) := by decide +kernel
theorem dL_law_894 : decode cL_law 894 = .ok (.bipush 9, 2) := by decide +kernel
theorem dL_law_896 : decode cL_law 896 = .ok (.ishr, 1) := by decide +kernel
theorem dL_law_897 : decode cL_law 897 = .ok (.iconst 3, 1) := by decide +kernel
theorem dL_law_898 : decode cL_law 898 = .ok (.iand, 1) := by decide +kernel
theorem dL_law_899 : decode cL_law 899 = .ok (.ifCond .le 7, 3) := by decide +kernel
theorem dL_law_902 : decode cL_law 902 = .ok (.iconst 1, 1) := by decide +kernel
theorem dL_law_903 : decode cL_law 903 = .ok (.goto 4, 3) := by decide +kernel
theorem dL_law_906 : decode cL_law 906 = .ok (.iconst 0, 1) := by decide +kernel
theorem dL_law_907 : decode cL_law 907 = .ok (.istore 18, 2) := by decide +kernel
theorem dL_law_909 : decode cL_law 909 = .ok (.aload_n 1, 1) := by decide +kernel
theorem dL_law_910 : decode cL_law 910 = .ok (.iconst 5, 1) := by decide +kernel
theorem dL_law_911 : decode cL_law 911 = .ok (.iload 16, 2) := by decide +kernel
theorem dL_law_913 : decode cL_law 913 = .ok (.iload 18, 2) := by decide +kernel
theorem dL_law_915 : decode cL_law 915 = .ok (.ifCond .eq 7, 3) := by decide +kernel
theorem dL_law_918 : decode cL_law 918 = .ok (.iconst 1, 1) := by decide +kernel
theorem dL_law_919 : decode cL_law 919 = .ok (.goto 4, 3) := by decide +kernel
theorem dL_law_922 : decode cL_law 922 = .ok (.iconst 0, 1) := by decide +kernel
theorem dL_law_923 : decode cL_law 923 = .ok (.invokestatic 104, 3) := by decide +kernel
theorem dL_law_926 : decode cL_law 926 = .ok (.istore 19, 2) := by decide +kernel
theorem dL_law_928 : decode cL_law 928 = .ok (.iload 19, 2) := by decide +kernel
theorem dL_law_930 : decode cL_law 930 = .ok (.bipush (-3), 2) := by decide +kernel
theorem dL_law_932 : decode cL_law 932 = .ok (.if_icmp .ne 18, 3) := by decide +kernel
theorem dL_law_935 : decode cL_law 935 = .ok (.iload 17, 2) := by decide +kernel
theorem dL_law_937 : decode cL_law 937 = .ok (.bipush 40, 2) := by decide +kernel
theorem dL_law_939 : decode cL_law 939 = .ok (.if_icmp .lt 7, 3) := by decide +kernel
theorem dL_law_942 : decode cL_law 942 = .ok (.iconst 1, 1) := by decide +kernel
theorem dL_law_943 : decode cL_law 943 = .ok (.goto 56, 3) := by decide +kernel
theorem dL_law_946 : decode cL_law 946 = .ok (.iconst 0, 1) := by decide +kernel
theorem dL_law_947 : decode cL_law 947 = .ok (.goto 52, 3) := by decide +kernel
theorem dL_law_950 : decode cL_law 950 = .ok (.iload 17, 2) := by decide +kernel
theorem dL_law_952 : decode cL_law 952 = .ok (.bipush 40, 2) := by decide +kernel
theorem dL_law_954 : decode cL_law 954 = .ok (.if_icmp .ge 44, 3) := by decide +kernel
theorem dL_law_957 : decode cL_law 957 = .ok (.iload 19, 2) := by decide +kernel
theorem dL_law_959 : decode cL_law 959 = .ok (.iload 18, 2) := by decide +kernel
theorem dL_law_961 : decode cL_law 961 = .ok (.ifCond .eq 13, 3) := by decide +kernel
theorem dL_law_964 : decode cL_law 964 = .ok (.iload 17, 2) := by decide +kernel
theorem dL_law_966 : decode cL_law 966 = .ok (.bipush 10, 2) := by decide +kernel
theorem dL_law_968 : decode cL_law 968 = .ok (.idiv, 1) := by decide +kernel
theorem dL_law_969 : decode cL_law 969 = .ok (.iconst 2, 1) := by decide +kernel
theorem dL_law_970 : decode cL_law 970 = .ok (.irem, 1) := by decide +kernel
theorem dL_law_971 : decode cL_law 971 = .ok (.goto 4, 3) := by decide +kernel
theorem dL_law_974 : decode cL_law 974 = .ok (.iconst 1, 1) := by decide +kernel
theorem dL_law_975 : decode cL_law 975 = .ok (.if_icmp .ne 23, 3) := by decide +kernel
theorem dL_law_978 : decode cL_law 978 = .ok (.aload_n 1, 1) := by decide +kernel
theorem dL_law_979 : decode cL_law 979 = .ok (.iload 16, 2) := by decide +kernel
theorem dL_law_981 : decode cL_law 981 = .ok (.invokevirtual 66, 3) := by decide +kernel
theorem dL_law_984 : decode cL_law 984 = .ok (.bipush 10, 2) := by decide +kernel
theorem dL_law_986 : decode cL_law 986 = .ok (.idiv, 1) := by decide +kernel
theorem dL_law_987 : decode cL_law 987 = .ok (.iconst 2, 1) := by decide +kernel
theorem dL_law_988 : decode cL_law 988 = .ok (.irem, 1) := by decide +kernel
theorem dL_law_989 : decode cL_law 989 = .ok (.iload 19, 2) := by decide +kernel
theorem dL_law_991 : decode cL_law 991 = .ok (.if_icmp .ne 7, 3) := by decide +kernel
theorem dL_law_994 : decode cL_law 994 = .ok (.iconst 1, 1) := by decide +kernel
theorem dL_law_995 : decode cL_law 995 = .ok (.goto 4, 3) := by decide +kernel
theorem dL_law_998 : decode cL_law 998 = .ok (.iconst 0, 1) := by decide +kernel
theorem dL_law_999 : decode cL_law 999 = .ok (.istore 7, 2) := by decide +kernel
theorem dL_law_1001 : decode cL_law 1001 = .ok (.goto 798, 3) := by decide +kernel
theorem dL_law_1004 : decode cL_law 1004 = .ok (.iload 12, 2) := by decide +kernel
theorem dL_law_1006 : decode cL_law 1006 = .ok (.bipush 8, 2) := by decide +kernel
theorem dL_law_1008 : decode cL_law 1008 = .ok (.if_icmp .ne 104, 3) := by decide +kernel
theorem dL_law_1011 : decode cL_law 1011 = .ok (.iload 14, 2) := by decide +kernel
theorem dL_law_1013 : decode cL_law 1013 = .ok (.ifCond .le 99, 3) := by decide +kernel
theorem dL_law_1016 : decode cL_law 1016 = .ok (.aload_n 1, 1) := by decide +kernel
theorem dL_law_1017 : decode cL_law 1017 = .ok (.iload 16, 2) := by decide +kernel
theorem dL_law_1019 : decode cL_law 1019 = .ok (.invokevirtual 66, 3) := by decide +kernel
theorem dL_law_1022 : decode cL_law 1022 = .ok (.istore 17, 2) := by decide +kernel
theorem dL_law_1024 : decode cL_law 1024 = .ok (.aload_n 1, 1) := by decide +kernel
theorem dL_law_1025 : decode cL_law 1025 = .ok (.iconst 2, 1) := by decide +kernel
theorem dL_law_1026 : decode cL_law 1026 = .ok (.iload 16, 2) := by decide +kernel
theorem dL_law_1028 : decode cL_law 1028 = .ok (.iconst 0, 1) := by decide +kernel
theorem dL_law_1029 : decode cL_law 1029 = .ok (.invokestatic 104, 3) := by decide +kernel
theorem dL_law_1032 : decode cL_law 1032 = .ok (.istore 18, 2) := by decide +kernel
theorem dL_law_1034 : decode cL_law 1034 = .ok (.iload 18, 2) := by decide +kernel
theorem dL_law_1036 : decode cL_law 1036 = .ok (.bipush (-3), 2) := by decide +kernel
theorem dL_law_1038 : decode cL_law 1038 = .ok (.if_icmp .ne 22, 3) := by decide +kernel
theorem dL_law_1041 : decode cL_law 1041 = .ok (.aload_n 1, 1) := by decide +kernel
theorem dL_law_1042 : decode cL_law 1042 = .ok (.iload 16, 2) := by decide +kernel
theorem dL_law_1044 : decode cL_law 1044 = .ok (.invokevirtual 66, 3) := by decide +kernel
theorem dL_law_1047 : decode cL_law 1047 = .ok (.iload 17, 2) := by decide +kernel
theorem dL_law_1049 : decode cL_law 1049 = .ok (.if_icmp .ne 7, 3) := by decide +kernel
theorem dL_law_1052 : decode cL_law 1052 = .ok (.iconst 1, 1) := by decide +kernel
theorem dL_law_1053 : decode cL_law 1053 = .ok (.goto 54, 3) := by decide +kernel
theorem dL_law_1056 : decode cL_law 1056 = .ok (.iconst 0, 1) := by decide +kernel
theorem dL_law_1057 : decode cL_law 1057 = .ok (.goto 50, 3) := by decide +kernel
theorem dL_law_1060 : decode cL_law 1060 = .ok (.iload 17, 2) := by decide +kernel
theorem dL_law_1062 : decode cL_law 1062 = .ok (.bipush 40, 2) := by decide +kernel
theorem dL_law_1064 : decode cL_law 1064 = .ok (.if_icmp .ge 42, 3) := by decide +kernel
theorem dL_law_1067 : decode cL_law 1067 = .ok (.iload 17, 2) := by decide +kernel
theorem dL_law_1069 : decode cL_law 1069 = .ok (.bipush 10, 2) := by decide +kernel
theorem dL_law_1071 : decode cL_law 1071 = .ok (.idiv, 1) := by decide +kernel
theorem dL_law_1072 : decode cL_law 1072 = .ok (.iconst 2, 1) := by decide +kernel
theorem dL_law_1073 : decode cL_law 1073 = .ok (.irem, 1) := by decide +kernel
theorem dL_law_1074 : decode cL_law 1074 = .ok (.ifCond .ne 32, 3) := by decide +kernel
theorem dL_law_1077 : decode cL_law 1077 = .ok (.iload 18, 2) := by decide +kernel
theorem dL_law_1079 : decode cL_law 1079 = .ok (.iload 17, 2) := by decide +kernel
theorem dL_law_1081 : decode cL_law 1081 = .ok (.bipush 10, 2) := by decide +kernel
theorem dL_law_1083 : decode cL_law 1083 = .ok (.irem, 1) := by decide +kernel
theorem dL_law_1084 : decode cL_law 1084 = .ok (.iconst 1, 1) := by decide +kernel
theorem dL_law_1085 : decode cL_law 1085 = .ok (.iadd, 1) := by decide +kernel
theorem dL_law_1086 : decode cL_law 1086 = .ok (.if_icmp .ne 20, 3) := by decide +kernel
theorem dL_law_1089 : decode cL_law 1089 = .ok (.aload_n 1, 1) := by decide +kernel
theorem dL_law_1090 : decode cL_law 1090 = .ok (.iconst 2, 1) := by decide +kernel
theorem dL_law_1091 : decode cL_law 1091 = .ok (.iload 16, 2) := by decide +kernel
theorem dL_law_1093 : decode cL_law 1093 = .ok (.iconst 0, 1) := by decide +kernel
theorem dL_law_1094 : decode cL_law 1094 = .ok (.invokestatic 104, 3) := by decide +kernel
theorem dL_law_1097 : decode cL_law 1097 = .ok (.bipush (-3), 2) := by decide +kernel
theorem dL_law_1099 : decode cL_law 1099 = .ok (.if_icmp .ne 7, 3) := by decide +kernel
theorem dL_law_1102 : decode cL_law 1102 = .ok (.iconst 1, 1) := by decide +kernel
theorem dL_law_1103 : decode cL_law 1103 = .ok (.goto 4, 3) := by decide +kernel
theorem dL_law_1106 : decode cL_law 1106 = .ok (.iconst 0, 1) := by decide +kernel
theorem dL_law_1107 : decode cL_law 1107 = .ok (.istore 7, 2) := by decide +kernel
theorem dL_law_1109 : decode cL_law 1109 = .ok (.goto 690, 3) := by decide +kernel
theorem dL_law_1112 : decode cL_law 1112 = .ok (.iload 12, 2) := by decide +kernel
theorem dL_law_1114 : decode cL_law 1114 = .ok (.bipush 9, 2) := by decide +kernel
theorem dL_law_1116 : decode cL_law 1116 = .ok (.if_icmp .ne 134, 3) := by decide +kernel
theorem dL_law_1119 : decode cL_law 1119 = .ok (.iload 14, 2) := by decide +kernel
theorem dL_law_1121 : decode cL_law 1121 = .ok (.ifCond .le 129, 3) := by decide +kernel
theorem dL_law_1124 : decode cL_law 1124 = .ok (.iload 11, 2) := by decide +kernel
theorem dL_law_1126 : decode cL_law 1126 = .ok (.bipush 9, 2) := by decide +kernel
theorem dL_law_1128 : decode cL_law 1128 = .ok (.ishr, 1) := by decide +kernel
theorem dL_law_1129 : decode cL_law 1129 = .ok (.iconst 3, 1) := by decide +kernel
theorem dL_law_1130 : decode cL_law 1130 = .ok (.iand, 1) := by decide +kernel
theorem dL_law_1131 : decode cL_law 1131 = .ok (.ifCond .ne 119, 3) := by decide +kernel
theorem dL_law_1134 : decode cL_law 1134 = .ok (.aload_n 1, 1) := by decide +kernel
theorem dL_law_1135 : decode cL_law 1135 = .ok (.iload 16, 2) := by decide +kernel
theorem dL_law_1137 : decode cL_law 1137 = .ok (.invokevirtual 66, 3) := by decide +kernel
theorem dL_law_1140 : decode cL_law 1140 = .ok (.istore 17, 2) := by decide +kernel
theorem dL_law_1142 : decode cL_law 1142 = .ok (.iconst 0, 1) := by decide +kernel
theorem dL_law_1143 : decode cL_law 1143 = .ok (.istore 18, 2) := by decide +kernel
theorem dL_law_1145 : decode cL_law 1145 = .ok (.iconst 0, 1) := by decide +kernel
theorem dL_law_1146 : decode cL_law 1146 = .ok (.istore 19, 2) := by decide +kernel
theorem dL_law_1148 : decode cL_law 1148 = .ok (.iload 19, 2) := by decide +kernel
theorem dL_law_1150 : decode cL_law 1150 = .ok (.iload 6, 2) := by decide +kernel
theorem dL_law_1152 : decode cL_law 1152 = .ok (.if_icmp .ge 30, 3) := by decide +kernel
theorem dL_law_1155 : decode cL_law 1155 = .ok (.iload 18, 2) := by decide +kernel
theorem dL_law_1157 : decode cL_law 1157 = .ok (.aload_n 1, 1) := by decide +kernel
theorem dL_law_1158 : decode cL_law 1158 = .ok (.iload 19, 2) := by decide +kernel
theorem dL_law_1160 : decode cL_law 1160 = .ok (.invokevirtual 81, 3) := by decide +kernel
theorem dL_law_1163 : decode cL_law 1163 = .ok (.iload 16, 2) := by decide +kernel
theorem dL_law_1165 : decode cL_law 1165 = .ok (.if_icmp .ne 7, 3) := by decide +kernel
theorem dL_law_1168 : decode cL_law 1168 = .ok (.iconst 1, 1) := by decide +kernel
theorem dL_law_1169 : decode cL_law 1169 = .ok (.goto 4, 3) := by decide +kernel
theorem dL_law_1172 : decode cL_law 1172 = .ok (.iconst 0, 1) := by decide +kernel
theorem dL_law_1173 : decode cL_law 1173 = .ok (.iadd, 1) := by decide +kernel
theorem dL_law_1174 : decode cL_law 1174 = .ok (.istore 18, 2) := by decide +kernel
theorem dL_law_1176 : decode cL_law 1176 = .ok (.iinc 19 1, 3) := by decide +kernel
theorem dL_law_1179 : decode cL_law 1179 = .ok (.goto (-31), 3) := by decide +kernel
theorem dL_law_1182 : decode cL_law 1182 = .ok (.aload_n 1, 1) := by decide +kernel
theorem dL_law_1183 : decode cL_law 1183 = .ok (.iconst 1, 1) := by decide +kernel
theorem dL_law_1184 : decode cL_law 1184 = .ok (.iload 16, 2) := by decide +kernel
theorem dL_law_1186 : decode cL_law 1186 = .ok (.iconst 0, 1) := by decide +kernel
theorem dL_law_1187 : decode cL_law 1187 = .ok (.invokestatic 104, 3) := by decide +kernel
theorem dL_law_1190 : decode cL_law 1190 = .ok (.iload 17, 2) := by decide +kernel
theorem dL_law_1192 : decode cL_law 1192 = .ok (.bipush 40, 2) := by decide +kernel
theorem dL_law_1194 : decode cL_law 1194 = .ok (.if_icmp .ge 14, 3) := by decide +kernel
theorem dL_law_1197 : decode cL_law 1197 = .ok (.iload 17, 2) := by decide +kernel
theorem dL_law_1199 : decode cL_law 1199 = .ok (.bipush 10, 2) := by decide +kernel
theorem dL_law_1201 : decode cL_law 1201 = .ok (.idiv, 1) := by decide +kernel
theorem dL_law_1202 : decode cL_law 1202 = .ok (.iconst 2, 1) := by decide +kernel
theorem dL_law_1203 : decode cL_law 1203 = .ok (.irem, 1) := by decide +kernel
theorem dL_law_1204 : decode cL_law 1204 = .ok (.iconst 1, 1) := by decide +kernel
theorem dL_law_1205 : decode cL_law 1205 = .ok (.if_icmp .ne 8, 3) := by decide +kernel
theorem dL_law_1208 : decode cL_law 1208 = .ok (.bipush (-3), 2) := by decide +kernel
theorem dL_law_1210 : decode cL_law 1210 = .ok (.goto 5, 3) := by decide +kernel
theorem dL_law_1213 : decode cL_law 1213 = .ok (.iload 18, 2) := by decide +kernel
theorem dL_law_1215 : decode cL_law 1215 = .ok (.if_icmp .ne 29, 3) := by decide +kernel
theorem dL_law_1218 : decode cL_law 1218 = .ok (.iload 17, 2) := by decide +kernel
theorem dL_law_1220 : decode cL_law 1220 = .ok (.bipush 40, 2) := by decide +kernel
theorem dL_law_1222 : decode cL_law 1222 = .ok (.if_icmp .ge 18, 3) := by decide +kernel
theorem dL_law_1225 : decode cL_law 1225 = .ok (.aload_n 1, 1) := by decide +kernel
theorem dL_law_1226 : decode cL_law 1226 = .ok (.iload 16, 2) := by decide +kernel
theorem dL_law_1228 : decode cL_law 1228 = .ok (.invokevirtual 66, 3) := by decide +kernel
theorem dL_law_1231 : decode cL_law 1231 = .ok (.bipush 10, 2) := by decide +kernel
theorem dL_law_1233 : decode cL_law 1233 = .ok (.idiv, 1) := by decide +kernel
theorem dL_law_1234 : decode cL_law 1234 = .ok (.iconst 2, 1) := by decide +kernel
theorem dL_law_1235 : decode cL_law 1235 = .ok (.irem, 1) := by decide +kernel
theorem dL_law_1236 : decode cL_law 1236 = .ok (.iconst 1, 1) := by decide +kernel
theorem dL_law_1237 : decode cL_law 1237 = .ok (.if_icmp .ne 7, 3) := by decide +kernel
theorem dL_law_1240 : decode cL_law 1240 = .ok (.iconst 1, 1) := by decide +kernel
theorem dL_law_1241 : decode cL_law 1241 = .ok (.goto 4, 3) := by decide +kernel
theorem dL_law_1244 : decode cL_law 1244 = .ok (.iconst 0, 1) := by decide +kernel
theorem dL_law_1245 : decode cL_law 1245 = .ok (.istore 7, 2) := by decide +kernel
theorem dL_law_1247 : decode cL_law 1247 = .ok (.goto 552, 3) := by decide +kernel
theorem dL_law_1250 : decode cL_law 1250 = .ok (.iload 12, 2) := by decide +kernel
theorem dL_law_1252 : decode cL_law 1252 = .ok (.bipush 11, 2) := by decide +kernel
theorem dL_law_1254 : decode cL_law 1254 = .ok (.if_icmp .ge 65, 3) := by decide +kernel
theorem dL_law_1257 : decode cL_law 1257 = .ok (.iload 14, 2) := by decide +kernel
theorem dL_law_1259 : decode cL_law 1259 = .ok (.ifCond .le 60, 3) := by decide +kernel
theorem dL_law_1262 : decode cL_law 1262 = .ok (.aload_n 1, 1) := by decide +kernel
theorem dL_law_1263 : decode cL_law 1263 = .ok (.iconst 3, 1) := by decide +kernel
theorem dL_law_1264 : decode cL_law 1264 = .ok (.iload 16, 2) := by decide +kernel
theorem dL_law_1266 : decode cL_law 1266 = .ok (.iload 11, 2) := by decide +kernel
theorem dL_law_1268 : decode cL_law 1268 = .ok (.bipush 9, 2) := by decide +kernel
theorem dL_law_1270 : decode cL_law 1270 = .ok (.ishr, 1) := by decide +kernel
theorem dL_law_1271 : decode cL_law 1271 = .ok (.iconst 3, 1) := by decide +kernel
theorem dL_law_1272 : decode cL_law 1272 = .ok (.irem, 1) := by decide +kernel
theorem dL_law_1273 : decode cL_law 1273 = .ok (.invokestatic 104, 3) := by decide +kernel
theorem dL_law_1276 : decode cL_law 1276 = .ok (.istore 17, 2) := by decide +kernel
theorem dL_law_1278 : decode cL_law 1278 = .ok (.iload 17, 2) := by decide +kernel
theorem dL_law_1280 : decode cL_law 1280 = .ok (.ifCond .ge 10, 3) := by decide +kernel
theorem dL_law_1283 : decode cL_law 1283 = .ok (.iload 17, 2) := by decide +kernel
theorem dL_law_1285 : decode cL_law 1285 = .ok (.bipush (-3), 2) := by decide +kernel
theorem dL_law_1287 : decode cL_law 1287 = .ok (.if_icmp .ne 26, 3) := by decide +kernel
theorem dL_law_1290 : decode cL_law 1290 = .ok (.aload_n 1, 1) := by decide +kernel
theorem dL_law_1291 : decode cL_law 1291 = .ok (.iconst 3, 1) := by decide +kernel
theorem dL_law_1292 : decode cL_law 1292 = .ok (.iload 16, 2) := by decide +kernel
theorem dL_law_1294 : decode cL_law 1294 = .ok (.iload 11, 2) := by decide +kernel
theorem dL_law_1296 : decode cL_law 1296 = .ok (.bipush 9, 2) := by decide +kernel
theorem dL_law_1298 : decode cL_law 1298 = .ok (.ishr, 1) := by decide +kernel
theorem dL_law_1299 : decode cL_law 1299 = .ok (.iconst 3, 1) := by decide +kernel
theorem dL_law_1300 : decode cL_law 1300 = .ok (.irem, 1) := by decide +kernel
theorem dL_law_1301 : decode cL_law 1301 = .ok (.invokestatic 104, 3) := by decide +kernel
theorem dL_law_1304 : decode cL_law 1304 = .ok (.bipush (-3), 2) := by decide +kernel
theorem dL_law_1306 : decode cL_law 1306 = .ok (.if_icmp .ne 7, 3) := by decide +kernel
theorem dL_law_1309 : decode cL_law 1309 = .ok (.iconst 1, 1) := by decide +kernel
theorem dL_law_1310 : decode cL_law 1310 = .ok (.goto 4, 3) := by decide +kernel
theorem dL_law_1313 : decode cL_law 1313 = .ok (.iconst 0, 1) := by decide +kernel
theorem dL_law_1314 : decode cL_law 1314 = .ok (.istore 7, 2) := by decide +kernel
theorem dL_law_1316 : decode cL_law 1316 = .ok (.goto 483, 3) := by decide +kernel
theorem dL_law_1319 : decode cL_law 1319 = .ok (.iload 12, 2) := by decide +kernel
theorem dL_law_1321 : decode cL_law 1321 = .ok (.bipush 11, 2) := by decide +kernel
theorem dL_law_1323 : decode cL_law 1323 = .ok (.if_icmp .ne 45, 3) := by decide +kernel
theorem dL_law_1326 : decode cL_law 1326 = .ok (.iload 11, 2) := by decide +kernel
theorem dL_law_1328 : decode cL_law 1328 = .ok (.iconst 3, 1) := by decide +kernel
theorem dL_law_1329 : decode cL_law 1329 = .ok (.iand, 1) := by decide +kernel
theorem dL_law_1330 : decode cL_law 1330 = .ok (.ifCond .ne 38, 3) := by decide +kernel
theorem dL_law_1333 : decode cL_law 1333 = .ok (.aload_n 1, 1) := by decide +kernel
theorem dL_law_1334 : decode cL_law 1334 = .ok (.iload 11, 2) := by decide +kernel
theorem dL_law_1336 : decode cL_law 1336 = .ok (.iconst 2, 1) := by decide +kernel
theorem dL_law_1337 : decode cL_law 1337 = .ok (.ishr, 1) := by decide +kernel
theorem dL_law_1338 : decode cL_law 1338 = .ok (.iconst 3, 1) := by decide +kernel
theorem dL_law_1339 : decode cL_law 1339 = .ok (.irem, 1) := by decide +kernel
theorem dL_law_1340 : decode cL_law 1340 = .ok (.iload 11, 2) := by decide +kernel
theorem dL_law_1342 : decode cL_law 1342 = .ok (.iconst 4, 1) := by decide +kernel
theorem dL_law_1343 : decode cL_law 1343 = .ok (.ishr, 1) := by decide +kernel
theorem dL_law_1344 : decode cL_law 1344 = .ok (.iconst 4, 1) := by decide +kernel
theorem dL_law_1345 : decode cL_law 1345 = .ok (.irem, 1) := by decide +kernel
theorem dL_law_1346 : decode cL_law 1346 = .ok (.iload 11, 2) := by decide +kernel
theorem dL_law_1348 : decode cL_law 1348 = .ok (.bipush 7, 2) := by decide +kernel
theorem dL_law_1350 : decode cL_law 1350 = .ok (.ishr, 1) := by decide +kernel
theorem dL_law_1351 : decode cL_law 1351 = .ok (.bipush 16, 2) := by decide +kernel
theorem dL_law_1353 : decode cL_law 1353 = .ok (.irem, 1) := by decide +kernel
theorem dL_law_1354 : decode cL_law 1354 = .ok (.iload 11, 2) := by decide +kernel
theorem dL_law_1356 : decode cL_law 1356 = .ok (.bipush 12, 2) := by decide +kernel
theorem dL_law_1358 : decode cL_law 1358 = .ok (.ishr, 1) := by decide +kernel
theorem dL_law_1359 : decode cL_law 1359 = .ok (.bipush 30, 2) := by decide +kernel
theorem dL_law_1361 : decode cL_law 1361 = .ok (.irem, 1) := by decide +kernel
theorem dL_law_1362 : decode cL_law 1362 = .ok (.invokevirtual 108, 3) := by decide +kernel
theorem dL_law_1365 : decode cL_law 1365 = .ok (.goto 434, 3) := by decide +kernel
theorem dL_law_1368 : decode cL_law 1368 = .ok (.iload 12, 2) := by decide +kernel
theorem dL_law_1370 : decode cL_law 1370 = .ok (.bipush 13, 2) := by decide +kernel
theorem dL_law_1372 : decode cL_law 1372 = .ok (.if_icmp .ge 123, 3) := by decide +kernel
theorem dL_law_1375 : decode cL_law 1375 = .ok (.iload 5, 2) := by decide +kernel
theorem dL_law_1377 : decode cL_law 1377 = .ok (.ifCond .le 118, 3) := by decide +kernel
theorem dL_law_1380 : decode cL_law 1380 = .ok (.iload 11, 2) := by decide +kernel
theorem dL_law_1382 : decode cL_law 1382 = .ok (.bipush 8, 2) := by decide +kernel
theorem dL_law_1384 : decode cL_law 1384 = .ok (.ishr, 1) := by decide +kernel
theorem dL_law_1385 : decode cL_law 1385 = .ok (.iconst 1, 1) := by decide +kernel
theorem dL_law_1386 : decode cL_law 1386 = .ok (.iand, 1) := by decide +kernel
theorem dL_law_1387 : decode cL_law 1387 = .ok (.ifCond .ne 7, 3) := by decide +kernel
theorem dL_law_1390 : decode cL_law 1390 = .ok (.iconst 0, 1) := by decide +kernel
theorem dL_law_1391 : decode cL_law 1391 = .ok (.goto 10, 3) := by decide +kernel
theorem dL_law_1394 : decode cL_law 1394 = .ok (.iload 11, 2) := by decide +kernel
theorem dL_law_1396 : decode cL_law 1396 = .ok (.bipush 9, 2) := by decide +kernel
theorem dL_law_1398 : decode cL_law 1398 = .ok (.ishr, 1) := by decide +kernel
theorem dL_law_1399 : decode cL_law 1399 = .ok (.iconst 3, 1) := by decide +kernel
theorem dL_law_1400 : decode cL_law 1400 = .ok (.irem, 1) := by decide +kernel
theorem dL_law_1401 : decode cL_law 1401 = .ok (.istore 17, 2) := by decide +kernel
theorem dL_law_1403 : decode cL_law 1403 = .ok (.aload_n 1, 1) := by decide +kernel
theorem dL_law_1404 : decode cL_law 1404 = .ok (.iload 13, 2) := by decide +kernel
theorem dL_law_1406 : decode cL_law 1406 = .ok (.iload 11, 2) := by decide +kernel
theorem dL_law_1408 : decode cL_law 1408 = .ok (.iconst 5, 1) := by decide +kernel
theorem dL_law_1409 : decode cL_law 1409 = .ok (.ishr, 1) := by decide +kernel
theorem dL_law_1410 : decode cL_law 1410 = .ok (.iconst 3, 1) := by decide +kernel
theorem dL_law_1411 : decode cL_law 1411 = .ok (.irem, 1) := by decide +kernel
theorem dL_law_1412 : decode cL_law 1412 = .ok (.iload 17, 2) := by decide +kernel
theorem dL_law_1414 : decode cL_law 1414 = .ok (.invokestatic 112, 3) := by decide +kernel
theorem dL_law_1417 : decode cL_law 1417 = .ok (.istore 18, 2) := by decide +kernel
theorem dL_law_1419 : decode cL_law 1419 = .ok (.iload 18, 2) := by decide +kernel
theorem dL_law_1421 : decode cL_law 1421 = .ok (.bipush (-3), 2) := by decide +kernel
theorem dL_law_1423 : decode cL_law 1423 = .ok (.if_icmp .eq 47, 3) := by decide +kernel
theorem dL_law_1426 : decode cL_law 1426 = .ok (.iload 18, 2) := by decide +kernel
theorem dL_law_1428 : decode cL_law 1428 = .ok (.iload 6, 2) := by decide +kernel
theorem dL_law_1430 : decode cL_law 1430 = .ok (.if_icmp .ne 44, 3) := by decide +kernel
theorem dL_law_1433 : decode cL_law 1433 = .ok (.iload 6, 2) := by decide +kernel
theorem dL_law_1435 : decode cL_law 1435 = .ok (.bipush 30, 2) := by decide +kernel
theorem dL_law_1437 : decode cL_law 1437 = .ok (.if_icmp .ge 37, 3) := by decide +kernel
theorem dL_law_1440 : decode cL_law 1440 = .ok (.aload_n 1, 1) := by decide +kernel
theorem dL_law_1441 : decode cL_law 1441 = .ok (.aload_n 1, 1) := by decide +kernel
theorem dL_law_1442 : decode cL_law 1442 = .ok (.iload 18, 2) := by decide +kernel
theorem dL_law_1444 : decode cL_law 1444 = .ok (.invokevirtual 81, 3) := by decide +kernel
theorem dL_law_1447 : decode cL_law 1447 = .ok (.invokevirtual 66, 3) := by decide +kernel
theorem dL_law_1450 : decode cL_law 1450 = .ok (.bipush 10, 2) := by decide +kernel
theorem dL_law_1452 : decode cL_law 1452 = .ok (.if_icmp .ge 22, 3) := by decide +kernel
theorem dL_law_1455 : decode cL_law 1455 = .ok (.aload_n 1, 1) := by decide +kernel
theorem dL_law_1456 : decode cL_law 1456 = .ok (.aload_n 1, 1) := by decide +kernel
theorem dL_law_1457 : decode cL_law 1457 = .ok (.iload 18, 2) := by decide +kernel
theorem dL_law_1459 : decode cL_law 1459 = .ok (.invokevirtual 81, 3) := by decide +kernel
theorem dL_law_1462 : decode cL_law 1462 = .ok (.invokevirtual 66, 3) := by decide +kernel
theorem dL_law_1465 : decode cL_law 1465 = .ok (.iload 17, 2) := by decide +kernel
theorem dL_law_1467 : decode cL_law 1467 = .ok (.if_icmp .lt 7, 3) := by decide +kernel
theorem dL_law_1470 : decode cL_law 1470 = .ok (.iconst 1, 1) := by decide +kernel
theorem dL_law_1471 : decode cL_law 1471 = .ok (.goto 4, 3) := by decide +kernel
theorem dL_law_1474 : decode cL_law 1474 = .ok (.iconst 0, 1) := by decide +kernel
theorem dL_law_1475 : decode cL_law 1475 = .ok (.istore 7, 2) := by decide +kernel
theorem dL_law_1477 : decode cL_law 1477 = .ok (.iload 6, 2) := by decide +kernel
theorem dL_law_1479 : decode cL_law 1479 = .ok (.iload 18, 2) := by decide +kernel
theorem dL_law_1481 : decode cL_law 1481 = .ok (.ifCond .lt 7, 3) := by decide +kernel
theorem dL_law_1484 : decode cL_law 1484 = .ok (.iconst 1, 1) := by decide +kernel
theorem dL_law_1485 : decode cL_law 1485 = .ok (.goto 4, 3) := by decide +kernel
theorem dL_law_1488 : decode cL_law 1488 = .ok (.iconst 0, 1) := by decide +kernel
theorem dL_law_1489 : decode cL_law 1489 = .ok (.iadd, 1) := by decide +kernel
theorem dL_law_1490 : decode cL_law 1490 = .ok (.istore 6, 2) := by decide +kernel
theorem dL_law_1492 : decode cL_law 1492 = .ok (.goto 307, 3) := by decide +kernel
theorem dL_law_1495 : decode cL_law 1495 = .ok (.iload 12, 2) := by decide +kernel
theorem dL_law_1497 : decode cL_law 1497 = .ok (.bipush 13, 2) := by decide +kernel
theorem dL_law_1499 : decode cL_law 1499 = .ok (.if_icmp .ne 174, 3) := by decide +kernel
theorem dL_law_1502 : decode cL_law 1502 = .ok (.iload 6, 2) := by decide +kernel
theorem dL_law_1504 : decode cL_law 1504 = .ok (.ifCond .le 169, 3) := by decide +kernel
theorem dL_law_1507 : decode cL_law 1507 = .ok (.iload 11, 2) := by decide +kernel
theorem dL_law_1509 : decode cL_law 1509 = .ok (.iload 6, 2) := by decide +kernel
theorem dL_law_1511 : decode cL_law 1511 = .ok (.irem, 1) := by decide +kernel
theorem dL_law_1512 : decode cL_law 1512 = .ok (.istore 17, 2) := by decide +kernel
theorem dL_law_1514 : decode cL_law 1514 = .ok (.aload_n 1, 1) := by decide +kernel
theorem dL_law_1515 : decode cL_law 1515 = .ok (.iload 17, 2) := by decide +kernel
theorem dL_law_1517 : decode cL_law 1517 = .ok (.invokevirtual 81, 3) := by decide +kernel
theorem dL_law_1520 : decode cL_law 1520 = .ok (.istore 18, 2) := by decide +kernel
theorem dL_law_1522 : decode cL_law 1522 = .ok (.iload 11, 2) := by decide +kernel
theorem dL_law_1524 : decode cL_law 1524 = .ok (.bipush 6, 2) := by decide +kernel
theorem dL_law_1526 : decode cL_law 1526 = .ok (.ishr, 1) := by decide +kernel
theorem dL_law_1527 : decode cL_law 1527 = .ok (.iconst 3, 1) := by decide +kernel
theorem dL_law_1528 : decode cL_law 1528 = .ok (.iand, 1) := by decide +kernel
theorem dL_law_1529 : decode cL_law 1529 = .ok (.ifCond .ne 12, 3) := by decide +kernel
theorem dL_law_1532 : decode cL_law 1532 = .ok (.aload_n 1, 1) := by decide +kernel
theorem dL_law_1533 : decode cL_law 1533 = .ok (.iload 17, 2) := by decide +kernel
theorem dL_law_1535 : decode cL_law 1535 = .ok (.invokestatic 115, 3) := by decide +kernel
theorem dL_law_1538 : decode cL_law 1538 = .ok (.goto 9, 3) := by decide +kernel
theorem dL_law_1541 : decode cL_law 1541 = .ok (.aload_n 1, 1) := by decide +kernel
theorem dL_law_1542 : decode cL_law 1542 = .ok (.iload 17, 2) := by decide +kernel
theorem dL_law_1544 : decode cL_law 1544 = .ok (.invokestatic 119, 3) := by decide +kernel
theorem dL_law_1547 : decode cL_law 1547 = .ok (.istore 19, 2) := by decide +kernel
theorem dL_law_1549 : decode cL_law 1549 = .ok (.iload 11, 2) := by decide +kernel
theorem dL_law_1551 : decode cL_law 1551 = .ok (.bipush 6, 2) := by decide +kernel
theorem dL_law_1553 : decode cL_law 1553 = .ok (.ishr, 1) := by decide +kernel
theorem dL_law_1554 : decode cL_law 1554 = .ok (.iconst 3, 1) := by decide +kernel
theorem dL_law_1555 : decode cL_law 1555 = .ok (.iand, 1) := by decide +kernel
theorem dL_law_1556 : decode cL_law 1556 = .ok (.ifCond .ne 28, 3) := by decide +kernel
theorem dL_law_1559 : decode cL_law 1559 = .ok (.iload 19, 2) := by decide +kernel
theorem dL_law_1561 : decode cL_law 1561 = .ok (.iload 18, 2) := by decide +kernel
theorem dL_law_1563 : decode cL_law 1563 = .ok (.if_icmp .ne 17, 3) := by decide +kernel
theorem dL_law_1566 : decode cL_law 1566 = .ok (.aload_n 1, 1) := by decide +kernel
theorem dL_law_1567 : decode cL_law 1567 = .ok (.iload 17, 2) := by decide +kernel
theorem dL_law_1569 : decode cL_law 1569 = .ok (.invokevirtual 81, 3) := by decide +kernel
theorem dL_law_1572 : decode cL_law 1572 = .ok (.iconst (-1), 1) := by decide +kernel
theorem dL_law_1573 : decode cL_law 1573 = .ok (.if_icmp .ne 7, 3) := by decide +kernel
theorem dL_law_1576 : decode cL_law 1576 = .ok (.iconst 1, 1) := by decide +kernel
theorem dL_law_1577 : decode cL_law 1577 = .ok (.goto 91, 3) := by decide +kernel
theorem dL_law_1580 : decode cL_law 1580 = .ok (.iconst 0, 1) := by decide +kernel
theorem dL_law_1581 : decode cL_law 1581 = .ok (.goto 87, 3) := by decide +kernel
theorem dL_law_1584 : decode cL_law 1584 = .ok (.iload 19, 2) := by decide +kernel
theorem dL_law_1586 : decode cL_law 1586 = .ok (.iconst (-1), 1) := by decide +kernel
theorem dL_law_1587 : decode cL_law 1587 = .ok (.if_icmp .ne 17, 3) := by decide +kernel
theorem dL_law_1590 : decode cL_law 1590 = .ok (.iload 18, 2) := by decide +kernel
theorem dL_law_1592 : decode cL_law 1592 = .ok (.iconst (-1), 1) := by decide +kernel
theorem dL_law_1593 : decode cL_law 1593 = .ok (.if_icmp .ne 7, 3) := by decide +kernel
theorem dL_law_1596 : decode cL_law 1596 = .ok (.iconst 1, 1) := by decide +kernel
theorem dL_law_1597 : decode cL_law 1597 = .ok (.goto 71, 3) := by decide +kernel
theorem dL_law_1600 : decode cL_law 1600 = .ok (.iconst 0, 1) := by decide +kernel
theorem dL_law_1601 : decode cL_law 1601 = .ok (.goto 67, 3) := by decide +kernel
theorem dL_law_1604 : decode cL_law 1604 = .ok (.iload 19, 2) := by decide +kernel
theorem dL_law_1606 : decode cL_law 1606 = .ok (.bipush (-3), 2) := by decide +kernel
theorem dL_law_1608 : decode cL_law 1608 = .ok (.if_icmp .ne 22, 3) := by decide +kernel
theorem dL_law_1611 : decode cL_law 1611 = .ok (.aload_n 1, 1) := by decide +kernel
theorem dL_law_1612 : decode cL_law 1612 = .ok (.iload 17, 2) := by decide +kernel
theorem dL_law_1614 : decode cL_law 1614 = .ok (.invokevirtual 81, 3) := by decide +kernel
theorem dL_law_1617 : decode cL_law 1617 = .ok (.iload 18, 2) := by decide +kernel
theorem dL_law_1619 : decode cL_law 1619 = .ok (.if_icmp .ne 7, 3) := by decide +kernel
theorem dL_law_1622 : decode cL_law 1622 = .ok (.iconst 1, 1) := by decide +kernel
theorem dL_law_1623 : decode cL_law 1623 = .ok (.goto 45, 3) := by decide +kernel
theorem dL_law_1626 : decode cL_law 1626 = .ok (.iconst 0, 1) := by decide +kernel
theorem dL_law_1627 : decode cL_law 1627 = .ok (.goto 41, 3) := by decide +kernel
theorem dL_law_1630 : decode cL_law 1630 = .ok (.aload_n 1, 1) := by decide +kernel
theorem dL_law_1631 : decode cL_law 1631 = .ok (.iload 17, 2) := by decide +kernel
theorem dL_law_1633 : decode cL_law 1633 = .ok (.invokevirtual 81, 3) := by decide +kernel
theorem dL_law_1636 : decode cL_law 1636 = .ok (.iload 19, 2) := by decide +kernel
theorem dL_law_1638 : decode cL_law 1638 = .ok (.if_icmp .ne 29, 3) := by decide +kernel
theorem dL_law_1641 : decode cL_law 1641 = .ok (.aload_n 1, 1) := by decide +kernel
theorem dL_law_1642 : decode cL_law 1642 = .ok (.iload 19, 2) := by decide +kernel
theorem dL_law_1644 : decode cL_law 1644 = .ok (.invokevirtual 66, 3) := by decide +kernel
theorem dL_law_1647 : decode cL_law 1647 = .ok (.bipush 10, 2) := by decide +kernel
theorem dL_law_1649 : decode cL_law 1649 = .ok (.if_icmp .ge 18, 3) := by decide +kernel
theorem dL_law_1652 : decode cL_law 1652 = .ok (.aload_n 1, 1) := by decide +kernel
theorem dL_law_1653 : decode cL_law 1653 = .ok (.iload 17, 2) := by decide +kernel
theorem dL_law_1655 : decode cL_law 1655 = .ok (.invokestatic 119, 3) := by decide +kernel
theorem dL_law_1658 : decode cL_law 1658 = .ok (.iload 19, 2) := by decide +kernel
theorem dL_law_1660 : decode cL_law 1660 = .ok (.if_icmp .ne 7, 3) := by decide +kernel
theorem dL_law_1663 : decode cL_law 1663 = .ok (.iconst 1, 1) := by decide +kernel
theorem dL_law_1664 : decode cL_law 1664 = .ok (.goto 4, 3) := by decide +kernel
theorem dL_law_1667 : decode cL_law 1667 = .ok (.iconst 0, 1) := by decide +kernel
theorem dL_law_1668 : decode cL_law 1668 = .ok (.istore 7, 2) := by decide +kernel
theorem dL_law_1670 : decode cL_law 1670 = .ok (.goto 129, 3) := by decide +kernel
theorem dL_law_1673 : decode cL_law 1673 = .ok (.iconst 0, 1) := by decide +kernel
theorem dL_law_1674 : decode cL_law 1674 = .ok (.istore 17, 2) := by decide +kernel
theorem dL_law_1676 : decode cL_law 1676 = .ok (.iconst 0, 1) := by decide +kernel
theorem dL_law_1677 : decode cL_law 1677 = .ok (.istore 18, 2) := by decide +kernel
theorem dL_law_1679 : decode cL_law 1679 = .ok (.iload 18, 2) := by decide +kernel
theorem dL_law_1681 : decode cL_law 1681 = .ok (.iload 14, 2) := by decide +kernel
theorem dL_law_1683 : decode cL_law 1683 = .ok (.if_icmp .ge 30, 3) := by decide +kernel
theorem dL_law_1686 : decode cL_law 1686 = .ok (.iload 17, 2) := by decide +kernel
theorem dL_law_1688 : decode cL_law 1688 = .ok (.aload_n 1, 1) := by decide +kernel
theorem dL_law_1689 : decode cL_law 1689 = .ok (.iload 18, 2) := by decide +kernel
theorem dL_law_1691 : decode cL_law 1691 = .ok (.invokevirtual 66, 3) := by decide +kernel
theorem dL_law_1694 : decode cL_law 1694 = .ok (.bipush 40, 2) := by decide +kernel
theorem dL_law_1696 : decode cL_law 1696 = .ok (.if_icmp .lt 7, 3) := by decide +kernel
theorem dL_law_1699 : decode cL_law 1699 = .ok (.iconst 1, 1) := by decide +kernel
theorem dL_law_1700 : decode cL_law 1700 = .ok (.goto 4, 3) := by decide +kernel
theorem dL_law_1703 : decode cL_law 1703 = .ok (.iconst 0, 1) := by decide +kernel
theorem dL_law_1704 : decode cL_law 1704 = .ok (.isub, 1) := by decide +kernel
theorem dL_law_1705 : decode cL_law 1705 = .ok (.istore 17, 2) := by decide +kernel
theorem dL_law_1707 : decode cL_law 1707 = .ok (.iinc 18 1, 3) := by decide +kernel
theorem dL_law_1710 : decode cL_law 1710 = .ok (.goto (-31), 3) := by decide +kernel
theorem dL_law_1713 : decode cL_law 1713 = .ok (.aload_n 1, 1) := by decide +kernel
theorem dL_law_1714 : decode cL_law 1714 = .ok (.iload 11, 2) := by decide +kernel
theorem dL_law_1716 : decode cL_law 1716 = .ok (.iconst 3, 1) := by decide +kernel
theorem dL_law_1717 : decode cL_law 1717 = .ok (.iand, 1) := by decide +kernel
theorem dL_law_1718 : decode cL_law 1718 = .ok (.ifCond .le 7, 3) := by decide +kernel
theorem dL_law_1721 : decode cL_law 1721 = .ok (.iconst 1, 1) := by decide +kernel
theorem dL_law_1722 : decode cL_law 1722 = .ok (.goto 12, 3) := by decide +kernel
theorem dL_law_1725 : decode cL_law 1725 = .ok (.iconst 1, 1) := by decide +kernel
theorem dL_law_1726 : decode cL_law 1726 = .ok (.iload 11, 2) := by decide +kernel
theorem dL_law_1728 : decode cL_law 1728 = .ok (.iconst 2, 1) := by decide +kernel
theorem dL_law_1729 : decode cL_law 1729 = .ok (.ishr, 1) := by decide +kernel
theorem dL_law_1730 : decode cL_law 1730 = .ok (.bipush 12, 2) := by decide +kernel
theorem dL_law_1732 : decode cL_law 1732 = .ok (.irem, 1) := by decide +kernel
theorem dL_law_1733 : decode cL_law 1733 = .ok (.iadd, 1) := by decide +kernel
theorem dL_law_1734 : decode cL_law 1734 = .ok (.invokevirtual 122, 3) := by decide +kernel
theorem dL_law_1737 : decode cL_law 1737 = .ok (.istore 18, 2) := by decide +kernel
theorem dL_law_1739 : decode cL_law 1739 = .ok (.iconst 0, 1) := by decide +kernel
theorem dL_law_1740 : decode cL_law 1740 = .ok (.istore 19, 2) := by decide +kernel
theorem dL_law_1742 : decode cL_law 1742 = .ok (.iload 19, 2) := by decide +kernel
theorem dL_law_1744 : decode cL_law 1744 = .ok (.iload 14, 2) := by decide +kernel
theorem dL_law_1746 : decode cL_law 1746 = .ok (.if_icmp .ge 30, 3) := by decide +kernel
theorem dL_law_1749 : decode cL_law 1749 = .ok (.iload 17, 2) := by decide +kernel
theorem dL_law_1751 : decode cL_law 1751 = .ok (.aload_n 1, 1) := by decide +kernel
theorem dL_law_1752 : decode cL_law 1752 = .ok (.iload 19, 2) := by decide +kernel
theorem dL_law_1754 : decode cL_law 1754 = .ok (.invokevirtual 66, 3) := by decide +kernel
theorem dL_law_1757 : decode cL_law 1757 = .ok (.bipush 40, 2) := by decide +kernel
theorem dL_law_1759 : decode cL_law 1759 = .ok (.if_icmp .lt 7, 3) := by decide +kernel
theorem dL_law_1762 : decode cL_law 1762 = .ok (.iconst 1, 1) := by decide +kernel
theorem dL_law_1763 : decode cL_law 1763 = .ok (.goto 4, 3) := by decide +kernel
theorem dL_law_1766 : decode cL_law 1766 = .ok (.iconst 0, 1) := by decide +kernel
theorem dL_law_1767 : decode cL_law 1767 = .ok (.iadd, 1) := by decide +kernel
theorem dL_law_1768 : decode cL_law 1768 = .ok (.istore 17, 2) := by decide +kernel
theorem dL_law_1770 : decode cL_law 1770 = .ok (.iinc 19 1, 3) := by decide +kernel
theorem dL_law_1773 : decode cL_law 1773 = .ok (.goto (-31), 3) := by decide +kernel
theorem dL_law_1776 : decode cL_law 1776 = .ok (.iload 18, 2) := by decide +kernel
theorem dL_law_1778 : decode cL_law 1778 = .ok (.iload 17, 2) := by decide +kernel
theorem dL_law_1780 : decode cL_law 1780 = .ok (.if_icmp .ne 16, 3) := by decide +kernel
theorem dL_law_1783 : decode cL_law 1783 = .ok (.aload_n 1, 1) := by decide +kernel
theorem dL_law_1784 : decode cL_law 1784 = .ok (.invokevirtual 53, 3) := by decide +kernel
theorem dL_law_1787 : decode cL_law 1787 = .ok (.iload 14, 2) := by decide +kernel
theorem dL_law_1789 : decode cL_law 1789 = .ok (.if_icmp .ne 7, 3) := by decide +kernel
theorem dL_law_1792 : decode cL_law 1792 = .ok (.iconst 1, 1) := by decide +kernel
theorem dL_law_1793 : decode cL_law 1793 = .ok (.goto 4, 3) := by decide +kernel
theorem dL_law_1796 : decode cL_law 1796 = .ok (.iconst 0, 1) := by decide +kernel
theorem dL_law_1797 : decode cL_law 1797 = .ok (.istore 7, 2) := by decide +kernel
theorem dL_law_1799 : decode cL_law 1799 = .ok (.iload 7, 2) := by decide +kernel
theorem dL_law_1801 : decode cL_law 1801 = .ok (.ifCond .eq 26, 3) := by decide +kernel
theorem dL_law_1804 : decode cL_law 1804 = .ok (.aload_n 1, 1) := by decide +kernel
theorem dL_law_1805 : decode cL_law 1805 = .ok (.aload_n 2, 1) := by decide +kernel
theorem dL_law_1806 : decode cL_law 1806 = .ok (.iload 5, 2) := by decide +kernel
theorem dL_law_1808 : decode cL_law 1808 = .ok (.invokestatic 85, 3) := by decide +kernel
theorem dL_law_1811 : decode cL_law 1811 = .ok (.ifCond .eq 16, 3) := by decide +kernel
theorem dL_law_1814 : decode cL_law 1814 = .ok (.aload_n 1, 1) := by decide +kernel
theorem dL_law_1815 : decode cL_law 1815 = .ok (.iload 6, 2) := by decide +kernel
theorem dL_law_1817 : decode cL_law 1817 = .ok (.invokestatic 125, 3) := by decide +kernel
theorem dL_law_1820 : decode cL_law 1820 = .ok (.ifCond .eq 7, 3) := by decide +kernel
theorem dL_law_1823 : decode cL_law 1823 = .ok (.iconst 1, 1) := by decide +kernel
theorem dL_law_1824 : decode cL_law 1824 = .ok (.goto 4, 3) := by decide +kernel
theorem dL_law_1827 : decode cL_law 1827 = .ok (.iconst 0, 1) := by decide +kernel
theorem dL_law_1828 : decode cL_law 1828 = .ok (.istore 7, 2) := by decide +kernel
theorem dL_law_1830 : decode cL_law 1830 = .ok (.iinc 9 1, 3) := by decide +kernel
theorem dL_law_1833 : decode cL_law 1833 = .ok (.goto (-1760), 3) := by decide +kernel
theorem dL_law_1836 : decode cL_law 1836 = .ok (.iload 7, 2) := by decide +kernel
theorem dL_law_1838 : decode cL_law 1838 = .ok (.ireturn, 1) := by decide +kernel
