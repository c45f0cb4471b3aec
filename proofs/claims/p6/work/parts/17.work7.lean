theorem dX7_work_0 : decode cX7_work 0 = .ok (.aload_n 0, 1) := by decide +kernel
theorem dX7_work_1 : decode cX7_work 1 = .ok (.getfield 54, 3) := by decide +kernel
theorem dX7_work_4 : decode cX7_work 4 = .ok (.ifCond .eq 4, 3) := by decide +kernel
theorem dX7_work_7 : decode cX7_work 7 = .ok (.return_, 1) := by decide +kernel
theorem dX7_work_8 : decode cX7_work 8 = .ok (.aload_n 0, 1) := by decide +kernel
theorem dX7_work_9 : decode cX7_work 9 = .ok (.iconst 1, 1) := by decide +kernel
theorem dX7_work_10 : decode cX7_work 10 = .ok (.putfield 54, 3) := by decide +kernel
theorem dX7_work_13 : decode cX7_work 13 = .ok (.aload_n 0, 1) := by decide +kernel
theorem dX7_work_14 : decode cX7_work 14 = .ok (.iconst 0, 1) := by decide +kernel
theorem dX7_work_15 : decode cX7_work 15 = .ok (.putfield 70, 3) := by decide +kernel
theorem dX7_work_18 : decode cX7_work 18 = .ok (.iconst 0, 1) := by decide +kernel
theorem dX7_work_19 : decode cX7_work 19 = .ok (.istore_n 1, 1) := by decide +kernel
theorem dX7_work_20 : decode cX7_work 20 = .ok (.iload_n 1, 1) := by decide +kernel
theorem dX7_work_21 : decode cX7_work 21 = .ok (.iconst 5, 1) := by decide +kernel
theorem dX7_work_22 : decode cX7_work 22 = .ok (.if_icmp .ge 81, 3) := by decide +kernel
theorem dX7_work_25 : decode cX7_work 25 = .ok (.aload_n 0, 1) := by decide +kernel
theorem dX7_work_26 : decode cX7_work 26 = .ok (.aload_n 0, 1) := by decide +kernel
theorem dX7_work_27 : decode cX7_work 27 = .ok (.getfield 7, 3) := by decide +kernel
theorem dX7_work_30 : decode cX7_work 30 = .ok (.iload_n 1, 1) := by decide +kernel
theorem dX7_work_31 : decode cX7_work 31 = .ok (.iaload, 1) := by decide +kernel
theorem dX7_work_32 : decode cX7_work 32 = .ok (.ifCond .ne 26, 3) := by decide +kernel
theorem dX7_work_35 : decode cX7_work 35 = .ok (.aload_n 0, 1) := by decide +kernel
theorem dX7_work_36 : decode cX7_work 36 = .ok (.getfield 7, 3) := by decide +kernel
theorem dX7_work_39 : decode cX7_work 39 = .ok (.iconst 5, 1) := by decide +kernel
theorem dX7_work_40 : decode cX7_work 40 = .ok (.iload_n 1, 1) := by decide +kernel
theorem dX7_work_41 : decode cX7_work 41 = .ok (.iadd, 1) := by decide +kernel
theorem dX7_work_42 : decode cX7_work 42 = .ok (.iaload, 1) := by decide +kernel
theorem dX7_work_43 : decode cX7_work 43 = .ok (.ifCond .ne 15, 3) := by decide +kernel
theorem dX7_work_46 : decode cX7_work 46 = .ok (.aload_n 0, 1) := by decide +kernel
theorem dX7_work_47 : decode cX7_work 47 = .ok (.getfield 7, 3) := by decide +kernel
theorem dX7_work_50 : decode cX7_work 50 = .ok (.bipush 10, 2) := by decide +kernel
theorem dX7_work_52 : decode cX7_work 52 = .ok (.iload_n 1, 1) := by decide +kernel
theorem dX7_work_53 : decode cX7_work 53 = .ok (.iadd, 1) := by decide +kernel
theorem dX7_work_54 : decode cX7_work 54 = .ok (.iaload, 1) := by decide +kernel
theorem dX7_work_55 : decode cX7_work 55 = .ok (.ifCond .eq 7, 3) := by decide +kernel
theorem dX7_work_58 : decode cX7_work 58 = .ok (.iload_n 1, 1) := by decide +kernel
theorem dX7_work_59 : decode cX7_work 59 = .ok (.goto 7, 3) := by decide +kernel
theorem dX7_work_62 : decode cX7_work 62 = .ok (.aload_n 0, 1) := by decide +kernel
theorem dX7_work_63 : decode cX7_work 63 = .ok (.getfield 70, 3) := by decide +kernel
theorem dX7_work_66 : decode cX7_work 66 = .ok (.putfield 70, 3) := by decide +kernel
theorem dX7_work_69 : decode cX7_work 69 = .ok (.aload_n 0, 1) := by decide +kernel
theorem dX7_work_70 : decode cX7_work 70 = .ok (.getfield 30, 3) := by decide +kernel
theorem dX7_work_73 : decode cX7_work 73 = .ok (.iload_n 1, 1) := by decide +kernel
theorem dX7_work_74 : decode cX7_work 74 = .ok (.aload_n 0, 1) := by decide +kernel
theorem dX7_work_75 : decode cX7_work 75 = .ok (.getfield 7, 3) := by decide +kernel
theorem dX7_work_78 : decode cX7_work 78 = .ok (.iload_n 1, 1) := by decide +kernel
theorem dX7_work_79 : decode cX7_work 79 = .ok (.iaload, 1) := by decide +kernel
theorem dX7_work_80 : decode cX7_work 80 = .ok (.i2l, 1) := by decide +kernel
theorem dX7_work_81 : decode cX7_work 81 = .ok (.lastore, 1) := by decide +kernel
theorem dX7_work_82 : decode cX7_work 82 = .ok (.aload_n 0, 1) := by decide +kernel
theorem dX7_work_83 : decode cX7_work 83 = .ok (.getfield 33, 3) := by decide +kernel
theorem dX7_work_86 : decode cX7_work 86 = .ok (.iload_n 1, 1) := by decide +kernel
theorem dX7_work_87 : decode cX7_work 87 = .ok (.aload_n 0, 1) := by decide +kernel
theorem dX7_work_88 : decode cX7_work 88 = .ok (.getfield 7, 3) := by decide +kernel
theorem dX7_work_91 : decode cX7_work 91 = .ok (.iconst 5, 1) := by decide +kernel
theorem dX7_work_92 : decode cX7_work 92 = .ok (.iload_n 1, 1) := by decide +kernel
theorem dX7_work_93 : decode cX7_work 93 = .ok (.iadd, 1) := by decide +kernel
theorem dX7_work_94 : decode cX7_work 94 = .ok (.iaload, 1) := by decide +kernel
theorem dX7_work_95 : decode cX7_work 95 = .ok (.i2l, 1) := by decide +kernel
theorem dX7_work_96 : decode cX7_work 96 = .ok (.lastore, 1) := by decide +kernel
theorem dX7_work_97 : decode cX7_work 97 = .ok (.iinc 1 1, 3) := by decide +kernel
theorem dX7_work_100 : decode cX7_work 100 = .ok (.goto (-80), 3) := by decide +kernel
theorem dX7_work_103 : decode cX7_work 103 = .ok (.aload_n 0, 1) := by decide +kernel
theorem dX7_work_104 : decode cX7_work 104 = .ok (.invokevirtual 74, 3) := by decide +kernel
theorem dX7_work_107 : decode cX7_work 107 = .ok (.iconst 0, 1) := by decide +kernel
theorem dX7_work_108 : decode cX7_work 108 = .ok (.istore_n 1, 1) := by decide +kernel
theorem dX7_work_109 : decode cX7_work 109 = .ok (.iload_n 1, 1) := by decide +kernel
theorem dX7_work_110 : decode cX7_work 110 = .ok (.iconst 5, 1) := by decide +kernel
theorem dX7_work_111 : decode cX7_work 111 = .ok (.if_icmp .ge 25, 3) := by decide +kernel
theorem dX7_work_114 : decode cX7_work 114 = .ok (.aload_n 0, 1) := by decide +kernel
theorem dX7_work_115 : decode cX7_work 115 = .ok (.getfield 33, 3) := by decide +kernel
theorem dX7_work_118 : decode cX7_work 118 = .ok (.iload_n 1, 1) := by decide +kernel
theorem dX7_work_119 : decode cX7_work 119 = .ok (.aload_n 0, 1) := by decide +kernel
theorem dX7_work_120 : decode cX7_work 120 = .ok (.getfield 7, 3) := by decide +kernel
theorem dX7_work_123 : decode cX7_work 123 = .ok (.bipush 10, 2) := by decide +kernel
theorem dX7_work_125 : decode cX7_work 125 = .ok (.iload_n 1, 1) := by decide +kernel
theorem dX7_work_126 : decode cX7_work 126 = .ok (.iadd, 1) := by decide +kernel
theorem dX7_work_127 : decode cX7_work 127 = .ok (.iaload, 1) := by decide +kernel
theorem dX7_work_128 : decode cX7_work 128 = .ok (.i2l, 1) := by decide +kernel
theorem dX7_work_129 : decode cX7_work 129 = .ok (.lastore, 1) := by decide +kernel
theorem dX7_work_130 : decode cX7_work 130 = .ok (.iinc 1 1, 3) := by decide +kernel
theorem dX7_work_133 : decode cX7_work 133 = .ok (.goto (-24), 3) := by decide +kernel
theorem dX7_work_136 : decode cX7_work 136 = .ok (.aload_n 0, 1) := by decide +kernel
theorem dX7_work_137 : decode cX7_work 137 = .ok (.invokevirtual 74, 3) := by decide +kernel
theorem dX7_work_140 : decode cX7_work 140 = .ok (.aload_n 0, 1) := by decide +kernel
theorem dX7_work_141 : decode cX7_work 141 = .ok (.getfield 30, 3) := by decide +kernel
theorem dX7_work_144 : decode cX7_work 144 = .ok (.invokestatic 62, 3) := by decide +kernel
theorem dX7_work_147 : decode cX7_work 147 = .ok (.istore_n 1, 1) := by decide +kernel
theorem dX7_work_148 : decode cX7_work 148 = .ok (.iconst 0, 1) := by decide +kernel
theorem dX7_work_149 : decode cX7_work 149 = .ok (.istore_n 2, 1) := by decide +kernel
theorem dX7_work_150 : decode cX7_work 150 = .ok (.iload_n 2, 1) := by decide +kernel
theorem dX7_work_151 : decode cX7_work 151 = .ok (.iconst 3, 1) := by decide +kernel
theorem dX7_work_152 : decode cX7_work 152 = .ok (.if_icmp .ge 152, 3) := by decide +kernel
theorem dX7_work_155 : decode cX7_work 155 = .ok (.iconst 0, 1) := by decide +kernel
theorem dX7_work_156 : decode cX7_work 156 = .ok (.istore_n 3, 1) := by decide +kernel
theorem dX7_work_157 : decode cX7_work 157 = .ok (.iload_n 3, 1) := by decide +kernel
theorem dX7_work_158 : decode cX7_work 158 = .ok (.iconst 5, 1) := by decide +kernel
theorem dX7_work_159 : decode cX7_work 159 = .ok (.if_icmp .ge 55, 3) := by decide +kernel
theorem dX7_work_162 : decode cX7_work 162 = .ok (.aload_n 0, 1) := by decide +kernel
theorem dX7_work_163 : decode cX7_work 163 = .ok (.getfield 33, 3) := by decide +kernel
theorem dX7_work_166 : decode cX7_work 166 = .ok (.iload_n 3, 1) := by decide +kernel
theorem dX7_work_167 : decode cX7_work 167 = .ok (.aload_n 0, 1) := by decide +kernel
theorem dX7_work_168 : decode cX7_work 168 = .ok (.getfield 7, 3) := by decide +kernel
theorem dX7_work_171 : decode cX7_work 171 = .ok (.iconst 5, 1) := by decide +kernel
theorem dX7_work_172 : decode cX7_work 172 = .ok (.iload_n 2, 1) := by decide +kernel
theorem dX7_work_173 : decode cX7_work 173 = .ok (.imul, 1) := by decide +kernel
theorem dX7_work_174 : decode cX7_work 174 = .ok (.iload_n 3, 1) := by decide +kernel
theorem dX7_work_175 : decode cX7_work 175 = .ok (.iadd, 1) := by decide +kernel
theorem dX7_work_176 : decode cX7_work 176 = .ok (.iaload, 1) := by decide +kernel
theorem dX7_work_177 : decode cX7_work 177 = .ok (.i2l, 1) := by decide +kernel
theorem dX7_work_178 : decode cX7_work 178 = .ok (.lastore, 1) := by decide +kernel
theorem dX7_work_179 : decode cX7_work 179 = .ok (.aload_n 0, 1) := by decide +kernel
theorem dX7_work_180 : decode cX7_work 180 = .ok (.getfield 13, 3) := by decide +kernel
theorem dX7_work_183 : decode cX7_work 183 = .ok (.iconst 5, 1) := by decide +kernel
theorem dX7_work_184 : decode cX7_work 184 = .ok (.iload_n 2, 1) := by decide +kernel
theorem dX7_work_185 : decode cX7_work 185 = .ok (.imul, 1) := by decide +kernel
theorem dX7_work_186 : decode cX7_work 186 = .ok (.iload_n 3, 1) := by decide +kernel
theorem dX7_work_187 : decode cX7_work 187 = .ok (.iadd, 1) := by decide +kernel
theorem dX7_work_188 : decode cX7_work 188 = .ok (.iload_n 1, 1) := by decide +kernel
theorem dX7_work_189 : decode cX7_work 189 = .ok (.ifCond .le 7, 3) := by decide +kernel
theorem dX7_work_192 : decode cX7_work 192 = .ok (.lconst 0, 1) := by decide +kernel
theorem dX7_work_193 : decode cX7_work 193 = .ok (.goto 14, 3) := by decide +kernel
theorem dX7_work_196 : decode cX7_work 196 = .ok (.aload_n 0, 1) := by decide +kernel
theorem dX7_work_197 : decode cX7_work 197 = .ok (.getfield 7, 3) := by decide +kernel
theorem dX7_work_200 : decode cX7_work 200 = .ok (.iconst 5, 1) := by decide +kernel
theorem dX7_work_201 : decode cX7_work 201 = .ok (.iload_n 2, 1) := by decide +kernel
theorem dX7_work_202 : decode cX7_work 202 = .ok (.imul, 1) := by decide +kernel
theorem dX7_work_203 : decode cX7_work 203 = .ok (.iload_n 3, 1) := by decide +kernel
theorem dX7_work_204 : decode cX7_work 204 = .ok (.iadd, 1) := by decide +kernel
theorem dX7_work_205 : decode cX7_work 205 = .ok (.iaload, 1) := by decide +kernel
theorem dX7_work_206 : decode cX7_work 206 = .ok (.i2l, 1) := by decide +kernel
theorem dX7_work_207 : decode cX7_work 207 = .ok (.lastore, 1) := by decide +kernel
theorem dX7_work_208 : decode cX7_work 208 = .ok (.iinc 3 1, 3) := by decide +kernel
theorem dX7_work_211 : decode cX7_work 211 = .ok (.goto (-54), 3) := by decide +kernel
theorem dX7_work_214 : decode cX7_work 214 = .ok (.iconst 4, 1) := by decide +kernel
theorem dX7_work_215 : decode cX7_work 215 = .ok (.iload_n 1, 1) := by decide +kernel
theorem dX7_work_216 : decode cX7_work 216 = .ok (.isub, 1) := by decide +kernel
theorem dX7_work_217 : decode cX7_work 217 = .ok (.istore_n 3, 1) := by decide +kernel
theorem dX7_work_218 : decode cX7_work 218 = .ok (.iload_n 3, 1) := by decide +kernel
theorem dX7_work_219 : decode cX7_work 219 = .ok (.ifCond .lt 79, 3) := by decide +kernel
theorem dX7_work_222 : decode cX7_work 222 = .ok (.iload_n 1, 1) := by decide +kernel
theorem dX7_work_223 : decode cX7_work 223 = .ok (.ifCond .le 75, 3) := by decide +kernel
theorem dX7_work_226 : decode cX7_work 226 = .ok (.aload_n 0, 1) := by decide +kernel
theorem dX7_work_227 : decode cX7_work 227 = .ok (.getfield 33, 3) := by decide +kernel
theorem dX7_work_230 : decode cX7_work 230 = .ok (.iload_n 3, 1) := by decide +kernel
theorem dX7_work_231 : decode cX7_work 231 = .ok (.iload_n 1, 1) := by decide +kernel
theorem dX7_work_232 : decode cX7_work 232 = .ok (.iadd, 1) := by decide +kernel
theorem dX7_work_233 : decode cX7_work 233 = .ok (.laload, 1) := by decide +kernel
theorem dX7_work_234 : decode cX7_work 234 = .ok (.aload_n 0, 1) := by decide +kernel
theorem dX7_work_235 : decode cX7_work 235 = .ok (.getfield 30, 3) := by decide +kernel
theorem dX7_work_238 : decode cX7_work 238 = .ok (.iload_n 1, 1) := by decide +kernel
theorem dX7_work_239 : decode cX7_work 239 = .ok (.laload, 1) := by decide +kernel
theorem dX7_work_240 : decode cX7_work 240 = .ok (.ldiv, 1) := by decide +kernel
theorem dX7_work_241 : decode cX7_work 241 = .ok (.lstore 4, 2) := by decide +kernel
theorem dX7_work_243 : decode cX7_work 243 = .ok (.aload_n 0, 1) := by decide +kernel
theorem dX7_work_244 : decode cX7_work 244 = .ok (.getfield 13, 3) := by decide +kernel
theorem dX7_work_247 : decode cX7_work 247 = .ok (.iconst 5, 1) := by decide +kernel
theorem dX7_work_248 : decode cX7_work 248 = .ok (.iload_n 2, 1) := by decide +kernel
theorem dX7_work_249 : decode cX7_work 249 = .ok (.imul, 1) := by decide +kernel
theorem dX7_work_250 : decode cX7_work 250 = .ok (.iload_n 3, 1) := by decide +kernel
theorem dX7_work_251 : decode cX7_work 251 = .ok (.iadd, 1) := by decide +kernel
theorem dX7_work_252 : decode cX7_work 252 = .ok (.lload 4, 2) := by decide +kernel
theorem dX7_work_254 : decode cX7_work 254 = .ok (.lastore, 1) := by decide +kernel
theorem dX7_work_255 : decode cX7_work 255 = .ok (.iconst 0, 1) := by decide +kernel
theorem dX7_work_256 : decode cX7_work 256 = .ok (.istore 6, 2) := by decide +kernel
theorem dX7_work_258 : decode cX7_work 258 = .ok (.iload 6, 2) := by decide +kernel
theorem dX7_work_260 : decode cX7_work 260 = .ok (.iload_n 1, 1) := by decide +kernel
theorem dX7_work_261 : decode cX7_work 261 = .ok (.if_icmp .gt 31, 3) := by decide +kernel
theorem dX7_work_264 : decode cX7_work 264 = .ok (.aload_n 0, 1) := by decide +kernel
theorem dX7_work_265 : decode cX7_work 265 = .ok (.getfield 33, 3) := by decide +kernel
theorem dX7_work_268 : decode cX7_work 268 = .ok (.iload_n 3, 1) := by decide +kernel
theorem dX7_work_269 : decode cX7_work 269 = .ok (.iload 6, 2) := by decide +kernel
theorem dX7_work_271 : decode cX7_work 271 = .ok (.iadd, 1) := by decide +kernel
theorem dX7_work_272 : decode cX7_work 272 = .ok (.dup2, 1) := by decide +kernel
theorem dX7_work_273 : decode cX7_work 273 = .ok (.laload, 1) := by decide +kernel
theorem dX7_work_274 : decode cX7_work 274 = .ok (.lload 4, 2) := by decide +kernel
theorem dX7_work_276 : decode cX7_work 276 = .ok (.aload_n 0, 1) := by decide +kernel
theorem dX7_work_277 : decode cX7_work 277 = .ok (.getfield 30, 3) := by decide +kernel
theorem dX7_work_280 : decode cX7_work 280 = .ok (.iload 6, 2) := by decide +kernel
theorem dX7_work_282 : decode cX7_work 282 = .ok (.laload, 1) := by decide +kernel
theorem dX7_work_283 : decode cX7_work 283 = .ok (.lmul, 1) := by decide +kernel
theorem dX7_work_284 : decode cX7_work 284 = .ok (.lsub, 1) := by decide +kernel
theorem dX7_work_285 : decode cX7_work 285 = .ok (.lastore, 1) := by decide +kernel
theorem dX7_work_286 : decode cX7_work 286 = .ok (.iinc 6 1, 3) := by decide +kernel
theorem dX7_work_289 : decode cX7_work 289 = .ok (.goto (-31), 3) := by decide +kernel
theorem dX7_work_292 : decode cX7_work 292 = .ok (.iinc 3 (-1), 3) := by decide +kernel
theorem dX7_work_295 : decode cX7_work 295 = .ok (.goto (-77), 3) := by decide +kernel
theorem dX7_work_298 : decode cX7_work 298 = .ok (.iinc 2 1, 3) := by decide +kernel
theorem dX7_work_301 : decode cX7_work 301 = .ok (.goto (-151), 3) := by decide +kernel
theorem dX7_work_304 : decode cX7_work 304 = .ok (.aload_n 0, 1) := by decide +kernel
theorem dX7_work_305 : decode cX7_work 305 = .ok (.iconst 0, 1) := by decide +kernel
theorem dX7_work_306 : decode cX7_work 306 = .ok (.putfield 77, 3) := by decide +kernel
theorem dX7_work_309 : decode cX7_work 309 = .ok (.iconst 0, 1) := by decide +kernel
theorem dX7_work_310 : decode cX7_work 310 = .ok (.istore_n 2, 1) := by decide +kernel
theorem dX7_work_311 : decode cX7_work 311 = .ok (.iconst 0, 1) := by decide +kernel
theorem dX7_work_312 : decode cX7_work 312 = .ok (.istore_n 3, 1) := by decide +kernel
theorem dX7_work_313 : decode cX7_work 313 = .ok (.iload_n 3, 1) := by decide +kernel
theorem dX7_work_314 : decode cX7_work 314 = .ok (.iconst 5, 1) := by decide +kernel
theorem dX7_work_315 : decode cX7_work 315 = .ok (.if_icmp .ge 83, 3) := by decide +kernel
theorem dX7_work_318 : decode cX7_work 318 = .ok (.aload_n 0, 1) := by decide +kernel
theorem dX7_work_319 : decode cX7_work 319 = .ok (.aload_n 0, 1) := by decide +kernel
theorem dX7_work_320 : decode cX7_work 320 = .ok (.getfield 13, 3) := by decide +kernel
theorem dX7_work_323 : decode cX7_work 323 = .ok (.iload_n 3, 1) := by decide +kernel
theorem dX7_work_324 : decode cX7_work 324 = .ok (.laload, 1) := by decide +kernel
theorem dX7_work_325 : decode cX7_work 325 = .ok (.lconst 0, 1) := by decide +kernel
theorem dX7_work_326 : decode cX7_work 326 = .ok (.lcmp, 1) := by decide +kernel
theorem dX7_work_327 : decode cX7_work 327 = .ok (.ifCond .ne 30, 3) := by decide +kernel
theorem dX7_work_330 : decode cX7_work 330 = .ok (.aload_n 0, 1) := by decide +kernel
theorem dX7_work_331 : decode cX7_work 331 = .ok (.getfield 13, 3) := by decide +kernel
theorem dX7_work_334 : decode cX7_work 334 = .ok (.iconst 5, 1) := by decide +kernel
theorem dX7_work_335 : decode cX7_work 335 = .ok (.iload_n 3, 1) := by decide +kernel
theorem dX7_work_336 : decode cX7_work 336 = .ok (.iadd, 1) := by decide +kernel
theorem dX7_work_337 : decode cX7_work 337 = .ok (.laload, 1) := by decide +kernel
theorem dX7_work_338 : decode cX7_work 338 = .ok (.lconst 0, 1) := by decide +kernel
theorem dX7_work_339 : decode cX7_work 339 = .ok (.lcmp, 1) := by decide +kernel
theorem dX7_work_340 : decode cX7_work 340 = .ok (.ifCond .ne 17, 3) := by decide +kernel
theorem dX7_work_343 : decode cX7_work 343 = .ok (.aload_n 0, 1) := by decide +kernel
theorem dX7_work_344 : decode cX7_work 344 = .ok (.getfield 13, 3) := by decide +kernel
theorem dX7_work_347 : decode cX7_work 347 = .ok (.bipush 10, 2) := by decide +kernel
theorem dX7_work_349 : decode cX7_work 349 = .ok (.iload_n 3, 1) := by decide +kernel
theorem dX7_work_350 : decode cX7_work 350 = .ok (.iadd, 1) := by decide +kernel
theorem dX7_work_351 : decode cX7_work 351 = .ok (.laload, 1) := by decide +kernel
theorem dX7_work_352 : decode cX7_work 352 = .ok (.lconst 0, 1) := by decide +kernel
theorem dX7_work_353 : decode cX7_work 353 = .ok (.lcmp, 1) := by decide +kernel
theorem dX7_work_354 : decode cX7_work 354 = .ok (.ifCond .eq 7, 3) := by decide +kernel
theorem dX7_work_357 : decode cX7_work 357 = .ok (.iload_n 3, 1) := by decide +kernel
theorem dX7_work_358 : decode cX7_work 358 = .ok (.goto 7, 3) := by decide +kernel
theorem dX7_work_361 : decode cX7_work 361 = .ok (.aload_n 0, 1) := by decide +kernel
theorem dX7_work_362 : decode cX7_work 362 = .ok (.getfield 77, 3) := by decide +kernel
theorem dX7_work_365 : decode cX7_work 365 = .ok (.putfield 77, 3) := by decide +kernel
theorem dX7_work_368 : decode cX7_work 368 = .ok (.iload_n 2, 1) := by decide +kernel
theorem dX7_work_369 : decode cX7_work 369 = .ok (.ifCond .ne 17, 3) := by decide +kernel
theorem dX7_work_372 : decode cX7_work 372 = .ok (.aload_n 0, 1) := by decide +kernel
theorem dX7_work_373 : decode cX7_work 373 = .ok (.getfield 13, 3) := by decide +kernel
theorem dX7_work_376 : decode cX7_work 376 = .ok (.bipush 10, 2) := by decide +kernel
theorem dX7_work_378 : decode cX7_work 378 = .ok (.iload_n 3, 1) := by decide +kernel
theorem dX7_work_379 : decode cX7_work 379 = .ok (.iadd, 1) := by decide +kernel
theorem dX7_work_380 : decode cX7_work 380 = .ok (.laload, 1) := by decide +kernel
theorem dX7_work_381 : decode cX7_work 381 = .ok (.lconst 0, 1) := by decide +kernel
theorem dX7_work_382 : decode cX7_work 382 = .ok (.lcmp, 1) := by decide +kernel
theorem dX7_work_383 : decode cX7_work 383 = .ok (.ifCond .eq 7, 3) := by decide +kernel
theorem dX7_work_386 : decode cX7_work 386 = .ok (.iconst 1, 1) := by decide +kernel
theorem dX7_work_387 : decode cX7_work 387 = .ok (.goto 4, 3) := by decide +kernel
theorem dX7_work_390 : decode cX7_work 390 = .ok (.iconst 0, 1) := by decide +kernel
theorem dX7_work_391 : decode cX7_work 391 = .ok (.istore_n 2, 1) := by decide +kernel
theorem dX7_work_392 : decode cX7_work 392 = .ok (.iinc 3 1, 3) := by decide +kernel
theorem dX7_work_395 : decode cX7_work 395 = .ok (.goto (-82), 3) := by decide +kernel
theorem dX7_work_398 : decode cX7_work 398 = .ok (.aload_n 0, 1) := by decide +kernel
theorem dX7_work_399 : decode cX7_work 399 = .ok (.getfield 17, 3) := by decide +kernel
theorem dX7_work_402 : decode cX7_work 402 = .ok (.iconst 0, 1) := by decide +kernel
theorem dX7_work_403 : decode cX7_work 403 = .ok (.iconst 0, 1) := by decide +kernel
theorem dX7_work_404 : decode cX7_work 404 = .ok (.bastore, 1) := by decide +kernel
theorem dX7_work_405 : decode cX7_work 405 = .ok (.aload_n 0, 1) := by decide +kernel
theorem dX7_work_406 : decode cX7_work 406 = .ok (.getfield 17, 3) := by decide +kernel
theorem dX7_work_409 : decode cX7_work 409 = .ok (.iconst 1, 1) := by decide +kernel
theorem dX7_work_410 : decode cX7_work 410 = .ok (.iconst 0, 1) := by decide +kernel
theorem dX7_work_411 : decode cX7_work 411 = .ok (.bastore, 1) := by decide +kernel
theorem dX7_work_412 : decode cX7_work 412 = .ok (.aload_n 0, 1) := by decide +kernel
theorem dX7_work_413 : decode cX7_work 413 = .ok (.getfield 77, 3) := by decide +kernel
theorem dX7_work_416 : decode cX7_work 416 = .ok (.ifCond .le 11, 3) := by decide +kernel
theorem dX7_work_419 : decode cX7_work 419 = .ok (.iload_n 2, 1) := by decide +kernel
theorem dX7_work_420 : decode cX7_work 420 = .ok (.ifCond .eq 7, 3) := by decide +kernel
theorem dX7_work_423 : decode cX7_work 423 = .ok (.aload_n 0, 1) := by decide +kernel
theorem dX7_work_424 : decode cX7_work 424 = .ok (.invokevirtual 80, 3) := by decide +kernel
theorem dX7_work_427 : decode cX7_work 427 = .ok (.aload_n 0, 1) := by decide +kernel
theorem dX7_work_428 : decode cX7_work 428 = .ok (.getfield 70, 3) := by decide +kernel
theorem dX7_work_431 : decode cX7_work 431 = .ok (.iconst 1, 1) := by decide +kernel
theorem dX7_work_432 : decode cX7_work 432 = .ok (.if_icmp .le 7, 3) := by decide +kernel
theorem dX7_work_435 : decode cX7_work 435 = .ok (.aload_n 0, 1) := by decide +kernel
theorem dX7_work_436 : decode cX7_work 436 = .ok (.invokevirtual 83, 3) := by decide +kernel
theorem dX7_work_439 : decode cX7_work 439 = .ok (.return_, 1) := by decide +kernel
set_option maxHeartbeats 4000000 in
set_option maxRecDepth 100000 in
theorem ct_X7_work (l : Launch) (D : va_G) (ce : Nat → ClassId) (h : Nat → Nat) (F : Nat → Int) (I : Nat → Nat → Int32) (J : Nat → Nat → Int64) (hok : rOK F I) : Ct l yX7_work cX7_work 7 none { frames := 5, cells := 0, slots := 0, locals := 148 } 0 0 D (TY ce) [.ref (h 0)] (rW ce h F I J) (QV D (TY ce) (fun w1 => ∃ F2 : Nat → Int, ∃ I2 : Nat → Nat → Int32, ∃ J2 : Nat → Nat → Int64, w1 = rW ce h F2 I2 J2 ∧ (rOK F2 I2) ∧ (F2 2 = 1 ∧ 0 ≤ F2 0 ∧ F2 0 ≤ 4 ∧ 0 ≤ F2 1 ∧ F2 1 ≤ 4) ∧ (F2 0 = moK (I 0) 5) ∧ (I2 0 = I 0) ∧ (DGok (I2 2)))) := by
  refine Ct.ofV (by decide) (Nat.le_of_ble_eq_true rfl) ?_
  intro p e s m args below meth c A Q hX hnm hR
  refine Z.pick (lv' := [(0, .ref (h 0))]) [0] rfl ?_
  have hmb := moK_b (I 0) 5
  obtain ⟨hF, hF2, hkn, hdg⟩ := id hok
  refine Z.aload_n hX dX7_work_0 rfl rfl ?_
  refine Z.getf hX 7 0 4 dX7_work_1 rfl rfl inX7 (by decide) fl_X7_54 rfl rfl ?_
  refine Z.if_eq hX 8 dX7_work_4 (by decide) ⟨by omega, by omega⟩ ?_ ?_
  · intro c1
    refine Z.aload_n hX dX7_work_8 rfl rfl ?_
    refine Z.iconst hX dX7_work_9 ?_
    refine Z.putf (ty := .boolean) hX 7 0 4 tyX7 dX7_work_10 rfl rfl inX7 tyX7_ok nmX7 (by decide) fl_X7_54 rfl rfl (by decide +kernel) rfl rfl (Nat.le_of_ble_eq_true rfl) ?_
    obtain ⟨F2, eF2⟩ : ∃ F' : Nat → Int, F' = va_up F 2 (1) := ⟨_, rfl⟩
    refine Z.toW (w' := rW ce h F2 I J) (by rw [eF2]; rfl) ?_
    have eF2_0 : F2 0 = F 0 := by rw [eF2]; rfl
    have eF2_1 : F2 1 = F 1 := by rw [eF2]; rfl
    have eF2_2 : F2 2 = 1 := by rw [eF2]; rfl
    refine Z.aload_n hX dX7_work_13 rfl rfl ?_
    refine Z.iconst hX dX7_work_14 ?_
    refine Z.putf (ty := .int) hX 7 0 2 tyX7 dX7_work_15 rfl rfl inX7 tyX7_ok nmX7 (by decide) fl_X7_70 rfl rfl (by decide +kernel) rfl rfl (Nat.le_of_ble_eq_true rfl) ?_
    obtain ⟨F3, eF3⟩ : ∃ F' : Nat → Int, F' = va_up F2 0 (0) := ⟨_, rfl⟩
    refine Z.toW (w' := rW ce h F3 I J) (by rw [eF3]; rfl) ?_
    have eF3_0 : F3 0 = 0 := by rw [eF3]; rfl
    have eF3_1 : F3 1 = F2 1 := by rw [eF3]; rfl
    have eF3_2 : F3 2 = F2 2 := by rw [eF3]; rfl
    refine Z.iconst hX dX7_work_18 ?_
    refine Z.istore_n (lv' := [(1, .int (zI 0)), (0, .ref (h 0))]) hX dX7_work_19 rfl (by decide) rfl ?_
    have key_20 : ∀ (N : Nat), ∀ (k : Int) (G : Nat → Int) (M : Nat → Nat → Int64), (5 - k).toNat < N → (hk : 0 ≤ k ∧ k ≤ 5) → (hG : G 2 = 1 ∧ 0 ≤ G 1 ∧ G 1 ≤ 4) → (hG0 : G 0 = moK (I 0) k.toNat) → Z p l e { frames := 5, cells := 0, slots := 0, locals := 148 } s m args below meth c D A 7 0 0 Q 20 [(1, .int (zI k)), (0, .ref (h 0))] [] (rW ce h G I M) := by
      intro N
      induction N with
      | zero => intro k G M hm; exact absurd hm (Nat.not_lt_zero _)
      | succ N ih_20 =>
        intro k G M hm hk hG hG0
        refine Z.iload_n hX dX7_work_20 rfl rfl ?_
        refine Z.iconst hX dX7_work_21 ?_
        refine Z.icmp_ge hX 103 dX7_work_22 (by decide) ⟨by omega, by omega⟩ ⟨by omega, by omega⟩ ?_ ?_
        · intro c4
          have hG5 : G 0 = moK (I 0) 5 := by rw [hG0, show k = 5 by omega]; rfl
          refine Z.aload_n hX dX7_work_103 rfl rfl ?_
          refine Z.callVfv (As := []) (rest := []) hX 7 0 rfl rfl (ct_X7_divisor l D ce h G I M ) mc_X7_divisor ml_X7_74 im_X7_divisor se_X7_divisor ini_X7 nd_X7_divisor ⟨Nat.le_of_ble_eq_true rfl, Nat.le_of_ble_eq_true rfl⟩ ⟨rfl, rfl⟩ ⟨Nat.le_refl _, Nat.le_refl _⟩ rfl (Nat.le_of_ble_eq_true rfl) dX7_work_104 ?_
          rintro w1 ⟨J26, hw_, hq7⟩
          subst hw_
          refine Z.iconst hX dX7_work_107 ?_
          refine Z.istore_n (lv' := [(1, .int (zI 0)), (0, .ref (h 0))]) hX dX7_work_108 rfl (by decide) rfl ?_
          have key_109 : ∀ (N : Nat), ∀ (k : Int) (M : Nat → Nat → Int64), (5 - k).toNat < N → (hk2 : 0 ≤ k ∧ k ≤ 5) → Z p l e { frames := 5, cells := 0, slots := 0, locals := 148 } s m args below meth c D A 7 0 0 Q 109 [(1, .int (zI k)), (0, .ref (h 0))] [] (rW ce h G I M) := by
            intro N
            induction N with
            | zero => intro k M hm; exact absurd hm (Nat.not_lt_zero _)
            | succ N ih_109 =>
              intro k M hm hk2
              refine Z.iload_n hX dX7_work_109 rfl rfl ?_
              refine Z.iconst hX dX7_work_110 ?_
              refine Z.icmp_ge hX 136 dX7_work_111 (by decide) ⟨by omega, by omega⟩ ⟨by omega, by omega⟩ ?_ ?_
              · intro c8
                refine Z.aload_n hX dX7_work_136 rfl rfl ?_
                refine Z.callVfv (As := []) (rest := []) hX 7 0 rfl rfl (ct_X7_divisor l D ce h G I M ) mc_X7_divisor ml_X7_74 im_X7_divisor se_X7_divisor ini_X7 nd_X7_divisor ⟨Nat.le_of_ble_eq_true rfl, Nat.le_of_ble_eq_true rfl⟩ ⟨rfl, rfl⟩ ⟨Nat.le_refl _, Nat.le_refl _⟩ rfl (Nat.le_of_ble_eq_true rfl) dX7_work_137 ?_
                rintro w1 ⟨Jd, hw_, hjd⟩
                subst hw_
                refine Z.aload_n hX dX7_work_140 rfl rfl ?_
                refine Z.getf hX 7 0 9 dX7_work_141 rfl rfl inX7 (by decide) fl_X7_30 rfl rfl ?_
                refine Z.callS1i (As := [.ref (h 7)]) (rest := []) hX 7 rfl (ct_X7_degreeOf l D ce ((h 7)) (Jd 2) ) mc_X7_degreeOf ml_X7_62 st_X7_degreeOf ini_X7 nd_X7_degreeOf ⟨Nat.le_of_ble_eq_true rfl, Nat.le_of_ble_eq_true rfl⟩ ⟨rfl, rfl⟩ ⟨Nat.le_refl _, Nat.le_refl _⟩ rfl (Nat.le_of_ble_eq_true rfl) dX7_work_144 ?_
                rintro r_10 w1 ⟨d, hr_, hw_, d1, d2, d3⟩
                subst hr_
                refine ⟨_, hw_, ?_⟩
                refine Z.toW (w' := rW ce h G I Jd) rfl ?_
                refine Z.istore_n (lv' := [(1, .int (zI d)), (0, .ref (h 0))]) hX dX7_work_147 rfl (by decide) rfl ?_
                refine Z.iconst hX dX7_work_148 ?_
                refine Z.istore_n (lv' := [(2, .int (zI 0)), (1, .int (zI d)), (0, .ref (h 0))]) hX dX7_work_149 rfl (by decide) rfl ?_
                have key_150 : ∀ (N : Nat), ∀ (wv : Int) (M : Nat → Nat → Int64), (3 - wv).toNat < N → (hw : 0 ≤ wv ∧ wv ≤ 3) → (ho : M 2 = Jd 2) → Z p l e { frames := 5, cells := 0, slots := 0, locals := 148 } s m args below meth c D A 7 0 0 Q 150 [(2, .int (zI wv)), (1, .int (zI d)), (0, .ref (h 0))] [] (rW ce h G I M) := by
                  intro N
                  induction N with
                  | zero => intro wv M hm; exact absurd hm (Nat.not_lt_zero _)
                  | succ N ih_150 =>
                    intro wv M hm hw ho
                    refine Z.iload_n hX dX7_work_150 rfl rfl ?_
                    refine Z.iconst hX dX7_work_151 ?_
                    refine Z.icmp_ge hX 304 dX7_work_152 (by decide) ⟨by omega, by omega⟩ ⟨by omega, by omega⟩ ?_ ?_
                    · intro c11
                      refine Z.aload_n hX dX7_work_304 rfl rfl ?_
                      refine Z.iconst hX dX7_work_305 ?_
                      refine Z.putf (ty := .int) hX 7 0 3 tyX7 dX7_work_306 rfl rfl inX7 tyX7_ok nmX7 (by decide) fl_X7_77 rfl rfl (by decide +kernel) rfl rfl (Nat.le_of_ble_eq_true rfl) ?_
                      obtain ⟨F12, eF12⟩ : ∃ F' : Nat → Int, F' = va_up G 1 (0) := ⟨_, rfl⟩
                      refine Z.toW (w' := rW ce h F12 I M) (by rw [eF12]; rfl) ?_
                      have eF12_0 : F12 0 = G 0 := by rw [eF12]; rfl
                      have eF12_1 : F12 1 = 0 := by rw [eF12]; rfl
                      have eF12_2 : F12 2 = G 2 := by rw [eF12]; rfl
                      refine Z.iconst hX dX7_work_309 ?_
                      refine Z.istore_n (lv' := [(2, .int (zI 0)), (1, .int (zI d)), (0, .ref (h 0))]) hX dX7_work_310 rfl (by decide) rfl ?_
                      refine Z.iconst hX dX7_work_311 ?_
                      refine Z.istore_n (lv' := [(3, .int (zI 0)), (2, .int (zI 0)), (1, .int (zI d)), (0, .ref (h 0))]) hX dX7_work_312 rfl (by decide) rfl ?_
                      have key_313 : ∀ (N : Nat), ∀ (k wt : Int) (G : Nat → Int), (5 - k).toNat < N → (hk5 : 0 ≤ k ∧ k ≤ 5) → (hwt : 0 ≤ wt ∧ wt ≤ 1) → (hG : G 2 = 1 ∧ 0 ≤ G 1 ∧ G 1 ≤ 4) → (hG0 : G 0 = moK (I 0) 5) → Z p l e { frames := 5, cells := 0, slots := 0, locals := 148 } s m args below meth c D A 7 0 0 Q 313 [(3, .int (zI k)), (2, .int (zI wt)), (0, .ref (h 0))] [] (rW ce h G I M) := by
                        intro N
                        induction N with
                        | zero => intro k wt G hm; exact absurd hm (Nat.not_lt_zero _)
                        | succ N ih_313 =>
                          intro k wt G hm hk5 hwt hG hG0
                          refine Z.iload_n hX dX7_work_313 rfl rfl ?_
                          refine Z.iconst hX dX7_work_314 ?_
                          refine Z.icmp_ge hX 398 dX7_work_315 (by decide) ⟨by omega, by omega⟩ ⟨by omega, by omega⟩ ?_ ?_
                          · intro c13
                            refine Z.aload_n hX dX7_work_398 rfl rfl ?_
                            refine Z.getf hX 7 0 5 dX7_work_399 rfl rfl inX7 (by decide) fl_X7_17 rfl rfl ?_
                            refine Z.iconst hX dX7_work_402 ?_
                            refine Z.iconst hX dX7_work_403 ?_
                            refine Z.zastore hX 3 2 dX7_work_404 rfl rfl (by omega) (by omega) (by decide) ?_
                            obtain ⟨I14, eI14⟩ : ∃ J' : Nat → Nat → Int32, J' = va_up I 1 (upd (I 1) (0 : Int).toNat (vp_nar .boolean (zI (0)))) := ⟨_, rfl⟩
                            refine Z.toW (w' := rW ce h G I14 M) (by rw [eI14]; rfl) ?_
                            have gI14 : I14 1 = upd (I 1) (0 : Int).toNat (vp_nar .boolean (zI (0))) := by rw [eI14]; exact up_eq
                            have fI14 : ∀ k, k ≠ 1 → I14 k = I k := fun k hk => by rw [eI14]; exact up_ne hk
                            refine Z.aload_n hX dX7_work_405 rfl rfl ?_
                            refine Z.getf hX 7 0 5 dX7_work_406 rfl rfl inX7 (by decide) fl_X7_17 rfl rfl ?_
                            refine Z.iconst hX dX7_work_409 ?_
                            refine Z.iconst hX dX7_work_410 ?_
                            refine Z.zastore hX 3 2 dX7_work_411 rfl rfl (by omega) (by omega) (by decide) ?_
                            obtain ⟨I15, eI15⟩ : ∃ J' : Nat → Nat → Int32, J' = va_up I14 1 (upd (I14 1) (1 : Int).toNat (vp_nar .boolean (zI (0)))) := ⟨_, rfl⟩
                            refine Z.toW (w' := rW ce h G I15 M) (by rw [eI15]; rfl) ?_
                            have gI15 : I15 1 = upd (I14 1) (1 : Int).toNat (vp_nar .boolean (zI (0))) := by rw [eI15]; exact up_eq
                            have fI15 : ∀ k, k ≠ 1 → I15 k = I14 k := fun k hk => by rw [eI15]; exact up_ne hk
                            have hdgB : DGok (I15 2) := by rw [fI15 2 (by decide), fI14 2 (by decide)]; exact hdg
                            have key_427 : ∀ (K : Nat → Nat → Int32) (M : Nat → Nat → Int64), (hK : ∀ k, k ≠ 1 → k ≠ 2 → k ≠ 3 → K k = I k) → (hdgC : DGok (K 2)) → Z p l e { frames := 5, cells := 0, slots := 0, locals := 148 } s m args below meth c D A 7 0 0 Q 427 [(0, .ref (h 0))] [] (rW ce h G K M) := by
                              intro K M hK hdgC
                              refine Z.aload_n hX dX7_work_427 rfl rfl ?_
                              refine Z.getf hX 7 0 2 dX7_work_428 rfl rfl inX7 (by decide) fl_X7_70 rfl rfl ?_
                              refine Z.iconst hX dX7_work_431 ?_
                              refine Z.icmp_le hX 439 dX7_work_432 (by decide) ⟨by omega, by omega⟩ ⟨by omega, by omega⟩ ?_ ?_
                              · intro c16
                                exact hR _ _ _ dX7_work_439 ⟨G, K, M, rfl, (rOK_i (by omega) (by omega) hG0 ((fun k h1 h2 h3 => (hK k h1 h2 h3)) 0 (by decide) (by decide) (by decide)) hdgC), (by omega), hG0, ((fun k h1 h2 h3 => (hK k h1 h2 h3)) 0 (by decide) (by decide) (by decide)), hdgC⟩
                              · intro c16
                                refine Z.aload_n hX dX7_work_435 rfl rfl ?_
                                refine Z.callVfv (As := []) (rest := []) hX 7 0 rfl rfl (ct_X7_envelope l D ce h G K M (by omega) hdgC) mc_X7_envelope ml_X7_83 im_X7_envelope se_X7_envelope ini_X7 nd_X7_envelope ⟨Nat.le_of_ble_eq_true rfl, Nat.le_of_ble_eq_true rfl⟩ ⟨rfl, rfl⟩ ⟨Nat.le_refl _, Nat.le_refl _⟩ rfl (Nat.le_of_ble_eq_true rfl) dX7_work_436 ?_
                                rintro w1 ⟨I218, J219, hw_, he1, he2, he3⟩
                                subst hw_
                                exact hR _ _ _ dX7_work_439 ⟨G, I218, J219, rfl, (rOK_i (by omega) (by omega) hG0 ((fun k h1 h2 h3 => ((he2 k h1 h2 h3).trans (hK k h1 h2 h3))) 0 (by decide) (by decide) (by decide)) he3), (by omega), hG0, ((fun k h1 h2 h3 => ((he2 k h1 h2 h3).trans (hK k h1 h2 h3))) 0 (by decide) (by decide) (by decide)), he3⟩
                            refine Z.aload_n hX dX7_work_412 rfl rfl ?_
                            refine Z.getf hX 7 0 3 dX7_work_413 rfl rfl inX7 (by decide) fl_X7_77 rfl rfl ?_
                            refine Z.if_le hX 427 dX7_work_416 (by decide) ⟨by omega, by omega⟩ ?_ ?_
                            · intro c20
                              refine Z.pick [2] rfl ?_
                              exact key_427 _ _ (fun k h1 h2 h3 => ((fI15 k h1).trans ((fI14 k h1).trans rfl))) hdgB
                            · intro c20
                              refine Z.iload_n hX dX7_work_419 rfl rfl ?_
                              refine Z.if_eq hX 427 dX7_work_420 (by decide) ⟨by omega, by omega⟩ ?_ ?_
                              · intro c21
                                refine Z.pick [2] rfl ?_
                                exact key_427 _ _ (fun k h1 h2 h3 => ((fI15 k h1).trans ((fI14 k h1).trans rfl))) hdgB
                              · intro c21
                                refine Z.aload_n hX dX7_work_423 rfl rfl ?_
                                refine Z.callVfv (As := []) (rest := []) hX 7 0 rfl rfl (ct_X7_locus l D ce h G I15 M (by omega) hdgB) mc_X7_locus ml_X7_80 im_X7_locus se_X7_locus ini_X7 nd_X7_locus ⟨Nat.le_of_ble_eq_true rfl, Nat.le_of_ble_eq_true rfl⟩ ⟨rfl, rfl⟩ ⟨Nat.le_refl _, Nat.le_refl _⟩ rfl (Nat.le_of_ble_eq_true rfl) dX7_work_424 ?_
                                rintro w1 ⟨I223, J224, hw_, hl1, hl2, hl3⟩
                                subst hw_
                                refine Z.pick [2] rfl ?_
                                exact key_427 _ _ (fun k h1 h2 h3 => ((hl2 k h1 h2 h3).trans ((fI15 k h1).trans ((fI14 k h1).trans rfl)))) hl3
                          · intro c13
                            have key_365 : ∀ (v : Int), (hv : 0 ≤ v ∧ v ≤ 4) → Z p l e { frames := 5, cells := 0, slots := 0, locals := 148 } s m args below meth c D A 7 0 0 Q 365 [(3, .int (zI k)), (2, .int (zI wt)), (0, .ref (h 0))] [.int (zI v), .ref (h 0)] (rW ce h G I M) := by
                              intro v hv
                              refine Z.putf (ty := .int) hX 7 0 3 tyX7 dX7_work_365 rfl rfl inX7 tyX7_ok nmX7 (by decide) fl_X7_77 rfl rfl (by decide +kernel) rfl rfl (Nat.le_of_ble_eq_true rfl) ?_
                              obtain ⟨F25, eF25⟩ : ∃ F' : Nat → Int, F' = va_up G 1 (v) := ⟨_, rfl⟩
                              refine Z.toW (w' := rW ce h F25 I M) (by rw [eF25]; rfl) ?_
                              have eF25_0 : F25 0 = G 0 := by rw [eF25]; rfl
                              have eF25_1 : F25 1 = v := by rw [eF25]; rfl
                              have eF25_2 : F25 2 = G 2 := by rw [eF25]; rfl
                              have key_391 : ∀ (b : Int), (hb : 0 ≤ b ∧ b ≤ 1) → Z p l e { frames := 5, cells := 0, slots := 0, locals := 148 } s m args below meth c D A 7 0 0 Q 391 [(3, .int (zI k)), (0, .ref (h 0))] [.int (zI b)] (rW ce h F25 I M) := by
                                intro b hb
                                refine Z.istore_n (lv' := [(2, .int (zI b)), (3, .int (zI k)), (0, .ref (h 0))]) hX dX7_work_391 rfl (by decide) rfl ?_
                                refine Z.iinc (lv' := [(3, .int (zI (k + 1))), (2, .int (zI b)), (0, .ref (h 0))]) hX dX7_work_392 rfl (by decide) rfl ?_
                                refine Z.goto hX 313 dX7_work_395 (by decide) ?_
                                refine Z.pick [0, 1, 2] rfl ?_
                                exact ih_313 _ _ _ (by omega) (by omega) (by omega) (by omega) (by rw [eF25_0]; exact hG0)
                              refine Z.iload_n hX dX7_work_368 rfl rfl ?_
                              refine Z.if_ne hX 386 dX7_work_369 (by decide) ⟨by omega, by omega⟩ ?_ ?_
                              · intro c26
                                refine Z.iconst hX dX7_work_386 ?_
                                refine Z.goto hX 391 dX7_work_387 (by decide) ?_
                                refine Z.pick [0, 2] rfl ?_
                                exact key_391 _ (by omega)
                              · intro c26
                                refine Z.aload_n hX dX7_work_372 rfl rfl ?_
                                refine Z.getf hX 7 0 1 dX7_work_373 rfl rfl inX7 (by decide) fl_X7_13 rfl rfl ?_
                                refine Z.bipush hX dX7_work_376 (by decide) ?_
                                refine Z.iload_n hX dX7_work_378 rfl rfl ?_
                                refine Z.iadd hX dX7_work_379 ?_
                                refine Z.laload hX 2 1 dX7_work_380 rfl rfl (by omega) (by omega) (by decide) ?_
                                refine Z.lconst (v := 0) hX dX7_work_381 rfl ?_
                                refine Z.lcmp_eq hX 390 dX7_work_382 dX7_work_383 (by decide) ?_ ?_
                                · intro c27
                                  refine Z.iconst hX dX7_work_390 ?_
                                  refine Z.pick [0, 2] rfl ?_
                                  exact key_391 _ (by omega)
                                · intro c27
                                  refine Z.iconst hX dX7_work_386 ?_
                                  refine Z.goto hX 391 dX7_work_387 (by decide) ?_
                                  refine Z.pick [0, 2] rfl ?_
                                  exact key_391 _ (by omega)
                            refine Z.aload_n hX dX7_work_318 rfl rfl ?_
                            refine Z.aload_n hX dX7_work_319 rfl rfl ?_
                            refine Z.getf hX 7 0 1 dX7_work_320 rfl rfl inX7 (by decide) fl_X7_13 rfl rfl ?_
                            refine Z.iload_n hX dX7_work_323 rfl rfl ?_
                            refine Z.laload hX 2 1 dX7_work_324 rfl rfl (by omega) (by omega) (by decide) ?_
                            refine Z.lconst (v := 0) hX dX7_work_325 rfl ?_
                            refine Z.lcmp_ne hX 357 dX7_work_326 dX7_work_327 (by decide) ?_ ?_
                            · intro c28
                              refine Z.iload_n hX dX7_work_357 rfl rfl ?_
                              refine Z.goto hX 365 dX7_work_358 (by decide) ?_
                              refine Z.pick [0, 1, 2] rfl ?_
                              exact key_365 _ (by omega)
                            · intro c28
                              refine Z.aload_n hX dX7_work_330 rfl rfl ?_
                              refine Z.getf hX 7 0 1 dX7_work_331 rfl rfl inX7 (by decide) fl_X7_13 rfl rfl ?_
                              refine Z.iconst hX dX7_work_334 ?_
                              refine Z.iload_n hX dX7_work_335 rfl rfl ?_
                              refine Z.iadd hX dX7_work_336 ?_
                              refine Z.laload hX 2 1 dX7_work_337 rfl rfl (by omega) (by omega) (by decide) ?_
                              refine Z.lconst (v := 0) hX dX7_work_338 rfl ?_
                              refine Z.lcmp_ne hX 357 dX7_work_339 dX7_work_340 (by decide) ?_ ?_
                              · intro c29
                                refine Z.iload_n hX dX7_work_357 rfl rfl ?_
                                refine Z.goto hX 365 dX7_work_358 (by decide) ?_
                                refine Z.pick [0, 1, 2] rfl ?_
                                exact key_365 _ (by omega)
                              · intro c29
                                refine Z.aload_n hX dX7_work_343 rfl rfl ?_
                                refine Z.getf hX 7 0 1 dX7_work_344 rfl rfl inX7 (by decide) fl_X7_13 rfl rfl ?_
                                refine Z.bipush hX dX7_work_347 (by decide) ?_
                                refine Z.iload_n hX dX7_work_349 rfl rfl ?_
                                refine Z.iadd hX dX7_work_350 ?_
                                refine Z.laload hX 2 1 dX7_work_351 rfl rfl (by omega) (by omega) (by decide) ?_
                                refine Z.lconst (v := 0) hX dX7_work_352 rfl ?_
                                refine Z.lcmp_eq hX 361 dX7_work_353 dX7_work_354 (by decide) ?_ ?_
                                · intro c30
                                  refine Z.aload_n hX dX7_work_361 rfl rfl ?_
                                  refine Z.getf hX 7 0 3 dX7_work_362 rfl rfl inX7 (by decide) fl_X7_77 rfl rfl ?_
                                  refine Z.pick [0, 1, 2] rfl ?_
                                  exact key_365 _ (by omega)
                                · intro c30
                                  refine Z.iload_n hX dX7_work_357 rfl rfl ?_
                                  refine Z.goto hX 365 dX7_work_358 (by decide) ?_
                                  refine Z.pick [0, 1, 2] rfl ?_
                                  exact key_365 _ (by omega)
                      refine Z.pick [0, 1, 3] rfl ?_
                      exact key_313 _ _ _ _ (Nat.lt_succ_self _) (by omega) (by omega) (by omega) (by rw [eF12_0]; exact hG5)
                    · intro c11
                      refine Z.iconst hX dX7_work_155 ?_
                      refine Z.istore_n (lv' := [(3, .int (zI 0)), (2, .int (zI wv)), (1, .int (zI d)), (0, .ref (h 0))]) hX dX7_work_156 rfl (by decide) rfl ?_
                      have key_157 : ∀ (N : Nat), ∀ (k : Int) (M : Nat → Nat → Int64), (5 - k).toNat < N → (hk3 : 0 ≤ k ∧ k ≤ 5) → (ho : M 2 = Jd 2) → Z p l e { frames := 5, cells := 0, slots := 0, locals := 148 } s m args below meth c D A 7 0 0 Q 157 [(3, .int (zI k)), (2, .int (zI wv)), (1, .int (zI d)), (0, .ref (h 0))] [] (rW ce h G I M) := by
                        intro N
                        induction N with
                        | zero => intro k M hm; exact absurd hm (Nat.not_lt_zero _)
                        | succ N ih_157 =>
                          intro k M hm hk3 ho
                          refine Z.iload_n hX dX7_work_157 rfl rfl ?_
                          refine Z.iconst hX dX7_work_158 ?_
                          refine Z.icmp_ge hX 214 dX7_work_159 (by decide) ⟨by omega, by omega⟩ ⟨by omega, by omega⟩ ?_ ?_
                          · intro c31
                            refine Z.iconst hX dX7_work_214 ?_
                            refine Z.iload_n hX dX7_work_215 rfl rfl ?_
                            refine Z.isub hX dX7_work_216 ?_
                            refine Z.istore_n (lv' := [(3, .int (zI (4 - d))), (2, .int (zI wv)), (1, .int (zI d)), (0, .ref (h 0))]) hX dX7_work_217 rfl (by decide) rfl ?_
                            have key_218 : ∀ (N : Nat), ∀ (ev : Int) (M : Nat → Nat → Int64), (ev + 1).toNat < N → (he : -1 ≤ ev ∧ ev ≤ 4 - d) → (ho : M 2 = Jd 2) → Z p l e { frames := 5, cells := 0, slots := 0, locals := 148 } s m args below meth c D A 7 0 0 Q 218 [(3, .int (zI ev)), (2, .int (zI wv)), (1, .int (zI d)), (0, .ref (h 0))] [] (rW ce h G I M) := by
                              intro N
                              induction N with
                              | zero => intro ev M hm; exact absurd hm (Nat.not_lt_zero _)
                              | succ N ih_218 =>
                                intro ev M hm he ho
                                refine Z.iload_n hX dX7_work_218 rfl rfl ?_
                                refine Z.if_lt hX 298 dX7_work_219 (by decide) ⟨by omega, by omega⟩ ?_ ?_
                                · intro c32
                                  refine Z.iinc (lv' := [(2, .int (zI (wv + 1))), (3, .int (zI ev)), (1, .int (zI d)), (0, .ref (h 0))]) hX dX7_work_298 rfl (by decide) rfl ?_
                                  refine Z.goto hX 150 dX7_work_301 (by decide) ?_
                                  refine Z.pick [0, 2, 3] rfl ?_
                                  exact ih_150 _ _ (by omega) (by omega) ho
                                · intro c32
                                  refine Z.iload_n hX dX7_work_222 rfl rfl ?_
                                  refine Z.if_le hX 298 dX7_work_223 (by decide) ⟨by omega, by omega⟩ ?_ ?_
                                  · intro c33
                                    refine Z.iinc (lv' := [(2, .int (zI (wv + 1))), (3, .int (zI ev)), (1, .int (zI d)), (0, .ref (h 0))]) hX dX7_work_298 rfl (by decide) rfl ?_
                                    refine Z.goto hX 150 dX7_work_301 (by decide) ?_
                                    refine Z.pick [0, 2, 3] rfl ?_
                                    exact ih_150 _ _ (by omega) (by omega) ho
                                  · intro c33
                                    refine Z.aload_n hX dX7_work_226 rfl rfl ?_
                                    refine Z.getf hX 7 0 10 dX7_work_227 rfl rfl inX7 (by decide) fl_X7_33 rfl rfl ?_
                                    refine Z.iload_n hX dX7_work_230 rfl rfl ?_
                                    refine Z.iload_n hX dX7_work_231 rfl rfl ?_
                                    refine Z.iadd hX dX7_work_232 ?_
                                    refine Z.laload hX 8 1 dX7_work_233 rfl rfl (by omega) (by omega) (by decide) ?_
                                    refine Z.aload_n hX dX7_work_234 rfl rfl ?_
                                    refine Z.getf hX 7 0 9 dX7_work_235 rfl rfl inX7 (by decide) fl_X7_30 rfl rfl ?_
                                    refine Z.iload_n hX dX7_work_238 rfl rfl ?_
                                    refine Z.laload hX 7 1 dX7_work_239 rfl rfl (by omega) (by omega) (by decide) ?_
                                    refine Z.ldiv hX dX7_work_240 (by rw [ho]; exact d3 (by omega)) ?_
                                    refine Z.lstore (lv' := [(4, .long ((M 3 (ev + d : Int).toNat) / (M 2 (d : Int).toNat))), (3, .int (zI ev)), (2, .int (zI wv)), (1, .int (zI d)), (0, .ref (h 0))]) hX dX7_work_241 (by decide) rfl ?_
                                    obtain ⟨qq, eqq⟩ : ∃ x : Int64, x = (M 3 (ev + d : Int).toNat) / (M 2 (d : Int).toNat) := ⟨_, rfl⟩
                                    rw [← eqq]
                                    refine Z.aload_n hX dX7_work_243 rfl rfl ?_
                                    refine Z.getf hX 7 0 1 dX7_work_244 rfl rfl inX7 (by decide) fl_X7_13 rfl rfl ?_
                                    refine Z.iconst hX dX7_work_247 ?_
                                    refine Z.iload_n hX dX7_work_248 rfl rfl ?_
                                    refine Z.imul hX dX7_work_249 ?_
                                    refine Z.iload_n hX dX7_work_250 rfl rfl ?_
                                    refine Z.iadd hX dX7_work_251 ?_
                                    refine Z.lload hX dX7_work_252 rfl ?_
                                    refine Z.lastore hX 2 1 dX7_work_254 rfl rfl (by omega) (by omega) (by decide) ?_
                                    obtain ⟨J34, eJ34⟩ : ∃ J' : Nat → Nat → Int64, J' = va_up M 0 (vp_updL (M 0) ((5 * wv) + ev : Int).toNat (qq)) := ⟨_, rfl⟩
                                    refine Z.toW (w' := rW ce h G I J34) (by rw [eJ34]; rfl) ?_
                                    have gJ34 : J34 0 = vp_updL (M 0) ((5 * wv) + ev : Int).toNat (qq) := by rw [eJ34]; exact up_eq
                                    have fJ34 : ∀ k, k ≠ 0 → J34 k = M k := fun k hk => by rw [eJ34]; exact up_ne hk
                                    refine Z.iconst hX dX7_work_255 ?_
                                    refine Z.istore (lv' := [(6, .int (zI 0)), (4, .long qq), (3, .int (zI ev)), (2, .int (zI wv)), (1, .int (zI d)), (0, .ref (h 0))]) hX dX7_work_256 (by decide) rfl ?_
                                    have key_258 : ∀ (N : Nat), ∀ (k : Int) (M : Nat → Nat → Int64), (d + 1 - k).toNat < N → (hk4 : 0 ≤ k ∧ k ≤ d + 1) → (ho : M 2 = Jd 2) → Z p l e { frames := 5, cells := 0, slots := 0, locals := 148 } s m args below meth c D A 7 0 0 Q 258 [(6, .int (zI k)), (4, .long qq), (3, .int (zI ev)), (2, .int (zI wv)), (1, .int (zI d)), (0, .ref (h 0))] [] (rW ce h G I M) := by
                                      intro N
                                      induction N with
                                      | zero => intro k M hm; exact absurd hm (Nat.not_lt_zero _)
                                      | succ N ih_258 =>
                                        intro k M hm hk4 ho
                                        refine Z.iload hX dX7_work_258 rfl ?_
                                        refine Z.iload_n hX dX7_work_260 rfl rfl ?_
                                        refine Z.icmp_gt hX 292 dX7_work_261 (by decide) ⟨by omega, by omega⟩ ⟨by omega, by omega⟩ ?_ ?_
                                        · intro c35
                                          refine Z.iinc (lv' := [(3, .int (zI (ev + -1))), (6, .int (zI k)), (4, .long qq), (2, .int (zI wv)), (1, .int (zI d)), (0, .ref (h 0))]) hX dX7_work_292 rfl (by decide) rfl ?_
                                          refine Z.goto hX 218 dX7_work_295 (by decide) ?_
                                          refine Z.pick [0, 3, 4, 5] rfl ?_
                                          exact ih_218 _ _ (by omega) (by omega) ho
                                        · intro c35
                                          refine Z.aload_n hX dX7_work_264 rfl rfl ?_
                                          refine Z.getf hX 7 0 10 dX7_work_265 rfl rfl inX7 (by decide) fl_X7_33 rfl rfl ?_
                                          refine Z.iload_n hX dX7_work_268 rfl rfl ?_
                                          refine Z.iload hX dX7_work_269 rfl ?_
                                          refine Z.iadd hX dX7_work_271 ?_
                                          refine Z.dup2 hX dX7_work_272 rfl rfl ?_
                                          refine Z.laload hX 8 1 dX7_work_273 rfl rfl (by omega) (by omega) (by decide) ?_
                                          refine Z.lload hX dX7_work_274 rfl ?_
                                          refine Z.aload_n hX dX7_work_276 rfl rfl ?_
                                          refine Z.getf hX 7 0 9 dX7_work_277 rfl rfl inX7 (by decide) fl_X7_30 rfl rfl ?_
                                          refine Z.iload hX dX7_work_280 rfl ?_
                                          refine Z.laload hX 7 1 dX7_work_282 rfl rfl (by omega) (by omega) (by decide) ?_
                                          refine Z.lmul hX dX7_work_283 ?_
                                          refine Z.lsub hX dX7_work_284 ?_
                                          refine Z.lastore hX 8 1 dX7_work_285 rfl rfl (by omega) (by omega) (by decide) ?_
                                          obtain ⟨J36, eJ36⟩ : ∃ J' : Nat → Nat → Int64, J' = va_up M 3 (vp_updL (M 3) (ev + k : Int).toNat ((M 3 (ev + k : Int).toNat) - (qq * (M 2 (k : Int).toNat)))) := ⟨_, rfl⟩
                                          refine Z.toW (w' := rW ce h G I J36) (by rw [eJ36]; rfl) ?_
                                          have gJ36 : J36 3 = vp_updL (M 3) (ev + k : Int).toNat ((M 3 (ev + k : Int).toNat) - (qq * (M 2 (k : Int).toNat))) := by rw [eJ36]; exact up_eq
                                          have fJ36 : ∀ k, k ≠ 3 → J36 k = M k := fun k hk => by rw [eJ36]; exact up_ne hk
                                          refine Z.iinc (lv' := [(6, .int (zI (k + 1))), (4, .long qq), (3, .int (zI ev)), (2, .int (zI wv)), (1, .int (zI d)), (0, .ref (h 0))]) hX dX7_work_286 rfl (by decide) rfl ?_
                                          refine Z.goto hX 258 dX7_work_289 (by decide) ?_
                                          refine Z.pick [0, 1, 2, 3, 4, 5] rfl ?_
                                          exact ih_258 _ _ (by omega) (by omega) ((fJ36 2 (by decide)).trans (ho))
                                    refine Z.pick [0, 1, 2, 3, 4, 5] rfl ?_
                                    exact key_258 _ _ _ (Nat.lt_succ_self _) (by omega) ((fJ34 2 (by decide)).trans (ho))
                            refine Z.pick [0, 1, 2, 3] rfl ?_
                            exact key_218 _ _ _ (Nat.lt_succ_self _) (by omega) ho
                          · intro c31
                            refine Z.aload_n hX dX7_work_162 rfl rfl ?_
                            refine Z.getf hX 7 0 10 dX7_work_163 rfl rfl inX7 (by decide) fl_X7_33 rfl rfl ?_
                            refine Z.iload_n hX dX7_work_166 rfl rfl ?_
                            refine Z.aload_n hX dX7_work_167 rfl rfl ?_
                            refine Z.getf hX 7 0 0 dX7_work_168 rfl rfl inX7 (by decide) fl_X7_7 rfl rfl ?_
                            refine Z.iconst hX dX7_work_171 ?_
                            refine Z.iload_n hX dX7_work_172 rfl rfl ?_
                            refine Z.imul hX dX7_work_173 ?_
                            refine Z.iload_n hX dX7_work_174 rfl rfl ?_
                            refine Z.iadd hX dX7_work_175 ?_
                            refine Z.iaload hX 1 0 dX7_work_176 rfl rfl (by omega) (by omega) (by decide) ?_
                            refine Z.topi (fun z37 hz37 kz37 ez37 => ?_)
                            refine Z.i2l hX dX7_work_177 ⟨by omega, by omega⟩ ?_
                            refine Z.lastore hX 8 1 dX7_work_178 rfl rfl (by omega) (by omega) (by decide) ?_
                            obtain ⟨J38, eJ38⟩ : ∃ J' : Nat → Nat → Int64, J' = va_up M 3 (vp_updL (M 3) (k : Int).toNat (zL z37)) := ⟨_, rfl⟩
                            refine Z.toW (w' := rW ce h G I J38) (by rw [eJ38]; rfl) ?_
                            have gJ38 : J38 3 = vp_updL (M 3) (k : Int).toNat (zL z37) := by rw [eJ38]; exact up_eq
                            have fJ38 : ∀ k, k ≠ 3 → J38 k = M k := fun k hk => by rw [eJ38]; exact up_ne hk
                            refine Z.aload_n hX dX7_work_179 rfl rfl ?_
                            refine Z.getf hX 7 0 1 dX7_work_180 rfl rfl inX7 (by decide) fl_X7_13 rfl rfl ?_
                            refine Z.iconst hX dX7_work_183 ?_
                            refine Z.iload_n hX dX7_work_184 rfl rfl ?_
                            refine Z.imul hX dX7_work_185 ?_
                            refine Z.iload_n hX dX7_work_186 rfl rfl ?_
                            refine Z.iadd hX dX7_work_187 ?_
                            refine Z.iload_n hX dX7_work_188 rfl rfl ?_
                            refine Z.if_le hX 196 dX7_work_189 (by decide) ⟨by omega, by omega⟩ ?_ ?_
                            · intro c39
                              refine Z.aload_n hX dX7_work_196 rfl rfl ?_
                              refine Z.getf hX 7 0 0 dX7_work_197 rfl rfl inX7 (by decide) fl_X7_7 rfl rfl ?_
                              refine Z.iconst hX dX7_work_200 ?_
                              refine Z.iload_n hX dX7_work_201 rfl rfl ?_
                              refine Z.imul hX dX7_work_202 ?_
                              refine Z.iload_n hX dX7_work_203 rfl rfl ?_
                              refine Z.iadd hX dX7_work_204 ?_
                              refine Z.iaload hX 1 0 dX7_work_205 rfl rfl (by omega) (by omega) (by decide) ?_
                              refine Z.topi (fun z40 hz40 kz40 ez40 => ?_)
                              refine Z.i2l hX dX7_work_206 ⟨by omega, by omega⟩ ?_
                              refine Z.lastore hX 2 1 dX7_work_207 rfl rfl (by omega) (by omega) (by decide) ?_
                              obtain ⟨J41, eJ41⟩ : ∃ J' : Nat → Nat → Int64, J' = va_up J38 0 (vp_updL (J38 0) ((5 * wv) + k : Int).toNat (zL z40)) := ⟨_, rfl⟩
                              refine Z.toW (w' := rW ce h G I J41) (by rw [eJ41]; rfl) ?_
                              have gJ41 : J41 0 = vp_updL (J38 0) ((5 * wv) + k : Int).toNat (zL z40) := by rw [eJ41]; exact up_eq
                              have fJ41 : ∀ k, k ≠ 0 → J41 k = J38 k := fun k hk => by rw [eJ41]; exact up_ne hk
                              refine Z.iinc (lv' := [(3, .int (zI (k + 1))), (2, .int (zI wv)), (1, .int (zI d)), (0, .ref (h 0))]) hX dX7_work_208 rfl (by decide) rfl ?_
                              refine Z.goto hX 157 dX7_work_211 (by decide) ?_
                              refine Z.pick [0, 1, 2, 3] rfl ?_
                              exact ih_157 _ _ (by omega) (by omega) ((fJ41 2 (by decide)).trans ((fJ38 2 (by decide)).trans (ho)))
                            · intro c39
                              refine Z.lconst (v := 0) hX dX7_work_192 rfl ?_
                              refine Z.goto hX 207 dX7_work_193 (by decide) ?_
                              refine Z.lastore hX 2 1 dX7_work_207 rfl rfl (by omega) (by omega) (by decide) ?_
                              obtain ⟨J42, eJ42⟩ : ∃ J' : Nat → Nat → Int64, J' = va_up J38 0 (vp_updL (J38 0) ((5 * wv) + k : Int).toNat (0)) := ⟨_, rfl⟩
                              refine Z.toW (w' := rW ce h G I J42) (by rw [eJ42]; rfl) ?_
                              have gJ42 : J42 0 = vp_updL (J38 0) ((5 * wv) + k : Int).toNat (0) := by rw [eJ42]; exact up_eq
                              have fJ42 : ∀ k, k ≠ 0 → J42 k = J38 k := fun k hk => by rw [eJ42]; exact up_ne hk
                              refine Z.iinc (lv' := [(3, .int (zI (k + 1))), (2, .int (zI wv)), (1, .int (zI d)), (0, .ref (h 0))]) hX dX7_work_208 rfl (by decide) rfl ?_
                              refine Z.goto hX 157 dX7_work_211 (by decide) ?_
                              refine Z.pick [0, 1, 2, 3] rfl ?_
                              exact ih_157 _ _ (by omega) (by omega) ((fJ42 2 (by decide)).trans ((fJ38 2 (by decide)).trans (ho)))
                      refine Z.pick [0, 1, 2, 3] rfl ?_
                      exact key_157 _ _ _ (Nat.lt_succ_self _) (by omega) ho
                refine Z.pick [0, 1, 2] rfl ?_
                exact key_150 _ _ _ (Nat.lt_succ_self _) (by omega) rfl
              · intro c8
                refine Z.aload_n hX dX7_work_114 rfl rfl ?_
                refine Z.getf hX 7 0 10 dX7_work_115 rfl rfl inX7 (by decide) fl_X7_33 rfl rfl ?_
                refine Z.iload_n hX dX7_work_118 rfl rfl ?_
                refine Z.aload_n hX dX7_work_119 rfl rfl ?_
                refine Z.getf hX 7 0 0 dX7_work_120 rfl rfl inX7 (by decide) fl_X7_7 rfl rfl ?_
                refine Z.bipush hX dX7_work_123 (by decide) ?_
                refine Z.iload_n hX dX7_work_125 rfl rfl ?_
                refine Z.iadd hX dX7_work_126 ?_
                refine Z.iaload hX 1 0 dX7_work_127 rfl rfl (by omega) (by omega) (by decide) ?_
                refine Z.topi (fun z43 hz43 kz43 ez43 => ?_)
                refine Z.i2l hX dX7_work_128 ⟨by omega, by omega⟩ ?_
                refine Z.lastore hX 8 1 dX7_work_129 rfl rfl (by omega) (by omega) (by decide) ?_
                obtain ⟨J44, eJ44⟩ : ∃ J' : Nat → Nat → Int64, J' = va_up M 3 (vp_updL (M 3) (k : Int).toNat (zL z43)) := ⟨_, rfl⟩
                refine Z.toW (w' := rW ce h G I J44) (by rw [eJ44]; rfl) ?_
                have gJ44 : J44 3 = vp_updL (M 3) (k : Int).toNat (zL z43) := by rw [eJ44]; exact up_eq
                have fJ44 : ∀ k, k ≠ 3 → J44 k = M k := fun k hk => by rw [eJ44]; exact up_ne hk
                refine Z.iinc (lv' := [(1, .int (zI (k + 1))), (0, .ref (h 0))]) hX dX7_work_130 rfl (by decide) rfl ?_
                refine Z.goto hX 109 dX7_work_133 (by decide) ?_
                refine Z.pick [0, 1] rfl ?_
                exact ih_109 _ _ (by omega) (by omega)
          refine Z.pick [0, 1] rfl ?_
          exact key_109 _ _ _ (Nat.lt_succ_self _) (by omega)
        · intro c4
          have key_66 : ∀ (v : Int), (hv : v = moK (I 0) (k + 1).toNat) → Z p l e { frames := 5, cells := 0, slots := 0, locals := 148 } s m args below meth c D A 7 0 0 Q 66 [(1, .int (zI k)), (0, .ref (h 0))] [.int (zI v), .ref (h 0)] (rW ce h G I M) := by
            intro v hv
            refine Z.putf (ty := .int) hX 7 0 2 tyX7 dX7_work_66 rfl rfl inX7 tyX7_ok nmX7 (by decide) fl_X7_70 rfl rfl (by decide +kernel) rfl rfl (Nat.le_of_ble_eq_true rfl) ?_
            obtain ⟨F45, eF45⟩ : ∃ F' : Nat → Int, F' = va_up G 0 (v) := ⟨_, rfl⟩
            refine Z.toW (w' := rW ce h F45 I M) (by rw [eF45]; rfl) ?_
            have eF45_0 : F45 0 = v := by rw [eF45]; rfl
            have eF45_1 : F45 1 = G 1 := by rw [eF45]; rfl
            have eF45_2 : F45 2 = G 2 := by rw [eF45]; rfl
            refine Z.aload_n hX dX7_work_69 rfl rfl ?_
            refine Z.getf hX 7 0 9 dX7_work_70 rfl rfl inX7 (by decide) fl_X7_30 rfl rfl ?_
            refine Z.iload_n hX dX7_work_73 rfl rfl ?_
            refine Z.aload_n hX dX7_work_74 rfl rfl ?_
            refine Z.getf hX 7 0 0 dX7_work_75 rfl rfl inX7 (by decide) fl_X7_7 rfl rfl ?_
            refine Z.iload_n hX dX7_work_78 rfl rfl ?_
            refine Z.iaload hX 1 0 dX7_work_79 rfl rfl (by omega) (by omega) (by decide) ?_
            refine Z.topi (fun z46 hz46 kz46 ez46 => ?_)
            refine Z.i2l hX dX7_work_80 ⟨by omega, by omega⟩ ?_
            refine Z.lastore hX 7 1 dX7_work_81 rfl rfl (by omega) (by omega) (by decide) ?_
            obtain ⟨J47, eJ47⟩ : ∃ J' : Nat → Nat → Int64, J' = va_up M 2 (vp_updL (M 2) (k : Int).toNat (zL z46)) := ⟨_, rfl⟩
            refine Z.toW (w' := rW ce h F45 I J47) (by rw [eJ47]; rfl) ?_
            have gJ47 : J47 2 = vp_updL (M 2) (k : Int).toNat (zL z46) := by rw [eJ47]; exact up_eq
            have fJ47 : ∀ k, k ≠ 2 → J47 k = M k := fun k hk => by rw [eJ47]; exact up_ne hk
            refine Z.aload_n hX dX7_work_82 rfl rfl ?_
            refine Z.getf hX 7 0 10 dX7_work_83 rfl rfl inX7 (by decide) fl_X7_33 rfl rfl ?_
            refine Z.iload_n hX dX7_work_86 rfl rfl ?_
            refine Z.aload_n hX dX7_work_87 rfl rfl ?_
            refine Z.getf hX 7 0 0 dX7_work_88 rfl rfl inX7 (by decide) fl_X7_7 rfl rfl ?_
            refine Z.iconst hX dX7_work_91 ?_
            refine Z.iload_n hX dX7_work_92 rfl rfl ?_
            refine Z.iadd hX dX7_work_93 ?_
            refine Z.iaload hX 1 0 dX7_work_94 rfl rfl (by omega) (by omega) (by decide) ?_
            refine Z.topi (fun z48 hz48 kz48 ez48 => ?_)
            refine Z.i2l hX dX7_work_95 ⟨by omega, by omega⟩ ?_
            refine Z.lastore hX 8 1 dX7_work_96 rfl rfl (by omega) (by omega) (by decide) ?_
            obtain ⟨J49, eJ49⟩ : ∃ J' : Nat → Nat → Int64, J' = va_up J47 3 (vp_updL (J47 3) (k : Int).toNat (zL z48)) := ⟨_, rfl⟩
            refine Z.toW (w' := rW ce h F45 I J49) (by rw [eJ49]; rfl) ?_
            have gJ49 : J49 3 = vp_updL (J47 3) (k : Int).toNat (zL z48) := by rw [eJ49]; exact up_eq
            have fJ49 : ∀ k, k ≠ 3 → J49 k = J47 k := fun k hk => by rw [eJ49]; exact up_ne hk
            refine Z.iinc (lv' := [(1, .int (zI (k + 1))), (0, .ref (h 0))]) hX dX7_work_97 rfl (by decide) rfl ?_
            refine Z.goto hX 20 dX7_work_100 (by decide) ?_
            refine Z.pick [0, 1] rfl ?_
            exact ih_20 _ _ _ (by omega) (by omega) (by omega) (by rw [eF45_0]; exact hv)
          refine Z.aload_n hX dX7_work_25 rfl rfl ?_
          refine Z.aload_n hX dX7_work_26 rfl rfl ?_
          refine Z.getf hX 7 0 0 dX7_work_27 rfl rfl inX7 (by decide) fl_X7_7 rfl rfl ?_
          refine Z.iload_n hX dX7_work_30 rfl rfl ?_
          refine Z.iaload hX 1 0 dX7_work_31 rfl rfl (by omega) (by omega) (by decide) ?_
          refine Z.topi (fun z50 hz50 kz50 ez50 => ?_)
          refine Z.if_ne hX 58 dX7_work_32 (by decide) ⟨by omega, by omega⟩ ?_ ?_
          · intro c51
            refine Z.iload_n hX dX7_work_58 rfl rfl ?_
            refine Z.goto hX 66 dX7_work_59 (by decide) ?_
            refine Z.pick [0, 1] rfl ?_
            exact key_66 _ (by first | exact mo_1 hk.1 (by assumption) ⟨by assumption, by assumption⟩ (by assumption) | exact mo_2 hk.1 (by assumption) ⟨by assumption, by assumption⟩ (by assumption) | exact mo_3 hk.1 (by assumption) ⟨by assumption, by assumption⟩ (by assumption))
          · intro c51
            refine Z.aload_n hX dX7_work_35 rfl rfl ?_
            refine Z.getf hX 7 0 0 dX7_work_36 rfl rfl inX7 (by decide) fl_X7_7 rfl rfl ?_
            refine Z.iconst hX dX7_work_39 ?_
            refine Z.iload_n hX dX7_work_40 rfl rfl ?_
            refine Z.iadd hX dX7_work_41 ?_
            refine Z.iaload hX 1 0 dX7_work_42 rfl rfl (by omega) (by omega) (by decide) ?_
            refine Z.topi (fun z52 hz52 kz52 ez52 => ?_)
            refine Z.if_ne hX 58 dX7_work_43 (by decide) ⟨by omega, by omega⟩ ?_ ?_
            · intro c53
              refine Z.iload_n hX dX7_work_58 rfl rfl ?_
              refine Z.goto hX 66 dX7_work_59 (by decide) ?_
              refine Z.pick [0, 1] rfl ?_
              exact key_66 _ (by first | exact mo_1 hk.1 (by assumption) ⟨by assumption, by assumption⟩ (by assumption) | exact mo_2 hk.1 (by assumption) ⟨by assumption, by assumption⟩ (by assumption) | exact mo_3 hk.1 (by assumption) ⟨by assumption, by assumption⟩ (by assumption))
            · intro c53
              refine Z.aload_n hX dX7_work_46 rfl rfl ?_
              refine Z.getf hX 7 0 0 dX7_work_47 rfl rfl inX7 (by decide) fl_X7_7 rfl rfl ?_
              refine Z.bipush hX dX7_work_50 (by decide) ?_
              refine Z.iload_n hX dX7_work_52 rfl rfl ?_
              refine Z.iadd hX dX7_work_53 ?_
              refine Z.iaload hX 1 0 dX7_work_54 rfl rfl (by omega) (by omega) (by decide) ?_
              refine Z.topi (fun z54 hz54 kz54 ez54 => ?_)
              refine Z.if_eq hX 62 dX7_work_55 (by decide) ⟨by omega, by omega⟩ ?_ ?_
              · intro c55
                refine Z.aload_n hX dX7_work_62 rfl rfl ?_
                refine Z.getf hX 7 0 2 dX7_work_63 rfl rfl inX7 (by decide) fl_X7_70 rfl rfl ?_
                refine Z.pick [0, 1] rfl ?_
                exact key_66 _ (mo_0 hk.1 (by assumption) (by assumption) (by assumption) (by assumption) (by assumption) (by assumption) hG0)
              · intro c55
                refine Z.iload_n hX dX7_work_58 rfl rfl ?_
                refine Z.goto hX 66 dX7_work_59 (by decide) ?_
                refine Z.pick [0, 1] rfl ?_
                exact key_66 _ (by first | exact mo_1 hk.1 (by assumption) ⟨by assumption, by assumption⟩ (by assumption) | exact mo_2 hk.1 (by assumption) ⟨by assumption, by assumption⟩ (by assumption) | exact mo_3 hk.1 (by assumption) ⟨by assumption, by assumption⟩ (by assumption))
    refine Z.pick [0, 1] rfl ?_
    exact key_20 _ _ _ _ (Nat.lt_succ_self _) (by omega) (by omega) (by rw [eF3_0]; rfl)
  · intro c1
    exact hR _ _ _ dX7_work_7 ⟨F, I, J, rfl, hok, (by omega), (hkn (by omega)), rfl, hdg⟩

