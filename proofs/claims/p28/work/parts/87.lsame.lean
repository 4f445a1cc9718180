theorem dL_same_0 : decode cL_same 0 = .ok (.iconst (-1), 1) := by decide +kernel
theorem dL_same_1 : decode cL_same 1 = .ok (.aload_n 1, 1) := by decide +kernel
theorem dL_same_2 : decode cL_same 2 = .ok (.aload_n 2, 1) := by decide +kernel
theorem dL_same_3 : decode cL_same 3 = .ok (.aload_n 3, 1) := by decide +kernel
theorem dL_same_4 : decode cL_same 4 = .ok (.invokestatic 52, 3) := by decide +kernel
theorem dL_same_7 : decode cL_same 7 = .ok (.aload_n 1, 1) := by decide +kernel
theorem dL_same_8 : decode cL_same 8 = .ok (.aload_n 3, 1) := by decide +kernel
theorem dL_same_9 : decode cL_same 9 = .ok (.invokestatic 56, 3) := by decide +kernel
theorem dL_same_12 : decode cL_same 12 = .ok (.istore 6, 2) := by decide +kernel
theorem dL_same_14 : decode cL_same 14 = .ok (.iconst (-1), 1) := by decide +kernel
theorem dL_same_15 : decode cL_same 15 = .ok (.istore 7, 2) := by decide +kernel
theorem dL_same_17 : decode cL_same 17 = .ok (.iconst 0, 1) := by decide +kernel
theorem dL_same_18 : decode cL_same 18 = .ok (.istore 8, 2) := by decide +kernel
theorem dL_same_20 : decode cL_same 20 = .ok (.iconst 0, 1) := by decide +kernel
theorem dL_same_21 : decode cL_same 21 = .ok (.istore 9, 2) := by decide +kernel
theorem dL_same_23 : decode cL_same 23 = .ok (.iconst 0, 1) := by decide +kernel
theorem dL_same_24 : decode cL_same 24 = .ok (.istore 10, 2) := by decide +kernel
theorem dL_same_26 : decode cL_same 26 = .ok (.iconst 0, 1) := by decide +kernel
theorem dL_same_27 : decode cL_same 27 = .ok (.istore 11, 2) := by decide +kernel
theorem dL_same_29 : decode cL_same 29 = .ok (.iload 11, 2) := by decide +kernel
theorem dL_same_31 : decode cL_same 31 = .ok (.aload_n 1, 1) := by decide +kernel
theorem dL_same_32 : decode cL_same 32 = .ok (.iconst 0, 1) := by decide +kernel
theorem dL_same_33 : decode cL_same 33 = .ok (.iaload, 1) := by decide +kernel
theorem dL_same_34 : decode cL_same 34 = .ok (.if_icmp .ge 339, 3) := by decide +kernel
theorem dL_same_37 : decode cL_same 37 = .ok (.iload 6, 2) := by decide +kernel
theorem dL_same_39 : decode cL_same 39 = .ok (.iload 11, 2) := by decide +kernel
theorem dL_same_41 : decode cL_same 41 = .ok (.ishr, 1) := by decide +kernel
theorem dL_same_42 : decode cL_same 42 = .ok (.iconst 1, 1) := by decide +kernel
theorem dL_same_43 : decode cL_same 43 = .ok (.iand, 1) := by decide +kernel
theorem dL_same_44 : decode cL_same 44 = .ok (.iconst 1, 1) := by decide +kernel
theorem dL_same_45 : decode cL_same 45 = .ok (.if_icmp .ne 7, 3) := by decide +kernel
theorem dL_same_48 : decode cL_same 48 = .ok (.iconst 1, 1) := by decide +kernel
theorem dL_same_49 : decode cL_same 49 = .ok (.goto 4, 3) := by decide +kernel
theorem dL_same_52 : decode cL_same 52 = .ok (.iconst 0, 1) := by decide +kernel
theorem dL_same_53 : decode cL_same 53 = .ok (.istore 12, 2) := by decide +kernel
theorem dL_same_55 : decode cL_same 55 = .ok (.aload_n 1, 1) := by decide +kernel
theorem dL_same_56 : decode cL_same 56 = .ok (.bipush 8, 2) := by decide +kernel
theorem dL_same_58 : decode cL_same 58 = .ok (.iaload, 1) := by decide +kernel
theorem dL_same_59 : decode cL_same 59 = .ok (.iload 11, 2) := by decide +kernel
theorem dL_same_61 : decode cL_same 61 = .ok (.ishr, 1) := by decide +kernel
theorem dL_same_62 : decode cL_same 62 = .ok (.iconst 1, 1) := by decide +kernel
theorem dL_same_63 : decode cL_same 63 = .ok (.iand, 1) := by decide +kernel
theorem dL_same_64 : decode cL_same 64 = .ok (.iconst 1, 1) := by decide +kernel
theorem dL_same_65 : decode cL_same 65 = .ok (.if_icmp .ne 7, 3) := by decide +kernel
theorem dL_same_68 : decode cL_same 68 = .ok (.iconst 1, 1) := by decide +kernel
theorem dL_same_69 : decode cL_same 69 = .ok (.goto 4, 3) := by decide +kernel
theorem dL_same_72 : decode cL_same 72 = .ok (.iconst 0, 1) := by decide +kernel
theorem dL_same_73 : decode cL_same 73 = .ok (.istore 13, 2) := by decide +kernel
theorem dL_same_75 : decode cL_same 75 = .ok (.aload_n 0, 1) := by decide +kernel
theorem dL_same_76 : decode cL_same 76 = .ok (.iload 11, 2) := by decide +kernel
theorem dL_same_78 : decode cL_same 78 = .ok (.invokevirtual 60, 3) := by decide +kernel
theorem dL_same_81 : decode cL_same 81 = .ok (.iload 13, 2) := by decide +kernel
theorem dL_same_83 : decode cL_same 83 = .ok (.if_icmp .ne 50, 3) := by decide +kernel
theorem dL_same_86 : decode cL_same 86 = .ok (.aload_n 0, 1) := by decide +kernel
theorem dL_same_87 : decode cL_same 87 = .ok (.iload 11, 2) := by decide +kernel
theorem dL_same_89 : decode cL_same 89 = .ok (.invokevirtual 64, 3) := by decide +kernel
theorem dL_same_92 : decode cL_same 92 = .ok (.iload 12, 2) := by decide +kernel
theorem dL_same_94 : decode cL_same 94 = .ok (.ifCond .eq 16, 3) := by decide +kernel
theorem dL_same_97 : decode cL_same 97 = .ok (.iload 13, 2) := by decide +kernel
theorem dL_same_99 : decode cL_same 99 = .ok (.ifCond .eq 7, 3) := by decide +kernel
theorem dL_same_102 : decode cL_same 102 = .ok (.iconst 1, 1) := by decide +kernel
theorem dL_same_103 : decode cL_same 103 = .ok (.goto 8, 3) := by decide +kernel
theorem dL_same_106 : decode cL_same 106 = .ok (.iconst 0, 1) := by decide +kernel
theorem dL_same_107 : decode cL_same 107 = .ok (.goto 4, 3) := by decide +kernel
theorem dL_same_110 : decode cL_same 110 = .ok (.iconst (-1), 1) := by decide +kernel
theorem dL_same_111 : decode cL_same 111 = .ok (.if_icmp .ne 22, 3) := by decide +kernel
theorem dL_same_114 : decode cL_same 114 = .ok (.iload 12, 2) := by decide +kernel
theorem dL_same_116 : decode cL_same 116 = .ok (.ifCond .eq 19, 3) := by decide +kernel
theorem dL_same_119 : decode cL_same 119 = .ok (.aload_n 0, 1) := by decide +kernel
theorem dL_same_120 : decode cL_same 120 = .ok (.iload 10, 2) := by decide +kernel
theorem dL_same_122 : decode cL_same 122 = .ok (.iinc 10 1, 3) := by decide +kernel
theorem dL_same_125 : decode cL_same 125 = .ok (.invokevirtual 66, 3) := by decide +kernel
theorem dL_same_128 : decode cL_same 128 = .ok (.iload 11, 2) := by decide +kernel
theorem dL_same_130 : decode cL_same 130 = .ok (.if_icmp .eq 5, 3) := by decide +kernel
theorem dL_same_133 : decode cL_same 133 = .ok (.iconst 0, 1) := by decide +kernel
theorem dL_same_134 : decode cL_same 134 = .ok (.ireturn, 1) := by decide +kernel
theorem dL_same_135 : decode cL_same 135 = .ok (.iload 11, 2) := by decide +kernel
theorem dL_same_137 : decode cL_same 137 = .ok (.istore 14, 2) := by decide +kernel
theorem dL_same_139 : decode cL_same 139 = .ok (.iload 14, 2) := by decide +kernel
theorem dL_same_141 : decode cL_same 141 = .ok (.aload_n 1, 1) := by decide +kernel
theorem dL_same_142 : decode cL_same 142 = .ok (.iconst 0, 1) := by decide +kernel
theorem dL_same_143 : decode cL_same 143 = .ok (.iaload, 1) := by decide +kernel
theorem dL_same_144 : decode cL_same 144 = .ok (.if_icmp .ge 223, 3) := by decide +kernel
theorem dL_same_147 : decode cL_same 147 = .ok (.iload 11, 2) := by decide +kernel
theorem dL_same_149 : decode cL_same 149 = .ok (.iload 14, 2) := by decide +kernel
theorem dL_same_151 : decode cL_same 151 = .ok (.aload_n 1, 1) := by decide +kernel
theorem dL_same_152 : decode cL_same 152 = .ok (.aload_n 3, 1) := by decide +kernel
theorem dL_same_153 : decode cL_same 153 = .ok (.invokestatic 69, 3) := by decide +kernel
theorem dL_same_156 : decode cL_same 156 = .ok (.istore 15, 2) := by decide +kernel
theorem dL_same_158 : decode cL_same 158 = .ok (.iload 11, 2) := by decide +kernel
theorem dL_same_160 : decode cL_same 160 = .ok (.iload 14, 2) := by decide +kernel
theorem dL_same_162 : decode cL_same 162 = .ok (.aload_n 1, 1) := by decide +kernel
theorem dL_same_163 : decode cL_same 163 = .ok (.aload_n 3, 1) := by decide +kernel
theorem dL_same_164 : decode cL_same 164 = .ok (.invokestatic 73, 3) := by decide +kernel
theorem dL_same_167 : decode cL_same 167 = .ok (.istore 16, 2) := by decide +kernel
theorem dL_same_169 : decode cL_same 169 = .ok (.iload 11, 2) := by decide +kernel
theorem dL_same_171 : decode cL_same 171 = .ok (.iload 14, 2) := by decide +kernel
theorem dL_same_173 : decode cL_same 173 = .ok (.aload_n 1, 1) := by decide +kernel
theorem dL_same_174 : decode cL_same 174 = .ok (.aload_n 2, 1) := by decide +kernel
theorem dL_same_175 : decode cL_same 175 = .ok (.invokestatic 44, 3) := by decide +kernel
theorem dL_same_178 : decode cL_same 178 = .ok (.istore 17, 2) := by decide +kernel
theorem dL_same_180 : decode cL_same 180 = .ok (.iload 14, 2) := by decide +kernel
theorem dL_same_182 : decode cL_same 182 = .ok (.iload 11, 2) := by decide +kernel
theorem dL_same_184 : decode cL_same 184 = .ok (.isub, 1) := by decide +kernel
theorem dL_same_185 : decode cL_same 185 = .ok (.iconst 1, 1) := by decide +kernel
theorem dL_same_186 : decode cL_same 186 = .ok (.iadd, 1) := by decide +kernel
theorem dL_same_187 : decode cL_same 187 = .ok (.aload_n 1, 1) := by decide +kernel
theorem dL_same_188 : decode cL_same 188 = .ok (.iconst 1, 1) := by decide +kernel
theorem dL_same_189 : decode cL_same 189 = .ok (.iaload, 1) := by decide +kernel
theorem dL_same_190 : decode cL_same 190 = .ok (.if_icmp .lt 7, 3) := by decide +kernel
theorem dL_same_193 : decode cL_same 193 = .ok (.iconst 1, 1) := by decide +kernel
theorem dL_same_194 : decode cL_same 194 = .ok (.goto 4, 3) := by decide +kernel
theorem dL_same_197 : decode cL_same 197 = .ok (.iconst 0, 1) := by decide +kernel
theorem dL_same_198 : decode cL_same 198 = .ok (.istore 18, 2) := by decide +kernel
theorem dL_same_200 : decode cL_same 200 = .ok (.aload_n 0, 1) := by decide +kernel
theorem dL_same_201 : decode cL_same 201 = .ok (.iload 11, 2) := by decide +kernel
theorem dL_same_203 : decode cL_same 203 = .ok (.iload 14, 2) := by decide +kernel
theorem dL_same_205 : decode cL_same 205 = .ok (.invokevirtual 76, 3) := by decide +kernel
theorem dL_same_208 : decode cL_same 208 = .ok (.iload 15, 2) := by decide +kernel
theorem dL_same_210 : decode cL_same 210 = .ok (.if_icmp .ne 38, 3) := by decide +kernel
theorem dL_same_213 : decode cL_same 213 = .ok (.aload_n 0, 1) := by decide +kernel
theorem dL_same_214 : decode cL_same 214 = .ok (.iload 11, 2) := by decide +kernel
theorem dL_same_216 : decode cL_same 216 = .ok (.iload 14, 2) := by decide +kernel
theorem dL_same_218 : decode cL_same 218 = .ok (.invokevirtual 78, 3) := by decide +kernel
theorem dL_same_221 : decode cL_same 221 = .ok (.iload 16, 2) := by decide +kernel
theorem dL_same_223 : decode cL_same 223 = .ok (.if_icmp .ne 25, 3) := by decide +kernel
theorem dL_same_226 : decode cL_same 226 = .ok (.aload_n 0, 1) := by decide +kernel
theorem dL_same_227 : decode cL_same 227 = .ok (.iload 11, 2) := by decide +kernel
theorem dL_same_229 : decode cL_same 229 = .ok (.iload 14, 2) := by decide +kernel
theorem dL_same_231 : decode cL_same 231 = .ok (.invokevirtual 80, 3) := by decide +kernel
theorem dL_same_234 : decode cL_same 234 = .ok (.iload 18, 2) := by decide +kernel
theorem dL_same_236 : decode cL_same 236 = .ok (.ifCond .eq 8, 3) := by decide +kernel
theorem dL_same_239 : decode cL_same 239 = .ok (.iload 17, 2) := by decide +kernel
theorem dL_same_241 : decode cL_same 241 = .ok (.goto 4, 3) := by decide +kernel
theorem dL_same_244 : decode cL_same 244 = .ok (.iconst (-1), 1) := by decide +kernel
theorem dL_same_245 : decode cL_same 245 = .ok (.if_icmp .eq 5, 3) := by decide +kernel
theorem dL_same_248 : decode cL_same 248 = .ok (.iconst 0, 1) := by decide +kernel
theorem dL_same_249 : decode cL_same 249 = .ok (.ireturn, 1) := by decide +kernel
theorem dL_same_250 : decode cL_same 250 = .ok (.iload 18, 2) := by decide +kernel
theorem dL_same_252 : decode cL_same 252 = .ok (.ifCond .eq 58, 3) := by decide +kernel
theorem dL_same_255 : decode cL_same 255 = .ok (.iload 16, 2) := by decide +kernel
theorem dL_same_257 : decode cL_same 257 = .ok (.iload 15, 2) := by decide +kernel
theorem dL_same_259 : decode cL_same 259 = .ok (.isub, 1) := by decide +kernel
theorem dL_same_260 : decode cL_same 260 = .ok (.iload 8, 2) := by decide +kernel
theorem dL_same_262 : decode cL_same 262 = .ok (.if_icmp .gt 27, 3) := by decide +kernel
theorem dL_same_265 : decode cL_same 265 = .ok (.iload 16, 2) := by decide +kernel
theorem dL_same_267 : decode cL_same 267 = .ok (.iload 15, 2) := by decide +kernel
theorem dL_same_269 : decode cL_same 269 = .ok (.if_icmp .le 41, 3) := by decide +kernel
theorem dL_same_272 : decode cL_same 272 = .ok (.iload 16, 2) := by decide +kernel
theorem dL_same_274 : decode cL_same 274 = .ok (.iload 15, 2) := by decide +kernel
theorem dL_same_276 : decode cL_same 276 = .ok (.isub, 1) := by decide +kernel
theorem dL_same_277 : decode cL_same 277 = .ok (.iload 8, 2) := by decide +kernel
theorem dL_same_279 : decode cL_same 279 = .ok (.if_icmp .ne 31, 3) := by decide +kernel
theorem dL_same_282 : decode cL_same 282 = .ok (.iload 17, 2) := by decide +kernel
theorem dL_same_284 : decode cL_same 284 = .ok (.iload 9, 2) := by decide +kernel
theorem dL_same_286 : decode cL_same 286 = .ok (.if_icmp .ge 24, 3) := by decide +kernel
theorem dL_same_289 : decode cL_same 289 = .ok (.bipush 100, 2) := by decide +kernel
theorem dL_same_291 : decode cL_same 291 = .ok (.iload 11, 2) := by decide +kernel
theorem dL_same_293 : decode cL_same 293 = .ok (.imul, 1) := by decide +kernel
theorem dL_same_294 : decode cL_same 294 = .ok (.iload 14, 2) := by decide +kernel
theorem dL_same_296 : decode cL_same 296 = .ok (.iadd, 1) := by decide +kernel
theorem dL_same_297 : decode cL_same 297 = .ok (.istore 7, 2) := by decide +kernel
theorem dL_same_299 : decode cL_same 299 = .ok (.iload 16, 2) := by decide +kernel
theorem dL_same_301 : decode cL_same 301 = .ok (.iload 15, 2) := by decide +kernel
theorem dL_same_303 : decode cL_same 303 = .ok (.isub, 1) := by decide +kernel
theorem dL_same_304 : decode cL_same 304 = .ok (.istore 8, 2) := by decide +kernel
theorem dL_same_306 : decode cL_same 306 = .ok (.iload 17, 2) := by decide +kernel
theorem dL_same_308 : decode cL_same 308 = .ok (.istore 9, 2) := by decide +kernel
theorem dL_same_310 : decode cL_same 310 = .ok (.iload 11, 2) := by decide +kernel
theorem dL_same_312 : decode cL_same 312 = .ok (.iload 14, 2) := by decide +kernel
theorem dL_same_314 : decode cL_same 314 = .ok (.iadd, 1) := by decide +kernel
theorem dL_same_315 : decode cL_same 315 = .ok (.iconst 3, 1) := by decide +kernel
theorem dL_same_316 : decode cL_same 316 = .ok (.irem, 1) := by decide +kernel
theorem dL_same_317 : decode cL_same 317 = .ok (.aload_n 1, 1) := by decide +kernel
theorem dL_same_318 : decode cL_same 318 = .ok (.bipush 6, 2) := by decide +kernel
theorem dL_same_320 : decode cL_same 320 = .ok (.iaload, 1) := by decide +kernel
theorem dL_same_321 : decode cL_same 321 = .ok (.iconst 3, 1) := by decide +kernel
theorem dL_same_322 : decode cL_same 322 = .ok (.irem, 1) := by decide +kernel
theorem dL_same_323 : decode cL_same 323 = .ok (.if_icmp .ne 38, 3) := by decide +kernel
theorem dL_same_326 : decode cL_same 326 = .ok (.aload_n 0, 1) := by decide +kernel
theorem dL_same_327 : decode cL_same 327 = .ok (.iload 11, 2) := by decide +kernel
theorem dL_same_329 : decode cL_same 329 = .ok (.iload 14, 2) := by decide +kernel
theorem dL_same_331 : decode cL_same 331 = .ok (.invokevirtual 83, 3) := by decide +kernel
theorem dL_same_334 : decode cL_same 334 = .ok (.iload 18, 2) := by decide +kernel
theorem dL_same_336 : decode cL_same 336 = .ok (.ifCond .eq 19, 3) := by decide +kernel
theorem dL_same_339 : decode cL_same 339 = .ok (.iload 11, 2) := by decide +kernel
theorem dL_same_341 : decode cL_same 341 = .ok (.iload 14, 2) := by decide +kernel
theorem dL_same_343 : decode cL_same 343 = .ok (.aload_n 1, 1) := by decide +kernel
theorem dL_same_344 : decode cL_same 344 = .ok (.aload_n 3, 1) := by decide +kernel
theorem dL_same_345 : decode cL_same 345 = .ok (.aload 4, 2) := by decide +kernel
theorem dL_same_347 : decode cL_same 347 = .ok (.aload 5, 2) := by decide +kernel
theorem dL_same_349 : decode cL_same 349 = .ok (.invokestatic 86, 3) := by decide +kernel
theorem dL_same_352 : decode cL_same 352 = .ok (.goto 4, 3) := by decide +kernel
theorem dL_same_355 : decode cL_same 355 = .ok (.iconst (-1), 1) := by decide +kernel
theorem dL_same_356 : decode cL_same 356 = .ok (.if_icmp .eq 5, 3) := by decide +kernel
theorem dL_same_359 : decode cL_same 359 = .ok (.iconst 0, 1) := by decide +kernel
theorem dL_same_360 : decode cL_same 360 = .ok (.ireturn, 1) := by decide +kernel
theorem dL_same_361 : decode cL_same 361 = .ok (.iinc 14 1, 3) := by decide +kernel
theorem dL_same_364 : decode cL_same 364 = .ok (.goto (-225), 3) := by decide +kernel
theorem dL_same_367 : decode cL_same 367 = .ok (.iinc 11 1, 3) := by decide +kernel
theorem dL_same_370 : decode cL_same 370 = .ok (.goto (-341), 3) := by decide +kernel
theorem dL_same_373 : decode cL_same 373 = .ok (.aload_n 0, 1) := by decide +kernel
theorem dL_same_374 : decode cL_same 374 = .ok (.invokevirtual 89, 3) := by decide +kernel
theorem dL_same_377 : decode cL_same 377 = .ok (.iload 7, 2) := by decide +kernel
theorem dL_same_379 : decode cL_same 379 = .ok (.if_icmp .ne 24, 3) := by decide +kernel
theorem dL_same_382 : decode cL_same 382 = .ok (.aload_n 0, 1) := by decide +kernel
theorem dL_same_383 : decode cL_same 383 = .ok (.iload 10, 2) := by decide +kernel
theorem dL_same_385 : decode cL_same 385 = .ok (.invokevirtual 66, 3) := by decide +kernel
theorem dL_same_388 : decode cL_same 388 = .ok (.iconst (-1), 1) := by decide +kernel
theorem dL_same_389 : decode cL_same 389 = .ok (.if_icmp .ne 14, 3) := by decide +kernel
theorem dL_same_392 : decode cL_same 392 = .ok (.aload_n 0, 1) := by decide +kernel
theorem dL_same_393 : decode cL_same 393 = .ok (.bipush 9, 2) := by decide +kernel
theorem dL_same_395 : decode cL_same 395 = .ok (.invokevirtual 93, 3) := by decide +kernel
theorem dL_same_398 : decode cL_same 398 = .ok (.iload 10, 2) := by decide +kernel
theorem dL_same_400 : decode cL_same 400 = .ok (.if_icmp .eq 5, 3) := by decide +kernel
theorem dL_same_403 : decode cL_same 403 = .ok (.iconst 0, 1) := by decide +kernel
theorem dL_same_404 : decode cL_same 404 = .ok (.ireturn, 1) := by decide +kernel
theorem dL_same_405 : decode cL_same 405 = .ok (.iconst 0, 1) := by decide +kernel
theorem dL_same_406 : decode cL_same 406 = .ok (.istore 11, 2) := by decide +kernel
theorem dL_same_408 : decode cL_same 408 = .ok (.iload 11, 2) := by decide +kernel
theorem dL_same_410 : decode cL_same 410 = .ok (.aload_n 1, 1) := by decide +kernel
theorem dL_same_411 : decode cL_same 411 = .ok (.iconst 4, 1) := by decide +kernel
theorem dL_same_412 : decode cL_same 412 = .ok (.iaload, 1) := by decide +kernel
theorem dL_same_413 : decode cL_same 413 = .ok (.if_icmp .ge 46, 3) := by decide +kernel
theorem dL_same_416 : decode cL_same 416 = .ok (.iconst 0, 1) := by decide +kernel
theorem dL_same_417 : decode cL_same 417 = .ok (.istore 12, 2) := by decide +kernel
theorem dL_same_419 : decode cL_same 419 = .ok (.iload 12, 2) := by decide +kernel
theorem dL_same_421 : decode cL_same 421 = .ok (.iconst 4, 1) := by decide +kernel
theorem dL_same_422 : decode cL_same 422 = .ok (.if_icmp .ge 31, 3) := by decide +kernel
theorem dL_same_425 : decode cL_same 425 = .ok (.aload_n 0, 1) := by decide +kernel
theorem dL_same_426 : decode cL_same 426 = .ok (.iload 11, 2) := by decide +kernel
theorem dL_same_428 : decode cL_same 428 = .ok (.iload 12, 2) := by decide +kernel
theorem dL_same_430 : decode cL_same 430 = .ok (.invokevirtual 95, 3) := by decide +kernel
theorem dL_same_433 : decode cL_same 433 = .ok (.aload_n 2, 1) := by decide +kernel
theorem dL_same_434 : decode cL_same 434 = .ok (.iconst 4, 1) := by decide +kernel
theorem dL_same_435 : decode cL_same 435 = .ok (.iload 11, 2) := by decide +kernel
theorem dL_same_437 : decode cL_same 437 = .ok (.imul, 1) := by decide +kernel
theorem dL_same_438 : decode cL_same 438 = .ok (.iload 12, 2) := by decide +kernel
theorem dL_same_440 : decode cL_same 440 = .ok (.iadd, 1) := by decide +kernel
theorem dL_same_441 : decode cL_same 441 = .ok (.iaload, 1) := by decide +kernel
theorem dL_same_442 : decode cL_same 442 = .ok (.if_icmp .eq 5, 3) := by decide +kernel
theorem dL_same_445 : decode cL_same 445 = .ok (.iconst 0, 1) := by decide +kernel
theorem dL_same_446 : decode cL_same 446 = .ok (.ireturn, 1) := by decide +kernel
theorem dL_same_447 : decode cL_same 447 = .ok (.iinc 12 1, 3) := by decide +kernel
theorem dL_same_450 : decode cL_same 450 = .ok (.goto (-31), 3) := by decide +kernel
theorem dL_same_453 : decode cL_same 453 = .ok (.iinc 11 1, 3) := by decide +kernel
theorem dL_same_456 : decode cL_same 456 = .ok (.goto (-48), 3) := by decide +kernel
theorem dL_same_459 : decode cL_same 459 = .ok (.iconst (-1), 1) := by decide +kernel
theorem dL_same_460 : decode cL_same 460 = .ok (.istore 11, 2) := by decide +kernel
theorem dL_same_462 : decode cL_same 462 = .ok (.iconst (-1), 1) := by decide +kernel
theorem dL_same_463 : decode cL_same 463 = .ok (.istore 12, 2) := by decide +kernel
theorem dL_same_465 : decode cL_same 465 = .ok (.iconst 0, 1) := by decide +kernel
theorem dL_same_466 : decode cL_same 466 = .ok (.istore 13, 2) := by decide +kernel
theorem dL_same_468 : decode cL_same 468 = .ok (.iload 13, 2) := by decide +kernel
theorem dL_same_470 : decode cL_same 470 = .ok (.aload_n 1, 1) := by decide +kernel
theorem dL_same_471 : decode cL_same 471 = .ok (.iconst 4, 1) := by decide +kernel
theorem dL_same_472 : decode cL_same 472 = .ok (.iaload, 1) := by decide +kernel
theorem dL_same_473 : decode cL_same 473 = .ok (.if_icmp .ge 59, 3) := by decide +kernel
theorem dL_same_476 : decode cL_same 476 = .ok (.iload 13, 2) := by decide +kernel
theorem dL_same_478 : decode cL_same 478 = .ok (.aload_n 1, 1) := by decide +kernel
theorem dL_same_479 : decode cL_same 479 = .ok (.aload_n 2, 1) := by decide +kernel
theorem dL_same_480 : decode cL_same 480 = .ok (.aload_n 3, 1) := by decide +kernel
theorem dL_same_481 : decode cL_same 481 = .ok (.invokestatic 52, 3) := by decide +kernel
theorem dL_same_484 : decode cL_same 484 = .ok (.aload_n 1, 1) := by decide +kernel
theorem dL_same_485 : decode cL_same 485 = .ok (.aload_n 3, 1) := by decide +kernel
theorem dL_same_486 : decode cL_same 486 = .ok (.invokestatic 56, 3) := by decide +kernel
theorem dL_same_489 : decode cL_same 489 = .ok (.invokestatic 22, 3) := by decide +kernel
theorem dL_same_492 : decode cL_same 492 = .ok (.istore 14, 2) := by decide +kernel
theorem dL_same_494 : decode cL_same 494 = .ok (.iload 14, 2) := by decide +kernel
theorem dL_same_496 : decode cL_same 496 = .ok (.iload 12, 2) := by decide +kernel
theorem dL_same_498 : decode cL_same 498 = .ok (.if_icmp .le 8, 3) := by decide +kernel
theorem dL_same_501 : decode cL_same 501 = .ok (.iload 13, 2) := by decide +kernel
theorem dL_same_503 : decode cL_same 503 = .ok (.goto 5, 3) := by decide +kernel
theorem dL_same_506 : decode cL_same 506 = .ok (.iload 11, 2) := by decide +kernel
theorem dL_same_508 : decode cL_same 508 = .ok (.istore 11, 2) := by decide +kernel
theorem dL_same_510 : decode cL_same 510 = .ok (.iload 14, 2) := by decide +kernel
theorem dL_same_512 : decode cL_same 512 = .ok (.iload 12, 2) := by decide +kernel
theorem dL_same_514 : decode cL_same 514 = .ok (.if_icmp .le 8, 3) := by decide +kernel
theorem dL_same_517 : decode cL_same 517 = .ok (.iload 14, 2) := by decide +kernel
theorem dL_same_519 : decode cL_same 519 = .ok (.goto 5, 3) := by decide +kernel
theorem dL_same_522 : decode cL_same 522 = .ok (.iload 12, 2) := by decide +kernel
theorem dL_same_524 : decode cL_same 524 = .ok (.istore 12, 2) := by decide +kernel
theorem dL_same_526 : decode cL_same 526 = .ok (.iinc 13 1, 3) := by decide +kernel
theorem dL_same_529 : decode cL_same 529 = .ok (.goto (-61), 3) := by decide +kernel
theorem dL_same_532 : decode cL_same 532 = .ok (.aload_n 0, 1) := by decide +kernel
theorem dL_same_533 : decode cL_same 533 = .ok (.invokevirtual 98, 3) := by decide +kernel
theorem dL_same_536 : decode cL_same 536 = .ok (.iload 11, 2) := by decide +kernel
theorem dL_same_538 : decode cL_same 538 = .ok (.if_icmp .eq 5, 3) := by decide +kernel
theorem dL_same_541 : decode cL_same 541 = .ok (.iconst 0, 1) := by decide +kernel
theorem dL_same_542 : decode cL_same 542 = .ok (.ireturn, 1) := by decide +kernel
theorem dL_same_543 : decode cL_same 543 = .ok (.aload_n 0, 1) := by decide +kernel
theorem dL_same_544 : decode cL_same 544 = .ok (.iconst 0, 1) := by decide +kernel
theorem dL_same_545 : decode cL_same 545 = .ok (.invokevirtual 93, 3) := by decide +kernel
theorem dL_same_548 : decode cL_same 548 = .ok (.aload_n 1, 1) := by decide +kernel
theorem dL_same_549 : decode cL_same 549 = .ok (.iconst 0, 1) := by decide +kernel
theorem dL_same_550 : decode cL_same 550 = .ok (.iaload, 1) := by decide +kernel
theorem dL_same_551 : decode cL_same 551 = .ok (.if_icmp .ne 104, 3) := by decide +kernel
theorem dL_same_554 : decode cL_same 554 = .ok (.aload_n 0, 1) := by decide +kernel
theorem dL_same_555 : decode cL_same 555 = .ok (.iconst 1, 1) := by decide +kernel
theorem dL_same_556 : decode cL_same 556 = .ok (.invokevirtual 93, 3) := by decide +kernel
theorem dL_same_559 : decode cL_same 559 = .ok (.aload_n 1, 1) := by decide +kernel
theorem dL_same_560 : decode cL_same 560 = .ok (.bipush 8, 2) := by decide +kernel
theorem dL_same_562 : decode cL_same 562 = .ok (.iaload, 1) := by decide +kernel
theorem dL_same_563 : decode cL_same 563 = .ok (.invokestatic 22, 3) := by decide +kernel
theorem dL_same_566 : decode cL_same 566 = .ok (.if_icmp .ne 89, 3) := by decide +kernel
theorem dL_same_569 : decode cL_same 569 = .ok (.aload_n 0, 1) := by decide +kernel
theorem dL_same_570 : decode cL_same 570 = .ok (.iconst 2, 1) := by decide +kernel
theorem dL_same_571 : decode cL_same 571 = .ok (.invokevirtual 93, 3) := by decide +kernel
theorem dL_same_574 : decode cL_same 574 = .ok (.aload_n 1, 1) := by decide +kernel
theorem dL_same_575 : decode cL_same 575 = .ok (.iconst 1, 1) := by decide +kernel
theorem dL_same_576 : decode cL_same 576 = .ok (.iaload, 1) := by decide +kernel
theorem dL_same_577 : decode cL_same 577 = .ok (.if_icmp .ne 78, 3) := by decide +kernel
theorem dL_same_580 : decode cL_same 580 = .ok (.aload_n 0, 1) := by decide +kernel
theorem dL_same_581 : decode cL_same 581 = .ok (.iconst 3, 1) := by decide +kernel
theorem dL_same_582 : decode cL_same 582 = .ok (.invokevirtual 93, 3) := by decide +kernel
theorem dL_same_585 : decode cL_same 585 = .ok (.aload_n 1, 1) := by decide +kernel
theorem dL_same_586 : decode cL_same 586 = .ok (.iconst 2, 1) := by decide +kernel
theorem dL_same_587 : decode cL_same 587 = .ok (.iaload, 1) := by decide +kernel
theorem dL_same_588 : decode cL_same 588 = .ok (.if_icmp .ne 67, 3) := by decide +kernel
theorem dL_same_591 : decode cL_same 591 = .ok (.aload_n 0, 1) := by decide +kernel
theorem dL_same_592 : decode cL_same 592 = .ok (.iconst 4, 1) := by decide +kernel
theorem dL_same_593 : decode cL_same 593 = .ok (.invokevirtual 93, 3) := by decide +kernel
theorem dL_same_596 : decode cL_same 596 = .ok (.aload_n 1, 1) := by decide +kernel
theorem dL_same_597 : decode cL_same 597 = .ok (.iconst 3, 1) := by decide +kernel
theorem dL_same_598 : decode cL_same 598 = .ok (.iaload, 1) := by decide +kernel
theorem dL_same_599 : decode cL_same 599 = .ok (.if_icmp .ne 56, 3) := by decide +kernel
theorem dL_same_602 : decode cL_same 602 = .ok (.aload_n 0, 1) := by decide +kernel
theorem dL_same_603 : decode cL_same 603 = .ok (.iconst 5, 1) := by decide +kernel
theorem dL_same_604 : decode cL_same 604 = .ok (.invokevirtual 93, 3) := by decide +kernel
theorem dL_same_607 : decode cL_same 607 = .ok (.aload_n 1, 1) := by decide +kernel
theorem dL_same_608 : decode cL_same 608 = .ok (.iconst 4, 1) := by decide +kernel
theorem dL_same_609 : decode cL_same 609 = .ok (.iaload, 1) := by decide +kernel
theorem dL_same_610 : decode cL_same 610 = .ok (.if_icmp .ne 45, 3) := by decide +kernel
theorem dL_same_613 : decode cL_same 613 = .ok (.aload_n 0, 1) := by decide +kernel
theorem dL_same_614 : decode cL_same 614 = .ok (.bipush 6, 2) := by decide +kernel
theorem dL_same_616 : decode cL_same 616 = .ok (.invokevirtual 93, 3) := by decide +kernel
theorem dL_same_619 : decode cL_same 619 = .ok (.aload_n 1, 1) := by decide +kernel
theorem dL_same_620 : decode cL_same 620 = .ok (.iconst 5, 1) := by decide +kernel
theorem dL_same_621 : decode cL_same 621 = .ok (.iaload, 1) := by decide +kernel
theorem dL_same_622 : decode cL_same 622 = .ok (.if_icmp .ne 33, 3) := by decide +kernel
theorem dL_same_625 : decode cL_same 625 = .ok (.aload_n 0, 1) := by decide +kernel
theorem dL_same_626 : decode cL_same 626 = .ok (.bipush 7, 2) := by decide +kernel
theorem dL_same_628 : decode cL_same 628 = .ok (.invokevirtual 93, 3) := by decide +kernel
theorem dL_same_631 : decode cL_same 631 = .ok (.aload_n 1, 1) := by decide +kernel
theorem dL_same_632 : decode cL_same 632 = .ok (.bipush 6, 2) := by decide +kernel
theorem dL_same_634 : decode cL_same 634 = .ok (.iaload, 1) := by decide +kernel
theorem dL_same_635 : decode cL_same 635 = .ok (.if_icmp .ne 20, 3) := by decide +kernel
theorem dL_same_638 : decode cL_same 638 = .ok (.aload_n 0, 1) := by decide +kernel
theorem dL_same_639 : decode cL_same 639 = .ok (.bipush 8, 2) := by decide +kernel
theorem dL_same_641 : decode cL_same 641 = .ok (.invokevirtual 93, 3) := by decide +kernel
theorem dL_same_644 : decode cL_same 644 = .ok (.aload_n 1, 1) := by decide +kernel
theorem dL_same_645 : decode cL_same 645 = .ok (.bipush 7, 2) := by decide +kernel
theorem dL_same_647 : decode cL_same 647 = .ok (.iaload, 1) := by decide +kernel
theorem dL_same_648 : decode cL_same 648 = .ok (.if_icmp .ne 7, 3) := by decide +kernel
theorem dL_same_651 : decode cL_same 651 = .ok (.iconst 1, 1) := by decide +kernel
theorem dL_same_652 : decode cL_same 652 = .ok (.goto 4, 3) := by decide +kernel
theorem dL_same_655 : decode cL_same 655 = .ok (.iconst 0, 1) := by decide +kernel
theorem dL_same_656 : decode cL_same 656 = .ok (.ireturn, 1) := by decide +kernel
