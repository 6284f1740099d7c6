theorem dJx40b00_toDecimal_cabcc_169 : decode cJx40b00_toDecimal_cabcc 169 = .ok (.iload 16, 2) := by decide +kernel
theorem dJx40b00_toDecimal_cabcc_171 : decode cJx40b00_toDecimal_cabcc 171 = .ok (.iload 4, 2) := by decide +kernel
theorem dJx40b00_toDecimal_cabcc_173 : decode cJx40b00_toDecimal_cabcc 173 = .ok (.iadd, 1) := by decide +kernel
theorem dJx40b00_toDecimal_cabcc_174 : decode cJx40b00_toDecimal_cabcc 174 = .ok (.iload 19, 2) := by decide +kernel
theorem dJx40b00_toDecimal_cabcc_176 : decode cJx40b00_toDecimal_cabcc 176 = .ok (.iconst 2, 1) := by decide +kernel
theorem dJx40b00_toDecimal_cabcc_177 : decode cJx40b00_toDecimal_cabcc 177 = .ok (.ishl, 1) := by decide +kernel
theorem dJx40b00_toDecimal_cabcc_178 : decode cJx40b00_toDecimal_cabcc 178 = .ok (.if_icmp .gt 7, 3) := by decide +kernel
theorem dJx40b00_toDecimal_cabcc_181 : decode cJx40b00_toDecimal_cabcc 181 = .ok (.iconst 1, 1) := by decide +kernel
theorem dJx40b00_toDecimal_cabcc_182 : decode cJx40b00_toDecimal_cabcc 182 = .ok (.goto 4, 3) := by decide +kernel
theorem dJx40b00_toDecimal_cabcc_185 : decode cJx40b00_toDecimal_cabcc 185 = .ok (.iconst 0, 1) := by decide +kernel
theorem dJx40b00_toDecimal_cabcc_186 : decode cJx40b00_toDecimal_cabcc 186 = .ok (.istore 21, 2) := by decide +kernel
theorem dJx40b00_toDecimal_cabcc_188 : decode cJx40b00_toDecimal_cabcc 188 = .ok (.iload 20, 2) := by decide +kernel
theorem dJx40b00_toDecimal_cabcc_190 : decode cJx40b00_toDecimal_cabcc 190 = .ok (.iconst 2, 1) := by decide +kernel
theorem dJx40b00_toDecimal_cabcc_191 : decode cJx40b00_toDecimal_cabcc 191 = .ok (.ishl, 1) := by decide +kernel
theorem dJx40b00_toDecimal_cabcc_192 : decode cJx40b00_toDecimal_cabcc 192 = .ok (.iload 4, 2) := by decide +kernel
theorem dJx40b00_toDecimal_cabcc_194 : decode cJx40b00_toDecimal_cabcc 194 = .ok (.iadd, 1) := by decide +kernel
theorem dJx40b00_toDecimal_cabcc_195 : decode cJx40b00_toDecimal_cabcc 195 = .ok (.iload 17, 2) := by decide +kernel
theorem dJx40b00_toDecimal_cabcc_197 : decode cJx40b00_toDecimal_cabcc 197 = .ok (.if_icmp .gt 7, 3) := by decide +kernel
theorem dJx40b00_toDecimal_cabcc_200 : decode cJx40b00_toDecimal_cabcc 200 = .ok (.iconst 1, 1) := by decide +kernel
theorem dJx40b00_toDecimal_cabcc_201 : decode cJx40b00_toDecimal_cabcc 201 = .ok (.goto 4, 3) := by decide +kernel
theorem dJx40b00_toDecimal_cabcc_204 : decode cJx40b00_toDecimal_cabcc 204 = .ok (.iconst 0, 1) := by decide +kernel
theorem dJx40b00_toDecimal_cabcc_205 : decode cJx40b00_toDecimal_cabcc 205 = .ok (.istore 22, 2) := by decide +kernel
theorem dJx40b00_toDecimal_cabcc_207 : decode cJx40b00_toDecimal_cabcc 207 = .ok (.iload 21, 2) := by decide +kernel
theorem dJx40b00_toDecimal_cabcc_209 : decode cJx40b00_toDecimal_cabcc 209 = .ok (.iload 22, 2) := by decide +kernel
theorem dJx40b00_toDecimal_cabcc_211 : decode cJx40b00_toDecimal_cabcc 211 = .ok (.if_icmp .eq 22, 3) := by decide +kernel
theorem dJx40b00_toDecimal_cabcc_214 : decode cJx40b00_toDecimal_cabcc 214 = .ok (.aload_n 0, 1) := by decide +kernel
theorem dJx40b00_toDecimal_cabcc_215 : decode cJx40b00_toDecimal_cabcc 215 = .ok (.iload 21, 2) := by decide +kernel
theorem dJx40b00_toDecimal_cabcc_217 : decode cJx40b00_toDecimal_cabcc 217 = .ok (.ifCond .eq 8, 3) := by decide +kernel
theorem dJx40b00_toDecimal_cabcc_220 : decode cJx40b00_toDecimal_cabcc 220 = .ok (.iload 19, 2) := by decide +kernel
theorem dJx40b00_toDecimal_cabcc_222 : decode cJx40b00_toDecimal_cabcc 222 = .ok (.goto 5, 3) := by decide +kernel
theorem dJx40b00_toDecimal_cabcc_225 : decode cJx40b00_toDecimal_cabcc 225 = .ok (.iload 20, 2) := by decide +kernel
theorem dJx40b00_toDecimal_cabcc_227 : decode cJx40b00_toDecimal_cabcc 227 = .ok (.iload 11, 2) := by decide +kernel
theorem dJx40b00_toDecimal_cabcc_229 : decode cJx40b00_toDecimal_cabcc 229 = .ok (.invokevirtual 73, 3) := by decide +kernel
theorem dJx40b00_toDecimal_cabcc_232 : decode cJx40b00_toDecimal_cabcc 232 = .ok (.ireturn, 1) := by decide +kernel
theorem dJx40b00_toDecimal_cabcc_233 : decode cJx40b00_toDecimal_cabcc 233 = .ok (.iload 18, 2) := by decide +kernel
theorem dJx40b00_toDecimal_cabcc_235 : decode cJx40b00_toDecimal_cabcc 235 = .ok (.iconst 1, 1) := by decide +kernel
theorem dJx40b00_toDecimal_cabcc_236 : decode cJx40b00_toDecimal_cabcc 236 = .ok (.iadd, 1) := by decide +kernel
theorem dJx40b00_toDecimal_cabcc_237 : decode cJx40b00_toDecimal_cabcc 237 = .ok (.istore 19, 2) := by decide +kernel
theorem dJx40b00_toDecimal_cabcc_239 : decode cJx40b00_toDecimal_cabcc 239 = .ok (.iload 16, 2) := by decide +kernel
theorem dJx40b00_toDecimal_cabcc_241 : decode cJx40b00_toDecimal_cabcc 241 = .ok (.iload 4, 2) := by decide +kernel
theorem dJx40b00_toDecimal_cabcc_243 : decode cJx40b00_toDecimal_cabcc 243 = .ok (.iadd, 1) := by decide +kernel
theorem dJx40b00_toDecimal_cabcc_244 : decode cJx40b00_toDecimal_cabcc 244 = .ok (.iload 18, 2) := by decide +kernel
theorem dJx40b00_toDecimal_cabcc_246 : decode cJx40b00_toDecimal_cabcc 246 = .ok (.iconst 2, 1) := by decide +kernel
theorem dJx40b00_toDecimal_cabcc_247 : decode cJx40b00_toDecimal_cabcc 247 = .ok (.ishl, 1) := by decide +kernel
theorem dJx40b00_toDecimal_cabcc_248 : decode cJx40b00_toDecimal_cabcc 248 = .ok (.if_icmp .gt 7, 3) := by decide +kernel
theorem dJx40b00_toDecimal_cabcc_251 : decode cJx40b00_toDecimal_cabcc 251 = .ok (.iconst 1, 1) := by decide +kernel
theorem dJx40b00_toDecimal_cabcc_252 : decode cJx40b00_toDecimal_cabcc 252 = .ok (.goto 4, 3) := by decide +kernel
theorem dJx40b00_toDecimal_cabcc_255 : decode cJx40b00_toDecimal_cabcc 255 = .ok (.iconst 0, 1) := by decide +kernel
theorem dJx40b00_toDecimal_cabcc_256 : decode cJx40b00_toDecimal_cabcc 256 = .ok (.istore 20, 2) := by decide +kernel
theorem dJx40b00_toDecimal_cabcc_258 : decode cJx40b00_toDecimal_cabcc 258 = .ok (.iload 19, 2) := by decide +kernel
theorem dJx40b00_toDecimal_cabcc_260 : decode cJx40b00_toDecimal_cabcc 260 = .ok (.iconst 2, 1) := by decide +kernel
theorem dJx40b00_toDecimal_cabcc_261 : decode cJx40b00_toDecimal_cabcc 261 = .ok (.ishl, 1) := by decide +kernel
theorem dJx40b00_toDecimal_cabcc_262 : decode cJx40b00_toDecimal_cabcc 262 = .ok (.iload 4, 2) := by decide +kernel
theorem dJx40b00_toDecimal_cabcc_264 : decode cJx40b00_toDecimal_cabcc 264 = .ok (.iadd, 1) := by decide +kernel
theorem dJx40b00_toDecimal_cabcc_265 : decode cJx40b00_toDecimal_cabcc 265 = .ok (.iload 17, 2) := by decide +kernel
theorem dJx40b00_toDecimal_cabcc_267 : decode cJx40b00_toDecimal_cabcc 267 = .ok (.if_icmp .gt 7, 3) := by decide +kernel
theorem dJx40b00_toDecimal_cabcc_270 : decode cJx40b00_toDecimal_cabcc 270 = .ok (.iconst 1, 1) := by decide +kernel
theorem dJx40b00_toDecimal_cabcc_271 : decode cJx40b00_toDecimal_cabcc 271 = .ok (.goto 4, 3) := by decide +kernel
theorem dJx40b00_toDecimal_cabcc_274 : decode cJx40b00_toDecimal_cabcc 274 = .ok (.iconst 0, 1) := by decide +kernel
theorem dJx40b00_toDecimal_cabcc_275 : decode cJx40b00_toDecimal_cabcc 275 = .ok (.istore 21, 2) := by decide +kernel
theorem dJx40b00_toDecimal_cabcc_277 : decode cJx40b00_toDecimal_cabcc 277 = .ok (.iload 20, 2) := by decide +kernel
theorem dJx40b00_toDecimal_cabcc_279 : decode cJx40b00_toDecimal_cabcc 279 = .ok (.iload 21, 2) := by decide +kernel
theorem dJx40b00_toDecimal_cabcc_281 : decode cJx40b00_toDecimal_cabcc 281 = .ok (.if_icmp .eq 24, 3) := by decide +kernel
theorem dJx40b00_toDecimal_cabcc_284 : decode cJx40b00_toDecimal_cabcc 284 = .ok (.aload_n 0, 1) := by decide +kernel
theorem dJx40b00_toDecimal_cabcc_285 : decode cJx40b00_toDecimal_cabcc 285 = .ok (.iload 20, 2) := by decide +kernel
theorem dJx40b00_toDecimal_cabcc_287 : decode cJx40b00_toDecimal_cabcc 287 = .ok (.ifCond .eq 8, 3) := by decide +kernel
theorem dJx40b00_toDecimal_cabcc_290 : decode cJx40b00_toDecimal_cabcc 290 = .ok (.iload 18, 2) := by decide +kernel
theorem dJx40b00_toDecimal_cabcc_292 : decode cJx40b00_toDecimal_cabcc 292 = .ok (.goto 5, 3) := by decide +kernel
theorem dJx40b00_toDecimal_cabcc_295 : decode cJx40b00_toDecimal_cabcc 295 = .ok (.iload 19, 2) := by decide +kernel
theorem dJx40b00_toDecimal_cabcc_297 : decode cJx40b00_toDecimal_cabcc 297 = .ok (.iload 11, 2) := by decide +kernel
theorem dJx40b00_toDecimal_cabcc_299 : decode cJx40b00_toDecimal_cabcc 299 = .ok (.iload_n 3, 1) := by decide +kernel
theorem dJx40b00_toDecimal_cabcc_300 : decode cJx40b00_toDecimal_cabcc 300 = .ok (.iadd, 1) := by decide +kernel
theorem dJx40b00_toDecimal_cabcc_301 : decode cJx40b00_toDecimal_cabcc 301 = .ok (.invokevirtual 73, 3) := by decide +kernel
theorem dJx40b00_toDecimal_cabcc_304 : decode cJx40b00_toDecimal_cabcc 304 = .ok (.ireturn, 1) := by decide +kernel
theorem dJx40b00_toDecimal_cabcc_305 : decode cJx40b00_toDecimal_cabcc 305 = .ok (.iload 15, 2) := by decide +kernel
theorem dJx40b00_toDecimal_cabcc_307 : decode cJx40b00_toDecimal_cabcc 307 = .ok (.iload 18, 2) := by decide +kernel
theorem dJx40b00_toDecimal_cabcc_309 : decode cJx40b00_toDecimal_cabcc 309 = .ok (.iload 19, 2) := by decide +kernel
theorem dJx40b00_toDecimal_cabcc_311 : decode cJx40b00_toDecimal_cabcc 311 = .ok (.iadd, 1) := by decide +kernel
theorem dJx40b00_toDecimal_cabcc_312 : decode cJx40b00_toDecimal_cabcc 312 = .ok (.iconst 1, 1) := by decide +kernel
theorem dJx40b00_toDecimal_cabcc_313 : decode cJx40b00_toDecimal_cabcc 313 = .ok (.ishl, 1) := by decide +kernel
theorem dJx40b00_toDecimal_cabcc_314 : decode cJx40b00_toDecimal_cabcc 314 = .ok (.isub, 1) := by decide +kernel
theorem dJx40b00_toDecimal_cabcc_315 : decode cJx40b00_toDecimal_cabcc 315 = .ok (.istore 22, 2) := by decide +kernel
theorem dJx40b00_toDecimal_cabcc_317 : decode cJx40b00_toDecimal_cabcc 317 = .ok (.aload_n 0, 1) := by decide +kernel
theorem dJx40b00_toDecimal_cabcc_318 : decode cJx40b00_toDecimal_cabcc 318 = .ok (.iload 22, 2) := by decide +kernel
theorem dJx40b00_toDecimal_cabcc_320 : decode cJx40b00_toDecimal_cabcc 320 = .ok (.ifCond .lt 15, 3) := by decide +kernel
theorem dJx40b00_toDecimal_cabcc_323 : decode cJx40b00_toDecimal_cabcc 323 = .ok (.iload 22, 2) := by decide +kernel
theorem dJx40b00_toDecimal_cabcc_325 : decode cJx40b00_toDecimal_cabcc 325 = .ok (.ifCond .ne 15, 3) := by decide +kernel
theorem dJx40b00_toDecimal_cabcc_328 : decode cJx40b00_toDecimal_cabcc 328 = .ok (.iload 18, 2) := by decide +kernel
theorem dJx40b00_toDecimal_cabcc_330 : decode cJx40b00_toDecimal_cabcc 330 = .ok (.iconst 1, 1) := by decide +kernel
theorem dJx40b00_toDecimal_cabcc_331 : decode cJx40b00_toDecimal_cabcc 331 = .ok (.iand, 1) := by decide +kernel
theorem dJx40b00_toDecimal_cabcc_332 : decode cJx40b00_toDecimal_cabcc 332 = .ok (.ifCond .ne 8, 3) := by decide +kernel
theorem dJx40b00_toDecimal_cabcc_335 : decode cJx40b00_toDecimal_cabcc 335 = .ok (.iload 18, 2) := by decide +kernel
theorem dJx40b00_toDecimal_cabcc_337 : decode cJx40b00_toDecimal_cabcc 337 = .ok (.goto 5, 3) := by decide +kernel
theorem dJx40b00_toDecimal_cabcc_340 : decode cJx40b00_toDecimal_cabcc 340 = .ok (.iload 19, 2) := by decide +kernel
theorem dJx40b00_toDecimal_cabcc_342 : decode cJx40b00_toDecimal_cabcc 342 = .ok (.iload 11, 2) := by decide +kernel
theorem dJx40b00_toDecimal_cabcc_344 : decode cJx40b00_toDecimal_cabcc 344 = .ok (.iload_n 3, 1) := by decide +kernel
theorem dJx40b00_toDecimal_cabcc_345 : decode cJx40b00_toDecimal_cabcc 345 = .ok (.iadd, 1) := by decide +kernel
theorem dJx40b00_toDecimal_cabcc_346 : decode cJx40b00_toDecimal_cabcc 346 = .ok (.invokevirtual 73, 3) := by decide +kernel
theorem dJx40b00_toDecimal_cabcc_349 : decode cJx40b00_toDecimal_cabcc 349 = .ok (.ireturn, 1) := by decide +kernel
theorem dJx40b00_rop_74951_0 : decode cJx40b00_rop_74951 0 = .ok (.lload_n 0, 1) := by decide +kernel
theorem dJx40b00_rop_74951_1 : decode cJx40b00_rop_74951 1 = .ok (.lload_n 2, 1) := by decide +kernel
theorem dJx40b00_rop_74951_2 : decode cJx40b00_rop_74951 2 = .ok (.invokestatic 104, 3) := by decide +kernel
theorem dJx40b00_rop_74951_5 : decode cJx40b00_rop_74951 5 = .ok (.lstore 4, 2) := by decide +kernel
theorem dJx40b00_rop_74951_7 : decode cJx40b00_rop_74951 7 = .ok (.lload 4, 2) := by decide +kernel
theorem dJx40b00_rop_74951_9 : decode cJx40b00_rop_74951 9 = .ok (.bipush 31, 2) := by decide +kernel
theorem dJx40b00_rop_74951_11 : decode cJx40b00_rop_74951 11 = .ok (.lushr, 1) := by decide +kernel
theorem dJx40b00_rop_74951_12 : decode cJx40b00_rop_74951 12 = .ok (.lstore 6, 2) := by decide +kernel
theorem dJx40b00_rop_74951_14 : decode cJx40b00_rop_74951 14 = .ok (.lload 6, 2) := by decide +kernel
theorem dJx40b00_rop_74951_16 : decode cJx40b00_rop_74951 16 = .ok (.lload 4, 2) := by decide +kernel
theorem dJx40b00_rop_74951_18 : decode cJx40b00_rop_74951 18 = .ok (.ldc2_w 110, 3) := by decide +kernel
theorem dJx40b00_rop_74951_21 : decode cJx40b00_rop_74951 21 = .ok (.land, 1) := by decide +kernel
theorem dJx40b00_rop_74951_22 : decode cJx40b00_rop_74951 22 = .ok (.ldc2_w 110, 3) := by decide +kernel
theorem dJx40b00_rop_74951_25 : decode cJx40b00_rop_74951 25 = .ok (.ladd, 1) := by decide +kernel
theorem dJx40b00_rop_74951_26 : decode cJx40b00_rop_74951 26 = .ok (.bipush 32, 2) := by decide +kernel
theorem dJx40b00_rop_74951_28 : decode cJx40b00_rop_74951 28 = .ok (.lushr, 1) := by decide +kernel
theorem dJx40b00_rop_74951_29 : decode cJx40b00_rop_74951 29 = .ok (.lor, 1) := by decide +kernel
theorem dJx40b00_rop_74951_30 : decode cJx40b00_rop_74951 30 = .ok (.l2i, 1) := by decide +kernel
theorem dJx40b00_rop_74951_31 : decode cJx40b00_rop_74951 31 = .ok (.ireturn, 1) := by decide +kernel
theorem dJx40b00_toChars_7cf53_0 : decode cJx40b00_toChars_7cf53 0 = .ok (.bipush 32, 2) := by decide +kernel
theorem dJx40b00_toChars_7cf53_2 : decode cJx40b00_toChars_7cf53 2 = .ok (.iload_n 1, 1) := by decide +kernel
theorem dJx40b00_toChars_7cf53_3 : decode cJx40b00_toChars_7cf53 3 = .ok (.invokestatic 114, 3) := by decide +kernel
theorem dJx40b00_toChars_7cf53_6 : decode cJx40b00_toChars_7cf53 6 = .ok (.isub, 1) := by decide +kernel
theorem dJx40b00_toChars_7cf53_7 : decode cJx40b00_toChars_7cf53 7 = .ok (.invokestatic 82, 3) := by decide +kernel
theorem dJx40b00_toChars_7cf53_10 : decode cJx40b00_toChars_7cf53 10 = .ok (.istore_n 3, 1) := by decide +kernel
theorem dJx40b00_toChars_7cf53_11 : decode cJx40b00_toChars_7cf53 11 = .ok (.iload_n 1, 1) := by decide +kernel
theorem dJx40b00_toChars_7cf53_12 : decode cJx40b00_toChars_7cf53 12 = .ok (.i2l, 1) := by decide +kernel
theorem dJx40b00_toChars_7cf53_13 : decode cJx40b00_toChars_7cf53 13 = .ok (.iload_n 3, 1) := by decide +kernel
theorem dJx40b00_toChars_7cf53_14 : decode cJx40b00_toChars_7cf53 14 = .ok (.invokestatic 117, 3) := by decide +kernel
theorem dJx40b00_toChars_7cf53_17 : decode cJx40b00_toChars_7cf53 17 = .ok (.lcmp, 1) := by decide +kernel
theorem dJx40b00_toChars_7cf53_18 : decode cJx40b00_toChars_7cf53 18 = .ok (.ifCond .lt 6, 3) := by decide +kernel
theorem dJx40b00_toChars_7cf53_21 : decode cJx40b00_toChars_7cf53 21 = .ok (.iinc 3 1, 3) := by decide +kernel
theorem dJx40b00_toChars_7cf53_24 : decode cJx40b00_toChars_7cf53 24 = .ok (.iload_n 1, 1) := by decide +kernel
theorem dJx40b00_toChars_7cf53_25 : decode cJx40b00_toChars_7cf53 25 = .ok (.bipush 9, 2) := by decide +kernel
theorem dJx40b00_toChars_7cf53_27 : decode cJx40b00_toChars_7cf53 27 = .ok (.iload_n 3, 1) := by decide +kernel
theorem dJx40b00_toChars_7cf53_28 : decode cJx40b00_toChars_7cf53 28 = .ok (.isub, 1) := by decide +kernel
theorem dJx40b00_toChars_7cf53_29 : decode cJx40b00_toChars_7cf53 29 = .ok (.invokestatic 117, 3) := by decide +kernel
theorem dJx40b00_toChars_7cf53_32 : decode cJx40b00_toChars_7cf53 32 = .ok (.l2i, 1) := by decide +kernel
theorem dJx40b00_toChars_7cf53_33 : decode cJx40b00_toChars_7cf53 33 = .ok (.imul, 1) := by decide +kernel
theorem dJx40b00_toChars_7cf53_34 : decode cJx40b00_toChars_7cf53 34 = .ok (.istore_n 1, 1) := by decide +kernel
theorem dJx40b00_toChars_7cf53_35 : decode cJx40b00_toChars_7cf53 35 = .ok (.iload_n 2, 1) := by decide +kernel
theorem dJx40b00_toChars_7cf53_36 : decode cJx40b00_toChars_7cf53 36 = .ok (.iload_n 3, 1) := by decide +kernel
theorem dJx40b00_toChars_7cf53_37 : decode cJx40b00_toChars_7cf53 37 = .ok (.iadd, 1) := by decide +kernel
theorem dJx40b00_toChars_7cf53_38 : decode cJx40b00_toChars_7cf53 38 = .ok (.istore_n 2, 1) := by decide +kernel
theorem dJx40b00_toChars_7cf53_39 : decode cJx40b00_toChars_7cf53 39 = .ok (.iload_n 1, 1) := by decide +kernel
theorem dJx40b00_toChars_7cf53_40 : decode cJx40b00_toChars_7cf53 40 = .ok (.i2l, 1) := by decide +kernel
theorem dJx40b00_toChars_7cf53_41 : decode cJx40b00_toChars_7cf53 41 = .ok (.ldc2_w 120, 3) := by decide +kernel
theorem dJx40b00_toChars_7cf53_44 : decode cJx40b00_toChars_7cf53 44 = .ok (.lmul, 1) := by decide +kernel
theorem dJx40b00_toChars_7cf53_45 : decode cJx40b00_toChars_7cf53 45 = .ok (.bipush 57, 2) := by decide +kernel
theorem dJx40b00_toChars_7cf53_47 : decode cJx40b00_toChars_7cf53 47 = .ok (.lushr, 1) := by decide +kernel
theorem dJx40b00_toChars_7cf53_48 : decode cJx40b00_toChars_7cf53 48 = .ok (.l2i, 1) := by decide +kernel
theorem dJx40b00_toChars_7cf53_49 : decode cJx40b00_toChars_7cf53 49 = .ok (.istore 4, 2) := by decide +kernel
theorem dJx40b00_toChars_7cf53_51 : decode cJx40b00_toChars_7cf53 51 = .ok (.iload_n 1, 1) := by decide +kernel
theorem dJx40b00_toChars_7cf53_52 : decode cJx40b00_toChars_7cf53 52 = .ok (.ldc 122, 2) := by decide +kernel
theorem dJx40b00_toChars_7cf53_54 : decode cJx40b00_toChars_7cf53 54 = .ok (.iload 4, 2) := by decide +kernel
theorem dJx40b00_toChars_7cf53_56 : decode cJx40b00_toChars_7cf53 56 = .ok (.imul, 1) := by decide +kernel
theorem dJx40b00_toChars_7cf53_57 : decode cJx40b00_toChars_7cf53 57 = .ok (.isub, 1) := by decide +kernel
theorem dJx40b00_toChars_7cf53_58 : decode cJx40b00_toChars_7cf53 58 = .ok (.istore 5, 2) := by decide +kernel
theorem dJx40b00_toChars_7cf53_60 : decode cJx40b00_toChars_7cf53 60 = .ok (.iconst 0, 1) := by decide +kernel
theorem dJx40b00_toChars_7cf53_61 : decode cJx40b00_toChars_7cf53 61 = .ok (.iload_n 2, 1) := by decide +kernel
theorem dJx40b00_toChars_7cf53_62 : decode cJx40b00_toChars_7cf53 62 = .ok (.if_icmp .ge 19, 3) := by decide +kernel
theorem dJx40b00_toChars_7cf53_65 : decode cJx40b00_toChars_7cf53 65 = .ok (.iload_n 2, 1) := by decide +kernel
theorem dJx40b00_toChars_7cf53_66 : decode cJx40b00_toChars_7cf53 66 = .ok (.bipush 7, 2) := by decide +kernel
theorem dJx40b00_toChars_7cf53_68 : decode cJx40b00_toChars_7cf53 68 = .ok (.if_icmp .gt 13, 3) := by decide +kernel
theorem dJx40b00_toChars_7cf53_71 : decode cJx40b00_toChars_7cf53 71 = .ok (.aload_n 0, 1) := by decide +kernel
theorem dJx40b00_toChars_7cf53_72 : decode cJx40b00_toChars_7cf53 72 = .ok (.iload 4, 2) := by decide +kernel
theorem dJx40b00_toChars_7cf53_74 : decode cJx40b00_toChars_7cf53 74 = .ok (.iload 5, 2) := by decide +kernel
theorem dJx40b00_toChars_7cf53_76 : decode cJx40b00_toChars_7cf53 76 = .ok (.iload_n 2, 1) := by decide +kernel
theorem dJx40b00_toChars_7cf53_77 : decode cJx40b00_toChars_7cf53 77 = .ok (.invokevirtual 123, 3) := by decide +kernel
theorem dJx40b00_toChars_7cf53_80 : decode cJx40b00_toChars_7cf53 80 = .ok (.ireturn, 1) := by decide +kernel
theorem dJx40b00_toChars_7cf53_81 : decode cJx40b00_toChars_7cf53 81 = .ok (.bipush (-3), 2) := by decide +kernel
theorem dJx40b00_toChars_7cf53_83 : decode cJx40b00_toChars_7cf53 83 = .ok (.iload_n 2, 1) := by decide +kernel
theorem dJx40b00_toChars_7cf53_84 : decode cJx40b00_toChars_7cf53 84 = .ok (.if_icmp .ge 17, 3) := by decide +kernel
theorem dJx40b00_toChars_7cf53_87 : decode cJx40b00_toChars_7cf53 87 = .ok (.iload_n 2, 1) := by decide +kernel
theorem dJx40b00_toChars_7cf53_88 : decode cJx40b00_toChars_7cf53 88 = .ok (.ifCond .gt 13, 3) := by decide +kernel
theorem dJx40b00_toChars_7cf53_91 : decode cJx40b00_toChars_7cf53 91 = .ok (.aload_n 0, 1) := by decide +kernel
theorem dJx40b00_toChars_7cf53_92 : decode cJx40b00_toChars_7cf53 92 = .ok (.iload 4, 2) := by decide +kernel
theorem dJx40b00_toChars_7cf53_94 : decode cJx40b00_toChars_7cf53 94 = .ok (.iload 5, 2) := by decide +kernel
theorem dJx40b00_toChars_7cf53_96 : decode cJx40b00_toChars_7cf53 96 = .ok (.iload_n 2, 1) := by decide +kernel
theorem dJx40b00_toChars_7cf53_97 : decode cJx40b00_toChars_7cf53 97 = .ok (.invokevirtual 126, 3) := by decide +kernel
theorem dJx40b00_toChars_7cf53_100 : decode cJx40b00_toChars_7cf53 100 = .ok (.ireturn, 1) := by decide +kernel
theorem dJx40b00_toChars_7cf53_101 : decode cJx40b00_toChars_7cf53 101 = .ok (.aload_n 0, 1) := by decide +kernel
theorem dJx40b00_toChars_7cf53_102 : decode cJx40b00_toChars_7cf53 102 = .ok (.iload 4, 2) := by decide +kernel
theorem dJx40b00_toChars_7cf53_104 : decode cJx40b00_toChars_7cf53 104 = .ok (.iload 5, 2) := by decide +kernel
theorem dJx40b00_toChars_7cf53_106 : decode cJx40b00_toChars_7cf53 106 = .ok (.iload_n 2, 1) := by decide +kernel
theorem dJx40b00_toChars_7cf53_107 : decode cJx40b00_toChars_7cf53 107 = .ok (.invokevirtual 129, 3) := by decide +kernel
theorem dJx40b00_toChars_7cf53_110 : decode cJx40b00_toChars_7cf53 110 = .ok (.ireturn, 1) := by decide +kernel
theorem dJx40b00_toChars1_cabcc_0 : decode cJx40b00_toChars1_cabcc 0 = .ok (.aload_n 0, 1) := by decide +kernel
theorem dJx40b00_toChars1_cabcc_1 : decode cJx40b00_toChars1_cabcc 1 = .ok (.iload_n 1, 1) := by decide +kernel
theorem dJx40b00_toChars1_cabcc_2 : decode cJx40b00_toChars1_cabcc 2 = .ok (.invokevirtual 132, 3) := by decide +kernel
theorem dJx40b00_toChars1_cabcc_5 : decode cJx40b00_toChars1_cabcc 5 = .ok (.aload_n 0, 1) := by decide +kernel
theorem dJx40b00_toChars1_cabcc_6 : decode cJx40b00_toChars1_cabcc 6 = .ok (.iload_n 2, 1) := by decide +kernel
theorem dJx40b00_toChars1_cabcc_7 : decode cJx40b00_toChars1_cabcc 7 = .ok (.invokevirtual 135, 3) := by decide +kernel
theorem dJx40b00_toChars1_cabcc_10 : decode cJx40b00_toChars1_cabcc 10 = .ok (.istore 4, 2) := by decide +kernel
theorem dJx40b00_toChars1_cabcc_12 : decode cJx40b00_toChars1_cabcc 12 = .ok (.iconst 1, 1) := by decide +kernel
theorem dJx40b00_toChars1_cabcc_13 : decode cJx40b00_toChars1_cabcc 13 = .ok (.istore 6, 2) := by decide +kernel
theorem dJx40b00_toChars1_cabcc_15 : decode cJx40b00_toChars1_cabcc 15 = .ok (.iload 6, 2) := by decide +kernel
theorem dJx40b00_toChars1_cabcc_17 : decode cJx40b00_toChars1_cabcc 17 = .ok (.iload_n 3, 1) := by decide +kernel
theorem dJx40b00_toChars1_cabcc_18 : decode cJx40b00_toChars1_cabcc 18 = .ok (.if_icmp .ge 32, 3) := by decide +kernel
theorem dJx40b00_toChars1_cabcc_21 : decode cJx40b00_toChars1_cabcc 21 = .ok (.bipush 10, 2) := by decide +kernel
theorem dJx40b00_toChars1_cabcc_23 : decode cJx40b00_toChars1_cabcc 23 = .ok (.iload 4, 2) := by decide +kernel
theorem dJx40b00_toChars1_cabcc_25 : decode cJx40b00_toChars1_cabcc 25 = .ok (.imul, 1) := by decide +kernel
theorem dJx40b00_toChars1_cabcc_26 : decode cJx40b00_toChars1_cabcc 26 = .ok (.istore 5, 2) := by decide +kernel
theorem dJx40b00_toChars1_cabcc_28 : decode cJx40b00_toChars1_cabcc 28 = .ok (.aload_n 0, 1) := by decide +kernel
theorem dJx40b00_toChars1_cabcc_29 : decode cJx40b00_toChars1_cabcc 29 = .ok (.iload 5, 2) := by decide +kernel
theorem dJx40b00_toChars1_cabcc_31 : decode cJx40b00_toChars1_cabcc 31 = .ok (.bipush 28, 2) := by decide +kernel
theorem dJx40b00_toChars1_cabcc_33 : decode cJx40b00_toChars1_cabcc 33 = .ok (.iushr, 1) := by decide +kernel
theorem dJx40b00_toChars1_cabcc_34 : decode cJx40b00_toChars1_cabcc 34 = .ok (.invokevirtual 132, 3) := by decide +kernel
theorem dJx40b00_toChars1_cabcc_37 : decode cJx40b00_toChars1_cabcc 37 = .ok (.iload 5, 2) := by decide +kernel
theorem dJx40b00_toChars1_cabcc_39 : decode cJx40b00_toChars1_cabcc 39 = .ok (.ldc 138, 2) := by decide +kernel
theorem dJx40b00_toChars1_cabcc_41 : decode cJx40b00_toChars1_cabcc 41 = .ok (.iand, 1) := by decide +kernel
theorem dJx40b00_toChars1_cabcc_42 : decode cJx40b00_toChars1_cabcc 42 = .ok (.istore 4, 2) := by decide +kernel
theorem dJx40b00_toChars1_cabcc_44 : decode cJx40b00_toChars1_cabcc 44 = .ok (.iinc 6 1, 3) := by decide +kernel
theorem dJx40b00_toChars1_cabcc_47 : decode cJx40b00_toChars1_cabcc 47 = .ok (.goto (-32), 3) := by decide +kernel
theorem dJx40b00_toChars1_cabcc_50 : decode cJx40b00_toChars1_cabcc 50 = .ok (.aload_n 0, 1) := by decide +kernel
theorem dJx40b00_toChars1_cabcc_51 : decode cJx40b00_toChars1_cabcc 51 = .ok (.bipush 46, 2) := by decide +kernel
theorem dJx40b00_toChars1_cabcc_53 : decode cJx40b00_toChars1_cabcc 53 = .ok (.invokevirtual 69, 3) := by decide +kernel
theorem dJx40b00_toChars1_cabcc_56 : decode cJx40b00_toChars1_cabcc 56 = .ok (.iload 6, 2) := by decide +kernel
theorem dJx40b00_toChars1_cabcc_58 : decode cJx40b00_toChars1_cabcc 58 = .ok (.bipush 8, 2) := by decide +kernel
theorem dJx40b00_toChars1_cabcc_60 : decode cJx40b00_toChars1_cabcc 60 = .ok (.if_icmp .gt 32, 3) := by decide +kernel
theorem dJx40b00_toChars1_cabcc_63 : decode cJx40b00_toChars1_cabcc 63 = .ok (.bipush 10, 2) := by decide +kernel
theorem dJx40b00_toChars1_cabcc_65 : decode cJx40b00_toChars1_cabcc 65 = .ok (.iload 4, 2) := by decide +kernel
theorem dJx40b00_toChars1_cabcc_67 : decode cJx40b00_toChars1_cabcc 67 = .ok (.imul, 1) := by decide +kernel
theorem dJx40b00_toChars1_cabcc_68 : decode cJx40b00_toChars1_cabcc 68 = .ok (.istore 5, 2) := by decide +kernel
theorem dJx40b00_toChars1_cabcc_70 : decode cJx40b00_toChars1_cabcc 70 = .ok (.aload_n 0, 1) := by decide +kernel
theorem dJx40b00_toChars1_cabcc_71 : decode cJx40b00_toChars1_cabcc 71 = .ok (.iload 5, 2) := by decide +kernel
theorem dJx40b00_toChars1_cabcc_73 : decode cJx40b00_toChars1_cabcc 73 = .ok (.bipush 28, 2) := by decide +kernel
theorem dJx40b00_toChars1_cabcc_75 : decode cJx40b00_toChars1_cabcc 75 = .ok (.iushr, 1) := by decide +kernel
theorem dJx40b00_toChars1_cabcc_76 : decode cJx40b00_toChars1_cabcc 76 = .ok (.invokevirtual 132, 3) := by decide +kernel
theorem dJx40b00_toChars1_cabcc_79 : decode cJx40b00_toChars1_cabcc 79 = .ok (.iload 5, 2) := by decide +kernel
theorem dJx40b00_toChars1_cabcc_81 : decode cJx40b00_toChars1_cabcc 81 = .ok (.ldc 138, 2) := by decide +kernel
theorem dJx40b00_toChars1_cabcc_83 : decode cJx40b00_toChars1_cabcc 83 = .ok (.iand, 1) := by decide +kernel
theorem dJx40b00_toChars1_cabcc_84 : decode cJx40b00_toChars1_cabcc 84 = .ok (.istore 4, 2) := by decide +kernel
theorem dJx40b00_toChars1_cabcc_86 : decode cJx40b00_toChars1_cabcc 86 = .ok (.iinc 6 1, 3) := by decide +kernel
theorem dJx40b00_toChars1_cabcc_89 : decode cJx40b00_toChars1_cabcc 89 = .ok (.goto (-33), 3) := by decide +kernel
theorem dJx40b00_toChars1_cabcc_92 : decode cJx40b00_toChars1_cabcc 92 = .ok (.aload_n 0, 1) := by decide +kernel
theorem dJx40b00_toChars1_cabcc_93 : decode cJx40b00_toChars1_cabcc 93 = .ok (.invokevirtual 139, 3) := by decide +kernel
theorem dJx40b00_toChars1_cabcc_96 : decode cJx40b00_toChars1_cabcc 96 = .ok (.iconst 0, 1) := by decide +kernel
theorem dJx40b00_toChars1_cabcc_97 : decode cJx40b00_toChars1_cabcc 97 = .ok (.ireturn, 1) := by decide +kernel
theorem dJx40b00_toChars2_cabcc_0 : decode cJx40b00_toChars2_cabcc 0 = .ok (.aload_n 0, 1) := by decide +kernel
theorem dJx40b00_toChars2_cabcc_1 : decode cJx40b00_toChars2_cabcc 1 = .ok (.iconst 0, 1) := by decide +kernel
theorem dJx40b00_toChars2_cabcc_2 : decode cJx40b00_toChars2_cabcc 2 = .ok (.invokevirtual 132, 3) := by decide +kernel
theorem dJx40b00_toChars2_cabcc_5 : decode cJx40b00_toChars2_cabcc 5 = .ok (.aload_n 0, 1) := by decide +kernel
theorem dJx40b00_toChars2_cabcc_6 : decode cJx40b00_toChars2_cabcc 6 = .ok (.bipush 46, 2) := by decide +kernel
theorem dJx40b00_toChars2_cabcc_8 : decode cJx40b00_toChars2_cabcc 8 = .ok (.invokevirtual 69, 3) := by decide +kernel
theorem dJx40b00_toChars2_cabcc_11 : decode cJx40b00_toChars2_cabcc 11 = .ok (.iload_n 3, 1) := by decide +kernel
theorem dJx40b00_toChars2_cabcc_12 : decode cJx40b00_toChars2_cabcc 12 = .ok (.ifCond .ge 14, 3) := by decide +kernel
theorem dJx40b00_toChars2_cabcc_15 : decode cJx40b00_toChars2_cabcc 15 = .ok (.aload_n 0, 1) := by decide +kernel
theorem dJx40b00_toChars2_cabcc_16 : decode cJx40b00_toChars2_cabcc 16 = .ok (.iconst 0, 1) := by decide +kernel
theorem dJx40b00_toChars2_cabcc_17 : decode cJx40b00_toChars2_cabcc 17 = .ok (.invokevirtual 132, 3) := by decide +kernel
theorem dJx40b00_toChars2_cabcc_20 : decode cJx40b00_toChars2_cabcc 20 = .ok (.iinc 3 1, 3) := by decide +kernel
theorem dJx40b00_toChars2_cabcc_23 : decode cJx40b00_toChars2_cabcc 23 = .ok (.goto (-12), 3) := by decide +kernel
theorem dJx40b00_toChars2_cabcc_26 : decode cJx40b00_toChars2_cabcc 26 = .ok (.aload_n 0, 1) := by decide +kernel
theorem dJx40b00_toChars2_cabcc_27 : decode cJx40b00_toChars2_cabcc 27 = .ok (.iload_n 1, 1) := by decide +kernel
theorem dJx40b00_toChars2_cabcc_28 : decode cJx40b00_toChars2_cabcc 28 = .ok (.invokevirtual 132, 3) := by decide +kernel
theorem dJx40b00_toChars2_cabcc_31 : decode cJx40b00_toChars2_cabcc 31 = .ok (.aload_n 0, 1) := by decide +kernel
theorem dJx40b00_toChars2_cabcc_32 : decode cJx40b00_toChars2_cabcc 32 = .ok (.iload_n 2, 1) := by decide +kernel
theorem dJx40b00_toChars2_cabcc_33 : decode cJx40b00_toChars2_cabcc 33 = .ok (.invokevirtual 142, 3) := by decide +kernel
theorem dJx40b00_toChars2_cabcc_36 : decode cJx40b00_toChars2_cabcc 36 = .ok (.aload_n 0, 1) := by decide +kernel
theorem dJx40b00_toChars2_cabcc_37 : decode cJx40b00_toChars2_cabcc 37 = .ok (.invokevirtual 139, 3) := by decide +kernel
theorem dJx40b00_toChars2_cabcc_40 : decode cJx40b00_toChars2_cabcc 40 = .ok (.iconst 0, 1) := by decide +kernel
theorem dJx40b00_toChars2_cabcc_41 : decode cJx40b00_toChars2_cabcc 41 = .ok (.ireturn, 1) := by decide +kernel
theorem dJx40b00_toChars3_cabcc_0 : decode cJx40b00_toChars3_cabcc 0 = .ok (.aload_n 0, 1) := by decide +kernel
theorem dJx40b00_toChars3_cabcc_1 : decode cJx40b00_toChars3_cabcc 1 = .ok (.iload_n 1, 1) := by decide +kernel
theorem dJx40b00_toChars3_cabcc_2 : decode cJx40b00_toChars3_cabcc 2 = .ok (.invokevirtual 132, 3) := by decide +kernel
theorem dJx40b00_toChars3_cabcc_5 : decode cJx40b00_toChars3_cabcc 5 = .ok (.aload_n 0, 1) := by decide +kernel
theorem dJx40b00_toChars3_cabcc_6 : decode cJx40b00_toChars3_cabcc 6 = .ok (.bipush 46, 2) := by decide +kernel
theorem dJx40b00_toChars3_cabcc_8 : decode cJx40b00_toChars3_cabcc 8 = .ok (.invokevirtual 69, 3) := by decide +kernel
theorem dJx40b00_toChars3_cabcc_11 : decode cJx40b00_toChars3_cabcc 11 = .ok (.aload_n 0, 1) := by decide +kernel
theorem dJx40b00_toChars3_cabcc_12 : decode cJx40b00_toChars3_cabcc 12 = .ok (.iload_n 2, 1) := by decide +kernel
theorem dJx40b00_toChars3_cabcc_13 : decode cJx40b00_toChars3_cabcc 13 = .ok (.invokevirtual 142, 3) := by decide +kernel
theorem dJx40b00_toChars3_cabcc_16 : decode cJx40b00_toChars3_cabcc 16 = .ok (.aload_n 0, 1) := by decide +kernel
theorem dJx40b00_toChars3_cabcc_17 : decode cJx40b00_toChars3_cabcc 17 = .ok (.invokevirtual 139, 3) := by decide +kernel
theorem dJx40b00_toChars3_cabcc_20 : decode cJx40b00_toChars3_cabcc 20 = .ok (.aload_n 0, 1) := by decide +kernel
theorem dJx40b00_toChars3_cabcc_21 : decode cJx40b00_toChars3_cabcc 21 = .ok (.iload_n 3, 1) := by decide +kernel
theorem dJx40b00_toChars3_cabcc_22 : decode cJx40b00_toChars3_cabcc 22 = .ok (.iconst 1, 1) := by decide +kernel
theorem dJx40b00_toChars3_cabcc_23 : decode cJx40b00_toChars3_cabcc 23 = .ok (.isub, 1) := by decide +kernel
theorem dJx40b00_toChars3_cabcc_24 : decode cJx40b00_toChars3_cabcc 24 = .ok (.invokevirtual 145, 3) := by decide +kernel
theorem dJx40b00_toChars3_cabcc_27 : decode cJx40b00_toChars3_cabcc 27 = .ok (.iconst 0, 1) := by decide +kernel
theorem dJx40b00_toChars3_cabcc_28 : decode cJx40b00_toChars3_cabcc 28 = .ok (.ireturn, 1) := by decide +kernel
theorem dJx40b00_append8Digits_d00df_0 : decode cJx40b00_append8Digits_d00df 0 = .ok (.aload_n 0, 1) := by decide +kernel
theorem dJx40b00_append8Digits_d00df_1 : decode cJx40b00_append8Digits_d00df 1 = .ok (.iload_n 1, 1) := by decide +kernel
theorem dJx40b00_append8Digits_d00df_2 : decode cJx40b00_append8Digits_d00df 2 = .ok (.invokevirtual 135, 3) := by decide +kernel
theorem dJx40b00_append8Digits_d00df_5 : decode cJx40b00_append8Digits_d00df 5 = .ok (.istore_n 2, 1) := by decide +kernel
theorem dJx40b00_append8Digits_d00df_6 : decode cJx40b00_append8Digits_d00df 6 = .ok (.iconst 0, 1) := by decide +kernel
theorem dJx40b00_append8Digits_d00df_7 : decode cJx40b00_append8Digits_d00df 7 = .ok (.istore_n 3, 1) := by decide +kernel
theorem dJx40b00_append8Digits_d00df_8 : decode cJx40b00_append8Digits_d00df 8 = .ok (.iload_n 3, 1) := by decide +kernel
theorem dJx40b00_append8Digits_d00df_9 : decode cJx40b00_append8Digits_d00df 9 = .ok (.bipush 8, 2) := by decide +kernel
theorem dJx40b00_append8Digits_d00df_11 : decode cJx40b00_append8Digits_d00df 11 = .ok (.if_icmp .ge 30, 3) := by decide +kernel
theorem dJx40b00_append8Digits_d00df_14 : decode cJx40b00_append8Digits_d00df 14 = .ok (.bipush 10, 2) := by decide +kernel
theorem dJx40b00_append8Digits_d00df_16 : decode cJx40b00_append8Digits_d00df 16 = .ok (.iload_n 2, 1) := by decide +kernel
theorem dJx40b00_append8Digits_d00df_17 : decode cJx40b00_append8Digits_d00df 17 = .ok (.imul, 1) := by decide +kernel
theorem dJx40b00_append8Digits_d00df_18 : decode cJx40b00_append8Digits_d00df 18 = .ok (.istore 4, 2) := by decide +kernel
theorem dJx40b00_append8Digits_d00df_20 : decode cJx40b00_append8Digits_d00df 20 = .ok (.aload_n 0, 1) := by decide +kernel
theorem dJx40b00_append8Digits_d00df_21 : decode cJx40b00_append8Digits_d00df 21 = .ok (.iload 4, 2) := by decide +kernel
theorem dJx40b00_append8Digits_d00df_23 : decode cJx40b00_append8Digits_d00df 23 = .ok (.bipush 28, 2) := by decide +kernel
theorem dJx40b00_append8Digits_d00df_25 : decode cJx40b00_append8Digits_d00df 25 = .ok (.iushr, 1) := by decide +kernel
theorem dJx40b00_append8Digits_d00df_26 : decode cJx40b00_append8Digits_d00df 26 = .ok (.invokevirtual 132, 3) := by decide +kernel
theorem dJx40b00_append8Digits_d00df_29 : decode cJx40b00_append8Digits_d00df 29 = .ok (.iload 4, 2) := by decide +kernel
theorem dJx40b00_append8Digits_d00df_31 : decode cJx40b00_append8Digits_d00df 31 = .ok (.ldc 138, 2) := by decide +kernel
theorem dJx40b00_append8Digits_d00df_33 : decode cJx40b00_append8Digits_d00df 33 = .ok (.iand, 1) := by decide +kernel
theorem dJx40b00_append8Digits_d00df_34 : decode cJx40b00_append8Digits_d00df 34 = .ok (.istore_n 2, 1) := by decide +kernel
theorem dJx40b00_append8Digits_d00df_35 : decode cJx40b00_append8Digits_d00df 35 = .ok (.iinc 3 1, 3) := by decide +kernel
theorem dJx40b00_append8Digits_d00df_38 : decode cJx40b00_append8Digits_d00df 38 = .ok (.goto (-30), 3) := by decide +kernel
theorem dJx40b00_append8Digits_d00df_41 : decode cJx40b00_append8Digits_d00df 41 = .ok (.return_, 1) := by decide +kernel
theorem dJx40b00_removeTrailingZeroes_da8c8_0 : decode cJx40b00_removeTrailingZeroes_da8c8 0 = .ok (.aload_n 0, 1) := by decide +kernel
theorem dJx40b00_removeTrailingZeroes_da8c8_1 : decode cJx40b00_removeTrailingZeroes_da8c8 1 = .ok (.getfield 11, 3) := by decide +kernel
theorem dJx40b00_removeTrailingZeroes_da8c8_4 : decode cJx40b00_removeTrailingZeroes_da8c8 4 = .ok (.aload_n 0, 1) := by decide +kernel
theorem dJx40b00_removeTrailingZeroes_da8c8_5 : decode cJx40b00_removeTrailingZeroes_da8c8 5 = .ok (.getfield 42, 3) := by decide +kernel
theorem dJx40b00_removeTrailingZeroes_da8c8_8 : decode cJx40b00_removeTrailingZeroes_da8c8 8 = .ok (.baload, 1) := by decide +kernel
theorem dJx40b00_removeTrailingZeroes_da8c8_9 : decode cJx40b00_removeTrailingZeroes_da8c8 9 = .ok (.bipush 48, 2) := by decide +kernel
theorem dJx40b00_removeTrailingZeroes_da8c8_11 : decode cJx40b00_removeTrailingZeroes_da8c8 11 = .ok (.if_icmp .ne 16, 3) := by decide +kernel
theorem dJx40b00_removeTrailingZeroes_da8c8_14 : decode cJx40b00_removeTrailingZeroes_da8c8 14 = .ok (.aload_n 0, 1) := by decide +kernel
theorem dJx40b00_removeTrailingZeroes_da8c8_15 : decode cJx40b00_removeTrailingZeroes_da8c8 15 = .ok (.dup, 1) := by decide +kernel
theorem dJx40b00_removeTrailingZeroes_da8c8_16 : decode cJx40b00_removeTrailingZeroes_da8c8 16 = .ok (.getfield 42, 3) := by decide +kernel
theorem dJx40b00_removeTrailingZeroes_da8c8_19 : decode cJx40b00_removeTrailingZeroes_da8c8 19 = .ok (.iconst 1, 1) := by decide +kernel
theorem dJx40b00_removeTrailingZeroes_da8c8_20 : decode cJx40b00_removeTrailingZeroes_da8c8 20 = .ok (.isub, 1) := by decide +kernel
theorem dJx40b00_removeTrailingZeroes_da8c8_21 : decode cJx40b00_removeTrailingZeroes_da8c8 21 = .ok (.putfield 42, 3) := by decide +kernel
theorem dJx40b00_removeTrailingZeroes_da8c8_24 : decode cJx40b00_removeTrailingZeroes_da8c8 24 = .ok (.goto (-24), 3) := by decide +kernel
theorem dJx40b00_removeTrailingZeroes_da8c8_27 : decode cJx40b00_removeTrailingZeroes_da8c8 27 = .ok (.aload_n 0, 1) := by decide +kernel
theorem dJx40b00_removeTrailingZeroes_da8c8_28 : decode cJx40b00_removeTrailingZeroes_da8c8 28 = .ok (.getfield 11, 3) := by decide +kernel
theorem dJx40b00_removeTrailingZeroes_da8c8_31 : decode cJx40b00_removeTrailingZeroes_da8c8 31 = .ok (.aload_n 0, 1) := by decide +kernel
theorem dJx40b00_removeTrailingZeroes_da8c8_32 : decode cJx40b00_removeTrailingZeroes_da8c8 32 = .ok (.getfield 42, 3) := by decide +kernel
theorem dJx40b00_removeTrailingZeroes_da8c8_35 : decode cJx40b00_removeTrailingZeroes_da8c8 35 = .ok (.baload, 1) := by decide +kernel
theorem dJx40b00_removeTrailingZeroes_da8c8_36 : decode cJx40b00_removeTrailingZeroes_da8c8 36 = .ok (.bipush 46, 2) := by decide +kernel
theorem dJx40b00_removeTrailingZeroes_da8c8_38 : decode cJx40b00_removeTrailingZeroes_da8c8 38 = .ok (.if_icmp .ne 13, 3) := by decide +kernel
theorem dJx40b00_removeTrailingZeroes_da8c8_41 : decode cJx40b00_removeTrailingZeroes_da8c8 41 = .ok (.aload_n 0, 1) := by decide +kernel
theorem dJx40b00_removeTrailingZeroes_da8c8_42 : decode cJx40b00_removeTrailingZeroes_da8c8 42 = .ok (.dup, 1) := by decide +kernel
theorem dJx40b00_removeTrailingZeroes_da8c8_43 : decode cJx40b00_removeTrailingZeroes_da8c8 43 = .ok (.getfield 42, 3) := by decide +kernel
theorem dJx40b00_removeTrailingZeroes_da8c8_46 : decode cJx40b00_removeTrailingZeroes_da8c8 46 = .ok (.iconst 1, 1) := by decide +kernel
theorem dJx40b00_removeTrailingZeroes_da8c8_47 : decode cJx40b00_removeTrailingZeroes_da8c8 47 = .ok (.iadd, 1) := by decide +kernel
theorem dJx40b00_removeTrailingZeroes_da8c8_48 : decode cJx40b00_removeTrailingZeroes_da8c8 48 = .ok (.putfield 42, 3) := by decide +kernel
theorem dJx40b00_removeTrailingZeroes_da8c8_51 : decode cJx40b00_removeTrailingZeroes_da8c8 51 = .ok (.return_, 1) := by decide +kernel
theorem dJx40b00_y_0f7a4_0 : decode cJx40b00_y_0f7a4 0 = .ok (.iload_n 1, 1) := by decide +kernel
theorem dJx40b00_y_0f7a4_1 : decode cJx40b00_y_0f7a4 1 = .ok (.iconst 1, 1) := by decide +kernel
theorem dJx40b00_y_0f7a4_2 : decode cJx40b00_y_0f7a4 2 = .ok (.iadd, 1) := by decide +kernel
theorem dJx40b00_y_0f7a4_3 : decode cJx40b00_y_0f7a4 3 = .ok (.i2l, 1) := by decide +kernel
theorem dJx40b00_y_0f7a4_4 : decode cJx40b00_y_0f7a4 4 = .ok (.bipush 28, 2) := by decide +kernel
theorem dJx40b00_y_0f7a4_6 : decode cJx40b00_y_0f7a4 6 = .ok (.lshl, 1) := by decide +kernel
theorem dJx40b00_y_0f7a4_7 : decode cJx40b00_y_0f7a4 7 = .ok (.ldc2_w 148, 3) := by decide +kernel
theorem dJx40b00_y_0f7a4_10 : decode cJx40b00_y_0f7a4 10 = .ok (.invokestatic 104, 3) := by decide +kernel
theorem dJx40b00_y_0f7a4_13 : decode cJx40b00_y_0f7a4 13 = .ok (.bipush 20, 2) := by decide +kernel
theorem dJx40b00_y_0f7a4_15 : decode cJx40b00_y_0f7a4 15 = .ok (.lushr, 1) := by decide +kernel
theorem dJx40b00_y_0f7a4_16 : decode cJx40b00_y_0f7a4 16 = .ok (.l2i, 1) := by decide +kernel
theorem dJx40b00_y_0f7a4_17 : decode cJx40b00_y_0f7a4 17 = .ok (.iconst 1, 1) := by decide +kernel
theorem dJx40b00_y_0f7a4_18 : decode cJx40b00_y_0f7a4 18 = .ok (.isub, 1) := by decide +kernel
theorem dJx40b00_y_0f7a4_19 : decode cJx40b00_y_0f7a4 19 = .ok (.ireturn, 1) := by decide +kernel
theorem dJx40b00_exponent_d00df_0 : decode cJx40b00_exponent_d00df 0 = .ok (.aload_n 0, 1) := by decide +kernel
theorem dJx40b00_exponent_d00df_1 : decode cJx40b00_exponent_d00df 1 = .ok (.bipush 69, 2) := by decide +kernel
theorem dJx40b00_exponent_d00df_3 : decode cJx40b00_exponent_d00df 3 = .ok (.invokevirtual 69, 3) := by decide +kernel
theorem dJx40b00_exponent_d00df_6 : decode cJx40b00_exponent_d00df 6 = .ok (.iload_n 1, 1) := by decide +kernel
theorem dJx40b00_exponent_d00df_7 : decode cJx40b00_exponent_d00df 7 = .ok (.ifCond .ge 12, 3) := by decide +kernel
theorem dJx40b00_exponent_d00df_10 : decode cJx40b00_exponent_d00df 10 = .ok (.aload_n 0, 1) := by decide +kernel
theorem dJx40b00_exponent_d00df_11 : decode cJx40b00_exponent_d00df 11 = .ok (.bipush 45, 2) := by decide +kernel
theorem dJx40b00_exponent_d00df_13 : decode cJx40b00_exponent_d00df 13 = .ok (.invokevirtual 69, 3) := by decide +kernel
theorem dJx40b00_exponent_d00df_16 : decode cJx40b00_exponent_d00df 16 = .ok (.iload_n 1, 1) := by decide +kernel
theorem dJx40b00_exponent_d00df_17 : decode cJx40b00_exponent_d00df 17 = .ok (.ineg, 1) := by decide +kernel
theorem dJx40b00_exponent_d00df_18 : decode cJx40b00_exponent_d00df 18 = .ok (.istore_n 1, 1) := by decide +kernel
theorem dJx40b00_exponent_d00df_19 : decode cJx40b00_exponent_d00df 19 = .ok (.iload_n 1, 1) := by decide +kernel
theorem dJx40b00_exponent_d00df_20 : decode cJx40b00_exponent_d00df 20 = .ok (.bipush 10, 2) := by decide +kernel
theorem dJx40b00_exponent_d00df_22 : decode cJx40b00_exponent_d00df 22 = .ok (.if_icmp .ge 9, 3) := by decide +kernel
theorem dJx40b00_exponent_d00df_25 : decode cJx40b00_exponent_d00df 25 = .ok (.aload_n 0, 1) := by decide +kernel
theorem dJx40b00_exponent_d00df_26 : decode cJx40b00_exponent_d00df 26 = .ok (.iload_n 1, 1) := by decide +kernel
theorem dJx40b00_exponent_d00df_27 : decode cJx40b00_exponent_d00df 27 = .ok (.invokevirtual 132, 3) := by decide +kernel
theorem dJx40b00_exponent_d00df_30 : decode cJx40b00_exponent_d00df 30 = .ok (.return_, 1) := by decide +kernel
theorem dJx40b00_exponent_d00df_31 : decode cJx40b00_exponent_d00df 31 = .ok (.iload_n 1, 1) := by decide +kernel
theorem dJx40b00_exponent_d00df_32 : decode cJx40b00_exponent_d00df 32 = .ok (.bipush 103, 2) := by decide +kernel
theorem dJx40b00_exponent_d00df_34 : decode cJx40b00_exponent_d00df 34 = .ok (.imul, 1) := by decide +kernel
theorem dJx40b00_exponent_d00df_35 : decode cJx40b00_exponent_d00df 35 = .ok (.bipush 10, 2) := by decide +kernel
theorem dJx40b00_exponent_d00df_37 : decode cJx40b00_exponent_d00df 37 = .ok (.iushr, 1) := by decide +kernel
theorem dJx40b00_exponent_d00df_38 : decode cJx40b00_exponent_d00df 38 = .ok (.istore_n 2, 1) := by decide +kernel
theorem dJx40b00_exponent_d00df_39 : decode cJx40b00_exponent_d00df 39 = .ok (.aload_n 0, 1) := by decide +kernel
theorem dJx40b00_exponent_d00df_40 : decode cJx40b00_exponent_d00df 40 = .ok (.iload_n 2, 1) := by decide +kernel
theorem dJx40b00_exponent_d00df_41 : decode cJx40b00_exponent_d00df 41 = .ok (.invokevirtual 132, 3) := by decide +kernel
theorem dJx40b00_exponent_d00df_44 : decode cJx40b00_exponent_d00df 44 = .ok (.aload_n 0, 1) := by decide +kernel
theorem dJx40b00_exponent_d00df_45 : decode cJx40b00_exponent_d00df 45 = .ok (.iload_n 1, 1) := by decide +kernel
theorem dJx40b00_exponent_d00df_46 : decode cJx40b00_exponent_d00df 46 = .ok (.bipush 10, 2) := by decide +kernel
theorem dJx40b00_exponent_d00df_48 : decode cJx40b00_exponent_d00df 48 = .ok (.iload_n 2, 1) := by decide +kernel
theorem dJx40b00_exponent_d00df_49 : decode cJx40b00_exponent_d00df 49 = .ok (.imul, 1) := by decide +kernel
theorem dJx40b00_exponent_d00df_50 : decode cJx40b00_exponent_d00df 50 = .ok (.isub, 1) := by decide +kernel
theorem dJx40b00_exponent_d00df_51 : decode cJx40b00_exponent_d00df 51 = .ok (.invokevirtual 132, 3) := by decide +kernel
theorem dJx40b00_exponent_d00df_54 : decode cJx40b00_exponent_d00df 54 = .ok (.return_, 1) := by decide +kernel
theorem dJx40b00_append_d00df_0 : decode cJx40b00_append_d00df 0 = .ok (.aload_n 0, 1) := by decide +kernel
theorem dJx40b00_append_d00df_1 : decode cJx40b00_append_d00df 1 = .ok (.getfield 11, 3) := by decide +kernel
theorem dJx40b00_append_d00df_4 : decode cJx40b00_append_d00df 4 = .ok (.aload_n 0, 1) := by decide +kernel
theorem dJx40b00_append_d00df_5 : decode cJx40b00_append_d00df 5 = .ok (.dup, 1) := by decide +kernel
theorem dJx40b00_append_d00df_6 : decode cJx40b00_append_d00df 6 = .ok (.getfield 42, 3) := by decide +kernel
theorem dJx40b00_append_d00df_9 : decode cJx40b00_append_d00df 9 = .ok (.iconst 1, 1) := by decide +kernel
theorem dJx40b00_append_d00df_10 : decode cJx40b00_append_d00df 10 = .ok (.iadd, 1) := by decide +kernel
theorem dJx40b00_append_d00df_11 : decode cJx40b00_append_d00df 11 = .ok (.dup_x1, 1) := by decide +kernel
theorem dJx40b00_append_d00df_12 : decode cJx40b00_append_d00df 12 = .ok (.putfield 42, 3) := by decide +kernel
theorem dJx40b00_append_d00df_15 : decode cJx40b00_append_d00df 15 = .ok (.iload_n 1, 1) := by decide +kernel
theorem dJx40b00_append_d00df_16 : decode cJx40b00_append_d00df 16 = .ok (.i2b, 1) := by decide +kernel
theorem dJx40b00_append_d00df_17 : decode cJx40b00_append_d00df 17 = .ok (.bastore, 1) := by decide +kernel
theorem dJx40b00_append_d00df_18 : decode cJx40b00_append_d00df 18 = .ok (.return_, 1) := by decide +kernel
theorem dJx40b00_appendDigit_d00df_0 : decode cJx40b00_appendDigit_d00df 0 = .ok (.aload_n 0, 1) := by decide +kernel
theorem dJx40b00_appendDigit_d00df_1 : decode cJx40b00_appendDigit_d00df 1 = .ok (.getfield 11, 3) := by decide +kernel
theorem dJx40b00_appendDigit_d00df_4 : decode cJx40b00_appendDigit_d00df 4 = .ok (.aload_n 0, 1) := by decide +kernel
theorem dJx40b00_appendDigit_d00df_5 : decode cJx40b00_appendDigit_d00df 5 = .ok (.dup, 1) := by decide +kernel
theorem dJx40b00_appendDigit_d00df_6 : decode cJx40b00_appendDigit_d00df 6 = .ok (.getfield 42, 3) := by decide +kernel
theorem dJx40b00_appendDigit_d00df_9 : decode cJx40b00_appendDigit_d00df 9 = .ok (.iconst 1, 1) := by decide +kernel
theorem dJx40b00_appendDigit_d00df_10 : decode cJx40b00_appendDigit_d00df 10 = .ok (.iadd, 1) := by decide +kernel
theorem dJx40b00_appendDigit_d00df_11 : decode cJx40b00_appendDigit_d00df 11 = .ok (.dup_x1, 1) := by decide +kernel
theorem dJx40b00_appendDigit_d00df_12 : decode cJx40b00_appendDigit_d00df 12 = .ok (.putfield 42, 3) := by decide +kernel
theorem dJx40b00_appendDigit_d00df_15 : decode cJx40b00_appendDigit_d00df 15 = .ok (.bipush 48, 2) := by decide +kernel
theorem dJx40b00_appendDigit_d00df_17 : decode cJx40b00_appendDigit_d00df 17 = .ok (.iload_n 1, 1) := by decide +kernel
theorem dJx40b00_appendDigit_d00df_18 : decode cJx40b00_appendDigit_d00df 18 = .ok (.iadd, 1) := by decide +kernel
theorem dJx40b00_appendDigit_d00df_19 : decode cJx40b00_appendDigit_d00df 19 = .ok (.i2b, 1) := by decide +kernel
theorem dJx40b00_appendDigit_d00df_20 : decode cJx40b00_appendDigit_d00df 20 = .ok (.bastore, 1) := by decide +kernel
theorem dJx40b00_appendDigit_d00df_21 : decode cJx40b00_appendDigit_d00df 21 = .ok (.return_, 1) := by decide +kernel
theorem dJx5991d_set_6c0ba_0 : decode cJx5991d_set_6c0ba 0 = .ok (.aload_n 0, 1) := by decide +kernel
theorem dJx5991d_set_6c0ba_1 : decode cJx5991d_set_6c0ba 1 = .ok (.lload_n 1, 1) := by decide +kernel
theorem dJx5991d_set_6c0ba_2 : decode cJx5991d_set_6c0ba 2 = .ok (.putfield 45, 3) := by decide +kernel
theorem dJx5991d_set_6c0ba_5 : decode cJx5991d_set_6c0ba 5 = .ok (.aload_n 0, 1) := by decide +kernel
theorem dJx5991d_set_6c0ba_6 : decode cJx5991d_set_6c0ba 6 = .ok (.iload_n 3, 1) := by decide +kernel
theorem dJx5991d_set_6c0ba_7 : decode cJx5991d_set_6c0ba 7 = .ok (.putfield 49, 3) := by decide +kernel
theorem dJx5991d_set_6c0ba_10 : decode cJx5991d_set_6c0ba 10 = .ok (.aload_n 0, 1) := by decide +kernel
theorem dJx5991d_set_6c0ba_11 : decode cJx5991d_set_6c0ba 11 = .ok (.iload 4, 2) := by decide +kernel
theorem dJx5991d_set_6c0ba_13 : decode cJx5991d_set_6c0ba 13 = .ok (.putfield 53, 3) := by decide +kernel
theorem dJx5991d_set_6c0ba_16 : decode cJx5991d_set_6c0ba 16 = .ok (.return_, 1) := by decide +kernel
theorem dJx25f51_pow10_3e8ac_0 : decode cJx25f51_pow10_3e8ac 0 = .ok (.getstatic 14, 3) := by decide +kernel
theorem dJx25f51_pow10_3e8ac_3 : decode cJx25f51_pow10_3e8ac 3 = .ok (.iload_n 0, 1) := by decide +kernel
theorem dJx25f51_pow10_3e8ac_4 : decode cJx25f51_pow10_3e8ac 4 = .ok (.laload, 1) := by decide +kernel
theorem dJx25f51_pow10_3e8ac_5 : decode cJx25f51_pow10_3e8ac 5 = .ok (.lreturn, 1) := by decide +kernel
theorem dJx25f51_flog10pow2_0f7a4_0 : decode cJx25f51_flog10pow2_0f7a4 0 = .ok (.iload_n 0, 1) := by decide +kernel
theorem dJx25f51_flog10pow2_0f7a4_1 : decode cJx25f51_flog10pow2_0f7a4 1 = .ok (.i2l, 1) := by decide +kernel
theorem dJx25f51_flog10pow2_0f7a4_2 : decode cJx25f51_flog10pow2_0f7a4 2 = .ok (.ldc2_w 20, 3) := by decide +kernel
theorem dJx25f51_flog10pow2_0f7a4_5 : decode cJx25f51_flog10pow2_0f7a4 5 = .ok (.lmul, 1) := by decide +kernel
theorem dJx25f51_flog10pow2_0f7a4_6 : decode cJx25f51_flog10pow2_0f7a4 6 = .ok (.bipush 41, 2) := by decide +kernel
theorem dJx25f51_flog10pow2_0f7a4_8 : decode cJx25f51_flog10pow2_0f7a4 8 = .ok (.lshr, 1) := by decide +kernel
theorem dJx25f51_flog10pow2_0f7a4_9 : decode cJx25f51_flog10pow2_0f7a4 9 = .ok (.l2i, 1) := by decide +kernel
theorem dJx25f51_flog10pow2_0f7a4_10 : decode cJx25f51_flog10pow2_0f7a4 10 = .ok (.ireturn, 1) := by decide +kernel
theorem dJx25f51_flog10threeQuartersPow2_0f7a4_0 : decode cJx25f51_flog10threeQuartersPow2_0f7a4 0 = .ok (.iload_n 0, 1) := by decide +kernel
theorem dJx25f51_flog10threeQuartersPow2_0f7a4_1 : decode cJx25f51_flog10threeQuartersPow2_0f7a4 1 = .ok (.i2l, 1) := by decide +kernel
theorem dJx25f51_flog10threeQuartersPow2_0f7a4_2 : decode cJx25f51_flog10threeQuartersPow2_0f7a4 2 = .ok (.ldc2_w 20, 3) := by decide +kernel
theorem dJx25f51_flog10threeQuartersPow2_0f7a4_5 : decode cJx25f51_flog10threeQuartersPow2_0f7a4 5 = .ok (.lmul, 1) := by decide +kernel
theorem dJx25f51_flog10threeQuartersPow2_0f7a4_6 : decode cJx25f51_flog10threeQuartersPow2_0f7a4 6 = .ok (.ldc2_w 22, 3) := by decide +kernel
theorem dJx25f51_flog10threeQuartersPow2_0f7a4_9 : decode cJx25f51_flog10threeQuartersPow2_0f7a4 9 = .ok (.ladd, 1) := by decide +kernel
theorem dJx25f51_flog10threeQuartersPow2_0f7a4_10 : decode cJx25f51_flog10threeQuartersPow2_0f7a4 10 = .ok (.bipush 41, 2) := by decide +kernel
theorem dJx25f51_flog10threeQuartersPow2_0f7a4_12 : decode cJx25f51_flog10threeQuartersPow2_0f7a4 12 = .ok (.lshr, 1) := by decide +kernel
theorem dJx25f51_flog10threeQuartersPow2_0f7a4_13 : decode cJx25f51_flog10threeQuartersPow2_0f7a4 13 = .ok (.l2i, 1) := by decide +kernel
theorem dJx25f51_flog10threeQuartersPow2_0f7a4_14 : decode cJx25f51_flog10threeQuartersPow2_0f7a4 14 = .ok (.ireturn, 1) := by decide +kernel
theorem dJx25f51_flog2pow10_0f7a4_0 : decode cJx25f51_flog2pow10_0f7a4 0 = .ok (.iload_n 0, 1) := by decide +kernel
theorem dJx25f51_flog2pow10_0f7a4_1 : decode cJx25f51_flog2pow10_0f7a4 1 = .ok (.i2l, 1) := by decide +kernel
theorem dJx25f51_flog2pow10_0f7a4_2 : decode cJx25f51_flog2pow10_0f7a4 2 = .ok (.ldc2_w 24, 3) := by decide +kernel
theorem dJx25f51_flog2pow10_0f7a4_5 : decode cJx25f51_flog2pow10_0f7a4 5 = .ok (.lmul, 1) := by decide +kernel
theorem dJx25f51_flog2pow10_0f7a4_6 : decode cJx25f51_flog2pow10_0f7a4 6 = .ok (.bipush 38, 2) := by decide +kernel
theorem dJx25f51_flog2pow10_0f7a4_8 : decode cJx25f51_flog2pow10_0f7a4 8 = .ok (.lshr, 1) := by decide +kernel
theorem dJx25f51_flog2pow10_0f7a4_9 : decode cJx25f51_flog2pow10_0f7a4 9 = .ok (.l2i, 1) := by decide +kernel
theorem dJx25f51_flog2pow10_0f7a4_10 : decode cJx25f51_flog2pow10_0f7a4 10 = .ok (.ireturn, 1) := by decide +kernel
theorem dJx25f51_g1_3e8ac_0 : decode cJx25f51_g1_3e8ac 0 = .ok (.getstatic 26, 3) := by decide +kernel
theorem dJx25f51_g1_3e8ac_3 : decode cJx25f51_g1_3e8ac 3 = .ok (.iload_n 0, 1) := by decide +kernel
theorem dJx25f51_g1_3e8ac_4 : decode cJx25f51_g1_3e8ac 4 = .ok (.sipush (-324), 3) := by decide +kernel
theorem dJx25f51_g1_3e8ac_7 : decode cJx25f51_g1_3e8ac 7 = .ok (.isub, 1) := by decide +kernel
theorem dJx25f51_g1_3e8ac_8 : decode cJx25f51_g1_3e8ac 8 = .ok (.iconst 1, 1) := by decide +kernel
theorem dJx25f51_g1_3e8ac_9 : decode cJx25f51_g1_3e8ac 9 = .ok (.ishl, 1) := by decide +kernel
theorem dJx25f51_g1_3e8ac_10 : decode cJx25f51_g1_3e8ac 10 = .ok (.laload, 1) := by decide +kernel
theorem dJx25f51_g1_3e8ac_11 : decode cJx25f51_g1_3e8ac 11 = .ok (.lreturn, 1) := by decide +kernel
theorem dJx25f51_g0_3e8ac_0 : decode cJx25f51_g0_3e8ac 0 = .ok (.getstatic 26, 3) := by decide +kernel
theorem dJx25f51_g0_3e8ac_3 : decode cJx25f51_g0_3e8ac 3 = .ok (.iload_n 0, 1) := by decide +kernel
theorem dJx25f51_g0_3e8ac_4 : decode cJx25f51_g0_3e8ac 4 = .ok (.sipush (-324), 3) := by decide +kernel
theorem dJx25f51_g0_3e8ac_7 : decode cJx25f51_g0_3e8ac 7 = .ok (.isub, 1) := by decide +kernel
theorem dJx25f51_g0_3e8ac_8 : decode cJx25f51_g0_3e8ac 8 = .ok (.iconst 1, 1) := by decide +kernel
theorem dJx25f51_g0_3e8ac_9 : decode cJx25f51_g0_3e8ac 9 = .ok (.ishl, 1) := by decide +kernel
theorem dJx25f51_g0_3e8ac_10 : decode cJx25f51_g0_3e8ac 10 = .ok (.iconst 1, 1) := by decide +kernel
theorem dJx25f51_g0_3e8ac_11 : decode cJx25f51_g0_3e8ac 11 = .ok (.ior, 1) := by decide +kernel
theorem dJx25f51_g0_3e8ac_12 : decode cJx25f51_g0_3e8ac 12 = .ok (.laload, 1) := by decide +kernel
theorem dJx25f51_g0_3e8ac_13 : decode cJx25f51_g0_3e8ac 13 = .ok (.lreturn, 1) := by decide +kernel
theorem dJ8_newLength_cabcc_0 : decode cJ8_newLength_cabcc 0 = .ok (.iload_n 0, 1) := by decide +kernel
theorem dJ8_newLength_cabcc_1 : decode cJ8_newLength_cabcc 1 = .ok (.iload_n 1, 1) := by decide +kernel
theorem dJ8_newLength_cabcc_2 : decode cJ8_newLength_cabcc 2 = .ok (.iload_n 2, 1) := by decide +kernel
theorem dJ8_newLength_cabcc_3 : decode cJ8_newLength_cabcc 3 = .ok (.invokestatic 194, 3) := by decide +kernel
theorem dJ8_newLength_cabcc_6 : decode cJ8_newLength_cabcc 6 = .ok (.iadd, 1) := by decide +kernel
theorem dJ8_newLength_cabcc_7 : decode cJ8_newLength_cabcc 7 = .ok (.istore_n 3, 1) := by decide +kernel
theorem dJ8_newLength_cabcc_8 : decode cJ8_newLength_cabcc 8 = .ok (.iconst 0, 1) := by decide +kernel
theorem dJ8_newLength_cabcc_9 : decode cJ8_newLength_cabcc 9 = .ok (.iload_n 3, 1) := by decide +kernel
theorem dJ8_newLength_cabcc_10 : decode cJ8_newLength_cabcc 10 = .ok (.if_icmp .ge 11, 3) := by decide +kernel
theorem dJ8_newLength_cabcc_13 : decode cJ8_newLength_cabcc 13 = .ok (.iload_n 3, 1) := by decide +kernel
theorem dJ8_newLength_cabcc_14 : decode cJ8_newLength_cabcc 14 = .ok (.ldc 200, 2) := by decide +kernel
theorem dJ8_newLength_cabcc_16 : decode cJ8_newLength_cabcc 16 = .ok (.if_icmp .gt 5, 3) := by decide +kernel
theorem dJ8_newLength_cabcc_19 : decode cJ8_newLength_cabcc 19 = .ok (.iload_n 3, 1) := by decide +kernel
theorem dJ8_newLength_cabcc_20 : decode cJ8_newLength_cabcc 20 = .ok (.ireturn, 1) := by decide +kernel
theorem dJ8_newLength_cabcc_21 : decode cJ8_newLength_cabcc 21 = .ok (.iload_n 0, 1) := by decide +kernel
theorem dJ8_newLength_cabcc_22 : decode cJ8_newLength_cabcc 22 = .ok (.iload_n 1, 1) := by decide +kernel
theorem dJ8_newLength_cabcc_23 : decode cJ8_newLength_cabcc 23 = .ok (.invokestatic 201, 3) := by decide +kernel
theorem dJ8_newLength_cabcc_26 : decode cJ8_newLength_cabcc 26 = .ok (.ireturn, 1) := by decide +kernel
theorem dJ8_hugeLength_7cf53_0 : decode cJ8_hugeLength_7cf53 0 = .ok (.iload_n 0, 1) := by decide +kernel
theorem dJ8_hugeLength_7cf53_1 : decode cJ8_hugeLength_7cf53 1 = .ok (.iload_n 1, 1) := by decide +kernel
theorem dJ8_hugeLength_7cf53_2 : decode cJ8_hugeLength_7cf53 2 = .ok (.iadd, 1) := by decide +kernel
theorem dJ8_hugeLength_7cf53_3 : decode cJ8_hugeLength_7cf53 3 = .ok (.istore_n 2, 1) := by decide +kernel
theorem dJ8_hugeLength_7cf53_4 : decode cJ8_hugeLength_7cf53 4 = .ok (.iload_n 2, 1) := by decide +kernel
theorem dJ8_hugeLength_7cf53_5 : decode cJ8_hugeLength_7cf53 5 = .ok (.ifCond .ge 44, 3) := by decide +kernel
theorem dJ8_hugeLength_7cf53_8 : decode cJ8_hugeLength_7cf53 8 = .ok (.new 204, 3) := by decide +kernel
theorem dJ8_hugeLength_7cf53_11 : decode cJ8_hugeLength_7cf53 11 = .ok (.dup, 1) := by decide +kernel
theorem dJ8_hugeLength_7cf53_12 : decode cJ8_hugeLength_7cf53 12 = .ok (.new 89, 3) := by decide +kernel
theorem dJ8_hugeLength_7cf53_15 : decode cJ8_hugeLength_7cf53 15 = .ok (.dup, 1) := by decide +kernel
theorem dJ8_hugeLength_7cf53_16 : decode cJ8_hugeLength_7cf53 16 = .ok (.invokespecial 91, 3) := by decide +kernel
theorem dJ8_hugeLength_7cf53_19 : decode cJ8_hugeLength_7cf53 19 = .ok (.ldc 206, 2) := by decide +kernel
theorem dJ8_hugeLength_7cf53_21 : decode cJ8_hugeLength_7cf53 21 = .ok (.invokevirtual 94, 3) := by decide +kernel
theorem dJ8_hugeLength_7cf53_24 : decode cJ8_hugeLength_7cf53 24 = .ok (.iload_n 0, 1) := by decide +kernel
theorem dJ8_hugeLength_7cf53_25 : decode cJ8_hugeLength_7cf53 25 = .ok (.invokevirtual 98, 3) := by decide +kernel
theorem dJ8_hugeLength_7cf53_28 : decode cJ8_hugeLength_7cf53 28 = .ok (.ldc 208, 2) := by decide +kernel
theorem dJ8_hugeLength_7cf53_30 : decode cJ8_hugeLength_7cf53 30 = .ok (.invokevirtual 94, 3) := by decide +kernel
theorem dJ8_hugeLength_7cf53_33 : decode cJ8_hugeLength_7cf53 33 = .ok (.iload_n 1, 1) := by decide +kernel
theorem dJ8_hugeLength_7cf53_34 : decode cJ8_hugeLength_7cf53 34 = .ok (.invokevirtual 98, 3) := by decide +kernel
theorem dJ8_hugeLength_7cf53_37 : decode cJ8_hugeLength_7cf53 37 = .ok (.ldc 210, 2) := by decide +kernel
theorem dJ8_hugeLength_7cf53_39 : decode cJ8_hugeLength_7cf53 39 = .ok (.invokevirtual 94, 3) := by decide +kernel
theorem dJ8_hugeLength_7cf53_42 : decode cJ8_hugeLength_7cf53 42 = .ok (.invokevirtual 101, 3) := by decide +kernel
theorem dJ8_hugeLength_7cf53_45 : decode cJ8_hugeLength_7cf53 45 = .ok (.invokespecial 212, 3) := by decide +kernel
theorem dJ8_hugeLength_7cf53_48 : decode cJ8_hugeLength_7cf53 48 = .ok (.athrow, 1) := by decide +kernel
theorem dJ8_hugeLength_7cf53_49 : decode cJ8_hugeLength_7cf53 49 = .ok (.iload_n 2, 1) := by decide +kernel
theorem dJ8_hugeLength_7cf53_50 : decode cJ8_hugeLength_7cf53 50 = .ok (.ldc 200, 2) := by decide +kernel
theorem dJ8_hugeLength_7cf53_52 : decode cJ8_hugeLength_7cf53 52 = .ok (.if_icmp .gt 6, 3) := by decide +kernel
theorem dJ8_hugeLength_7cf53_55 : decode cJ8_hugeLength_7cf53 55 = .ok (.ldc 200, 2) := by decide +kernel
theorem dJ8_hugeLength_7cf53_57 : decode cJ8_hugeLength_7cf53 57 = .ok (.ireturn, 1) := by decide +kernel
theorem dJ8_hugeLength_7cf53_58 : decode cJ8_hugeLength_7cf53 58 = .ok (.iload_n 2, 1) := by decide +kernel
theorem dJ8_hugeLength_7cf53_59 : decode cJ8_hugeLength_7cf53 59 = .ok (.ireturn, 1) := by decide +kernel
theorem dJ3_checkIndex_8e157_0 : decode cJ3_checkIndex_8e157 0 = .ok (.iload_n 0, 1) := by decide +kernel
theorem dJ3_checkIndex_8e157_1 : decode cJ3_checkIndex_8e157 1 = .ok (.ifCond .lt 8, 3) := by decide +kernel
theorem dJ3_checkIndex_8e157_4 : decode cJ3_checkIndex_8e157 4 = .ok (.iload_n 0, 1) := by decide +kernel
theorem dJ3_checkIndex_8e157_5 : decode cJ3_checkIndex_8e157 5 = .ok (.iload_n 1, 1) := by decide +kernel
theorem dJ3_checkIndex_8e157_6 : decode cJ3_checkIndex_8e157 6 = .ok (.if_icmp .lt 10, 3) := by decide +kernel
theorem dJ3_checkIndex_8e157_9 : decode cJ3_checkIndex_8e157 9 = .ok (.aload_n 2, 1) := by decide +kernel
theorem dJ3_checkIndex_8e157_10 : decode cJ3_checkIndex_8e157 10 = .ok (.iload_n 0, 1) := by decide +kernel
theorem dJ3_checkIndex_8e157_11 : decode cJ3_checkIndex_8e157 11 = .ok (.iload_n 1, 1) := by decide +kernel
theorem dJ3_checkIndex_8e157_12 : decode cJ3_checkIndex_8e157 12 = .ok (.invokestatic 95, 3) := by decide +kernel
theorem dJ3_checkIndex_8e157_15 : decode cJ3_checkIndex_8e157 15 = .ok (.athrow, 1) := by decide +kernel
theorem dJ3_checkIndex_8e157_16 : decode cJ3_checkIndex_8e157 16 = .ok (.iload_n 0, 1) := by decide +kernel
theorem dJ3_checkIndex_8e157_17 : decode cJ3_checkIndex_8e157 17 = .ok (.ireturn, 1) := by decide +kernel
theorem dJ3_checkFromToIndex_8c36e_0 : decode cJ3_checkFromToIndex_8c36e 0 = .ok (.iload_n 0, 1) := by decide +kernel
theorem dJ3_checkFromToIndex_8c36e_1 : decode cJ3_checkFromToIndex_8c36e 1 = .ok (.ifCond .lt 13, 3) := by decide +kernel
theorem dJ3_checkFromToIndex_8c36e_4 : decode cJ3_checkFromToIndex_8c36e 4 = .ok (.iload_n 0, 1) := by decide +kernel
theorem dJ3_checkFromToIndex_8c36e_5 : decode cJ3_checkFromToIndex_8c36e 5 = .ok (.iload_n 1, 1) := by decide +kernel
theorem dJ3_checkFromToIndex_8c36e_6 : decode cJ3_checkFromToIndex_8c36e 6 = .ok (.if_icmp .gt 8, 3) := by decide +kernel
theorem dJ3_checkFromToIndex_8c36e_9 : decode cJ3_checkFromToIndex_8c36e 9 = .ok (.iload_n 1, 1) := by decide +kernel
theorem dJ3_checkFromToIndex_8c36e_10 : decode cJ3_checkFromToIndex_8c36e 10 = .ok (.iload_n 2, 1) := by decide +kernel
theorem dJ3_checkFromToIndex_8c36e_11 : decode cJ3_checkFromToIndex_8c36e 11 = .ok (.if_icmp .le 11, 3) := by decide +kernel
theorem dJ3_checkFromToIndex_8c36e_14 : decode cJ3_checkFromToIndex_8c36e 14 = .ok (.aload_n 3, 1) := by decide +kernel
theorem dJ3_checkFromToIndex_8c36e_15 : decode cJ3_checkFromToIndex_8c36e 15 = .ok (.iload_n 0, 1) := by decide +kernel
theorem dJ3_checkFromToIndex_8c36e_16 : decode cJ3_checkFromToIndex_8c36e 16 = .ok (.iload_n 1, 1) := by decide +kernel
theorem dJ3_checkFromToIndex_8c36e_17 : decode cJ3_checkFromToIndex_8c36e 17 = .ok (.iload_n 2, 1) := by decide +kernel
theorem dJ3_checkFromToIndex_8c36e_18 : decode cJ3_checkFromToIndex_8c36e 18 = .ok (.invokestatic 99, 3) := by decide +kernel
theorem dJ3_checkFromToIndex_8c36e_21 : decode cJ3_checkFromToIndex_8c36e 21 = .ok (.athrow, 1) := by decide +kernel
theorem dJ3_checkFromToIndex_8c36e_22 : decode cJ3_checkFromToIndex_8c36e 22 = .ok (.iload_n 0, 1) := by decide +kernel
theorem dJ3_checkFromToIndex_8c36e_23 : decode cJ3_checkFromToIndex_8c36e 23 = .ok (.ireturn, 1) := by decide +kernel
theorem dJ3_checkFromIndexSize_8c36e_0 : decode cJ3_checkFromIndexSize_8c36e 0 = .ok (.iload_n 2, 1) := by decide +kernel
theorem dJ3_checkFromIndexSize_8c36e_1 : decode cJ3_checkFromIndexSize_8c36e 1 = .ok (.iload_n 0, 1) := by decide +kernel
theorem dJ3_checkFromIndexSize_8c36e_2 : decode cJ3_checkFromIndexSize_8c36e 2 = .ok (.ior, 1) := by decide +kernel
theorem dJ3_checkFromIndexSize_8c36e_3 : decode cJ3_checkFromIndexSize_8c36e 3 = .ok (.iload_n 1, 1) := by decide +kernel
theorem dJ3_checkFromIndexSize_8c36e_4 : decode cJ3_checkFromIndexSize_8c36e 4 = .ok (.ior, 1) := by decide +kernel
theorem dJ3_checkFromIndexSize_8c36e_5 : decode cJ3_checkFromIndexSize_8c36e 5 = .ok (.ifCond .lt 10, 3) := by decide +kernel
theorem dJ3_checkFromIndexSize_8c36e_8 : decode cJ3_checkFromIndexSize_8c36e 8 = .ok (.iload_n 1, 1) := by decide +kernel
theorem dJ3_checkFromIndexSize_8c36e_9 : decode cJ3_checkFromIndexSize_8c36e 9 = .ok (.iload_n 2, 1) := by decide +kernel
theorem dJ3_checkFromIndexSize_8c36e_10 : decode cJ3_checkFromIndexSize_8c36e 10 = .ok (.iload_n 0, 1) := by decide +kernel
theorem dJ3_checkFromIndexSize_8c36e_11 : decode cJ3_checkFromIndexSize_8c36e 11 = .ok (.isub, 1) := by decide +kernel
theorem dJ3_checkFromIndexSize_8c36e_12 : decode cJ3_checkFromIndexSize_8c36e 12 = .ok (.if_icmp .le 11, 3) := by decide +kernel
theorem dJ3_checkFromIndexSize_8c36e_15 : decode cJ3_checkFromIndexSize_8c36e 15 = .ok (.aload_n 3, 1) := by decide +kernel
theorem dJ3_checkFromIndexSize_8c36e_16 : decode cJ3_checkFromIndexSize_8c36e 16 = .ok (.iload_n 0, 1) := by decide +kernel
theorem dJ3_checkFromIndexSize_8c36e_17 : decode cJ3_checkFromIndexSize_8c36e 17 = .ok (.iload_n 1, 1) := by decide +kernel
theorem dJ3_checkFromIndexSize_8c36e_18 : decode cJ3_checkFromIndexSize_8c36e 18 = .ok (.iload_n 2, 1) := by decide +kernel
theorem dJ3_checkFromIndexSize_8c36e_19 : decode cJ3_checkFromIndexSize_8c36e 19 = .ok (.invokestatic 103, 3) := by decide +kernel
theorem dJ3_checkFromIndexSize_8c36e_22 : decode cJ3_checkFromIndexSize_8c36e 22 = .ok (.athrow, 1) := by decide +kernel
theorem dJ3_checkFromIndexSize_8c36e_23 : decode cJ3_checkFromIndexSize_8c36e 23 = .ok (.iload_n 0, 1) := by decide +kernel
theorem dJ3_checkFromIndexSize_8c36e_24 : decode cJ3_checkFromIndexSize_8c36e 24 = .ok (.ireturn, 1) := by decide +kernel
theorem dL_cell_0 : decode cL_cell 0 = .ok (.aload_n 0, 1) := by decide +kernel
theorem dL_cell_1 : decode cL_cell 1 = .ok (.arraylength, 1) := by decide +kernel
theorem dL_cell_2 : decode cL_cell 2 = .ok (.ifCond .ne 13, 3) := by decide +kernel
theorem dL_cell_5 : decode cL_cell 5 = .ok (.bipush 71, 2) := by decide +kernel
theorem dL_cell_7 : decode cL_cell 7 = .ok (.iload_n 1, 1) := by decide +kernel
theorem dL_cell_8 : decode cL_cell 8 = .ok (.imul, 1) := by decide +kernel
theorem dL_cell_9 : decode cL_cell 9 = .ok (.bipush 13, 2) := by decide +kernel
theorem dL_cell_11 : decode cL_cell 11 = .ok (.iadd, 1) := by decide +kernel
theorem dL_cell_12 : decode cL_cell 12 = .ok (.goto 12, 3) := by decide +kernel
theorem dL_cell_15 : decode cL_cell 15 = .ok (.aload_n 0, 1) := by decide +kernel
theorem dL_cell_16 : decode cL_cell 16 = .ok (.iload_n 1, 1) := by decide +kernel
theorem dL_cell_17 : decode cL_cell 17 = .ok (.ldc 7, 2) := by decide +kernel
theorem dL_cell_19 : decode cL_cell 19 = .ok (.iand, 1) := by decide +kernel
theorem dL_cell_20 : decode cL_cell 20 = .ok (.aload_n 0, 1) := by decide +kernel
theorem dL_cell_21 : decode cL_cell 21 = .ok (.arraylength, 1) := by decide +kernel
theorem dL_cell_22 : decode cL_cell 22 = .ok (.irem, 1) := by decide +kernel
theorem dL_cell_23 : decode cL_cell 23 = .ok (.iaload, 1) := by decide +kernel
theorem dL_cell_24 : decode cL_cell 24 = .ok (.ireturn, 1) := by decide +kernel
theorem dL_setFloor_0 : decode cL_setFloor 0 = .ok (.aload_n 0, 1) := by decide +kernel
theorem dL_setFloor_1 : decode cL_setFloor 1 = .ok (.iload_n 1, 1) := by decide +kernel
theorem dL_setFloor_2 : decode cL_setFloor 2 = .ok (.iload_n 2, 1) := by decide +kernel
theorem dL_setFloor_3 : decode cL_setFloor 3 = .ok (.iload_n 3, 1) := by decide +kernel
theorem dL_setFloor_4 : decode cL_setFloor 4 = .ok (.invokevirtual 8, 3) := by decide +kernel
theorem dL_setFloor_7 : decode cL_setFloor 7 = .ok (.ireturn, 1) := by decide +kernel
theorem dL_setFloor_8 : decode cL_setFloor 8 = .ok (.astore 4, 2) := by decide +kernel
theorem dL_setFloor_10 : decode cL_setFloor 10 = .ok (.iconst (-1), 1) := by decide +kernel
theorem dL_setFloor_11 : decode cL_setFloor 11 = .ok (.ireturn, 1) := by decide +kernel
theorem dL_setFloor_12 : decode cL_setFloor 12 = .ok (.astore 4, 2) := by decide +kernel
theorem dL_setFloor_14 : decode cL_setFloor 14 = .ok (.bipush (-2), 2) := by decide +kernel
theorem dL_setFloor_16 : decode cL_setFloor 16 = .ok (.ireturn, 1) := by decide +kernel
theorem dL_setWater_0 : decode cL_setWater 0 = .ok (.aload_n 0, 1) := by decide +kernel
theorem dL_setWater_1 : decode cL_setWater 1 = .ok (.iload_n 1, 1) := by decide +kernel
theorem dL_setWater_2 : decode cL_setWater 2 = .ok (.iload_n 2, 1) := by decide +kernel
theorem dL_setWater_3 : decode cL_setWater 3 = .ok (.iload_n 3, 1) := by decide +kernel
theorem dL_setWater_4 : decode cL_setWater 4 = .ok (.invokevirtual 18, 3) := by decide +kernel
theorem dL_setWater_7 : decode cL_setWater 7 = .ok (.ireturn, 1) := by decide +kernel
theorem dL_setWater_8 : decode cL_setWater 8 = .ok (.astore 4, 2) := by decide +kernel
theorem dL_setWater_10 : decode cL_setWater 10 = .ok (.iconst (-1), 1) := by decide +kernel
theorem dL_setWater_11 : decode cL_setWater 11 = .ok (.ireturn, 1) := by decide +kernel
theorem dL_setWater_12 : decode cL_setWater 12 = .ok (.astore 4, 2) := by decide +kernel
theorem dL_setWater_14 : decode cL_setWater 14 = .ok (.bipush (-2), 2) := by decide +kernel
theorem dL_setWater_16 : decode cL_setWater 16 = .ok (.ireturn, 1) := by decide +kernel
theorem dL_setSlope_0 : decode cL_setSlope 0 = .ok (.aload_n 0, 1) := by decide +kernel
theorem dL_setSlope_1 : decode cL_setSlope 1 = .ok (.iload_n 1, 1) := by decide +kernel
theorem dL_setSlope_2 : decode cL_setSlope 2 = .ok (.iload_n 2, 1) := by decide +kernel
theorem dL_setSlope_3 : decode cL_setSlope 3 = .ok (.invokevirtual 21, 3) := by decide +kernel
theorem dL_setSlope_6 : decode cL_setSlope 6 = .ok (.ireturn, 1) := by decide +kernel
theorem dL_setSlope_7 : decode cL_setSlope 7 = .ok (.astore_n 3, 1) := by decide +kernel
theorem dL_setSlope_8 : decode cL_setSlope 8 = .ok (.iconst (-1), 1) := by decide +kernel
theorem dL_setSlope_9 : decode cL_setSlope 9 = .ok (.ireturn, 1) := by decide +kernel
theorem dL_setSlope_10 : decode cL_setSlope 10 = .ok (.astore_n 3, 1) := by decide +kernel
theorem dL_setSlope_11 : decode cL_setSlope 11 = .ok (.bipush (-2), 2) := by decide +kernel
theorem dL_setSlope_13 : decode cL_setSlope 13 = .ok (.ireturn, 1) := by decide +kernel
theorem dL_waterAt_0 : decode cL_waterAt 0 = .ok (.aload_n 0, 1) := by decide +kernel
theorem dL_waterAt_1 : decode cL_waterAt 1 = .ok (.iload_n 1, 1) := by decide +kernel
theorem dL_waterAt_2 : decode cL_waterAt 2 = .ok (.iload_n 2, 1) := by decide +kernel
theorem dL_waterAt_3 : decode cL_waterAt 3 = .ok (.iload_n 3, 1) := by decide +kernel
theorem dL_waterAt_4 : decode cL_waterAt 4 = .ok (.invokevirtual 25, 3) := by decide +kernel
theorem dL_waterAt_7 : decode cL_waterAt 7 = .ok (.ireturn, 1) := by decide +kernel
theorem dL_waterAt_8 : decode cL_waterAt 8 = .ok (.astore 4, 2) := by decide +kernel
theorem dL_waterAt_10 : decode cL_waterAt 10 = .ok (.iconst (-1), 1) := by decide +kernel
theorem dL_waterAt_11 : decode cL_waterAt 11 = .ok (.ireturn, 1) := by decide +kernel
theorem dL_setWeather_0 : decode cL_setWeather 0 = .ok (.aload_n 0, 1) := by decide +kernel
theorem dL_setWeather_1 : decode cL_setWeather 1 = .ok (.iload_n 1, 1) := by decide +kernel
theorem dL_setWeather_2 : decode cL_setWeather 2 = .ok (.iload_n 2, 1) := by decide +kernel
theorem dL_setWeather_3 : decode cL_setWeather 3 = .ok (.invokevirtual 28, 3) := by decide +kernel
theorem dL_setWeather_6 : decode cL_setWeather 6 = .ok (.ireturn, 1) := by decide +kernel
theorem dL_setWeather_7 : decode cL_setWeather 7 = .ok (.astore_n 3, 1) := by decide +kernel
theorem dL_setWeather_8 : decode cL_setWeather 8 = .ok (.iconst (-1), 1) := by decide +kernel
theorem dL_setWeather_9 : decode cL_setWeather 9 = .ok (.ireturn, 1) := by decide +kernel
theorem dL_setWeather_10 : decode cL_setWeather 10 = .ok (.astore_n 3, 1) := by decide +kernel
theorem dL_setWeather_11 : decode cL_setWeather 11 = .ok (.bipush (-2), 2) := by decide +kernel
theorem dL_setWeather_13 : decode cL_setWeather 13 = .ok (.ireturn, 1) := by decide +kernel
theorem dL_addGauge_0 : decode cL_addGauge 0 = .ok (.aload_n 0, 1) := by decide +kernel
theorem dL_addGauge_1 : decode cL_addGauge 1 = .ok (.iload_n 1, 1) := by decide +kernel
theorem dL_addGauge_2 : decode cL_addGauge 2 = .ok (.invokevirtual 31, 3) := by decide +kernel
theorem dL_addGauge_5 : decode cL_addGauge 5 = .ok (.ireturn, 1) := by decide +kernel
theorem dL_addGauge_6 : decode cL_addGauge 6 = .ok (.astore_n 2, 1) := by decide +kernel
theorem dL_addGauge_7 : decode cL_addGauge 7 = .ok (.iconst (-1), 1) := by decide +kernel
theorem dL_addGauge_8 : decode cL_addGauge 8 = .ok (.ireturn, 1) := by decide +kernel
theorem dL_addGauge_9 : decode cL_addGauge 9 = .ok (.astore_n 2, 1) := by decide +kernel
theorem dL_addGauge_10 : decode cL_addGauge 10 = .ok (.bipush (-2), 2) := by decide +kernel
theorem dL_addGauge_12 : decode cL_addGauge 12 = .ok (.ireturn, 1) := by decide +kernel
theorem dL_addGauge_13 : decode cL_addGauge 13 = .ok (.astore_n 2, 1) := by decide +kernel
theorem dL_addGauge_14 : decode cL_addGauge 14 = .ok (.bipush (-3), 2) := by decide +kernel
theorem dL_addGauge_16 : decode cL_addGauge 16 = .ok (.ireturn, 1) := by decide +kernel
theorem dL_fail_0 : decode cL_fail 0 = .ok (.aload_n 0, 1) := by decide +kernel
theorem dL_fail_1 : decode cL_fail 1 = .ok (.iload_n 1, 1) := by decide +kernel
theorem dL_fail_2 : decode cL_fail 2 = .ok (.iload_n 2, 1) := by decide +kernel
theorem dL_fail_3 : decode cL_fail 3 = .ok (.iload_n 3, 1) := by decide +kernel
theorem dL_fail_4 : decode cL_fail 4 = .ok (.iload 4, 2) := by decide +kernel
theorem dL_fail_6 : decode cL_fail 6 = .ok (.invokevirtual 39, 3) := by decide +kernel
theorem dL_fail_9 : decode cL_fail 9 = .ok (.ireturn, 1) := by decide +kernel
theorem dL_fail_10 : decode cL_fail 10 = .ok (.astore 5, 2) := by decide +kernel
theorem dL_fail_12 : decode cL_fail 12 = .ok (.iconst (-1), 1) := by decide +kernel
theorem dL_fail_13 : decode cL_fail 13 = .ok (.ireturn, 1) := by decide +kernel
theorem dL_fail_14 : decode cL_fail 14 = .ok (.astore 5, 2) := by decide +kernel
theorem dL_fail_16 : decode cL_fail 16 = .ok (.bipush (-2), 2) := by decide +kernel
theorem dL_fail_18 : decode cL_fail 18 = .ok (.ireturn, 1) := by decide +kernel
theorem dL_fail_19 : decode cL_fail 19 = .ok (.astore 5, 2) := by decide +kernel
theorem dL_fail_21 : decode cL_fail 21 = .ok (.bipush (-3), 2) := by decide +kernel
theorem dL_fail_23 : decode cL_fail 23 = .ok (.ireturn, 1) := by decide +kernel
theorem dL_mend_0 : decode cL_mend 0 = .ok (.aload_n 0, 1) := by decide +kernel
theorem dL_mend_1 : decode cL_mend 1 = .ok (.iload_n 1, 1) := by decide +kernel
theorem dL_mend_2 : decode cL_mend 2 = .ok (.iload_n 2, 1) := by decide +kernel
theorem dL_mend_3 : decode cL_mend 3 = .ok (.invokevirtual 45, 3) := by decide +kernel
theorem dL_mend_6 : decode cL_mend 6 = .ok (.ireturn, 1) := by decide +kernel
theorem dL_mend_7 : decode cL_mend 7 = .ok (.astore_n 3, 1) := by decide +kernel
theorem dL_mend_8 : decode cL_mend 8 = .ok (.iconst (-1), 1) := by decide +kernel
theorem dL_mend_9 : decode cL_mend 9 = .ok (.ireturn, 1) := by decide +kernel
theorem dL_mend_10 : decode cL_mend 10 = .ok (.astore_n 3, 1) := by decide +kernel
theorem dL_mend_11 : decode cL_mend 11 = .ok (.bipush (-2), 2) := by decide +kernel
theorem dL_mend_13 : decode cL_mend 13 = .ok (.ireturn, 1) := by decide +kernel
theorem dL_tide_0 : decode cL_tide 0 = .ok (.aload_n 0, 1) := by decide +kernel
theorem dL_tide_1 : decode cL_tide 1 = .ok (.iload_n 1, 1) := by decide +kernel
theorem dL_tide_2 : decode cL_tide 2 = .ok (.iload_n 2, 1) := by decide +kernel
theorem dL_tide_3 : decode cL_tide 3 = .ok (.iload_n 3, 1) := by decide +kernel
theorem dL_tide_4 : decode cL_tide 4 = .ok (.invokevirtual 51, 3) := by decide +kernel
theorem dL_tide_7 : decode cL_tide 7 = .ok (.ireturn, 1) := by decide +kernel
theorem dL_tide_8 : decode cL_tide 8 = .ok (.astore 4, 2) := by decide +kernel
theorem dL_tide_10 : decode cL_tide 10 = .ok (.iconst (-1), 1) := by decide +kernel
theorem dL_tide_11 : decode cL_tide 11 = .ok (.ireturn, 1) := by decide +kernel
theorem dL_tide_12 : decode cL_tide 12 = .ok (.astore 4, 2) := by decide +kernel
theorem dL_tide_14 : decode cL_tide 14 = .ok (.bipush (-2), 2) := by decide +kernel
theorem dL_tide_16 : decode cL_tide 16 = .ok (.ireturn, 1) := by decide +kernel
theorem dL_run_0 : decode cL_run 0 = .ok (.aload_n 0, 1) := by decide +kernel
theorem dL_run_1 : decode cL_run 1 = .ok (.iload_n 1, 1) := by decide +kernel
theorem dL_run_2 : decode cL_run 2 = .ok (.iload_n 2, 1) := by decide +kernel
theorem dL_run_3 : decode cL_run 3 = .ok (.iload_n 3, 1) := by decide +kernel
theorem dL_run_4 : decode cL_run 4 = .ok (.iload 4, 2) := by decide +kernel
theorem dL_run_6 : decode cL_run 6 = .ok (.iload 5, 2) := by decide +kernel
theorem dL_run_8 : decode cL_run 8 = .ok (.iload 6, 2) := by decide +kernel
theorem dL_run_10 : decode cL_run 10 = .ok (.invokevirtual 54, 3) := by decide +kernel
theorem dL_run_13 : decode cL_run 13 = .ok (.ireturn, 1) := by decide +kernel
theorem dL_run_14 : decode cL_run 14 = .ok (.astore 7, 2) := by decide +kernel
theorem dL_run_16 : decode cL_run 16 = .ok (.iconst (-1), 1) := by decide +kernel
theorem dL_run_17 : decode cL_run 17 = .ok (.ireturn, 1) := by decide +kernel
theorem dL_run_18 : decode cL_run 18 = .ok (.astore 7, 2) := by decide +kernel
theorem dL_run_20 : decode cL_run 20 = .ok (.bipush (-2), 2) := by decide +kernel
theorem dL_run_22 : decode cL_run 22 = .ok (.ireturn, 1) := by decide +kernel
theorem dL_run_23 : decode cL_run 23 = .ok (.astore 7, 2) := by decide +kernel
theorem dL_run_25 : decode cL_run 25 = .ok (.bipush (-3), 2) := by decide +kernel
theorem dL_run_27 : decode cL_run 27 = .ok (.ireturn, 1) := by decide +kernel
theorem dL_run_28 : decode cL_run 28 = .ok (.astore 7, 2) := by decide +kernel
theorem dL_run_30 : decode cL_run 30 = .ok (.bipush (-4), 2) := by decide +kernel
theorem dL_run_32 : decode cL_run 32 = .ok (.ireturn, 1) := by decide +kernel
theorem dL_runAnew_0 : decode cL_runAnew 0 = .ok (.aload_n 0, 1) := by decide +kernel
theorem dL_runAnew_1 : decode cL_runAnew 1 = .ok (.iload_n 1, 1) := by decide +kernel
theorem dL_runAnew_2 : decode cL_runAnew 2 = .ok (.iload_n 2, 1) := by decide +kernel
theorem dL_runAnew_3 : decode cL_runAnew 3 = .ok (.iload_n 3, 1) := by decide +kernel
theorem dL_runAnew_4 : decode cL_runAnew 4 = .ok (.invokevirtual 58, 3) := by decide +kernel
theorem dL_runAnew_7 : decode cL_runAnew 7 = .ok (.ireturn, 1) := by decide +kernel
theorem dL_runAnew_8 : decode cL_runAnew 8 = .ok (.astore 4, 2) := by decide +kernel
theorem dL_runAnew_10 : decode cL_runAnew 10 = .ok (.iconst (-1), 1) := by decide +kernel
theorem dL_runAnew_11 : decode cL_runAnew 11 = .ok (.ireturn, 1) := by decide +kernel
theorem dL_runAnew_12 : decode cL_runAnew 12 = .ok (.astore 4, 2) := by decide +kernel
theorem dL_runAnew_14 : decode cL_runAnew 14 = .ok (.bipush (-2), 2) := by decide +kernel
theorem dL_runAnew_16 : decode cL_runAnew 16 = .ok (.ireturn, 1) := by decide +kernel
theorem dL_runAnew_17 : decode cL_runAnew 17 = .ok (.astore 4, 2) := by decide +kernel
theorem dL_runAnew_19 : decode cL_runAnew 19 = .ok (.bipush (-3), 2) := by decide +kernel
theorem dL_runAnew_21 : decode cL_runAnew 21 = .ok (.ireturn, 1) := by decide +kernel
theorem dL_runAnew_22 : decode cL_runAnew 22 = .ok (.astore 4, 2) := by decide +kernel
theorem dL_runAnew_24 : decode cL_runAnew 24 = .ok (.bipush (-4), 2) := by decide +kernel
theorem dL_runAnew_26 : decode cL_runAnew 26 = .ok (.ireturn, 1) := by decide +kernel
theorem dL_disturb_0 : decode cL_disturb 0 = .ok (.aload_n 0, 1) := by decide +kernel
theorem dL_disturb_1 : decode cL_disturb 1 = .ok (.iload_n 1, 1) := by decide +kernel
theorem dL_disturb_2 : decode cL_disturb 2 = .ok (.iload_n 2, 1) := by decide +kernel
theorem dL_disturb_3 : decode cL_disturb 3 = .ok (.iload_n 3, 1) := by decide +kernel
theorem dL_disturb_4 : decode cL_disturb 4 = .ok (.iload 4, 2) := by decide +kernel
theorem dL_disturb_6 : decode cL_disturb 6 = .ok (.invokevirtual 61, 3) := by decide +kernel
theorem dL_disturb_9 : decode cL_disturb 9 = .ok (.ireturn, 1) := by decide +kernel
theorem dL_disturb_10 : decode cL_disturb 10 = .ok (.astore 5, 2) := by decide +kernel
theorem dL_disturb_12 : decode cL_disturb 12 = .ok (.iconst (-1), 1) := by decide +kernel
theorem dL_disturb_13 : decode cL_disturb 13 = .ok (.ireturn, 1) := by decide +kernel
theorem dL_disturb_14 : decode cL_disturb 14 = .ok (.astore 5, 2) := by decide +kernel
theorem dL_disturb_16 : decode cL_disturb 16 = .ok (.bipush (-2), 2) := by decide +kernel
theorem dL_disturb_18 : decode cL_disturb 18 = .ok (.ireturn, 1) := by decide +kernel
theorem dL_disturb_19 : decode cL_disturb 19 = .ok (.astore 5, 2) := by decide +kernel
theorem dL_disturb_21 : decode cL_disturb 21 = .ok (.bipush (-3), 2) := by decide +kernel
theorem dL_disturb_23 : decode cL_disturb 23 = .ok (.ireturn, 1) := by decide +kernel
theorem dL_soundings_0 : decode cL_soundings 0 = .ok (.aload_n 0, 1) := by decide +kernel
theorem dL_soundings_1 : decode cL_soundings 1 = .ok (.iload_n 1, 1) := by decide +kernel
theorem dL_soundings_2 : decode cL_soundings 2 = .ok (.invokevirtual 64, 3) := by decide +kernel
theorem dL_soundings_5 : decode cL_soundings 5 = .ok (.ireturn, 1) := by decide +kernel
theorem dL_soundings_6 : decode cL_soundings 6 = .ok (.astore_n 2, 1) := by decide +kernel
theorem dL_soundings_7 : decode cL_soundings 7 = .ok (.iconst (-1), 1) := by decide +kernel
theorem dL_soundings_8 : decode cL_soundings 8 = .ok (.ireturn, 1) := by decide +kernel
theorem dL_sounding_0 : decode cL_sounding 0 = .ok (.aload_n 0, 1) := by decide +kernel
theorem dL_sounding_1 : decode cL_sounding 1 = .ok (.iload_n 1, 1) := by decide +kernel
theorem dL_sounding_2 : decode cL_sounding 2 = .ok (.iload_n 2, 1) := by decide +kernel
theorem dL_sounding_3 : decode cL_sounding 3 = .ok (.iload_n 3, 1) := by decide +kernel
theorem dL_sounding_4 : decode cL_sounding 4 = .ok (.invokevirtual 67, 3) := by decide +kernel
theorem dL_sounding_7 : decode cL_sounding 7 = .ok (.ireturn, 1) := by decide +kernel
theorem dL_sounding_8 : decode cL_sounding 8 = .ok (.astore 4, 2) := by decide +kernel
theorem dL_sounding_10 : decode cL_sounding 10 = .ok (.iconst (-1), 1) := by decide +kernel
theorem dL_sounding_11 : decode cL_sounding 11 = .ok (.ireturn, 1) := by decide +kernel
theorem dL_sounding_12 : decode cL_sounding 12 = .ok (.astore 4, 2) := by decide +kernel
theorem dL_sounding_14 : decode cL_sounding 14 = .ok (.bipush (-2), 2) := by decide +kernel
theorem dL_sounding_16 : decode cL_sounding 16 = .ok (.ireturn, 1) := by decide +kernel
theorem dL_reduced_0 : decode cL_reduced 0 = .ok (.aload_n 0, 1) := by decide +kernel
theorem dL_reduced_1 : decode cL_reduced 1 = .ok (.iload_n 1, 1) := by decide +kernel
theorem dL_reduced_2 : decode cL_reduced 2 = .ok (.iload_n 2, 1) := by decide +kernel
theorem dL_reduced_3 : decode cL_reduced 3 = .ok (.iload_n 3, 1) := by decide +kernel
theorem dL_reduced_4 : decode cL_reduced 4 = .ok (.invokevirtual 70, 3) := by decide +kernel
theorem dL_reduced_7 : decode cL_reduced 7 = .ok (.ireturn, 1) := by decide +kernel
theorem dL_reduced_8 : decode cL_reduced 8 = .ok (.astore 4, 2) := by decide +kernel
theorem dL_reduced_10 : decode cL_reduced 10 = .ok (.iconst (-1), 1) := by decide +kernel
theorem dL_reduced_11 : decode cL_reduced 11 = .ok (.ireturn, 1) := by decide +kernel
theorem dL_reduced_12 : decode cL_reduced 12 = .ok (.astore 4, 2) := by decide +kernel
theorem dL_reduced_14 : decode cL_reduced 14 = .ok (.bipush (-2), 2) := by decide +kernel
theorem dL_reduced_16 : decode cL_reduced 16 = .ok (.ireturn, 1) := by decide +kernel
theorem dL_reduced_17 : decode cL_reduced 17 = .ok (.astore 4, 2) := by decide +kernel
theorem dL_reduced_19 : decode cL_reduced 19 = .ok (.bipush (-3), 2) := by decide +kernel
theorem dL_reduced_21 : decode cL_reduced 21 = .ok (.ireturn, 1) := by decide +kernel
theorem dL_isSpike_0 : decode cL_isSpike 0 = .ok (.aload_n 0, 1) := by decide +kernel
theorem dL_isSpike_1 : decode cL_isSpike 1 = .ok (.iload_n 1, 1) := by decide +kernel
theorem dL_isSpike_2 : decode cL_isSpike 2 = .ok (.iload_n 2, 1) := by decide +kernel
theorem dL_isSpike_3 : decode cL_isSpike 3 = .ok (.iload_n 3, 1) := by decide +kernel
theorem dL_isSpike_4 : decode cL_isSpike 4 = .ok (.invokevirtual 73, 3) := by decide +kernel
theorem dL_isSpike_7 : decode cL_isSpike 7 = .ok (.ifCond .eq 7, 3) := by decide +kernel
theorem dL_isSpike_10 : decode cL_isSpike 10 = .ok (.iconst 1, 1) := by decide +kernel
theorem dL_isSpike_11 : decode cL_isSpike 11 = .ok (.goto 4, 3) := by decide +kernel
theorem dL_isSpike_14 : decode cL_isSpike 14 = .ok (.iconst 0, 1) := by decide +kernel
theorem dL_isSpike_15 : decode cL_isSpike 15 = .ok (.ireturn, 1) := by decide +kernel
theorem dL_isSpike_16 : decode cL_isSpike 16 = .ok (.astore 4, 2) := by decide +kernel
theorem dL_isSpike_18 : decode cL_isSpike 18 = .ok (.iconst (-1), 1) := by decide +kernel
theorem dL_isSpike_19 : decode cL_isSpike 19 = .ok (.ireturn, 1) := by decide +kernel
theorem dL_isSpike_20 : decode cL_isSpike 20 = .ok (.astore 4, 2) := by decide +kernel
theorem dL_isSpike_22 : decode cL_isSpike 22 = .ok (.bipush (-2), 2) := by decide +kernel
theorem dL_isSpike_24 : decode cL_isSpike 24 = .ok (.ireturn, 1) := by decide +kernel
theorem dL_spikes_0 : decode cL_spikes 0 = .ok (.aload_n 0, 1) := by decide +kernel
theorem dL_spikes_1 : decode cL_spikes 1 = .ok (.iload_n 1, 1) := by decide +kernel
theorem dL_spikes_2 : decode cL_spikes 2 = .ok (.invokevirtual 77, 3) := by decide +kernel
theorem dL_spikes_5 : decode cL_spikes 5 = .ok (.ireturn, 1) := by decide +kernel
theorem dL_spikes_6 : decode cL_spikes 6 = .ok (.astore_n 2, 1) := by decide +kernel
theorem dL_spikes_7 : decode cL_spikes 7 = .ok (.iconst (-1), 1) := by decide +kernel
theorem dL_spikes_8 : decode cL_spikes 8 = .ok (.ireturn, 1) := by decide +kernel
theorem dL_lost_0 : decode cL_lost 0 = .ok (.aload_n 0, 1) := by decide +kernel
theorem dL_lost_1 : decode cL_lost 1 = .ok (.iload_n 1, 1) := by decide +kernel
theorem dL_lost_2 : decode cL_lost 2 = .ok (.invokevirtual 80, 3) := by decide +kernel
theorem dL_lost_5 : decode cL_lost 5 = .ok (.ireturn, 1) := by decide +kernel
theorem dL_lost_6 : decode cL_lost 6 = .ok (.astore_n 2, 1) := by decide +kernel
theorem dL_lost_7 : decode cL_lost 7 = .ok (.iconst (-1), 1) := by decide +kernel
theorem dL_lost_8 : decode cL_lost 8 = .ok (.ireturn, 1) := by decide +kernel
theorem dL_depth_0 : decode cL_depth 0 = .ok (.aload_n 0, 1) := by decide +kernel
theorem dL_depth_1 : decode cL_depth 1 = .ok (.iload_n 1, 1) := by decide +kernel
theorem dL_depth_2 : decode cL_depth 2 = .ok (.iload_n 2, 1) := by decide +kernel
theorem dL_depth_3 : decode cL_depth 3 = .ok (.invokevirtual 83, 3) := by decide +kernel
theorem dL_depth_6 : decode cL_depth 6 = .ok (.ireturn, 1) := by decide +kernel
theorem dL_depth_7 : decode cL_depth 7 = .ok (.astore_n 3, 1) := by decide +kernel
theorem dL_depth_8 : decode cL_depth 8 = .ok (.iconst (-1), 1) := by decide +kernel
theorem dL_depth_9 : decode cL_depth 9 = .ok (.ireturn, 1) := by decide +kernel
theorem dL_depth_10 : decode cL_depth 10 = .ok (.astore_n 3, 1) := by decide +kernel
theorem dL_depth_11 : decode cL_depth 11 = .ok (.bipush (-2), 2) := by decide +kernel
theorem dL_depth_13 : decode cL_depth 13 = .ok (.ireturn, 1) := by decide +kernel
theorem dL_depthAnew_0 : decode cL_depthAnew 0 = .ok (.aload_n 0, 1) := by decide +kernel
theorem dL_depthAnew_1 : decode cL_depthAnew 1 = .ok (.iload_n 1, 1) := by decide +kernel
theorem dL_depthAnew_2 : decode cL_depthAnew 2 = .ok (.iload_n 2, 1) := by decide +kernel
theorem dL_depthAnew_3 : decode cL_depthAnew 3 = .ok (.invokevirtual 86, 3) := by decide +kernel
theorem dL_depthAnew_6 : decode cL_depthAnew 6 = .ok (.ireturn, 1) := by decide +kernel
theorem dL_depthAnew_7 : decode cL_depthAnew 7 = .ok (.astore_n 3, 1) := by decide +kernel
theorem dL_depthAnew_8 : decode cL_depthAnew 8 = .ok (.iconst (-1), 1) := by decide +kernel
theorem dL_depthAnew_9 : decode cL_depthAnew 9 = .ok (.ireturn, 1) := by decide +kernel
theorem dL_depthAnew_10 : decode cL_depthAnew 10 = .ok (.astore_n 3, 1) := by decide +kernel
theorem dL_depthAnew_11 : decode cL_depthAnew 11 = .ok (.bipush (-2), 2) := by decide +kernel
theorem dL_depthAnew_13 : decode cL_depthAnew 13 = .ok (.ireturn, 1) := by decide +kernel
theorem dL_gap_0 : decode cL_gap 0 = .ok (.aload_n 0, 1) := by decide +kernel
theorem dL_gap_1 : decode cL_gap 1 = .ok (.iload_n 1, 1) := by decide +kernel
theorem dL_gap_2 : decode cL_gap 2 = .ok (.invokevirtual 89, 3) := by decide +kernel
theorem dL_gap_5 : decode cL_gap 5 = .ok (.ireturn, 1) := by decide +kernel
theorem dL_gap_6 : decode cL_gap 6 = .ok (.astore_n 2, 1) := by decide +kernel
theorem dL_gap_7 : decode cL_gap 7 = .ok (.iconst (-1), 1) := by decide +kernel
theorem dL_gap_8 : decode cL_gap 8 = .ok (.ireturn, 1) := by decide +kernel
theorem dL_bestRow_0 : decode cL_bestRow 0 = .ok (.aload_n 0, 1) := by decide +kernel
theorem dL_bestRow_1 : decode cL_bestRow 1 = .ok (.invokevirtual 92, 3) := by decide +kernel
theorem dL_bestRow_4 : decode cL_bestRow 4 = .ok (.ireturn, 1) := by decide +kernel
theorem dL_bestRow_5 : decode cL_bestRow 5 = .ok (.astore_n 1, 1) := by decide +kernel
theorem dL_bestRow_6 : decode cL_bestRow 6 = .ok (.iconst (-1), 1) := by decide +kernel
theorem dL_bestRow_7 : decode cL_bestRow 7 = .ok (.ireturn, 1) := by decide +kernel
theorem dL_dayOf_0 : decode cL_dayOf 0 = .ok (.aload_n 0, 1) := by decide +kernel
theorem dL_dayOf_1 : decode cL_dayOf 1 = .ok (.iload_n 1, 1) := by decide +kernel
theorem dL_dayOf_2 : decode cL_dayOf 2 = .ok (.invokevirtual 96, 3) := by decide +kernel
theorem dL_dayOf_5 : decode cL_dayOf 5 = .ok (.ireturn, 1) := by decide +kernel
theorem dL_dayOf_6 : decode cL_dayOf 6 = .ok (.astore_n 2, 1) := by decide +kernel
theorem dL_dayOf_7 : decode cL_dayOf 7 = .ok (.iconst (-1), 1) := by decide +kernel
theorem dL_dayOf_8 : decode cL_dayOf 8 = .ok (.ireturn, 1) := by decide +kernel
theorem dL_worstCross_0 : decode cL_worstCross 0 = .ok (.aload_n 0, 1) := by decide +kernel
theorem dL_worstCross_1 : decode cL_worstCross 1 = .ok (.invokevirtual 102, 3) := by decide +kernel
theorem dL_worstCross_4 : decode cL_worstCross 4 = .ok (.ireturn, 1) := by decide +kernel
theorem dL_worstCross_5 : decode cL_worstCross 5 = .ok (.astore_n 1, 1) := by decide +kernel
theorem dL_worstCross_6 : decode cL_worstCross 6 = .ok (.iconst (-1), 1) := by decide +kernel
theorem dL_worstCross_7 : decode cL_worstCross 7 = .ok (.ireturn, 1) := by decide +kernel
theorem dL_hours_0 : decode cL_hours 0 = .ok (.aload_n 0, 1) := by decide +kernel
theorem dL_hours_1 : decode cL_hours 1 = .ok (.iload_n 1, 1) := by decide +kernel
theorem dL_hours_2 : decode cL_hours 2 = .ok (.invokevirtual 105, 3) := by decide +kernel
theorem dL_hours_5 : decode cL_hours 5 = .ok (.ireturn, 1) := by decide +kernel
theorem dL_hours_6 : decode cL_hours 6 = .ok (.astore_n 2, 1) := by decide +kernel
theorem dL_hours_7 : decode cL_hours 7 = .ok (.iconst (-1), 1) := by decide +kernel
theorem dL_hours_8 : decode cL_hours 8 = .ok (.ireturn, 1) := by decide +kernel
theorem dL_meanDepth_0 : decode cL_meanDepth 0 = .ok (.aload_n 0, 1) := by decide +kernel
theorem dL_meanDepth_1 : decode cL_meanDepth 1 = .ok (.invokevirtual 108, 3) := by decide +kernel
theorem dL_meanDepth_4 : decode cL_meanDepth 4 = .ok (.dreturn, 1) := by decide +kernel
theorem dL_meanDepth_5 : decode cL_meanDepth 5 = .ok (.astore_n 1, 1) := by decide +kernel
theorem dL_meanDepth_6 : decode cL_meanDepth 6 = .ok (.ldc2_w 114, 3) := by decide +kernel
theorem dL_meanDepth_9 : decode cL_meanDepth 9 = .ok (.dreturn, 1) := by decide +kernel
theorem dL_writeLine_0 : decode cL_writeLine 0 = .ok (.aload_n 0, 1) := by decide +kernel
theorem dL_writeLine_1 : decode cL_writeLine 1 = .ok (.iload_n 1, 1) := by decide +kernel
theorem dL_writeLine_2 : decode cL_writeLine 2 = .ok (.invokevirtual 116, 3) := by decide +kernel
theorem dL_writeLine_5 : decode cL_writeLine 5 = .ok (.ireturn, 1) := by decide +kernel
theorem dL_writeLine_6 : decode cL_writeLine 6 = .ok (.astore_n 2, 1) := by decide +kernel
theorem dL_writeLine_7 : decode cL_writeLine 7 = .ok (.iconst (-1), 1) := by decide +kernel
theorem dL_writeLine_8 : decode cL_writeLine 8 = .ok (.ireturn, 1) := by decide +kernel
theorem dL_textAt_0 : decode cL_textAt 0 = .ok (.aload_n 0, 1) := by decide +kernel
theorem dL_textAt_1 : decode cL_textAt 1 = .ok (.iload_n 1, 1) := by decide +kernel
theorem dL_textAt_2 : decode cL_textAt 2 = .ok (.invokevirtual 119, 3) := by decide +kernel
theorem dL_textAt_5 : decode cL_textAt 5 = .ok (.ireturn, 1) := by decide +kernel
theorem dL_textAt_6 : decode cL_textAt 6 = .ok (.astore_n 2, 1) := by decide +kernel
theorem dL_textAt_7 : decode cL_textAt 7 = .ok (.iconst (-1), 1) := by decide +kernel
theorem dL_textAt_8 : decode cL_textAt 8 = .ok (.ireturn, 1) := by decide +kernel
theorem dL_acts_0 : decode cL_acts 0 = .ok (.aload_n 2, 1) := by decide +kernel
theorem dL_acts_1 : decode cL_acts 1 = .ok (.bipush 30, 2) := by decide +kernel
theorem dL_acts_3 : decode cL_acts 3 = .ok (.invokevirtual 123, 3) := by decide +kernel
theorem dL_acts_6 : decode cL_acts 6 = .ok (.ifCond .ne 7, 3) := by decide +kernel
theorem dL_acts_9 : decode cL_acts 9 = .ok (.iconst 1, 1) := by decide +kernel
theorem dL_acts_10 : decode cL_acts 10 = .ok (.goto 4, 3) := by decide +kernel
theorem dL_acts_13 : decode cL_acts 13 = .ok (.iconst 0, 1) := by decide +kernel
theorem dL_acts_14 : decode cL_acts 14 = .ok (.istore_n 3, 1) := by decide +kernel
theorem dL_acts_15 : decode cL_acts 15 = .ok (.iload_n 3, 1) := by decide +kernel
theorem dL_acts_16 : decode cL_acts 16 = .ok (.ifCond .eq 8, 3) := by decide +kernel
theorem dL_acts_19 : decode cL_acts 19 = .ok (.bipush 10, 2) := by decide +kernel
theorem dL_acts_21 : decode cL_acts 21 = .ok (.goto 8, 3) := by decide +kernel
theorem dL_acts_24 : decode cL_acts 24 = .ok (.aload_n 2, 1) := by decide +kernel
theorem dL_acts_25 : decode cL_acts 25 = .ok (.iconst 4, 1) := by decide +kernel
theorem dL_acts_26 : decode cL_acts 26 = .ok (.invokevirtual 123, 3) := by decide +kernel
theorem dL_acts_29 : decode cL_acts 29 = .ok (.istore 4, 2) := by decide +kernel
theorem dL_acts_31 : decode cL_acts 31 = .ok (.bipush 6, 2) := by decide +kernel
theorem dL_acts_33 : decode cL_acts 33 = .ok (.aload_n 2, 1) := by decide +kernel
theorem dL_acts_34 : decode cL_acts 34 = .ok (.bipush 12, 2) := by decide +kernel
theorem dL_acts_36 : decode cL_acts 36 = .ok (.invokevirtual 123, 3) := by decide +kernel
theorem dL_acts_39 : decode cL_acts 39 = .ok (.iadd, 1) := by decide +kernel
theorem dL_acts_40 : decode cL_acts 40 = .ok (.istore 5, 2) := by decide +kernel
theorem dL_acts_42 : decode cL_acts 42 = .ok (.aload_n 2, 1) := by decide +kernel
theorem dL_acts_43 : decode cL_acts 43 = .ok (.iconst 4, 1) := by decide +kernel
theorem dL_acts_44 : decode cL_acts 44 = .ok (.invokevirtual 123, 3) := by decide +kernel
theorem dL_acts_47 : decode cL_acts 47 = .ok (.istore 6, 2) := by decide +kernel
theorem dL_acts_49 : decode cL_acts 49 = .ok (.iload_n 1, 1) := by decide +kernel
theorem dL_acts_50 : decode cL_acts 50 = .ok (.bipush 26, 2) := by decide +kernel
theorem dL_acts_52 : decode cL_acts 52 = .ok (.irem, 1) := by decide +kernel
theorem dL_acts_53 : decode cL_acts 53 = .ok (.tableswitch 337 0 18 #[91, 91, 91, 125, 125, 125, 140, 166, 179, 199, 199, 237, 249, 249, 249, 249, 249, 326, 326], 91) := by decide +kernel
theorem dL_acts_144 : decode cL_acts 144 = .ok (.aload_n 0, 1) := by decide +kernel
theorem dL_acts_145 : decode cL_acts 145 = .ok (.aload_n 2, 1) := by decide +kernel
theorem dL_acts_146 : decode cL_acts 146 = .ok (.bipush 20, 2) := by decide +kernel
theorem dL_acts_148 : decode cL_acts 148 = .ok (.invokevirtual 123, 3) := by decide +kernel
theorem dL_acts_151 : decode cL_acts 151 = .ok (.iload_n 3, 1) := by decide +kernel
theorem dL_acts_152 : decode cL_acts 152 = .ok (.ifCond .eq 8, 3) := by decide +kernel
theorem dL_acts_155 : decode cL_acts 155 = .ok (.bipush 12, 2) := by decide +kernel
theorem dL_acts_157 : decode cL_acts 157 = .ok (.goto 9, 3) := by decide +kernel
theorem dL_acts_160 : decode cL_acts 160 = .ok (.aload_n 2, 1) := by decide +kernel
theorem dL_acts_161 : decode cL_acts 161 = .ok (.bipush 12, 2) := by decide +kernel
theorem dL_acts_163 : decode cL_acts 163 = .ok (.invokevirtual 123, 3) := by decide +kernel
theorem dL_acts_166 : decode cL_acts 166 = .ok (.iconst 1, 1) := by decide +kernel
theorem dL_acts_167 : decode cL_acts 167 = .ok (.aload_n 2, 1) := by decide +kernel
theorem dL_acts_168 : decode cL_acts 168 = .ok (.bipush 60, 2) := by decide +kernel
theorem dL_acts_170 : decode cL_acts 170 = .ok (.invokevirtual 123, 3) := by decide +kernel
theorem dL_acts_173 : decode cL_acts 173 = .ok (.iadd, 1) := by decide +kernel
theorem dL_acts_174 : decode cL_acts 174 = .ok (.invokestatic 128, 3) := by decide +kernel
theorem dL_acts_177 : decode cL_acts 177 = .ok (.ireturn, 1) := by decide +kernel
theorem dL_acts_178 : decode cL_acts 178 = .ok (.aload_n 0, 1) := by decide +kernel
theorem dL_acts_179 : decode cL_acts 179 = .ok (.iload 4, 2) := by decide +kernel
theorem dL_acts_181 : decode cL_acts 181 = .ok (.iload 5, 2) := by decide +kernel
theorem dL_acts_183 : decode cL_acts 183 = .ok (.aload_n 2, 1) := by decide +kernel
theorem dL_acts_184 : decode cL_acts 184 = .ok (.bipush 31, 2) := by decide +kernel
theorem dL_acts_186 : decode cL_acts 186 = .ok (.invokevirtual 123, 3) := by decide +kernel
theorem dL_acts_189 : decode cL_acts 189 = .ok (.invokestatic 133, 3) := by decide +kernel
theorem dL_acts_192 : decode cL_acts 192 = .ok (.ireturn, 1) := by decide +kernel
theorem dL_acts_193 : decode cL_acts 193 = .ok (.aload_n 0, 1) := by decide +kernel
theorem dL_acts_194 : decode cL_acts 194 = .ok (.iload 4, 2) := by decide +kernel
theorem dL_acts_196 : decode cL_acts 196 = .ok (.aload_n 2, 1) := by decide +kernel
theorem dL_acts_197 : decode cL_acts 197 = .ok (.iconst 5, 1) := by decide +kernel
theorem dL_acts_198 : decode cL_acts 198 = .ok (.invokevirtual 123, 3) := by decide +kernel
theorem dL_acts_201 : decode cL_acts 201 = .ok (.iconst 2, 1) := by decide +kernel
theorem dL_acts_202 : decode cL_acts 202 = .ok (.isub, 1) := by decide +kernel
theorem dL_acts_203 : decode cL_acts 203 = .ok (.invokestatic 135, 3) := by decide +kernel
theorem dL_acts_206 : decode cL_acts 206 = .ok (.istore 7, 2) := by decide +kernel
theorem dL_acts_208 : decode cL_acts 208 = .ok (.iload_n 3, 1) := by decide +kernel
theorem dL_acts_209 : decode cL_acts 209 = .ok (.ifCond .eq 8, 3) := by decide +kernel
theorem dL_acts_212 : decode cL_acts 212 = .ok (.iload 7, 2) := by decide +kernel
theorem dL_acts_214 : decode cL_acts 214 = .ok (.goto 4, 3) := by decide +kernel
theorem dL_acts_217 : decode cL_acts 217 = .ok (.iconst 0, 1) := by decide +kernel
theorem dL_acts_218 : decode cL_acts 218 = .ok (.ireturn, 1) := by decide +kernel
theorem dL_acts_219 : decode cL_acts 219 = .ok (.aload_n 0, 1) := by decide +kernel
theorem dL_acts_220 : decode cL_acts 220 = .ok (.iload 4, 2) := by decide +kernel
theorem dL_acts_222 : decode cL_acts 222 = .ok (.aload_n 2, 1) := by decide +kernel
theorem dL_acts_223 : decode cL_acts 223 = .ok (.bipush 8, 2) := by decide +kernel
theorem dL_acts_225 : decode cL_acts 225 = .ok (.invokevirtual 123, 3) := by decide +kernel
theorem dL_acts_228 : decode cL_acts 228 = .ok (.invokestatic 138, 3) := by decide +kernel
theorem dL_acts_231 : decode cL_acts 231 = .ok (.ireturn, 1) := by decide +kernel
theorem dL_acts_232 : decode cL_acts 232 = .ok (.aload_n 0, 1) := by decide +kernel
theorem dL_acts_233 : decode cL_acts 233 = .ok (.iload_n 3, 1) := by decide +kernel
theorem dL_acts_234 : decode cL_acts 234 = .ok (.ifCond .eq 8, 3) := by decide +kernel
theorem dL_acts_237 : decode cL_acts 237 = .ok (.bipush 20, 2) := by decide +kernel
theorem dL_acts_239 : decode cL_acts 239 = .ok (.goto 9, 3) := by decide +kernel
theorem dL_acts_242 : decode cL_acts 242 = .ok (.aload_n 2, 1) := by decide +kernel
theorem dL_acts_243 : decode cL_acts 243 = .ok (.bipush 20, 2) := by decide +kernel
theorem dL_acts_245 : decode cL_acts 245 = .ok (.invokevirtual 123, 3) := by decide +kernel
theorem dL_acts_248 : decode cL_acts 248 = .ok (.invokestatic 140, 3) := by decide +kernel
theorem dL_acts_251 : decode cL_acts 251 = .ok (.ireturn, 1) := by decide +kernel
theorem dL_acts_252 : decode cL_acts 252 = .ok (.aload_n 0, 1) := by decide +kernel
theorem dL_acts_253 : decode cL_acts 253 = .ok (.aload_n 2, 1) := by decide +kernel
theorem dL_acts_254 : decode cL_acts 254 = .ok (.iconst 3, 1) := by decide +kernel
theorem dL_acts_255 : decode cL_acts 255 = .ok (.invokevirtual 123, 3) := by decide +kernel
theorem dL_acts_258 : decode cL_acts 258 = .ok (.iload 4, 2) := by decide +kernel
theorem dL_acts_260 : decode cL_acts 260 = .ok (.iload 5, 2) := by decide +kernel
theorem dL_acts_262 : decode cL_acts 262 = .ok (.iload 5, 2) := by decide +kernel
theorem dL_acts_264 : decode cL_acts 264 = .ok (.aload_n 2, 1) := by decide +kernel
theorem dL_acts_265 : decode cL_acts 265 = .ok (.bipush 20, 2) := by decide +kernel
theorem dL_acts_267 : decode cL_acts 267 = .ok (.invokevirtual 123, 3) := by decide +kernel
theorem dL_acts_270 : decode cL_acts 270 = .ok (.ifCond .ne 7, 3) := by decide +kernel
theorem dL_acts_273 : decode cL_acts 273 = .ok (.iconst 0, 1) := by decide +kernel
theorem dL_acts_274 : decode cL_acts 274 = .ok (.goto 11, 3) := by decide +kernel
theorem dL_acts_277 : decode cL_acts 277 = .ok (.iconst 1, 1) := by decide +kernel
theorem dL_acts_278 : decode cL_acts 278 = .ok (.aload_n 2, 1) := by decide +kernel
theorem dL_acts_279 : decode cL_acts 279 = .ok (.bipush 6, 2) := by decide +kernel
theorem dL_acts_281 : decode cL_acts 281 = .ok (.invokevirtual 123, 3) := by decide +kernel
theorem dL_acts_284 : decode cL_acts 284 = .ok (.iadd, 1) := by decide +kernel
theorem dL_acts_285 : decode cL_acts 285 = .ok (.iadd, 1) := by decide +kernel
theorem dL_acts_286 : decode cL_acts 286 = .ok (.invokestatic 143, 3) := by decide +kernel
theorem dL_acts_289 : decode cL_acts 289 = .ok (.ireturn, 1) := by decide +kernel
theorem dL_acts_290 : decode cL_acts 290 = .ok (.aload_n 0, 1) := by decide +kernel
theorem dL_acts_291 : decode cL_acts 291 = .ok (.aload_n 2, 1) := by decide +kernel
theorem dL_acts_292 : decode cL_acts 292 = .ok (.iconst 3, 1) := by decide +kernel
theorem dL_acts_293 : decode cL_acts 293 = .ok (.invokevirtual 123, 3) := by decide +kernel
theorem dL_acts_296 : decode cL_acts 296 = .ok (.iload 4, 2) := by decide +kernel
theorem dL_acts_298 : decode cL_acts 298 = .ok (.invokestatic 146, 3) := by decide +kernel
theorem dL_acts_301 : decode cL_acts 301 = .ok (.ireturn, 1) := by decide +kernel
theorem dL_acts_302 : decode cL_acts 302 = .ok (.aload_n 2, 1) := by decide +kernel
theorem dL_acts_303 : decode cL_acts 303 = .ok (.iconst 2, 1) := by decide +kernel
theorem dL_acts_304 : decode cL_acts 304 = .ok (.invokevirtual 123, 3) := by decide +kernel
theorem dL_acts_307 : decode cL_acts 307 = .ok (.ifCond .ne 34, 3) := by decide +kernel
theorem dL_acts_310 : decode cL_acts 310 = .ok (.aload_n 0, 1) := by decide +kernel
theorem dL_acts_311 : decode cL_acts 311 = .ok (.bipush 114, 2) := by decide +kernel
theorem dL_acts_313 : decode cL_acts 313 = .ok (.aload_n 2, 1) := by decide +kernel
theorem dL_acts_314 : decode cL_acts 314 = .ok (.bipush 12, 2) := by decide +kernel
theorem dL_acts_316 : decode cL_acts 316 = .ok (.invokevirtual 123, 3) := by decide +kernel
theorem dL_acts_319 : decode cL_acts 319 = .ok (.aload_n 2, 1) := by decide +kernel
theorem dL_acts_320 : decode cL_acts 320 = .ok (.bipush 20, 2) := by decide +kernel
theorem dL_acts_322 : decode cL_acts 322 = .ok (.invokevirtual 123, 3) := by decide +kernel
theorem dL_acts_325 : decode cL_acts 325 = .ok (.aload_n 2, 1) := by decide +kernel
theorem dL_acts_326 : decode cL_acts 326 = .ok (.bipush 20, 2) := by decide +kernel
theorem dL_acts_328 : decode cL_acts 328 = .ok (.invokevirtual 123, 3) := by decide +kernel
theorem dL_acts_331 : decode cL_acts 331 = .ok (.iload 4, 2) := by decide +kernel
theorem dL_acts_333 : decode cL_acts 333 = .ok (.iload 5, 2) := by decide +kernel
theorem dL_acts_335 : decode cL_acts 335 = .ok (.invokestatic 148, 3) := by decide +kernel
theorem dL_acts_338 : decode cL_acts 338 = .ok (.goto 40, 3) := by decide +kernel
theorem dL_acts_341 : decode cL_acts 341 = .ok (.aload_n 0, 1) := by decide +kernel
theorem dL_acts_342 : decode cL_acts 342 = .ok (.iload_n 3, 1) := by decide +kernel
theorem dL_acts_343 : decode cL_acts 343 = .ok (.ifCond .eq 8, 3) := by decide +kernel
theorem dL_acts_346 : decode cL_acts 346 = .ok (.bipush 120, 2) := by decide +kernel
theorem dL_acts_348 : decode cL_acts 348 = .ok (.goto 5, 3) := by decide +kernel
theorem dL_acts_351 : decode cL_acts 351 = .ok (.bipush 99, 2) := by decide +kernel
theorem dL_acts_353 : decode cL_acts 353 = .ok (.aload_n 2, 1) := by decide +kernel
theorem dL_acts_354 : decode cL_acts 354 = .ok (.bipush 20, 2) := by decide +kernel
theorem dL_acts_356 : decode cL_acts 356 = .ok (.invokevirtual 123, 3) := by decide +kernel
theorem dL_acts_359 : decode cL_acts 359 = .ok (.aload_n 2, 1) := by decide +kernel
theorem dL_acts_360 : decode cL_acts 360 = .ok (.bipush 12, 2) := by decide +kernel
theorem dL_acts_362 : decode cL_acts 362 = .ok (.invokevirtual 123, 3) := by decide +kernel
theorem dL_acts_365 : decode cL_acts 365 = .ok (.aload_n 2, 1) := by decide +kernel
theorem dL_acts_366 : decode cL_acts 366 = .ok (.bipush 12, 2) := by decide +kernel
theorem dL_acts_368 : decode cL_acts 368 = .ok (.invokevirtual 123, 3) := by decide +kernel
theorem dL_acts_371 : decode cL_acts 371 = .ok (.iload 4, 2) := by decide +kernel
theorem dL_acts_373 : decode cL_acts 373 = .ok (.iload 5, 2) := by decide +kernel
theorem dL_acts_375 : decode cL_acts 375 = .ok (.invokestatic 148, 3) := by decide +kernel
theorem dL_acts_378 : decode cL_acts 378 = .ok (.ireturn, 1) := by decide +kernel
theorem dL_acts_379 : decode cL_acts 379 = .ok (.aload_n 0, 1) := by decide +kernel
theorem dL_acts_380 : decode cL_acts 380 = .ok (.iload 6, 2) := by decide +kernel
theorem dL_acts_382 : decode cL_acts 382 = .ok (.iload 4, 2) := by decide +kernel
theorem dL_acts_384 : decode cL_acts 384 = .ok (.iload 5, 2) := by decide +kernel
theorem dL_acts_386 : decode cL_acts 386 = .ok (.invokestatic 151, 3) := by decide +kernel
theorem dL_acts_389 : decode cL_acts 389 = .ok (.ireturn, 1) := by decide +kernel
theorem dL_acts_390 : decode cL_acts 390 = .ok (.aload_n 0, 1) := by decide +kernel
theorem dL_acts_391 : decode cL_acts 391 = .ok (.iload 6, 2) := by decide +kernel
theorem dL_acts_393 : decode cL_acts 393 = .ok (.aload_n 2, 1) := by decide +kernel
theorem dL_acts_394 : decode cL_acts 394 = .ok (.bipush 8, 2) := by decide +kernel
theorem dL_acts_396 : decode cL_acts 396 = .ok (.invokevirtual 123, 3) := by decide +kernel
theorem dL_acts_399 : decode cL_acts 399 = .ok (.aload_n 2, 1) := by decide +kernel
theorem dL_acts_400 : decode cL_acts 400 = .ok (.iconst 5, 1) := by decide +kernel
theorem dL_acts_401 : decode cL_acts 401 = .ok (.invokevirtual 123, 3) := by decide +kernel
theorem dL_acts_404 : decode cL_acts 404 = .ok (.iconst 2, 1) := by decide +kernel
theorem dL_acts_405 : decode cL_acts 405 = .ok (.isub, 1) := by decide +kernel
theorem dL_acts_406 : decode cL_acts 406 = .ok (.aload_n 2, 1) := by decide +kernel
theorem dL_acts_407 : decode cL_acts 407 = .ok (.bipush 61, 2) := by decide +kernel
theorem dL_acts_409 : decode cL_acts 409 = .ok (.invokevirtual 123, 3) := by decide +kernel
theorem dL_acts_412 : decode cL_acts 412 = .ok (.bipush 30, 2) := by decide +kernel
theorem dL_acts_414 : decode cL_acts 414 = .ok (.isub, 1) := by decide +kernel
theorem dL_acts_415 : decode cL_acts 415 = .ok (.invokestatic 153, 3) := by decide +kernel
theorem dL_acts_418 : decode cL_acts 418 = .ok (.istore 8, 2) := by decide +kernel
theorem dL_acts_420 : decode cL_acts 420 = .ok (.iload 6, 2) := by decide +kernel
theorem dL_acts_422 : decode cL_acts 422 = .ok (.aload_n 0, 1) := by decide +kernel
theorem dL_acts_423 : decode cL_acts 423 = .ok (.invokevirtual 155, 3) := by decide +kernel
theorem dL_acts_426 : decode cL_acts 426 = .ok (.if_icmp .ge 7, 3) := by decide +kernel
theorem dL_acts_429 : decode cL_acts 429 = .ok (.iconst 0, 1) := by decide +kernel
theorem dL_acts_430 : decode cL_acts 430 = .ok (.goto 5, 3) := by decide +kernel
theorem dL_acts_433 : decode cL_acts 433 = .ok (.iload 8, 2) := by decide +kernel
theorem dL_acts_435 : decode cL_acts 435 = .ok (.ireturn, 1) := by decide +kernel
theorem dL_told_0 : decode cL_told 0 = .ok (.new 158, 3) := by decide +kernel
theorem dL_told_3 : decode cL_told 3 = .ok (.dup, 1) := by decide +kernel
theorem dL_told_4 : decode cL_told 4 = .ok (.invokespecial 160, 3) := by decide +kernel
theorem dL_told_7 : decode cL_told 7 = .ok (.astore_n 1, 1) := by decide +kernel
theorem dL_told_8 : decode cL_told 8 = .ok (.aload_n 1, 1) := by decide +kernel
theorem dL_told_9 : decode cL_told 9 = .ok (.aload_n 0, 1) := by decide +kernel
theorem dL_told_10 : decode cL_told 10 = .ok (.invokevirtual 161, 3) := by decide +kernel
theorem dL_told_13 : decode cL_told 13 = .ok (.invokevirtual 164, 3) := by decide +kernel
theorem dL_told_16 : decode cL_told 16 = .ok (.bipush 47, 2) := by decide +kernel
theorem dL_told_18 : decode cL_told 18 = .ok (.invokevirtual 168, 3) := by decide +kernel
theorem dL_told_21 : decode cL_told 21 = .ok (.aload_n 0, 1) := by decide +kernel
theorem dL_told_22 : decode cL_told 22 = .ok (.invokevirtual 155, 3) := by decide +kernel
theorem dL_told_25 : decode cL_told 25 = .ok (.invokevirtual 164, 3) := by decide +kernel
theorem dL_told_28 : decode cL_told 28 = .ok (.bipush 47, 2) := by decide +kernel
theorem dL_told_30 : decode cL_told 30 = .ok (.invokevirtual 168, 3) := by decide +kernel
theorem dL_told_33 : decode cL_told 33 = .ok (.aload_n 0, 1) := by decide +kernel
theorem dL_told_34 : decode cL_told 34 = .ok (.invokevirtual 171, 3) := by decide +kernel
theorem dL_told_37 : decode cL_told 37 = .ok (.invokevirtual 164, 3) := by decide +kernel
theorem dL_told_40 : decode cL_told 40 = .ok (.bipush 47, 2) := by decide +kernel
theorem dL_told_42 : decode cL_told 42 = .ok (.invokevirtual 168, 3) := by decide +kernel
theorem dL_told_45 : decode cL_told 45 = .ok (.aload_n 0, 1) := by decide +kernel
theorem dL_told_46 : decode cL_told 46 = .ok (.invokevirtual 174, 3) := by decide +kernel
theorem dL_told_49 : decode cL_told 49 = .ok (.invokevirtual 178, 3) := by decide +kernel
theorem dL_told_52 : decode cL_told 52 = .ok (.bipush 47, 2) := by decide +kernel
theorem dL_told_54 : decode cL_told 54 = .ok (.invokevirtual 168, 3) := by decide +kernel
theorem dL_told_57 : decode cL_told 57 = .ok (.aload_n 0, 1) := by decide +kernel
theorem dL_told_58 : decode cL_told 58 = .ok (.invokestatic 181, 3) := by decide +kernel
theorem dL_told_61 : decode cL_told 61 = .ok (.invokevirtual 164, 3) := by decide +kernel
theorem dL_told_64 : decode cL_told 64 = .ok (.bipush 47, 2) := by decide +kernel
theorem dL_told_66 : decode cL_told 66 = .ok (.invokevirtual 168, 3) := by decide +kernel
theorem dL_told_69 : decode cL_told 69 = .ok (.aload_n 0, 1) := by decide +kernel
theorem dL_told_70 : decode cL_told 70 = .ok (.invokestatic 184, 3) := by decide +kernel
theorem dL_told_73 : decode cL_told 73 = .ok (.invokevirtual 164, 3) := by decide +kernel
theorem dL_told_76 : decode cL_told 76 = .ok (.bipush 47, 2) := by decide +kernel
theorem dL_told_78 : decode cL_told 78 = .ok (.invokevirtual 168, 3) := by decide +kernel
theorem dL_told_81 : decode cL_told 81 = .ok (.aload_n 0, 1) := by decide +kernel
theorem dL_told_82 : decode cL_told 82 = .ok (.invokestatic 186, 3) := by decide +kernel
theorem dL_told_85 : decode cL_told 85 = .ok (.invokevirtual 189, 3) := by decide +kernel
theorem dL_told_88 : decode cL_told 88 = .ok (.bipush 47, 2) := by decide +kernel
theorem dL_told_90 : decode cL_told 90 = .ok (.invokevirtual 168, 3) := by decide +kernel
theorem dL_told_93 : decode cL_told 93 = .ok (.aload_n 0, 1) := by decide +kernel
theorem dL_told_94 : decode cL_told 94 = .ok (.invokevirtual 192, 3) := by decide +kernel
theorem dL_told_97 : decode cL_told 97 = .ok (.invokevirtual 196, 3) := by decide +kernel
theorem dL_told_100 : decode cL_told 100 = .ok (.pop, 1) := by decide +kernel
theorem dL_told_101 : decode cL_told 101 = .ok (.iconst 0, 1) := by decide +kernel
theorem dL_told_102 : decode cL_told 102 = .ok (.istore_n 2, 1) := by decide +kernel
theorem dL_told_103 : decode cL_told 103 = .ok (.iload_n 2, 1) := by decide +kernel
theorem dL_told_104 : decode cL_told 104 = .ok (.iconst 4, 1) := by decide +kernel
theorem dL_told_105 : decode cL_told 105 = .ok (.if_icmp .ge 124, 3) := by decide +kernel
theorem dL_told_108 : decode cL_told 108 = .ok (.aload_n 1, 1) := by decide +kernel
theorem dL_told_109 : decode cL_told 109 = .ok (.bipush 59, 2) := by decide +kernel
theorem dL_told_111 : decode cL_told 111 = .ok (.invokevirtual 168, 3) := by decide +kernel
theorem dL_told_114 : decode cL_told 114 = .ok (.aload_n 0, 1) := by decide +kernel
theorem dL_told_115 : decode cL_told 115 = .ok (.iload_n 2, 1) := by decide +kernel
theorem dL_told_116 : decode cL_told 116 = .ok (.invokestatic 199, 3) := by decide +kernel
theorem dL_told_119 : decode cL_told 119 = .ok (.invokevirtual 164, 3) := by decide +kernel
theorem dL_told_122 : decode cL_told 122 = .ok (.bipush 44, 2) := by decide +kernel
theorem dL_told_124 : decode cL_told 124 = .ok (.invokevirtual 168, 3) := by decide +kernel
theorem dL_told_127 : decode cL_told 127 = .ok (.aload_n 0, 1) := by decide +kernel
theorem dL_told_128 : decode cL_told 128 = .ok (.iload_n 2, 1) := by decide +kernel
theorem dL_told_129 : decode cL_told 129 = .ok (.invokestatic 201, 3) := by decide +kernel
theorem dL_told_132 : decode cL_told 132 = .ok (.invokevirtual 164, 3) := by decide +kernel
theorem dL_told_135 : decode cL_told 135 = .ok (.bipush 44, 2) := by decide +kernel
theorem dL_told_137 : decode cL_told 137 = .ok (.invokevirtual 168, 3) := by decide +kernel
theorem dL_told_140 : decode cL_told 140 = .ok (.aload_n 0, 1) := by decide +kernel
theorem dL_told_141 : decode cL_told 141 = .ok (.iload_n 2, 1) := by decide +kernel
theorem dL_told_142 : decode cL_told 142 = .ok (.invokestatic 203, 3) := by decide +kernel
theorem dL_told_145 : decode cL_told 145 = .ok (.invokevirtual 164, 3) := by decide +kernel
theorem dL_told_148 : decode cL_told 148 = .ok (.bipush 44, 2) := by decide +kernel
theorem dL_told_150 : decode cL_told 150 = .ok (.invokevirtual 168, 3) := by decide +kernel
theorem dL_told_153 : decode cL_told 153 = .ok (.aload_n 0, 1) := by decide +kernel
theorem dL_told_154 : decode cL_told 154 = .ok (.iload_n 2, 1) := by decide +kernel
theorem dL_told_155 : decode cL_told 155 = .ok (.invokestatic 205, 3) := by decide +kernel
theorem dL_told_158 : decode cL_told 158 = .ok (.invokevirtual 164, 3) := by decide +kernel
theorem dL_told_161 : decode cL_told 161 = .ok (.bipush 44, 2) := by decide +kernel
theorem dL_told_163 : decode cL_told 163 = .ok (.invokevirtual 168, 3) := by decide +kernel
theorem dL_told_166 : decode cL_told 166 = .ok (.aload_n 0, 1) := by decide +kernel
theorem dL_told_167 : decode cL_told 167 = .ok (.iconst 5, 1) := by decide +kernel
theorem dL_told_168 : decode cL_told 168 = .ok (.iload_n 2, 1) := by decide +kernel
theorem dL_told_169 : decode cL_told 169 = .ok (.imul, 1) := by decide +kernel
theorem dL_told_170 : decode cL_told 170 = .ok (.iload_n 2, 1) := by decide +kernel
theorem dL_told_171 : decode cL_told 171 = .ok (.bipush 9, 2) := by decide +kernel
theorem dL_told_173 : decode cL_told 173 = .ok (.iload_n 2, 1) := by decide +kernel
theorem dL_told_174 : decode cL_told 174 = .ok (.iadd, 1) := by decide +kernel
theorem dL_told_175 : decode cL_told 175 = .ok (.invokestatic 207, 3) := by decide +kernel
theorem dL_told_178 : decode cL_told 178 = .ok (.invokevirtual 164, 3) := by decide +kernel
theorem dL_told_181 : decode cL_told 181 = .ok (.aload_n 0, 1) := by decide +kernel
theorem dL_told_182 : decode cL_told 182 = .ok (.bipush 7, 2) := by decide +kernel
theorem dL_told_184 : decode cL_told 184 = .ok (.iload_n 2, 1) := by decide +kernel
theorem dL_told_185 : decode cL_told 185 = .ok (.bipush 10, 2) := by decide +kernel
theorem dL_told_187 : decode cL_told 187 = .ok (.invokestatic 209, 3) := by decide +kernel
theorem dL_told_190 : decode cL_told 190 = .ok (.invokevirtual 164, 3) := by decide +kernel
theorem dL_told_193 : decode cL_told 193 = .ok (.bipush 44, 2) := by decide +kernel
theorem dL_told_195 : decode cL_told 195 = .ok (.invokevirtual 168, 3) := by decide +kernel
theorem dL_told_198 : decode cL_told 198 = .ok (.aload_n 0, 1) := by decide +kernel
theorem dL_told_199 : decode cL_told 199 = .ok (.bipush 20, 2) := by decide +kernel
theorem dL_told_201 : decode cL_told 201 = .ok (.iload_n 2, 1) := by decide +kernel
theorem dL_told_202 : decode cL_told 202 = .ok (.imul, 1) := by decide +kernel
theorem dL_told_203 : decode cL_told 203 = .ok (.invokestatic 211, 3) := by decide +kernel
theorem dL_told_206 : decode cL_told 206 = .ok (.invokevirtual 164, 3) := by decide +kernel
theorem dL_told_209 : decode cL_told 209 = .ok (.bipush 44, 2) := by decide +kernel
theorem dL_told_211 : decode cL_told 211 = .ok (.invokevirtual 168, 3) := by decide +kernel
theorem dL_told_214 : decode cL_told 214 = .ok (.aload_n 0, 1) := by decide +kernel
theorem dL_told_215 : decode cL_told 215 = .ok (.iload_n 2, 1) := by decide +kernel
theorem dL_told_216 : decode cL_told 216 = .ok (.invokestatic 213, 3) := by decide +kernel
theorem dL_told_219 : decode cL_told 219 = .ok (.invokevirtual 164, 3) := by decide +kernel
theorem dL_told_222 : decode cL_told 222 = .ok (.pop, 1) := by decide +kernel
theorem dL_told_223 : decode cL_told 223 = .ok (.iinc 2 1, 3) := by decide +kernel
theorem dL_told_226 : decode cL_told 226 = .ok (.goto (-123), 3) := by decide +kernel
theorem dL_told_229 : decode cL_told 229 = .ok (.aload_n 1, 1) := by decide +kernel
theorem dL_told_230 : decode cL_told 230 = .ok (.invokevirtual 215, 3) := by decide +kernel
theorem dL_told_233 : decode cL_told 233 = .ok (.areturn, 1) := by decide +kernel
theorem dL_charted_0 : decode cL_charted 0 = .ok (.iconst 0, 1) := by decide +kernel
theorem dL_charted_1 : decode cL_charted 1 = .ok (.istore_n 1, 1) := by decide +kernel
theorem dL_charted_2 : decode cL_charted 2 = .ok (.lconst 0, 1) := by decide +kernel
theorem dL_charted_3 : decode cL_charted 3 = .ok (.lstore_n 2, 1) := by decide +kernel
theorem dL_charted_4 : decode cL_charted 4 = .ok (.iconst 0, 1) := by decide +kernel
theorem dL_charted_5 : decode cL_charted 5 = .ok (.istore 4, 2) := by decide +kernel
theorem dL_charted_7 : decode cL_charted 7 = .ok (.iconst 0, 1) := by decide +kernel
theorem dL_charted_8 : decode cL_charted 8 = .ok (.istore 5, 2) := by decide +kernel
theorem dL_charted_10 : decode cL_charted 10 = .ok (.iload 5, 2) := by decide +kernel
theorem dL_charted_12 : decode cL_charted 12 = .ok (.bipush 12, 2) := by decide +kernel
theorem dL_charted_14 : decode cL_charted 14 = .ok (.if_icmp .ge 139, 3) := by decide +kernel
theorem dL_charted_17 : decode cL_charted 17 = .ok (.iconst 0, 1) := by decide +kernel
theorem dL_charted_18 : decode cL_charted 18 = .ok (.istore 6, 2) := by decide +kernel
theorem dL_charted_20 : decode cL_charted 20 = .ok (.iload 6, 2) := by decide +kernel
theorem dL_charted_22 : decode cL_charted 22 = .ok (.bipush 20, 2) := by decide +kernel
theorem dL_charted_24 : decode cL_charted 24 = .ok (.if_icmp .ge 123, 3) := by decide +kernel
theorem dL_charted_27 : decode cL_charted 27 = .ok (.aload_n 0, 1) := by decide +kernel
theorem dL_charted_28 : decode cL_charted 28 = .ok (.iload 4, 2) := by decide +kernel
theorem dL_charted_30 : decode cL_charted 30 = .ok (.invokestatic 211, 3) := by decide +kernel
theorem dL_charted_33 : decode cL_charted 33 = .ok (.bipush 100, 2) := by decide +kernel
theorem dL_charted_35 : decode cL_charted 35 = .ok (.iload 5, 2) := by decide +kernel
theorem dL_charted_37 : decode cL_charted 37 = .ok (.imul, 1) := by decide +kernel
theorem dL_charted_38 : decode cL_charted 38 = .ok (.iload 6, 2) := by decide +kernel
theorem dL_charted_40 : decode cL_charted 40 = .ok (.iadd, 1) := by decide +kernel
theorem dL_charted_41 : decode cL_charted 41 = .ok (.if_icmp .ne 7, 3) := by decide +kernel
theorem dL_charted_44 : decode cL_charted 44 = .ok (.iconst 1, 1) := by decide +kernel
theorem dL_charted_45 : decode cL_charted 45 = .ok (.goto 4, 3) := by decide +kernel
theorem dL_charted_48 : decode cL_charted 48 = .ok (.iconst 0, 1) := by decide +kernel
theorem dL_charted_49 : decode cL_charted 49 = .ok (.istore 7, 2) := by decide +kernel
theorem dL_charted_51 : decode cL_charted 51 = .ok (.iload 4, 2) := by decide +kernel
theorem dL_charted_53 : decode cL_charted 53 = .ok (.iload 7, 2) := by decide +kernel
theorem dL_charted_55 : decode cL_charted 55 = .ok (.ifCond .eq 7, 3) := by decide +kernel
theorem dL_charted_58 : decode cL_charted 58 = .ok (.iconst 1, 1) := by decide +kernel
theorem dL_charted_59 : decode cL_charted 59 = .ok (.goto 4, 3) := by decide +kernel
theorem dL_charted_62 : decode cL_charted 62 = .ok (.iconst 0, 1) := by decide +kernel
theorem dL_charted_63 : decode cL_charted 63 = .ok (.iadd, 1) := by decide +kernel
theorem dL_charted_64 : decode cL_charted 64 = .ok (.istore 4, 2) := by decide +kernel
theorem dL_charted_66 : decode cL_charted 66 = .ok (.aload_n 0, 1) := by decide +kernel
theorem dL_charted_67 : decode cL_charted 67 = .ok (.iload 6, 2) := by decide +kernel
theorem dL_charted_69 : decode cL_charted 69 = .ok (.iload 5, 2) := by decide +kernel
theorem dL_charted_71 : decode cL_charted 71 = .ok (.invokestatic 219, 3) := by decide +kernel
theorem dL_charted_74 : decode cL_charted 74 = .ok (.aload_n 0, 1) := by decide +kernel
theorem dL_charted_75 : decode cL_charted 75 = .ok (.iload 6, 2) := by decide +kernel
theorem dL_charted_77 : decode cL_charted 77 = .ok (.iload 5, 2) := by decide +kernel
theorem dL_charted_79 : decode cL_charted 79 = .ok (.invokestatic 221, 3) := by decide +kernel
theorem dL_charted_82 : decode cL_charted 82 = .ok (.if_icmp .eq 5, 3) := by decide +kernel
theorem dL_charted_85 : decode cL_charted 85 = .ok (.iconst 0, 1) := by decide +kernel
theorem dL_charted_86 : decode cL_charted 86 = .ok (.ireturn, 1) := by decide +kernel
theorem dL_charted_87 : decode cL_charted 87 = .ok (.iload_n 1, 1) := by decide +kernel
theorem dL_charted_88 : decode cL_charted 88 = .ok (.iload 7, 2) := by decide +kernel
theorem dL_charted_90 : decode cL_charted 90 = .ok (.ifCond .eq 7, 3) := by decide +kernel
theorem dL_charted_93 : decode cL_charted 93 = .ok (.iconst 0, 1) := by decide +kernel
theorem dL_charted_94 : decode cL_charted 94 = .ok (.goto 4, 3) := by decide +kernel
theorem dL_charted_97 : decode cL_charted 97 = .ok (.iconst 1, 1) := by decide +kernel
theorem dL_charted_98 : decode cL_charted 98 = .ok (.iadd, 1) := by decide +kernel
theorem dL_charted_99 : decode cL_charted 99 = .ok (.istore_n 1, 1) := by decide +kernel
theorem dL_charted_100 : decode cL_charted 100 = .ok (.lload_n 2, 1) := by decide +kernel
theorem dL_charted_101 : decode cL_charted 101 = .ok (.iload 7, 2) := by decide +kernel
theorem dL_charted_103 : decode cL_charted 103 = .ok (.ifCond .eq 7, 3) := by decide +kernel
theorem dL_charted_106 : decode cL_charted 106 = .ok (.lconst 0, 1) := by decide +kernel
theorem dL_charted_107 : decode cL_charted 107 = .ok (.goto 12, 3) := by decide +kernel
theorem dL_charted_110 : decode cL_charted 110 = .ok (.aload_n 0, 1) := by decide +kernel
theorem dL_charted_111 : decode cL_charted 111 = .ok (.iload 6, 2) := by decide +kernel
theorem dL_charted_113 : decode cL_charted 113 = .ok (.iload 5, 2) := by decide +kernel
theorem dL_charted_115 : decode cL_charted 115 = .ok (.invokestatic 219, 3) := by decide +kernel
theorem dL_charted_118 : decode cL_charted 118 = .ok (.i2l, 1) := by decide +kernel
theorem dL_charted_119 : decode cL_charted 119 = .ok (.ladd, 1) := by decide +kernel
theorem dL_charted_120 : decode cL_charted 120 = .ok (.lstore_n 2, 1) := by decide +kernel
theorem dL_charted_121 : decode cL_charted 121 = .ok (.iload 7, 2) := by decide +kernel
theorem dL_charted_123 : decode cL_charted 123 = .ok (.ifCond .eq 18, 3) := by decide +kernel
theorem dL_charted_126 : decode cL_charted 126 = .ok (.aload_n 0, 1) := by decide +kernel
theorem dL_charted_127 : decode cL_charted 127 = .ok (.iload 6, 2) := by decide +kernel
theorem dL_charted_129 : decode cL_charted 129 = .ok (.iload 5, 2) := by decide +kernel
theorem dL_charted_131 : decode cL_charted 131 = .ok (.invokestatic 219, 3) := by decide +kernel
theorem dL_charted_134 : decode cL_charted 134 = .ok (.bipush (-2), 2) := by decide +kernel
theorem dL_charted_136 : decode cL_charted 136 = .ok (.if_icmp .eq 5, 3) := by decide +kernel
theorem dL_charted_139 : decode cL_charted 139 = .ok (.iconst 0, 1) := by decide +kernel
theorem dL_charted_140 : decode cL_charted 140 = .ok (.ireturn, 1) := by decide +kernel
theorem dL_charted_141 : decode cL_charted 141 = .ok (.iinc 6 1, 3) := by decide +kernel
theorem dL_charted_144 : decode cL_charted 144 = .ok (.goto (-124), 3) := by decide +kernel
theorem dL_charted_147 : decode cL_charted 147 = .ok (.iinc 5 1, 3) := by decide +kernel
theorem dL_charted_150 : decode cL_charted 150 = .ok (.goto (-140), 3) := by decide +kernel
theorem dL_charted_153 : decode cL_charted 153 = .ok (.aload_n 0, 1) := by decide +kernel
theorem dL_charted_154 : decode cL_charted 154 = .ok (.invokestatic 186, 3) := by decide +kernel
theorem dL_charted_157 : decode cL_charted 157 = .ok (.iload_n 1, 1) := by decide +kernel
theorem dL_charted_158 : decode cL_charted 158 = .ok (.ifCond .ne 9, 3) := by decide +kernel
theorem dL_charted_161 : decode cL_charted 161 = .ok (.ldc2_w 114, 3) := by decide +kernel
theorem dL_charted_164 : decode cL_charted 164 = .ok (.goto 8, 3) := by decide +kernel
theorem dL_charted_167 : decode cL_charted 167 = .ok (.lload_n 2, 1) := by decide +kernel
theorem dL_charted_168 : decode cL_charted 168 = .ok (.l2d, 1) := by decide +kernel
theorem dL_charted_169 : decode cL_charted 169 = .ok (.iload_n 1, 1) := by decide +kernel
theorem dL_charted_170 : decode cL_charted 170 = .ok (.i2d, 1) := by decide +kernel
theorem dL_charted_171 : decode cL_charted 171 = .ok (.ddiv, 1) := by decide +kernel
theorem dL_charted_172 : decode cL_charted 172 = .ok (.dcmp .l, 1) := by decide +kernel
theorem dL_charted_173 : decode cL_charted 173 = .ok (.ifCond .ne 7, 3) := by decide +kernel
theorem dL_charted_176 : decode cL_charted 176 = .ok (.iconst 1, 1) := by decide +kernel
theorem dL_charted_177 : decode cL_charted 177 = .ok (.goto 4, 3) := by decide +kernel
theorem dL_charted_180 : decode cL_charted 180 = .ok (.iconst 0, 1) := by decide +kernel
theorem dL_charted_181 : decode cL_charted 181 = .ok (.istore 5, 2) := by decide +kernel
theorem dL_charted_183 : decode cL_charted 183 = .ok (.iload 5, 2) := by decide +kernel
theorem dL_charted_185 : decode cL_charted 185 = .ok (.ifCond .eq 73, 3) := by decide +kernel
theorem dL_charted_188 : decode cL_charted 188 = .ok (.iload_n 1, 1) := by decide +kernel
theorem dL_charted_189 : decode cL_charted 189 = .ok (.aload_n 0, 1) := by decide +kernel
theorem dL_charted_190 : decode cL_charted 190 = .ok (.invokevirtual 161, 3) := by decide +kernel
theorem dL_charted_193 : decode cL_charted 193 = .ok (.if_icmp .ne 65, 3) := by decide +kernel
theorem dL_charted_196 : decode cL_charted 196 = .ok (.aload_n 0, 1) := by decide +kernel
theorem dL_charted_197 : decode cL_charted 197 = .ok (.iload 4, 2) := by decide +kernel
theorem dL_charted_199 : decode cL_charted 199 = .ok (.invokestatic 211, 3) := by decide +kernel
theorem dL_charted_202 : decode cL_charted 202 = .ok (.iconst (-1), 1) := by decide +kernel
theorem dL_charted_203 : decode cL_charted 203 = .ok (.if_icmp .ne 55, 3) := by decide +kernel
theorem dL_charted_206 : decode cL_charted 206 = .ok (.aload_n 0, 1) := by decide +kernel
theorem dL_charted_207 : decode cL_charted 207 = .ok (.invokevirtual 192, 3) := by decide +kernel
theorem dL_charted_210 : decode cL_charted 210 = .ok (.iload_n 1, 1) := by decide +kernel
theorem dL_charted_211 : decode cL_charted 211 = .ok (.i2f, 1) := by decide +kernel
theorem dL_charted_212 : decode cL_charted 212 = .ok (.ldc 223, 2) := by decide +kernel
theorem dL_charted_214 : decode cL_charted 214 = .ok (.fdiv, 1) := by decide +kernel
theorem dL_charted_215 : decode cL_charted 215 = .ok (.fcmp .l, 1) := by decide +kernel
theorem dL_charted_216 : decode cL_charted 216 = .ok (.ifCond .ne 42, 3) := by decide +kernel
theorem dL_charted_219 : decode cL_charted 219 = .ok (.aload_n 0, 1) := by decide +kernel
theorem dL_charted_220 : decode cL_charted 220 = .ok (.invokevirtual 224, 3) := by decide +kernel
theorem dL_charted_223 : decode cL_charted 223 = .ok (.ifCond .eq 35, 3) := by decide +kernel
theorem dL_charted_226 : decode cL_charted 226 = .ok (.aload_n 0, 1) := by decide +kernel
theorem dL_charted_227 : decode cL_charted 227 = .ok (.invokestatic 184, 3) := by decide +kernel
theorem dL_charted_230 : decode cL_charted 230 = .ok (.iconst (-1), 1) := by decide +kernel
theorem dL_charted_231 : decode cL_charted 231 = .ok (.if_icmp .ne 7, 3) := by decide +kernel
theorem dL_charted_234 : decode cL_charted 234 = .ok (.iconst 1, 1) := by decide +kernel
theorem dL_charted_235 : decode cL_charted 235 = .ok (.goto 4, 3) := by decide +kernel
theorem dL_charted_238 : decode cL_charted 238 = .ok (.iconst 0, 1) := by decide +kernel
theorem dL_charted_239 : decode cL_charted 239 = .ok (.iload_n 1, 1) := by decide +kernel
theorem dL_charted_240 : decode cL_charted 240 = .ok (.sipush 240, 3) := by decide +kernel
theorem dL_charted_243 : decode cL_charted 243 = .ok (.if_icmp .ne 7, 3) := by decide +kernel
theorem dL_charted_246 : decode cL_charted 246 = .ok (.iconst 1, 1) := by decide +kernel
theorem dL_charted_247 : decode cL_charted 247 = .ok (.goto 4, 3) := by decide +kernel
theorem dL_charted_250 : decode cL_charted 250 = .ok (.iconst 0, 1) := by decide +kernel
theorem dL_charted_251 : decode cL_charted 251 = .ok (.if_icmp .ne 7, 3) := by decide +kernel
theorem dL_charted_254 : decode cL_charted 254 = .ok (.iconst 1, 1) := by decide +kernel
theorem dL_charted_255 : decode cL_charted 255 = .ok (.goto 4, 3) := by decide +kernel
theorem dL_charted_258 : decode cL_charted 258 = .ok (.iconst 0, 1) := by decide +kernel
theorem dL_charted_259 : decode cL_charted 259 = .ok (.ireturn, 1) := by decide +kernel
theorem dL_sounded_0 : decode cL_sounded 0 = .ok (.iload_n 1, 1) := by decide +kernel
theorem dL_sounded_1 : decode cL_sounded 1 = .ok (.aload_n 0, 1) := by decide +kernel
theorem dL_sounded_2 : decode cL_sounded 2 = .ok (.invokevirtual 155, 3) := by decide +kernel
theorem dL_sounded_5 : decode cL_sounded 5 = .ok (.if_icmp .lt 65, 3) := by decide +kernel
theorem dL_sounded_8 : decode cL_sounded 8 = .ok (.aload_n 0, 1) := by decide +kernel
theorem dL_sounded_9 : decode cL_sounded 9 = .ok (.iload_n 1, 1) := by decide +kernel
theorem dL_sounded_10 : decode cL_sounded 10 = .ok (.invokestatic 199, 3) := by decide +kernel
theorem dL_sounded_13 : decode cL_sounded 13 = .ok (.iconst (-1), 1) := by decide +kernel
theorem dL_sounded_14 : decode cL_sounded 14 = .ok (.if_icmp .ne 54, 3) := by decide +kernel
theorem dL_sounded_17 : decode cL_sounded 17 = .ok (.aload_n 0, 1) := by decide +kernel
theorem dL_sounded_18 : decode cL_sounded 18 = .ok (.iload_n 1, 1) := by decide +kernel
theorem dL_sounded_19 : decode cL_sounded 19 = .ok (.invokestatic 203, 3) := by decide +kernel
theorem dL_sounded_22 : decode cL_sounded 22 = .ok (.iconst (-1), 1) := by decide +kernel
theorem dL_sounded_23 : decode cL_sounded 23 = .ok (.if_icmp .ne 45, 3) := by decide +kernel
theorem dL_sounded_26 : decode cL_sounded 26 = .ok (.aload_n 0, 1) := by decide +kernel
theorem dL_sounded_27 : decode cL_sounded 27 = .ok (.iload_n 1, 1) := by decide +kernel
theorem dL_sounded_28 : decode cL_sounded 28 = .ok (.invokestatic 201, 3) := by decide +kernel
theorem dL_sounded_31 : decode cL_sounded 31 = .ok (.iconst (-1), 1) := by decide +kernel
theorem dL_sounded_32 : decode cL_sounded 32 = .ok (.if_icmp .ne 36, 3) := by decide +kernel
theorem dL_sounded_35 : decode cL_sounded 35 = .ok (.aload_n 0, 1) := by decide +kernel
theorem dL_sounded_36 : decode cL_sounded 36 = .ok (.iload_n 1, 1) := by decide +kernel
theorem dL_sounded_37 : decode cL_sounded 37 = .ok (.invokestatic 205, 3) := by decide +kernel
theorem dL_sounded_40 : decode cL_sounded 40 = .ok (.iconst (-1), 1) := by decide +kernel
theorem dL_sounded_41 : decode cL_sounded 41 = .ok (.if_icmp .ne 27, 3) := by decide +kernel
theorem dL_sounded_44 : decode cL_sounded 44 = .ok (.aload_n 0, 1) := by decide +kernel
theorem dL_sounded_45 : decode cL_sounded 45 = .ok (.iload_n 1, 1) := by decide +kernel
theorem dL_sounded_46 : decode cL_sounded 46 = .ok (.invokestatic 228, 3) := by decide +kernel
theorem dL_sounded_49 : decode cL_sounded 49 = .ok (.iconst (-1), 1) := by decide +kernel
theorem dL_sounded_50 : decode cL_sounded 50 = .ok (.if_icmp .ne 18, 3) := by decide +kernel
theorem dL_sounded_53 : decode cL_sounded 53 = .ok (.aload_n 0, 1) := by decide +kernel
theorem dL_sounded_54 : decode cL_sounded 54 = .ok (.iload_n 1, 1) := by decide +kernel
theorem dL_sounded_55 : decode cL_sounded 55 = .ok (.iconst 0, 1) := by decide +kernel
theorem dL_sounded_56 : decode cL_sounded 56 = .ok (.iconst 0, 1) := by decide +kernel
theorem dL_sounded_57 : decode cL_sounded 57 = .ok (.invokestatic 151, 3) := by decide +kernel
theorem dL_sounded_60 : decode cL_sounded 60 = .ok (.iconst (-1), 1) := by decide +kernel
theorem dL_sounded_61 : decode cL_sounded 61 = .ok (.if_icmp .ne 7, 3) := by decide +kernel
theorem dL_sounded_64 : decode cL_sounded 64 = .ok (.iconst 1, 1) := by decide +kernel
theorem dL_sounded_65 : decode cL_sounded 65 = .ok (.goto 4, 3) := by decide +kernel
theorem dL_sounded_68 : decode cL_sounded 68 = .ok (.iconst 0, 1) := by decide +kernel
theorem dL_sounded_69 : decode cL_sounded 69 = .ok (.ireturn, 1) := by decide +kernel
theorem dL_sounded_70 : decode cL_sounded 70 = .ok (.iconst 0, 1) := by decide +kernel
theorem dL_sounded_71 : decode cL_sounded 71 = .ok (.istore_n 2, 1) := by decide +kernel
theorem dL_sounded_72 : decode cL_sounded 72 = .ok (.iconst 0, 1) := by decide +kernel
theorem dL_sounded_73 : decode cL_sounded 73 = .ok (.istore_n 3, 1) := by decide +kernel
theorem dL_sounded_74 : decode cL_sounded 74 = .ok (.iconst 0, 1) := by decide +kernel
theorem dL_sounded_75 : decode cL_sounded 75 = .ok (.istore 4, 2) := by decide +kernel
theorem dL_sounded_77 : decode cL_sounded 77 = .ok (.aload_n 0, 1) := by decide +kernel
theorem dL_sounded_78 : decode cL_sounded 78 = .ok (.iload_n 1, 1) := by decide +kernel
theorem dL_sounded_79 : decode cL_sounded 79 = .ok (.invokestatic 228, 3) := by decide +kernel
theorem dL_sounded_82 : decode cL_sounded 82 = .ok (.istore 5, 2) := by decide +kernel
theorem dL_sounded_84 : decode cL_sounded 84 = .ok (.iconst 0, 1) := by decide +kernel
theorem dL_sounded_85 : decode cL_sounded 85 = .ok (.istore 6, 2) := by decide +kernel
theorem dL_sounded_87 : decode cL_sounded 87 = .ok (.iload 6, 2) := by decide +kernel
theorem dL_sounded_89 : decode cL_sounded 89 = .ok (.bipush 20, 2) := by decide +kernel
theorem dL_sounded_91 : decode cL_sounded 91 = .ok (.if_icmp .ge 105, 3) := by decide +kernel
theorem dL_sounded_94 : decode cL_sounded 94 = .ok (.bipush (-3), 2) := by decide +kernel
theorem dL_sounded_96 : decode cL_sounded 96 = .ok (.istore 7, 2) := by decide +kernel
theorem dL_sounded_98 : decode cL_sounded 98 = .ok (.iload 7, 2) := by decide +kernel
theorem dL_sounded_100 : decode cL_sounded 100 = .ok (.iconst 3, 1) := by decide +kernel
theorem dL_sounded_101 : decode cL_sounded 101 = .ok (.if_icmp .gt 89, 3) := by decide +kernel
theorem dL_sounded_104 : decode cL_sounded 104 = .ok (.aload_n 0, 1) := by decide +kernel
theorem dL_sounded_105 : decode cL_sounded 105 = .ok (.iload_n 1, 1) := by decide +kernel
theorem dL_sounded_106 : decode cL_sounded 106 = .ok (.iload 6, 2) := by decide +kernel
theorem dL_sounded_108 : decode cL_sounded 108 = .ok (.iload 7, 2) := by decide +kernel
theorem dL_sounded_110 : decode cL_sounded 110 = .ok (.invokestatic 230, 3) := by decide +kernel
theorem dL_sounded_113 : decode cL_sounded 113 = .ok (.istore 8, 2) := by decide +kernel
theorem dL_sounded_115 : decode cL_sounded 115 = .ok (.iload 8, 2) := by decide +kernel
theorem dL_sounded_117 : decode cL_sounded 117 = .ok (.bipush (-2), 2) := by decide +kernel
theorem dL_sounded_119 : decode cL_sounded 119 = .ok (.if_icmp .ne 6, 3) := by decide +kernel
theorem dL_sounded_122 : decode cL_sounded 122 = .ok (.goto 62, 3) := by decide +kernel
theorem dL_sounded_125 : decode cL_sounded 125 = .ok (.iinc 2 1, 3) := by decide +kernel
theorem dL_sounded_128 : decode cL_sounded 128 = .ok (.iload_n 3, 1) := by decide +kernel
theorem dL_sounded_129 : decode cL_sounded 129 = .ok (.iload 8, 2) := by decide +kernel
theorem dL_sounded_131 : decode cL_sounded 131 = .ok (.iconst 1, 1) := by decide +kernel
theorem dL_sounded_132 : decode cL_sounded 132 = .ok (.if_icmp .ne 7, 3) := by decide +kernel
theorem dL_sounded_135 : decode cL_sounded 135 = .ok (.iconst 1, 1) := by decide +kernel
theorem dL_sounded_136 : decode cL_sounded 136 = .ok (.goto 4, 3) := by decide +kernel
theorem dL_sounded_139 : decode cL_sounded 139 = .ok (.iconst 0, 1) := by decide +kernel
theorem dL_sounded_140 : decode cL_sounded 140 = .ok (.iadd, 1) := by decide +kernel
theorem dL_sounded_141 : decode cL_sounded 141 = .ok (.istore_n 3, 1) := by decide +kernel
theorem dL_sounded_142 : decode cL_sounded 142 = .ok (.iload 4, 2) := by decide +kernel
theorem dL_sounded_144 : decode cL_sounded 144 = .ok (.aload_n 0, 1) := by decide +kernel
theorem dL_sounded_145 : decode cL_sounded 145 = .ok (.iload_n 1, 1) := by decide +kernel
theorem dL_sounded_146 : decode cL_sounded 146 = .ok (.iload 6, 2) := by decide +kernel
theorem dL_sounded_148 : decode cL_sounded 148 = .ok (.iload 7, 2) := by decide +kernel
theorem dL_sounded_150 : decode cL_sounded 150 = .ok (.invokestatic 232, 3) := by decide +kernel
theorem dL_sounded_153 : decode cL_sounded 153 = .ok (.ifCond .eq 7, 3) := by decide +kernel
theorem dL_sounded_156 : decode cL_sounded 156 = .ok (.iconst 1, 1) := by decide +kernel
theorem dL_sounded_157 : decode cL_sounded 157 = .ok (.goto 4, 3) := by decide +kernel
theorem dL_sounded_160 : decode cL_sounded 160 = .ok (.iconst 0, 1) := by decide +kernel
theorem dL_sounded_161 : decode cL_sounded 161 = .ok (.iadd, 1) := by decide +kernel
theorem dL_sounded_162 : decode cL_sounded 162 = .ok (.istore 4, 2) := by decide +kernel
theorem dL_sounded_164 : decode cL_sounded 164 = .ok (.iload 8, 2) := by decide +kernel
theorem dL_sounded_166 : decode cL_sounded 166 = .ok (.iconst 1, 1) := by decide +kernel
theorem dL_sounded_167 : decode cL_sounded 167 = .ok (.if_icmp .ne 17, 3) := by decide +kernel
theorem dL_sounded_170 : decode cL_sounded 170 = .ok (.aload_n 0, 1) := by decide +kernel
theorem dL_sounded_171 : decode cL_sounded 171 = .ok (.iload_n 1, 1) := by decide +kernel
theorem dL_sounded_172 : decode cL_sounded 172 = .ok (.iload 6, 2) := by decide +kernel
theorem dL_sounded_174 : decode cL_sounded 174 = .ok (.iload 7, 2) := by decide +kernel
theorem dL_sounded_176 : decode cL_sounded 176 = .ok (.invokestatic 232, 3) := by decide +kernel
theorem dL_sounded_179 : decode cL_sounded 179 = .ok (.ifCond .eq 5, 3) := by decide +kernel
theorem dL_sounded_182 : decode cL_sounded 182 = .ok (.iconst 0, 1) := by decide +kernel
theorem dL_sounded_183 : decode cL_sounded 183 = .ok (.ireturn, 1) := by decide +kernel
theorem dL_sounded_184 : decode cL_sounded 184 = .ok (.iinc 7 1, 3) := by decide +kernel
theorem dL_sounded_187 : decode cL_sounded 187 = .ok (.goto (-89), 3) := by decide +kernel
theorem dL_sounded_190 : decode cL_sounded 190 = .ok (.iinc 6 1, 3) := by decide +kernel
theorem dL_sounded_193 : decode cL_sounded 193 = .ok (.goto (-106), 3) := by decide +kernel
theorem dL_sounded_196 : decode cL_sounded 196 = .ok (.aload_n 0, 1) := by decide +kernel
theorem dL_sounded_197 : decode cL_sounded 197 = .ok (.iload 5, 2) := by decide +kernel
theorem dL_sounded_199 : decode cL_sounded 199 = .ok (.iconst 1, 1) := by decide +kernel
theorem dL_sounded_200 : decode cL_sounded 200 = .ok (.isub, 1) := by decide +kernel
theorem dL_sounded_201 : decode cL_sounded 201 = .ok (.invokestatic 236, 3) := by decide +kernel
theorem dL_sounded_204 : decode cL_sounded 204 = .ok (.i2c, 1) := by decide +kernel
theorem dL_sounded_205 : decode cL_sounded 205 = .ok (.istore 6, 2) := by decide +kernel
theorem dL_sounded_207 : decode cL_sounded 207 = .ok (.iload 6, 2) := by decide +kernel
theorem dL_sounded_209 : decode cL_sounded 209 = .ok (.iload 4, 2) := by decide +kernel
theorem dL_sounded_211 : decode cL_sounded 211 = .ok (.iload_n 2, 1) := by decide +kernel
theorem dL_sounded_212 : decode cL_sounded 212 = .ok (.if_icmp .ne 8, 3) := by decide +kernel
theorem dL_sounded_215 : decode cL_sounded 215 = .ok (.bipush 100, 2) := by decide +kernel
theorem dL_sounded_217 : decode cL_sounded 217 = .ok (.goto 15, 3) := by decide +kernel
theorem dL_sounded_220 : decode cL_sounded 220 = .ok (.iload 4, 2) := by decide +kernel
theorem dL_sounded_222 : decode cL_sounded 222 = .ok (.ifCond .ne 8, 3) := by decide +kernel
theorem dL_sounded_225 : decode cL_sounded 225 = .ok (.bipush 100, 2) := by decide +kernel
theorem dL_sounded_227 : decode cL_sounded 227 = .ok (.goto 5, 3) := by decide +kernel
theorem dL_sounded_230 : decode cL_sounded 230 = .ok (.bipush 116, 2) := by decide +kernel
theorem dL_sounded_232 : decode cL_sounded 232 = .ok (.if_icmp .ne 38, 3) := by decide +kernel
theorem dL_sounded_235 : decode cL_sounded 235 = .ok (.iload 4, 2) := by decide +kernel
theorem dL_sounded_237 : decode cL_sounded 237 = .ok (.ifCond .ne 7, 3) := by decide +kernel
theorem dL_sounded_240 : decode cL_sounded 240 = .ok (.iconst 1, 1) := by decide +kernel
theorem dL_sounded_241 : decode cL_sounded 241 = .ok (.goto 4, 3) := by decide +kernel
theorem dL_sounded_244 : decode cL_sounded 244 = .ok (.iconst 0, 1) := by decide +kernel
theorem dL_sounded_245 : decode cL_sounded 245 = .ok (.aload_n 0, 1) := by decide +kernel
theorem dL_sounded_246 : decode cL_sounded 246 = .ok (.iload 5, 2) := by decide +kernel
theorem dL_sounded_248 : decode cL_sounded 248 = .ok (.iconst 4, 1) := by decide +kernel
theorem dL_sounded_249 : decode cL_sounded 249 = .ok (.isub, 1) := by decide +kernel
theorem dL_sounded_250 : decode cL_sounded 250 = .ok (.invokestatic 236, 3) := by decide +kernel
theorem dL_sounded_253 : decode cL_sounded 253 = .ok (.bipush 103, 2) := by decide +kernel
theorem dL_sounded_255 : decode cL_sounded 255 = .ok (.if_icmp .ne 7, 3) := by decide +kernel
theorem dL_sounded_258 : decode cL_sounded 258 = .ok (.iconst 1, 1) := by decide +kernel
theorem dL_sounded_259 : decode cL_sounded 259 = .ok (.goto 4, 3) := by decide +kernel
theorem dL_sounded_262 : decode cL_sounded 262 = .ok (.iconst 0, 1) := by decide +kernel
theorem dL_sounded_263 : decode cL_sounded 263 = .ok (.if_icmp .ne 7, 3) := by decide +kernel
theorem dL_sounded_266 : decode cL_sounded 266 = .ok (.iconst 1, 1) := by decide +kernel
theorem dL_sounded_267 : decode cL_sounded 267 = .ok (.goto 4, 3) := by decide +kernel
theorem dL_sounded_270 : decode cL_sounded 270 = .ok (.iconst 0, 1) := by decide +kernel
theorem dL_sounded_271 : decode cL_sounded 271 = .ok (.istore 7, 2) := by decide +kernel
theorem dL_sounded_273 : decode cL_sounded 273 = .ok (.iload 7, 2) := by decide +kernel
theorem dL_sounded_275 : decode cL_sounded 275 = .ok (.ifCond .eq 50, 3) := by decide +kernel
theorem dL_sounded_278 : decode cL_sounded 278 = .ok (.iload_n 2, 1) := by decide +kernel
theorem dL_sounded_279 : decode cL_sounded 279 = .ok (.aload_n 0, 1) := by decide +kernel
theorem dL_sounded_280 : decode cL_sounded 280 = .ok (.iload_n 1, 1) := by decide +kernel
theorem dL_sounded_281 : decode cL_sounded 281 = .ok (.invokestatic 199, 3) := by decide +kernel
theorem dL_sounded_284 : decode cL_sounded 284 = .ok (.if_icmp .ne 41, 3) := by decide +kernel
theorem dL_sounded_287 : decode cL_sounded 287 = .ok (.iload_n 3, 1) := by decide +kernel
theorem dL_sounded_288 : decode cL_sounded 288 = .ok (.aload_n 0, 1) := by decide +kernel
theorem dL_sounded_289 : decode cL_sounded 289 = .ok (.iload_n 1, 1) := by decide +kernel
theorem dL_sounded_290 : decode cL_sounded 290 = .ok (.invokestatic 201, 3) := by decide +kernel
theorem dL_sounded_293 : decode cL_sounded 293 = .ok (.if_icmp .ne 32, 3) := by decide +kernel
theorem dL_sounded_296 : decode cL_sounded 296 = .ok (.iload 4, 2) := by decide +kernel
theorem dL_sounded_298 : decode cL_sounded 298 = .ok (.aload_n 0, 1) := by decide +kernel
theorem dL_sounded_299 : decode cL_sounded 299 = .ok (.iload_n 1, 1) := by decide +kernel
theorem dL_sounded_300 : decode cL_sounded 300 = .ok (.invokestatic 203, 3) := by decide +kernel
theorem dL_sounded_303 : decode cL_sounded 303 = .ok (.if_icmp .ne 22, 3) := by decide +kernel
theorem dL_sounded_306 : decode cL_sounded 306 = .ok (.aload_n 0, 1) := by decide +kernel
theorem dL_sounded_307 : decode cL_sounded 307 = .ok (.iload 5, 2) := by decide +kernel
theorem dL_sounded_309 : decode cL_sounded 309 = .ok (.invokestatic 236, 3) := by decide +kernel
theorem dL_sounded_312 : decode cL_sounded 312 = .ok (.iconst (-1), 1) := by decide +kernel
theorem dL_sounded_313 : decode cL_sounded 313 = .ok (.if_icmp .ne 12, 3) := by decide +kernel
theorem dL_sounded_316 : decode cL_sounded 316 = .ok (.iload_n 2, 1) := by decide +kernel
theorem dL_sounded_317 : decode cL_sounded 317 = .ok (.iconst 1, 1) := by decide +kernel
theorem dL_sounded_318 : decode cL_sounded 318 = .ok (.if_icmp .lt 7, 3) := by decide +kernel
theorem dL_sounded_321 : decode cL_sounded 321 = .ok (.iconst 1, 1) := by decide +kernel
theorem dL_sounded_322 : decode cL_sounded 322 = .ok (.goto 4, 3) := by decide +kernel
theorem dL_sounded_325 : decode cL_sounded 325 = .ok (.iconst 0, 1) := by decide +kernel
theorem dL_sounded_326 : decode cL_sounded 326 = .ok (.ireturn, 1) := by decide +kernel
theorem dL_isLost_0 : decode cL_isLost 0 = .ok (.aload_n 0, 1) := by decide +kernel
theorem dL_isLost_1 : decode cL_isLost 1 = .ok (.iload_n 1, 1) := by decide +kernel
theorem dL_isLost_2 : decode cL_isLost 2 = .ok (.iload_n 2, 1) := by decide +kernel
theorem dL_isLost_3 : decode cL_isLost 3 = .ok (.iload_n 3, 1) := by decide +kernel
theorem dL_isLost_4 : decode cL_isLost 4 = .ok (.invokevirtual 70, 3) := by decide +kernel
theorem dL_isLost_7 : decode cL_isLost 7 = .ok (.istore 4, 2) := by decide +kernel
theorem dL_isLost_9 : decode cL_isLost 9 = .ok (.iload 4, 2) := by decide +kernel
