/-! Decode rows. -/
theorem d_R_look_140 : decode b_R_look 140 = .ok (.putfield 134, 3) := by decide +kernel
theorem d_R_look_143 : decode b_R_look 143 = .ok (.iinc 1 1, 3) := by decide +kernel
theorem d_R_look_146 : decode b_R_look 146 = .ok (.goto (-119), 3) := by decide +kernel
theorem d_R_look_149 : decode b_R_look 149 = .ok (.aload_n 0, 1) := by decide +kernel
theorem d_R_look_150 : decode b_R_look 150 = .ok (.getfield 131, 3) := by decide +kernel
theorem d_R_look_153 : decode b_R_look 153 = .ok (.ifCond .le 18, 3) := by decide +kernel
theorem d_R_look_156 : decode b_R_look 156 = .ok (.aload_n 0, 1) := by decide +kernel
theorem d_R_look_157 : decode b_R_look 157 = .ok (.getfield 134, 3) := by decide +kernel
theorem d_R_look_160 : decode b_R_look 160 = .ok (.ifCond .le 11, 3) := by decide +kernel
theorem d_R_look_163 : decode b_R_look 163 = .ok (.aload_n 0, 1) := by decide +kernel
theorem d_R_look_164 : decode b_R_look 164 = .ok (.getfield 131, 3) := by decide +kernel
theorem d_R_look_167 : decode b_R_look 167 = .ok (.i2l, 1) := by decide +kernel
theorem d_R_look_168 : decode b_R_look 168 = .ok (.goto 4, 3) := by decide +kernel
theorem d_R_look_171 : decode b_R_look 171 = .ok (.lconst 1, 1) := by decide +kernel
theorem d_R_look_172 : decode b_R_look 172 = .ok (.lstore_n 1, 1) := by decide +kernel
theorem d_R_look_173 : decode b_R_look 173 = .ok (.aload_n 0, 1) := by decide +kernel
theorem d_R_look_174 : decode b_R_look 174 = .ok (.getfield 137, 3) := by decide +kernel
theorem d_R_look_177 : decode b_R_look 177 = .ok (.ifCond .le 11, 3) := by decide +kernel
theorem d_R_look_180 : decode b_R_look 180 = .ok (.aload_n 0, 1) := by decide +kernel
theorem d_R_look_181 : decode b_R_look 181 = .ok (.getfield 143, 3) := by decide +kernel
theorem d_R_look_184 : decode b_R_look 184 = .ok (.i2l, 1) := by decide +kernel
theorem d_R_look_185 : decode b_R_look 185 = .ok (.goto 4, 3) := by decide +kernel
theorem d_R_look_188 : decode b_R_look 188 = .ok (.lconst 1, 1) := by decide +kernel
theorem d_R_look_189 : decode b_R_look 189 = .ok (.lstore_n 3, 1) := by decide +kernel
theorem d_R_look_190 : decode b_R_look 190 = .ok (.aload_n 0, 1) := by decide +kernel
theorem d_R_look_191 : decode b_R_look 191 = .ok (.lload_n 1, 1) := by decide +kernel
theorem d_R_look_192 : decode b_R_look 192 = .ok (.lload_n 3, 1) := by decide +kernel
theorem d_R_look_193 : decode b_R_look 193 = .ok (.lmul, 1) := by decide +kernel
theorem d_R_look_194 : decode b_R_look 194 = .ok (.putfield 150, 3) := by decide +kernel
theorem d_R_look_197 : decode b_R_look 197 = .ok (.iconst 0, 1) := by decide +kernel
theorem d_R_look_198 : decode b_R_look 198 = .ok (.istore 5, 2) := by decide +kernel
theorem d_R_look_200 : decode b_R_look 200 = .ok (.iload 5, 2) := by decide +kernel
theorem d_R_look_202 : decode b_R_look 202 = .ok (.aload_n 0, 1) := by decide +kernel
theorem d_R_look_203 : decode b_R_look 203 = .ok (.getfield 88, 3) := by decide +kernel
theorem d_R_look_206 : decode b_R_look 206 = .ok (.if_icmp .ge 132, 3) := by decide +kernel
theorem d_R_look_209 : decode b_R_look 209 = .ok (.aload_n 0, 1) := by decide +kernel
theorem d_R_look_210 : decode b_R_look 210 = .ok (.iload 5, 2) := by decide +kernel
theorem d_R_look_212 : decode b_R_look 212 = .ok (.invokevirtual 154, 3) := by decide +kernel
theorem d_R_look_215 : decode b_R_look 215 = .ok (.istore 6, 2) := by decide +kernel
theorem d_R_look_217 : decode b_R_look 217 = .ok (.lconst 0, 1) := by decide +kernel
theorem d_R_look_218 : decode b_R_look 218 = .ok (.lstore 7, 2) := by decide +kernel
theorem d_R_look_220 : decode b_R_look 220 = .ok (.iload 6, 2) := by decide +kernel
theorem d_R_look_222 : decode b_R_look 222 = .ok (.ifCond .ne 20, 3) := by decide +kernel
theorem d_R_look_225 : decode b_R_look 225 = .ok (.aload_n 0, 1) := by decide +kernel
theorem d_R_look_226 : decode b_R_look 226 = .ok (.iload 5, 2) := by decide +kernel
theorem d_R_look_228 : decode b_R_look 228 = .ok (.invokevirtual 146, 3) := by decide +kernel
theorem d_R_look_231 : decode b_R_look 231 = .ok (.i2l, 1) := by decide +kernel
theorem d_R_look_232 : decode b_R_look 232 = .ok (.aload_n 0, 1) := by decide +kernel
theorem d_R_look_233 : decode b_R_look 233 = .ok (.getfield 150, 3) := by decide +kernel
theorem d_R_look_236 : decode b_R_look 236 = .ok (.lmul, 1) := by decide +kernel
theorem d_R_look_237 : decode b_R_look 237 = .ok (.lstore 7, 2) := by decide +kernel
theorem d_R_look_239 : decode b_R_look 239 = .ok (.goto 54, 3) := by decide +kernel
theorem d_R_look_242 : decode b_R_look 242 = .ok (.iload 6, 2) := by decide +kernel
theorem d_R_look_244 : decode b_R_look 244 = .ok (.iconst 1, 1) := by decide +kernel
theorem d_R_look_245 : decode b_R_look 245 = .ok (.if_icmp .ne 24, 3) := by decide +kernel
theorem d_R_look_248 : decode b_R_look 248 = .ok (.lload_n 3, 1) := by decide +kernel
theorem d_R_look_249 : decode b_R_look 249 = .ok (.aload_n 0, 1) := by decide +kernel
theorem d_R_look_250 : decode b_R_look 250 = .ok (.getfield 28, 3) := by decide +kernel
theorem d_R_look_253 : decode b_R_look 253 = .ok (.iload 5, 2) := by decide +kernel
theorem d_R_look_255 : decode b_R_look 255 = .ok (.iaload, 1) := by decide +kernel
theorem d_R_look_256 : decode b_R_look 256 = .ok (.i2l, 1) := by decide +kernel
theorem d_R_look_257 : decode b_R_look 257 = .ok (.lmul, 1) := by decide +kernel
theorem d_R_look_258 : decode b_R_look 258 = .ok (.aload_n 0, 1) := by decide +kernel
theorem d_R_look_259 : decode b_R_look 259 = .ok (.getfield 134, 3) := by decide +kernel
theorem d_R_look_262 : decode b_R_look 262 = .ok (.i2l, 1) := by decide +kernel
theorem d_R_look_263 : decode b_R_look 263 = .ok (.lmul, 1) := by decide +kernel
theorem d_R_look_264 : decode b_R_look 264 = .ok (.lstore 7, 2) := by decide +kernel
theorem d_R_look_266 : decode b_R_look 266 = .ok (.goto 27, 3) := by decide +kernel
theorem d_R_look_269 : decode b_R_look 269 = .ok (.iload 6, 2) := by decide +kernel
theorem d_R_look_271 : decode b_R_look 271 = .ok (.iconst 2, 1) := by decide +kernel
theorem d_R_look_272 : decode b_R_look 272 = .ok (.if_icmp .ne 21, 3) := by decide +kernel
theorem d_R_look_275 : decode b_R_look 275 = .ok (.lload_n 1, 1) := by decide +kernel
theorem d_R_look_276 : decode b_R_look 276 = .ok (.aload_n 0, 1) := by decide +kernel
theorem d_R_look_277 : decode b_R_look 277 = .ok (.getfield 7, 3) := by decide +kernel
theorem d_R_look_280 : decode b_R_look 280 = .ok (.iload 5, 2) := by decide +kernel
theorem d_R_look_282 : decode b_R_look 282 = .ok (.iaload, 1) := by decide +kernel
theorem d_R_look_283 : decode b_R_look 283 = .ok (.i2l, 1) := by decide +kernel
theorem d_R_look_284 : decode b_R_look 284 = .ok (.lmul, 1) := by decide +kernel
theorem d_R_look_285 : decode b_R_look 285 = .ok (.aload_n 0, 1) := by decide +kernel
theorem d_R_look_286 : decode b_R_look 286 = .ok (.getfield 140, 3) := by decide +kernel
theorem d_R_look_289 : decode b_R_look 289 = .ok (.i2l, 1) := by decide +kernel
theorem d_R_look_290 : decode b_R_look 290 = .ok (.lmul, 1) := by decide +kernel
theorem d_R_look_291 : decode b_R_look 291 = .ok (.lstore 7, 2) := by decide +kernel
theorem d_R_look_293 : decode b_R_look 293 = .ok (.aload_n 0, 1) := by decide +kernel
theorem d_R_look_294 : decode b_R_look 294 = .ok (.getfield 65, 3) := by decide +kernel
theorem d_R_look_297 : decode b_R_look 297 = .ok (.iload 5, 2) := by decide +kernel
theorem d_R_look_299 : decode b_R_look 299 = .ok (.iload 6, 2) := by decide +kernel
theorem d_R_look_301 : decode b_R_look 301 = .ok (.ifCond .eq 28, 3) := by decide +kernel
theorem d_R_look_304 : decode b_R_look 304 = .ok (.lload 7, 2) := by decide +kernel
theorem d_R_look_306 : decode b_R_look 306 = .ok (.ldc2_w 157, 3) := by decide +kernel
theorem d_R_look_309 : decode b_R_look 309 = .ok (.aload_n 0, 1) := by decide +kernel
theorem d_R_look_310 : decode b_R_look 310 = .ok (.getfield 150, 3) := by decide +kernel
theorem d_R_look_313 : decode b_R_look 313 = .ok (.lmul, 1) := by decide +kernel
theorem d_R_look_314 : decode b_R_look 314 = .ok (.lcmp, 1) := by decide +kernel
theorem d_R_look_315 : decode b_R_look 315 = .ok (.ifCond .le 14, 3) := by decide +kernel
theorem d_R_look_318 : decode b_R_look 318 = .ok (.ldc2_w 157, 3) := by decide +kernel
theorem d_R_look_321 : decode b_R_look 321 = .ok (.aload_n 0, 1) := by decide +kernel
theorem d_R_look_322 : decode b_R_look 322 = .ok (.getfield 150, 3) := by decide +kernel
theorem d_R_look_325 : decode b_R_look 325 = .ok (.lmul, 1) := by decide +kernel
theorem d_R_look_326 : decode b_R_look 326 = .ok (.goto 5, 3) := by decide +kernel
theorem d_R_look_329 : decode b_R_look 329 = .ok (.lload 7, 2) := by decide +kernel
theorem d_R_look_331 : decode b_R_look 331 = .ok (.lastore, 1) := by decide +kernel
theorem d_R_look_332 : decode b_R_look 332 = .ok (.iinc 5 1, 3) := by decide +kernel
theorem d_R_look_335 : decode b_R_look 335 = .ok (.goto (-135), 3) := by decide +kernel
theorem d_R_look_338 : decode b_R_look 338 = .ok (.return_, 1) := by decide +kernel
theorem d_R_replaced_0 : decode b_R_replaced 0 = .ok (.aload_n 0, 1) := by decide +kernel
theorem d_R_replaced_1 : decode b_R_replaced 1 = .ok (.aload_n 0, 1) := by decide +kernel
theorem d_R_replaced_2 : decode b_R_replaced 2 = .ok (.iload_n 1, 1) := by decide +kernel
theorem d_R_replaced_3 : decode b_R_replaced 3 = .ok (.invokevirtual 102, 3) := by decide +kernel
theorem d_R_replaced_6 : decode b_R_replaced 6 = .ok (.ifCond .eq 7, 3) := by decide +kernel
theorem d_R_replaced_9 : decode b_R_replaced 9 = .ok (.iconst 0, 1) := by decide +kernel
theorem d_R_replaced_10 : decode b_R_replaced 10 = .ok (.goto 4, 3) := by decide +kernel
theorem d_R_replaced_13 : decode b_R_replaced 13 = .ok (.iconst 1, 1) := by decide +kernel
theorem d_R_replaced_14 : decode b_R_replaced 14 = .ok (.putfield 85, 3) := by decide +kernel
theorem d_R_replaced_17 : decode b_R_replaced 17 = .ok (.aload_n 0, 1) := by decide +kernel
theorem d_R_replaced_18 : decode b_R_replaced 18 = .ok (.getfield 85, 3) := by decide +kernel
theorem d_R_replaced_21 : decode b_R_replaced 21 = .ok (.ifCond .le 5, 3) := by decide +kernel
theorem d_R_replaced_24 : decode b_R_replaced 24 = .ok (.iconst 0, 1) := by decide +kernel
theorem d_R_replaced_25 : decode b_R_replaced 25 = .ok (.ireturn, 1) := by decide +kernel
theorem d_R_replaced_26 : decode b_R_replaced 26 = .ok (.aload_n 0, 1) := by decide +kernel
theorem d_R_replaced_27 : decode b_R_replaced 27 = .ok (.invokevirtual 159, 3) := by decide +kernel
theorem d_R_replaced_30 : decode b_R_replaced 30 = .ok (.aload_n 0, 1) := by decide +kernel
theorem d_R_replaced_31 : decode b_R_replaced 31 = .ok (.iload_n 1, 1) := by decide +kernel
theorem d_R_replaced_32 : decode b_R_replaced 32 = .ok (.invokevirtual 154, 3) := by decide +kernel
theorem d_R_replaced_35 : decode b_R_replaced 35 = .ok (.ireturn, 1) := by decide +kernel
theorem d_R_inStock_0 : decode b_R_inStock 0 = .ok (.aload_n 0, 1) := by decide +kernel
theorem d_R_inStock_1 : decode b_R_inStock 1 = .ok (.getfield 37, 3) := by decide +kernel
theorem d_R_inStock_4 : decode b_R_inStock 4 = .ok (.istore_n 2, 1) := by decide +kernel
theorem d_R_inStock_5 : decode b_R_inStock 5 = .ok (.aload_n 0, 1) := by decide +kernel
theorem d_R_inStock_6 : decode b_R_inStock 6 = .ok (.getfield 110, 3) := by decide +kernel
theorem d_R_inStock_9 : decode b_R_inStock 9 = .ok (.iconst 1, 1) := by decide +kernel
theorem d_R_inStock_10 : decode b_R_inStock 10 = .ok (.isub, 1) := by decide +kernel
theorem d_R_inStock_11 : decode b_R_inStock 11 = .ok (.istore_n 3, 1) := by decide +kernel
theorem d_R_inStock_12 : decode b_R_inStock 12 = .ok (.iload_n 3, 1) := by decide +kernel
theorem d_R_inStock_13 : decode b_R_inStock 13 = .ok (.iload_n 1, 1) := by decide +kernel
theorem d_R_inStock_14 : decode b_R_inStock 14 = .ok (.if_icmp .le 18, 3) := by decide +kernel
theorem d_R_inStock_17 : decode b_R_inStock 17 = .ok (.iload_n 2, 1) := by decide +kernel
theorem d_R_inStock_18 : decode b_R_inStock 18 = .ok (.aload_n 0, 1) := by decide +kernel
theorem d_R_inStock_19 : decode b_R_inStock 19 = .ok (.getfield 31, 3) := by decide +kernel
theorem d_R_inStock_22 : decode b_R_inStock 22 = .ok (.iload_n 3, 1) := by decide +kernel
theorem d_R_inStock_23 : decode b_R_inStock 23 = .ok (.iaload, 1) := by decide +kernel
theorem d_R_inStock_24 : decode b_R_inStock 24 = .ok (.isub, 1) := by decide +kernel
theorem d_R_inStock_25 : decode b_R_inStock 25 = .ok (.istore_n 2, 1) := by decide +kernel
theorem d_R_inStock_26 : decode b_R_inStock 26 = .ok (.iinc 3 (-1), 3) := by decide +kernel
theorem d_R_inStock_29 : decode b_R_inStock 29 = .ok (.goto (-17), 3) := by decide +kernel
theorem d_R_inStock_32 : decode b_R_inStock 32 = .ok (.iload_n 2, 1) := by decide +kernel
theorem d_R_inStock_33 : decode b_R_inStock 33 = .ok (.ifCond .ge 7, 3) := by decide +kernel
theorem d_R_inStock_36 : decode b_R_inStock 36 = .ok (.iconst 0, 1) := by decide +kernel
theorem d_R_inStock_37 : decode b_R_inStock 37 = .ok (.goto 23, 3) := by decide +kernel
theorem d_R_inStock_40 : decode b_R_inStock 40 = .ok (.iload_n 2, 1) := by decide +kernel
theorem d_R_inStock_41 : decode b_R_inStock 41 = .ok (.aload_n 0, 1) := by decide +kernel
theorem d_R_inStock_42 : decode b_R_inStock 42 = .ok (.getfield 31, 3) := by decide +kernel
theorem d_R_inStock_45 : decode b_R_inStock 45 = .ok (.iload_n 1, 1) := by decide +kernel
theorem d_R_inStock_46 : decode b_R_inStock 46 = .ok (.iaload, 1) := by decide +kernel
theorem d_R_inStock_47 : decode b_R_inStock 47 = .ok (.if_icmp .le 12, 3) := by decide +kernel
theorem d_R_inStock_50 : decode b_R_inStock 50 = .ok (.aload_n 0, 1) := by decide +kernel
theorem d_R_inStock_51 : decode b_R_inStock 51 = .ok (.getfield 31, 3) := by decide +kernel
theorem d_R_inStock_54 : decode b_R_inStock 54 = .ok (.iload_n 1, 1) := by decide +kernel
theorem d_R_inStock_55 : decode b_R_inStock 55 = .ok (.iaload, 1) := by decide +kernel
theorem d_R_inStock_56 : decode b_R_inStock 56 = .ok (.goto 4, 3) := by decide +kernel
theorem d_R_inStock_59 : decode b_R_inStock 59 = .ok (.iload_n 2, 1) := by decide +kernel
theorem d_R_inStock_60 : decode b_R_inStock 60 = .ok (.ireturn, 1) := by decide +kernel
theorem d_R_centsInStock_0 : decode b_R_centsInStock 0 = .ok (.aload_n 0, 1) := by decide +kernel
theorem d_R_centsInStock_1 : decode b_R_centsInStock 1 = .ok (.getfield 34, 3) := by decide +kernel
theorem d_R_centsInStock_4 : decode b_R_centsInStock 4 = .ok (.iload_n 1, 1) := by decide +kernel
theorem d_R_centsInStock_5 : decode b_R_centsInStock 5 = .ok (.iaload, 1) := by decide +kernel
theorem d_R_centsInStock_6 : decode b_R_centsInStock 6 = .ok (.aload_n 0, 1) := by decide +kernel
theorem d_R_centsInStock_7 : decode b_R_centsInStock 7 = .ok (.iload_n 1, 1) := by decide +kernel
theorem d_R_centsInStock_8 : decode b_R_centsInStock 8 = .ok (.invokevirtual 162, 3) := by decide +kernel
theorem d_R_centsInStock_11 : decode b_R_centsInStock 11 = .ok (.imul, 1) := by decide +kernel
theorem d_R_centsInStock_12 : decode b_R_centsInStock 12 = .ok (.aload_n 0, 1) := by decide +kernel
theorem d_R_centsInStock_13 : decode b_R_centsInStock 13 = .ok (.getfield 31, 3) := by decide +kernel
theorem d_R_centsInStock_16 : decode b_R_centsInStock 16 = .ok (.iload_n 1, 1) := by decide +kernel
theorem d_R_centsInStock_17 : decode b_R_centsInStock 17 = .ok (.iaload, 1) := by decide +kernel
theorem d_R_centsInStock_18 : decode b_R_centsInStock 18 = .ok (.idiv, 1) := by decide +kernel
theorem d_R_centsInStock_19 : decode b_R_centsInStock 19 = .ok (.ireturn, 1) := by decide +kernel
theorem d_R_findParts_0 : decode b_R_findParts 0 = .ok (.aload_n 0, 1) := by decide +kernel
theorem d_R_findParts_1 : decode b_R_findParts 1 = .ok (.invokevirtual 113, 3) := by decide +kernel
theorem d_R_findParts_4 : decode b_R_findParts 4 = .ok (.aload_n 0, 1) := by decide +kernel
theorem d_R_findParts_5 : decode b_R_findParts 5 = .ok (.getfield 37, 3) := by decide +kernel
theorem d_R_findParts_8 : decode b_R_findParts 8 = .ok (.isub, 1) := by decide +kernel
theorem d_R_findParts_9 : decode b_R_findParts 9 = .ok (.istore_n 1, 1) := by decide +kernel
theorem d_R_findParts_10 : decode b_R_findParts 10 = .ok (.aload_n 0, 1) := by decide +kernel
theorem d_R_findParts_11 : decode b_R_findParts 11 = .ok (.getfield 117, 3) := by decide +kernel
theorem d_R_findParts_14 : decode b_R_findParts 14 = .ok (.istore_n 2, 1) := by decide +kernel
theorem d_R_findParts_15 : decode b_R_findParts 15 = .ok (.iconst 0, 1) := by decide +kernel
theorem d_R_findParts_16 : decode b_R_findParts 16 = .ok (.istore_n 3, 1) := by decide +kernel
theorem d_R_findParts_17 : decode b_R_findParts 17 = .ok (.iload_n 3, 1) := by decide +kernel
theorem d_R_findParts_18 : decode b_R_findParts 18 = .ok (.aload_n 0, 1) := by decide +kernel
theorem d_R_findParts_19 : decode b_R_findParts 19 = .ok (.getfield 110, 3) := by decide +kernel
theorem d_R_findParts_22 : decode b_R_findParts 22 = .ok (.if_icmp .ge 24, 3) := by decide +kernel
theorem d_R_findParts_25 : decode b_R_findParts 25 = .ok (.iload_n 2, 1) := by decide +kernel
theorem d_R_findParts_26 : decode b_R_findParts 26 = .ok (.aload_n 0, 1) := by decide +kernel
theorem d_R_findParts_27 : decode b_R_findParts 27 = .ok (.getfield 34, 3) := by decide +kernel
theorem d_R_findParts_30 : decode b_R_findParts 30 = .ok (.iload_n 3, 1) := by decide +kernel
theorem d_R_findParts_31 : decode b_R_findParts 31 = .ok (.iaload, 1) := by decide +kernel
theorem d_R_findParts_32 : decode b_R_findParts 32 = .ok (.iadd, 1) := by decide +kernel
theorem d_R_findParts_33 : decode b_R_findParts 33 = .ok (.aload_n 0, 1) := by decide +kernel
theorem d_R_findParts_34 : decode b_R_findParts 34 = .ok (.iload_n 3, 1) := by decide +kernel
theorem d_R_findParts_35 : decode b_R_findParts 35 = .ok (.invokevirtual 165, 3) := by decide +kernel
theorem d_R_findParts_38 : decode b_R_findParts 38 = .ok (.isub, 1) := by decide +kernel
theorem d_R_findParts_39 : decode b_R_findParts 39 = .ok (.istore_n 2, 1) := by decide +kernel
theorem d_R_findParts_40 : decode b_R_findParts 40 = .ok (.iinc 3 1, 3) := by decide +kernel
theorem d_R_findParts_43 : decode b_R_findParts 43 = .ok (.goto (-26), 3) := by decide +kernel
theorem d_R_findParts_46 : decode b_R_findParts 46 = .ok (.iload_n 1, 1) := by decide +kernel
theorem d_R_findParts_47 : decode b_R_findParts 47 = .ok (.sipush 400, 3) := by decide +kernel
theorem d_R_findParts_50 : decode b_R_findParts 50 = .ok (.imul, 1) := by decide +kernel
theorem d_R_findParts_51 : decode b_R_findParts 51 = .ok (.sipush 1000, 3) := by decide +kernel
theorem d_R_findParts_54 : decode b_R_findParts 54 = .ok (.idiv, 1) := by decide +kernel
theorem d_R_findParts_55 : decode b_R_findParts 55 = .ok (.istore_n 3, 1) := by decide +kernel
theorem d_R_findParts_56 : decode b_R_findParts 56 = .ok (.ldc2_w 168, 3) := by decide +kernel
theorem d_R_findParts_59 : decode b_R_findParts 59 = .ok (.aload_n 0, 1) := by decide +kernel
theorem d_R_findParts_60 : decode b_R_findParts 60 = .ok (.getfield 41, 3) := by decide +kernel
theorem d_R_findParts_63 : decode b_R_findParts 63 = .ok (.i2l, 1) := by decide +kernel
theorem d_R_findParts_64 : decode b_R_findParts 64 = .ok (.lmul, 1) := by decide +kernel
theorem d_R_findParts_65 : decode b_R_findParts 65 = .ok (.aload_n 0, 1) := by decide +kernel
theorem d_R_findParts_66 : decode b_R_findParts 66 = .ok (.getfield 121, 3) := by decide +kernel
theorem d_R_findParts_69 : decode b_R_findParts 69 = .ok (.i2l, 1) := by decide +kernel
theorem d_R_findParts_70 : decode b_R_findParts 70 = .ok (.lmul, 1) := by decide +kernel
theorem d_R_findParts_71 : decode b_R_findParts 71 = .ok (.ldc2_w 170, 3) := by decide +kernel
theorem d_R_findParts_74 : decode b_R_findParts 74 = .ok (.ldiv, 1) := by decide +kernel
theorem d_R_findParts_75 : decode b_R_findParts 75 = .ok (.lstore 4, 2) := by decide +kernel
theorem d_R_findParts_77 : decode b_R_findParts 77 = .ok (.aload_n 0, 1) := by decide +kernel
theorem d_R_findParts_78 : decode b_R_findParts 78 = .ok (.getfield 41, 3) := by decide +kernel
theorem d_R_findParts_81 : decode b_R_findParts 81 = .ok (.ifCond .ge 16, 3) := by decide +kernel
theorem d_R_findParts_84 : decode b_R_findParts 84 = .ok (.iload_n 1, 1) := by decide +kernel
theorem d_R_findParts_85 : decode b_R_findParts 85 = .ok (.sipush 180, 3) := by decide +kernel
theorem d_R_findParts_88 : decode b_R_findParts 88 = .ok (.imul, 1) := by decide +kernel
theorem d_R_findParts_89 : decode b_R_findParts 89 = .ok (.sipush 1000, 3) := by decide +kernel
theorem d_R_findParts_92 : decode b_R_findParts 92 = .ok (.idiv, 1) := by decide +kernel
theorem d_R_findParts_93 : decode b_R_findParts 93 = .ok (.i2l, 1) := by decide +kernel
theorem d_R_findParts_94 : decode b_R_findParts 94 = .ok (.goto 18, 3) := by decide +kernel
theorem d_R_findParts_97 : decode b_R_findParts 97 = .ok (.lload 4, 2) := by decide +kernel
theorem d_R_findParts_99 : decode b_R_findParts 99 = .ok (.iload_n 3, 1) := by decide +kernel
theorem d_R_findParts_100 : decode b_R_findParts 100 = .ok (.i2l, 1) := by decide +kernel
theorem d_R_findParts_101 : decode b_R_findParts 101 = .ok (.lcmp, 1) := by decide +kernel
theorem d_R_findParts_102 : decode b_R_findParts 102 = .ok (.ifCond .ge 8, 3) := by decide +kernel
theorem d_R_findParts_105 : decode b_R_findParts 105 = .ok (.lload 4, 2) := by decide +kernel
theorem d_R_findParts_107 : decode b_R_findParts 107 = .ok (.goto 5, 3) := by decide +kernel
theorem d_R_findParts_110 : decode b_R_findParts 110 = .ok (.iload_n 3, 1) := by decide +kernel
theorem d_R_findParts_111 : decode b_R_findParts 111 = .ok (.i2l, 1) := by decide +kernel
theorem d_R_findParts_112 : decode b_R_findParts 112 = .ok (.lstore 6, 2) := by decide +kernel
theorem d_R_findParts_114 : decode b_R_findParts 114 = .ok (.aload_n 0, 1) := by decide +kernel
theorem d_R_findParts_115 : decode b_R_findParts 115 = .ok (.getfield 50, 3) := by decide +kernel
theorem d_R_findParts_118 : decode b_R_findParts 118 = .ok (.iconst 0, 1) := by decide +kernel
theorem d_R_findParts_119 : decode b_R_findParts 119 = .ok (.iload_n 1, 1) := by decide +kernel
theorem d_R_findParts_120 : decode b_R_findParts 120 = .ok (.iastore, 1) := by decide +kernel
theorem d_R_findParts_121 : decode b_R_findParts 121 = .ok (.aload_n 0, 1) := by decide +kernel
theorem d_R_findParts_122 : decode b_R_findParts 122 = .ok (.getfield 50, 3) := by decide +kernel
theorem d_R_findParts_125 : decode b_R_findParts 125 = .ok (.iconst 1, 1) := by decide +kernel
theorem d_R_findParts_126 : decode b_R_findParts 126 = .ok (.iload_n 2, 1) := by decide +kernel
theorem d_R_findParts_127 : decode b_R_findParts 127 = .ok (.iastore, 1) := by decide +kernel
theorem d_R_findParts_128 : decode b_R_findParts 128 = .ok (.aload_n 0, 1) := by decide +kernel
theorem d_R_findParts_129 : decode b_R_findParts 129 = .ok (.getfield 50, 3) := by decide +kernel
theorem d_R_findParts_132 : decode b_R_findParts 132 = .ok (.iconst 2, 1) := by decide +kernel
theorem d_R_findParts_133 : decode b_R_findParts 133 = .ok (.lload 6, 2) := by decide +kernel
theorem d_R_findParts_135 : decode b_R_findParts 135 = .ok (.iload_n 2, 1) := by decide +kernel
theorem d_R_findParts_136 : decode b_R_findParts 136 = .ok (.i2l, 1) := by decide +kernel
theorem d_R_findParts_137 : decode b_R_findParts 137 = .ok (.lmul, 1) := by decide +kernel
theorem d_R_findParts_138 : decode b_R_findParts 138 = .ok (.iload_n 1, 1) := by decide +kernel
theorem d_R_findParts_139 : decode b_R_findParts 139 = .ok (.i2l, 1) := by decide +kernel
theorem d_R_findParts_140 : decode b_R_findParts 140 = .ok (.ldiv, 1) := by decide +kernel
theorem d_R_findParts_141 : decode b_R_findParts 141 = .ok (.l2i, 1) := by decide +kernel
theorem d_R_findParts_142 : decode b_R_findParts 142 = .ok (.iastore, 1) := by decide +kernel
theorem d_R_findParts_143 : decode b_R_findParts 143 = .ok (.aload_n 0, 1) := by decide +kernel
theorem d_R_findParts_144 : decode b_R_findParts 144 = .ok (.getfield 50, 3) := by decide +kernel
theorem d_R_findParts_147 : decode b_R_findParts 147 = .ok (.iconst 3, 1) := by decide +kernel
theorem d_R_findParts_148 : decode b_R_findParts 148 = .ok (.iload_n 2, 1) := by decide +kernel
theorem d_R_findParts_149 : decode b_R_findParts 149 = .ok (.aload_n 0, 1) := by decide +kernel
theorem d_R_findParts_150 : decode b_R_findParts 150 = .ok (.getfield 50, 3) := by decide +kernel
theorem d_R_findParts_153 : decode b_R_findParts 153 = .ok (.iconst 2, 1) := by decide +kernel
theorem d_R_findParts_154 : decode b_R_findParts 154 = .ok (.iaload, 1) := by decide +kernel
theorem d_R_findParts_155 : decode b_R_findParts 155 = .ok (.isub, 1) := by decide +kernel
theorem d_R_findParts_156 : decode b_R_findParts 156 = .ok (.i2l, 1) := by decide +kernel
theorem d_R_findParts_157 : decode b_R_findParts 157 = .ok (.aload_n 0, 1) := by decide +kernel
theorem d_R_findParts_158 : decode b_R_findParts 158 = .ok (.getfield 44, 3) := by decide +kernel
theorem d_R_findParts_161 : decode b_R_findParts 161 = .ok (.i2l, 1) := by decide +kernel
theorem d_R_findParts_162 : decode b_R_findParts 162 = .ok (.lmul, 1) := by decide +kernel
theorem d_R_findParts_163 : decode b_R_findParts 163 = .ok (.ldc2_w 172, 3) := by decide +kernel
theorem d_R_findParts_166 : decode b_R_findParts 166 = .ok (.ldiv, 1) := by decide +kernel
theorem d_R_findParts_167 : decode b_R_findParts 167 = .ok (.l2i, 1) := by decide +kernel
theorem d_R_findParts_168 : decode b_R_findParts 168 = .ok (.iastore, 1) := by decide +kernel
theorem d_R_findParts_169 : decode b_R_findParts 169 = .ok (.aload_n 0, 1) := by decide +kernel
theorem d_R_findParts_170 : decode b_R_findParts 170 = .ok (.getfield 50, 3) := by decide +kernel
theorem d_R_findParts_173 : decode b_R_findParts 173 = .ok (.iconst 4, 1) := by decide +kernel
theorem d_R_findParts_174 : decode b_R_findParts 174 = .ok (.iload_n 2, 1) := by decide +kernel
theorem d_R_findParts_175 : decode b_R_findParts 175 = .ok (.aload_n 0, 1) := by decide +kernel
theorem d_R_findParts_176 : decode b_R_findParts 176 = .ok (.getfield 50, 3) := by decide +kernel
theorem d_R_findParts_179 : decode b_R_findParts 179 = .ok (.iconst 2, 1) := by decide +kernel
theorem d_R_findParts_180 : decode b_R_findParts 180 = .ok (.iaload, 1) := by decide +kernel
theorem d_R_findParts_181 : decode b_R_findParts 181 = .ok (.isub, 1) := by decide +kernel
theorem d_R_findParts_182 : decode b_R_findParts 182 = .ok (.aload_n 0, 1) := by decide +kernel
theorem d_R_findParts_183 : decode b_R_findParts 183 = .ok (.getfield 50, 3) := by decide +kernel
theorem d_R_findParts_186 : decode b_R_findParts 186 = .ok (.iconst 3, 1) := by decide +kernel
theorem d_R_findParts_187 : decode b_R_findParts 187 = .ok (.iaload, 1) := by decide +kernel
theorem d_R_findParts_188 : decode b_R_findParts 188 = .ok (.isub, 1) := by decide +kernel
theorem d_R_findParts_189 : decode b_R_findParts 189 = .ok (.iastore, 1) := by decide +kernel
theorem d_R_findParts_190 : decode b_R_findParts 190 = .ok (.return_, 1) := by decide +kernel
theorem d_R_changeAt_0 : decode b_R_changeAt 0 = .ok (.aload_n 0, 1) := by decide +kernel
theorem d_R_changeAt_1 : decode b_R_changeAt 1 = .ok (.getfield 22, 3) := by decide +kernel
theorem d_R_changeAt_4 : decode b_R_changeAt 4 = .ok (.bipush 12, 2) := by decide +kernel
theorem d_R_changeAt_6 : decode b_R_changeAt 6 = .ok (.iload_n 1, 1) := by decide +kernel
theorem d_R_changeAt_7 : decode b_R_changeAt 7 = .ok (.imul, 1) := by decide +kernel
theorem d_R_changeAt_8 : decode b_R_changeAt 8 = .ok (.iload_n 2, 1) := by decide +kernel
theorem d_R_changeAt_9 : decode b_R_changeAt 9 = .ok (.iadd, 1) := by decide +kernel
theorem d_R_changeAt_10 : decode b_R_changeAt 10 = .ok (.iaload, 1) := by decide +kernel
theorem d_R_changeAt_11 : decode b_R_changeAt 11 = .ok (.ireturn, 1) := by decide +kernel
theorem d_R_endOf_0 : decode b_R_endOf 0 = .ok (.iload_n 2, 1) := by decide +kernel
theorem d_R_endOf_1 : decode b_R_endOf 1 = .ok (.iconst 1, 1) := by decide +kernel
theorem d_R_endOf_2 : decode b_R_endOf 2 = .ok (.iadd, 1) := by decide +kernel
theorem d_R_endOf_3 : decode b_R_endOf 3 = .ok (.istore_n 3, 1) := by decide +kernel
theorem d_R_endOf_4 : decode b_R_endOf 4 = .ok (.iload_n 3, 1) := by decide +kernel
theorem d_R_endOf_5 : decode b_R_endOf 5 = .ok (.bipush 12, 2) := by decide +kernel
theorem d_R_endOf_7 : decode b_R_endOf 7 = .ok (.if_icmp .ge 20, 3) := by decide +kernel
theorem d_R_endOf_10 : decode b_R_endOf 10 = .ok (.aload_n 0, 1) := by decide +kernel
theorem d_R_endOf_11 : decode b_R_endOf 11 = .ok (.iload_n 1, 1) := by decide +kernel
theorem d_R_endOf_12 : decode b_R_endOf 12 = .ok (.iload_n 3, 1) := by decide +kernel
theorem d_R_endOf_13 : decode b_R_endOf 13 = .ok (.invokevirtual 174, 3) := by decide +kernel
theorem d_R_endOf_16 : decode b_R_endOf 16 = .ok (.bipush (-5), 2) := by decide +kernel
theorem d_R_endOf_18 : decode b_R_endOf 18 = .ok (.if_icmp .ne 9, 3) := by decide +kernel
theorem d_R_endOf_21 : decode b_R_endOf 21 = .ok (.iinc 3 1, 3) := by decide +kernel
theorem d_R_endOf_24 : decode b_R_endOf 24 = .ok (.goto (-20), 3) := by decide +kernel
theorem d_R_endOf_27 : decode b_R_endOf 27 = .ok (.iload_n 3, 1) := by decide +kernel
theorem d_R_endOf_28 : decode b_R_endOf 28 = .ok (.ireturn, 1) := by decide +kernel
theorem d_R_holderAt_0 : decode b_R_holderAt 0 = .ok (.iload_n 2, 1) := by decide +kernel
theorem d_R_holderAt_1 : decode b_R_holderAt 1 = .ok (.istore_n 3, 1) := by decide +kernel
theorem d_R_holderAt_2 : decode b_R_holderAt 2 = .ok (.iload_n 3, 1) := by decide +kernel
theorem d_R_holderAt_3 : decode b_R_holderAt 3 = .ok (.ifCond .lt 20, 3) := by decide +kernel
theorem d_R_holderAt_6 : decode b_R_holderAt 6 = .ok (.aload_n 0, 1) := by decide +kernel
theorem d_R_holderAt_7 : decode b_R_holderAt 7 = .ok (.iload_n 1, 1) := by decide +kernel
theorem d_R_holderAt_8 : decode b_R_holderAt 8 = .ok (.iload_n 3, 1) := by decide +kernel
theorem d_R_holderAt_9 : decode b_R_holderAt 9 = .ok (.invokevirtual 174, 3) := by decide +kernel
theorem d_R_holderAt_12 : decode b_R_holderAt 12 = .ok (.bipush (-5), 2) := by decide +kernel
theorem d_R_holderAt_14 : decode b_R_holderAt 14 = .ok (.if_icmp .ne 9, 3) := by decide +kernel
theorem d_R_holderAt_17 : decode b_R_holderAt 17 = .ok (.iinc 3 (-1), 3) := by decide +kernel
theorem d_R_holderAt_20 : decode b_R_holderAt 20 = .ok (.goto (-18), 3) := by decide +kernel
theorem d_R_holderAt_23 : decode b_R_holderAt 23 = .ok (.iload_n 3, 1) := by decide +kernel
theorem d_R_holderAt_24 : decode b_R_holderAt 24 = .ok (.ifCond .ge 12, 3) := by decide +kernel
theorem d_R_holderAt_27 : decode b_R_holderAt 27 = .ok (.aload_n 0, 1) := by decide +kernel
theorem d_R_holderAt_28 : decode b_R_holderAt 28 = .ok (.getfield 25, 3) := by decide +kernel
theorem d_R_holderAt_31 : decode b_R_holderAt 31 = .ok (.iload_n 1, 1) := by decide +kernel
theorem d_R_holderAt_32 : decode b_R_holderAt 32 = .ok (.iaload, 1) := by decide +kernel
theorem d_R_holderAt_33 : decode b_R_holderAt 33 = .ok (.goto 9, 3) := by decide +kernel
theorem d_R_holderAt_36 : decode b_R_holderAt 36 = .ok (.aload_n 0, 1) := by decide +kernel
theorem d_R_holderAt_37 : decode b_R_holderAt 37 = .ok (.iload_n 1, 1) := by decide +kernel
theorem d_R_holderAt_38 : decode b_R_holderAt 38 = .ok (.iload_n 3, 1) := by decide +kernel
theorem d_R_holderAt_39 : decode b_R_holderAt 39 = .ok (.invokevirtual 174, 3) := by decide +kernel
theorem d_R_holderAt_42 : decode b_R_holderAt 42 = .ok (.ireturn, 1) := by decide +kernel
theorem d_R_span_0 : decode b_R_span 0 = .ok (.aload_n 0, 1) := by decide +kernel
theorem d_R_span_1 : decode b_R_span 1 = .ok (.getfield 69, 3) := by decide +kernel
theorem d_R_span_4 : decode b_R_span 4 = .ok (.aload_n 0, 1) := by decide +kernel
theorem d_R_span_5 : decode b_R_span 5 = .ok (.getfield 177, 3) := by decide +kernel
theorem d_R_span_8 : decode b_R_span 8 = .ok (.iload_n 1, 1) := by decide +kernel
theorem d_R_span_9 : decode b_R_span 9 = .ok (.iastore, 1) := by decide +kernel
theorem d_R_span_10 : decode b_R_span 10 = .ok (.aload_n 0, 1) := by decide +kernel
theorem d_R_span_11 : decode b_R_span 11 = .ok (.getfield 72, 3) := by decide +kernel
theorem d_R_span_14 : decode b_R_span 14 = .ok (.aload_n 0, 1) := by decide +kernel
theorem d_R_span_15 : decode b_R_span 15 = .ok (.getfield 177, 3) := by decide +kernel
theorem d_R_span_18 : decode b_R_span 18 = .ok (.lload_n 2, 1) := by decide +kernel
theorem d_R_span_19 : decode b_R_span 19 = .ok (.lastore, 1) := by decide +kernel
theorem d_R_span_20 : decode b_R_span 20 = .ok (.aload_n 0, 1) := by decide +kernel
theorem d_R_span_21 : decode b_R_span 21 = .ok (.getfield 75, 3) := by decide +kernel
theorem d_R_span_24 : decode b_R_span 24 = .ok (.aload_n 0, 1) := by decide +kernel
theorem d_R_span_25 : decode b_R_span 25 = .ok (.getfield 177, 3) := by decide +kernel
theorem d_R_span_28 : decode b_R_span 28 = .ok (.lload 4, 2) := by decide +kernel
theorem d_R_span_30 : decode b_R_span 30 = .ok (.lastore, 1) := by decide +kernel
theorem d_R_span_31 : decode b_R_span 31 = .ok (.aload_n 0, 1) := by decide +kernel
theorem d_R_span_32 : decode b_R_span 32 = .ok (.getfield 81, 3) := by decide +kernel
theorem d_R_span_35 : decode b_R_span 35 = .ok (.aload_n 0, 1) := by decide +kernel
theorem d_R_span_36 : decode b_R_span 36 = .ok (.getfield 177, 3) := by decide +kernel
theorem d_R_span_39 : decode b_R_span 39 = .ok (.iconst 0, 1) := by decide +kernel
theorem d_R_span_40 : decode b_R_span 40 = .ok (.bastore, 1) := by decide +kernel
theorem d_R_span_41 : decode b_R_span 41 = .ok (.aload_n 0, 1) := by decide +kernel
theorem d_R_span_42 : decode b_R_span 42 = .ok (.dup, 1) := by decide +kernel
theorem d_R_span_43 : decode b_R_span 43 = .ok (.getfield 177, 3) := by decide +kernel
theorem d_R_span_46 : decode b_R_span 46 = .ok (.iconst 1, 1) := by decide +kernel
theorem d_R_span_47 : decode b_R_span 47 = .ok (.iadd, 1) := by decide +kernel
theorem d_R_span_48 : decode b_R_span 48 = .ok (.putfield 177, 3) := by decide +kernel
theorem d_R_span_51 : decode b_R_span 51 = .ok (.return_, 1) := by decide +kernel
theorem d_R_spansBy_0 : decode b_R_spansBy 0 = .ok (.iconst 0, 1) := by decide +kernel
theorem d_R_spansBy_1 : decode b_R_spansBy 1 = .ok (.istore 6, 2) := by decide +kernel
theorem d_R_spansBy_3 : decode b_R_spansBy 3 = .ok (.iload 6, 2) := by decide +kernel
theorem d_R_spansBy_5 : decode b_R_spansBy 5 = .ok (.bipush 12, 2) := by decide +kernel
theorem d_R_spansBy_7 : decode b_R_spansBy 7 = .ok (.if_icmp .ge 50, 3) := by decide +kernel
theorem d_R_spansBy_10 : decode b_R_spansBy 10 = .ok (.aload_n 0, 1) := by decide +kernel
theorem d_R_spansBy_11 : decode b_R_spansBy 11 = .ok (.aload_n 0, 1) := by decide +kernel
theorem d_R_spansBy_12 : decode b_R_spansBy 12 = .ok (.iload_n 1, 1) := by decide +kernel
theorem d_R_spansBy_13 : decode b_R_spansBy 13 = .ok (.iload 6, 2) := by decide +kernel
theorem d_R_spansBy_15 : decode b_R_spansBy 15 = .ok (.invokevirtual 180, 3) := by decide +kernel
theorem d_R_spansBy_18 : decode b_R_spansBy 18 = .ok (.lload_n 2, 1) := by decide +kernel
theorem d_R_spansBy_19 : decode b_R_spansBy 19 = .ok (.iload 4, 2) := by decide +kernel
theorem d_R_spansBy_21 : decode b_R_spansBy 21 = .ok (.i2l, 1) := by decide +kernel
theorem d_R_spansBy_22 : decode b_R_spansBy 22 = .ok (.lmul, 1) := by decide +kernel
theorem d_R_spansBy_23 : decode b_R_spansBy 23 = .ok (.aload_n 0, 1) := by decide +kernel
theorem d_R_spansBy_24 : decode b_R_spansBy 24 = .ok (.iload_n 1, 1) := by decide +kernel
theorem d_R_spansBy_25 : decode b_R_spansBy 25 = .ok (.iload 6, 2) := by decide +kernel
theorem d_R_spansBy_27 : decode b_R_spansBy 27 = .ok (.invokevirtual 183, 3) := by decide +kernel
theorem d_R_spansBy_30 : decode b_R_spansBy 30 = .ok (.iload 6, 2) := by decide +kernel
theorem d_R_spansBy_32 : decode b_R_spansBy 32 = .ok (.isub, 1) := by decide +kernel
theorem d_R_spansBy_33 : decode b_R_spansBy 33 = .ok (.i2l, 1) := by decide +kernel
theorem d_R_spansBy_34 : decode b_R_spansBy 34 = .ok (.lmul, 1) := by decide +kernel
theorem d_R_spansBy_35 : decode b_R_spansBy 35 = .ok (.ldc2_w 186, 3) := by decide +kernel
theorem d_R_spansBy_38 : decode b_R_spansBy 38 = .ok (.iload 5, 2) := by decide +kernel
theorem d_R_spansBy_40 : decode b_R_spansBy 40 = .ok (.i2l, 1) := by decide +kernel
theorem d_R_spansBy_41 : decode b_R_spansBy 41 = .ok (.lmul, 1) := by decide +kernel
theorem d_R_spansBy_42 : decode b_R_spansBy 42 = .ok (.invokevirtual 188, 3) := by decide +kernel
theorem d_R_spansBy_45 : decode b_R_spansBy 45 = .ok (.aload_n 0, 1) := by decide +kernel
theorem d_R_spansBy_46 : decode b_R_spansBy 46 = .ok (.iload_n 1, 1) := by decide +kernel
theorem d_R_spansBy_47 : decode b_R_spansBy 47 = .ok (.iload 6, 2) := by decide +kernel
theorem d_R_spansBy_49 : decode b_R_spansBy 49 = .ok (.invokevirtual 183, 3) := by decide +kernel
theorem d_R_spansBy_52 : decode b_R_spansBy 52 = .ok (.istore 6, 2) := by decide +kernel
theorem d_R_spansBy_54 : decode b_R_spansBy 54 = .ok (.goto (-51), 3) := by decide +kernel
theorem d_R_spansBy_57 : decode b_R_spansBy 57 = .ok (.return_, 1) := by decide +kernel
theorem d_R_stretchOf_0 : decode b_R_stretchOf 0 = .ok (.aload_n 0, 1) := by decide +kernel
theorem d_R_stretchOf_1 : decode b_R_stretchOf 1 = .ok (.iload_n 1, 1) := by decide +kernel
theorem d_R_stretchOf_2 : decode b_R_stretchOf 2 = .ok (.invokevirtual 128, 3) := by decide +kernel
theorem d_R_stretchOf_5 : decode b_R_stretchOf 5 = .ok (.ifCond .ne 14, 3) := by decide +kernel
theorem d_R_stretchOf_8 : decode b_R_stretchOf 8 = .ok (.iload_n 3, 1) := by decide +kernel
theorem d_R_stretchOf_9 : decode b_R_stretchOf 9 = .ok (.ifCond .eq 8, 3) := by decide +kernel
theorem d_R_stretchOf_12 : decode b_R_stretchOf 12 = .ok (.bipush 12, 2) := by decide +kernel
theorem d_R_stretchOf_14 : decode b_R_stretchOf 14 = .ok (.goto 4, 3) := by decide +kernel
theorem d_R_stretchOf_17 : decode b_R_stretchOf 17 = .ok (.iconst 0, 1) := by decide +kernel
theorem d_R_stretchOf_18 : decode b_R_stretchOf 18 = .ok (.ireturn, 1) := by decide +kernel
theorem d_R_stretchOf_19 : decode b_R_stretchOf 19 = .ok (.iload_n 3, 1) := by decide +kernel
theorem d_R_stretchOf_20 : decode b_R_stretchOf 20 = .ok (.ifCond .eq 9, 3) := by decide +kernel
theorem d_R_stretchOf_23 : decode b_R_stretchOf 23 = .ok (.iload_n 2, 1) := by decide +kernel
theorem d_R_stretchOf_24 : decode b_R_stretchOf 24 = .ok (.iconst 1, 1) := by decide +kernel
theorem d_R_stretchOf_25 : decode b_R_stretchOf 25 = .ok (.iadd, 1) := by decide +kernel
theorem d_R_stretchOf_26 : decode b_R_stretchOf 26 = .ok (.goto 4, 3) := by decide +kernel
theorem d_R_stretchOf_29 : decode b_R_stretchOf 29 = .ok (.iload_n 2, 1) := by decide +kernel
theorem d_R_stretchOf_30 : decode b_R_stretchOf 30 = .ok (.istore 4, 2) := by decide +kernel
theorem d_R_stretchOf_32 : decode b_R_stretchOf 32 = .ok (.aload_n 0, 1) := by decide +kernel
theorem d_R_stretchOf_33 : decode b_R_stretchOf 33 = .ok (.getfield 19, 3) := by decide +kernel
theorem d_R_stretchOf_36 : decode b_R_stretchOf 36 = .ok (.bipush 13, 2) := by decide +kernel
theorem d_R_stretchOf_38 : decode b_R_stretchOf 38 = .ok (.iload_n 1, 1) := by decide +kernel
theorem d_R_stretchOf_39 : decode b_R_stretchOf 39 = .ok (.imul, 1) := by decide +kernel
theorem d_R_stretchOf_40 : decode b_R_stretchOf 40 = .ok (.iload 4, 2) := by decide +kernel
theorem d_R_stretchOf_42 : decode b_R_stretchOf 42 = .ok (.iadd, 1) := by decide +kernel
theorem d_R_stretchOf_43 : decode b_R_stretchOf 43 = .ok (.iaload, 1) := by decide +kernel
theorem d_R_stretchOf_44 : decode b_R_stretchOf 44 = .ok (.ifCond .ge 23, 3) := by decide +kernel
theorem d_R_stretchOf_47 : decode b_R_stretchOf 47 = .ok (.iload_n 3, 1) := by decide +kernel
theorem d_R_stretchOf_48 : decode b_R_stretchOf 48 = .ok (.ifCond .eq 10, 3) := by decide +kernel
theorem d_R_stretchOf_51 : decode b_R_stretchOf 51 = .ok (.iload 4, 2) := by decide +kernel
theorem d_R_stretchOf_53 : decode b_R_stretchOf 53 = .ok (.iconst 1, 1) := by decide +kernel
theorem d_R_stretchOf_54 : decode b_R_stretchOf 54 = .ok (.iadd, 1) := by decide +kernel
theorem d_R_stretchOf_55 : decode b_R_stretchOf 55 = .ok (.goto 7, 3) := by decide +kernel
theorem d_R_stretchOf_58 : decode b_R_stretchOf 58 = .ok (.iload 4, 2) := by decide +kernel
theorem d_R_stretchOf_60 : decode b_R_stretchOf 60 = .ok (.iconst 1, 1) := by decide +kernel
theorem d_R_stretchOf_61 : decode b_R_stretchOf 61 = .ok (.isub, 1) := by decide +kernel
theorem d_R_stretchOf_62 : decode b_R_stretchOf 62 = .ok (.istore 4, 2) := by decide +kernel
theorem d_R_stretchOf_64 : decode b_R_stretchOf 64 = .ok (.goto (-32), 3) := by decide +kernel
theorem d_R_stretchOf_67 : decode b_R_stretchOf 67 = .ok (.iload 4, 2) := by decide +kernel
theorem d_R_stretchOf_69 : decode b_R_stretchOf 69 = .ok (.ireturn, 1) := by decide +kernel
theorem d_R_degreesOf_0 : decode b_R_degreesOf 0 = .ok (.iconst 0, 1) := by decide +kernel
theorem d_R_degreesOf_1 : decode b_R_degreesOf 1 = .ok (.istore_n 3, 1) := by decide +kernel
theorem d_R_degreesOf_2 : decode b_R_degreesOf 2 = .ok (.iload_n 1, 1) := by decide +kernel
theorem d_R_degreesOf_3 : decode b_R_degreesOf 3 = .ok (.istore 4, 2) := by decide +kernel
theorem d_R_degreesOf_5 : decode b_R_degreesOf 5 = .ok (.iload 4, 2) := by decide +kernel
theorem d_R_degreesOf_7 : decode b_R_degreesOf 7 = .ok (.iload_n 2, 1) := by decide +kernel
theorem d_R_degreesOf_8 : decode b_R_degreesOf 8 = .ok (.if_icmp .ge 19, 3) := by decide +kernel
theorem d_R_degreesOf_11 : decode b_R_degreesOf 11 = .ok (.iload_n 3, 1) := by decide +kernel
theorem d_R_degreesOf_12 : decode b_R_degreesOf 12 = .ok (.aload_n 0, 1) := by decide +kernel
theorem d_R_degreesOf_13 : decode b_R_degreesOf 13 = .ok (.getfield 47, 3) := by decide +kernel
theorem d_R_degreesOf_16 : decode b_R_degreesOf 16 = .ok (.iload 4, 2) := by decide +kernel
theorem d_R_degreesOf_18 : decode b_R_degreesOf 18 = .ok (.iaload, 1) := by decide +kernel
theorem d_R_degreesOf_19 : decode b_R_degreesOf 19 = .ok (.iadd, 1) := by decide +kernel
theorem d_R_degreesOf_20 : decode b_R_degreesOf 20 = .ok (.istore_n 3, 1) := by decide +kernel
theorem d_R_degreesOf_21 : decode b_R_degreesOf 21 = .ok (.iinc 4 1, 3) := by decide +kernel
theorem d_R_degreesOf_24 : decode b_R_degreesOf 24 = .ok (.goto (-19), 3) := by decide +kernel
theorem d_R_degreesOf_27 : decode b_R_degreesOf 27 = .ok (.iload_n 3, 1) := by decide +kernel
theorem d_R_degreesOf_28 : decode b_R_degreesOf 28 = .ok (.ireturn, 1) := by decide +kernel
theorem d_R_weight_0 : decode b_R_weight 0 = .ok (.aload_n 0, 1) := by decide +kernel
theorem d_R_weight_1 : decode b_R_weight 1 = .ok (.iload_n 3, 1) := by decide +kernel
theorem d_R_weight_2 : decode b_R_weight 2 = .ok (.iload 4, 2) := by decide +kernel
theorem d_R_weight_4 : decode b_R_weight 4 = .ok (.invokevirtual 192, 3) := by decide +kernel
theorem d_R_weight_7 : decode b_R_weight 7 = .ok (.ifCond .le 12, 3) := by decide +kernel
theorem d_R_weight_10 : decode b_R_weight 10 = .ok (.aload_n 0, 1) := by decide +kernel
theorem d_R_weight_11 : decode b_R_weight 11 = .ok (.iload_n 1, 1) := by decide +kernel
theorem d_R_weight_12 : decode b_R_weight 12 = .ok (.iload_n 2, 1) := by decide +kernel
theorem d_R_weight_13 : decode b_R_weight 13 = .ok (.invokevirtual 192, 3) := by decide +kernel
theorem d_R_weight_16 : decode b_R_weight 16 = .ok (.goto 6, 3) := by decide +kernel
theorem d_R_weight_19 : decode b_R_weight 19 = .ok (.iload_n 2, 1) := by decide +kernel
theorem d_R_weight_20 : decode b_R_weight 20 = .ok (.iload_n 1, 1) := by decide +kernel
theorem d_R_weight_21 : decode b_R_weight 21 = .ok (.isub, 1) := by decide +kernel
theorem d_R_weight_22 : decode b_R_weight 22 = .ok (.ireturn, 1) := by decide +kernel
theorem d_R_spanByMeter_0 : decode b_R_spanByMeter 0 = .ok (.lconst 0, 1) := by decide +kernel
theorem d_R_spanByMeter_1 : decode b_R_spanByMeter 1 = .ok (.lstore 8, 2) := by decide +kernel
theorem d_R_spanByMeter_3 : decode b_R_spanByMeter 3 = .ok (.lconst 0, 1) := by decide +kernel
theorem d_R_spanByMeter_4 : decode b_R_spanByMeter 4 = .ok (.lstore 10, 2) := by decide +kernel
theorem d_R_spanByMeter_6 : decode b_R_spanByMeter 6 = .ok (.lconst 1, 1) := by decide +kernel
theorem d_R_spanByMeter_7 : decode b_R_spanByMeter 7 = .ok (.lstore 12, 2) := by decide +kernel
theorem d_R_spanByMeter_9 : decode b_R_spanByMeter 9 = .ok (.iload_n 2, 1) := by decide +kernel
theorem d_R_spanByMeter_10 : decode b_R_spanByMeter 10 = .ok (.istore 14, 2) := by decide +kernel
theorem d_R_spanByMeter_12 : decode b_R_spanByMeter 12 = .ok (.iload 14, 2) := by decide +kernel
theorem d_R_spanByMeter_14 : decode b_R_spanByMeter 14 = .ok (.iload_n 3, 1) := by decide +kernel
theorem d_R_spanByMeter_15 : decode b_R_spanByMeter 15 = .ok (.if_icmp .ge 175, 3) := by decide +kernel
theorem d_R_spanByMeter_18 : decode b_R_spanByMeter 18 = .ok (.aload_n 0, 1) := by decide +kernel
theorem d_R_spanByMeter_19 : decode b_R_spanByMeter 19 = .ok (.iload_n 1, 1) := by decide +kernel
theorem d_R_spanByMeter_20 : decode b_R_spanByMeter 20 = .ok (.iload 14, 2) := by decide +kernel
theorem d_R_spanByMeter_22 : decode b_R_spanByMeter 22 = .ok (.iconst 0, 1) := by decide +kernel
theorem d_R_spanByMeter_23 : decode b_R_spanByMeter 23 = .ok (.invokevirtual 195, 3) := by decide +kernel
theorem d_R_spanByMeter_26 : decode b_R_spanByMeter 26 = .ok (.istore 15, 2) := by decide +kernel
theorem d_R_spanByMeter_28 : decode b_R_spanByMeter 28 = .ok (.aload_n 0, 1) := by decide +kernel
theorem d_R_spanByMeter_29 : decode b_R_spanByMeter 29 = .ok (.iload_n 1, 1) := by decide +kernel
theorem d_R_spanByMeter_30 : decode b_R_spanByMeter 30 = .ok (.iload 14, 2) := by decide +kernel
theorem d_R_spanByMeter_32 : decode b_R_spanByMeter 32 = .ok (.iconst 1, 1) := by decide +kernel
theorem d_R_spanByMeter_33 : decode b_R_spanByMeter 33 = .ok (.invokevirtual 195, 3) := by decide +kernel
theorem d_R_spanByMeter_36 : decode b_R_spanByMeter 36 = .ok (.istore 16, 2) := by decide +kernel
theorem d_R_spanByMeter_38 : decode b_R_spanByMeter 38 = .ok (.iload 16, 2) := by decide +kernel
theorem d_R_spanByMeter_40 : decode b_R_spanByMeter 40 = .ok (.iload_n 3, 1) := by decide +kernel
theorem d_R_spanByMeter_41 : decode b_R_spanByMeter 41 = .ok (.if_icmp .ge 8, 3) := by decide +kernel
theorem d_R_spanByMeter_44 : decode b_R_spanByMeter 44 = .ok (.iload 16, 2) := by decide +kernel
theorem d_R_spanByMeter_46 : decode b_R_spanByMeter 46 = .ok (.goto 4, 3) := by decide +kernel
theorem d_R_spanByMeter_49 : decode b_R_spanByMeter 49 = .ok (.iload_n 3, 1) := by decide +kernel
theorem d_R_spanByMeter_50 : decode b_R_spanByMeter 50 = .ok (.istore 17, 2) := by decide +kernel
theorem d_R_spanByMeter_52 : decode b_R_spanByMeter 52 = .ok (.aload_n 0, 1) := by decide +kernel
theorem d_R_spanByMeter_53 : decode b_R_spanByMeter 53 = .ok (.iload_n 1, 1) := by decide +kernel
theorem d_R_spanByMeter_54 : decode b_R_spanByMeter 54 = .ok (.invokevirtual 128, 3) := by decide +kernel
theorem d_R_spanByMeter_57 : decode b_R_spanByMeter 57 = .ok (.ifCond .eq 45, 3) := by decide +kernel
theorem d_R_spanByMeter_60 : decode b_R_spanByMeter 60 = .ok (.aload_n 0, 1) := by decide +kernel
theorem d_R_spanByMeter_61 : decode b_R_spanByMeter 61 = .ok (.getfield 150, 3) := by decide +kernel
theorem d_R_spanByMeter_64 : decode b_R_spanByMeter 64 = .ok (.aload_n 0, 1) := by decide +kernel
theorem d_R_spanByMeter_65 : decode b_R_spanByMeter 65 = .ok (.getfield 16, 3) := by decide +kernel
theorem d_R_spanByMeter_68 : decode b_R_spanByMeter 68 = .ok (.iload_n 1, 1) := by decide +kernel
theorem d_R_spanByMeter_69 : decode b_R_spanByMeter 69 = .ok (.iaload, 1) := by decide +kernel
theorem d_R_spanByMeter_70 : decode b_R_spanByMeter 70 = .ok (.i2l, 1) := by decide +kernel
theorem d_R_spanByMeter_71 : decode b_R_spanByMeter 71 = .ok (.lmul, 1) := by decide +kernel
theorem d_R_spanByMeter_72 : decode b_R_spanByMeter 72 = .ok (.aload_n 0, 1) := by decide +kernel
theorem d_R_spanByMeter_73 : decode b_R_spanByMeter 73 = .ok (.getfield 19, 3) := by decide +kernel
theorem d_R_spanByMeter_76 : decode b_R_spanByMeter 76 = .ok (.bipush 13, 2) := by decide +kernel
theorem d_R_spanByMeter_78 : decode b_R_spanByMeter 78 = .ok (.iload_n 1, 1) := by decide +kernel
theorem d_R_spanByMeter_79 : decode b_R_spanByMeter 79 = .ok (.imul, 1) := by decide +kernel
theorem d_R_spanByMeter_80 : decode b_R_spanByMeter 80 = .ok (.iload 16, 2) := by decide +kernel
theorem d_R_spanByMeter_82 : decode b_R_spanByMeter 82 = .ok (.iadd, 1) := by decide +kernel
theorem d_R_spanByMeter_83 : decode b_R_spanByMeter 83 = .ok (.iaload, 1) := by decide +kernel
theorem d_R_spanByMeter_84 : decode b_R_spanByMeter 84 = .ok (.aload_n 0, 1) := by decide +kernel
theorem d_R_spanByMeter_85 : decode b_R_spanByMeter 85 = .ok (.getfield 19, 3) := by decide +kernel
theorem d_R_spanByMeter_88 : decode b_R_spanByMeter 88 = .ok (.bipush 13, 2) := by decide +kernel
theorem d_R_spanByMeter_90 : decode b_R_spanByMeter 90 = .ok (.iload_n 1, 1) := by decide +kernel
theorem d_R_spanByMeter_91 : decode b_R_spanByMeter 91 = .ok (.imul, 1) := by decide +kernel
theorem d_R_spanByMeter_92 : decode b_R_spanByMeter 92 = .ok (.iload 15, 2) := by decide +kernel
theorem d_R_spanByMeter_94 : decode b_R_spanByMeter 94 = .ok (.iadd, 1) := by decide +kernel
theorem d_R_spanByMeter_95 : decode b_R_spanByMeter 95 = .ok (.iaload, 1) := by decide +kernel
theorem d_R_spanByMeter_96 : decode b_R_spanByMeter 96 = .ok (.isub, 1) := by decide +kernel
theorem d_R_spanByMeter_97 : decode b_R_spanByMeter 97 = .ok (.i2l, 1) := by decide +kernel
theorem d_R_spanByMeter_98 : decode b_R_spanByMeter 98 = .ok (.lmul, 1) := by decide +kernel
theorem d_R_spanByMeter_99 : decode b_R_spanByMeter 99 = .ok (.goto 9, 3) := by decide +kernel
theorem d_R_spanByMeter_102 : decode b_R_spanByMeter 102 = .ok (.aload_n 0, 1) := by decide +kernel
theorem d_R_spanByMeter_103 : decode b_R_spanByMeter 103 = .ok (.getfield 65, 3) := by decide +kernel
theorem d_R_spanByMeter_106 : decode b_R_spanByMeter 106 = .ok (.iload_n 1, 1) := by decide +kernel
theorem d_R_spanByMeter_107 : decode b_R_spanByMeter 107 = .ok (.laload, 1) := by decide +kernel
theorem d_R_spanByMeter_108 : decode b_R_spanByMeter 108 = .ok (.lstore 18, 2) := by decide +kernel
theorem d_R_spanByMeter_110 : decode b_R_spanByMeter 110 = .ok (.iload 15, 2) := by decide +kernel
theorem d_R_spanByMeter_112 : decode b_R_spanByMeter 112 = .ok (.iload 14, 2) := by decide +kernel
theorem d_R_spanByMeter_114 : decode b_R_spanByMeter 114 = .ok (.if_icmp .ne 20, 3) := by decide +kernel
theorem d_R_spanByMeter_117 : decode b_R_spanByMeter 117 = .ok (.iload 16, 2) := by decide +kernel
theorem d_R_spanByMeter_119 : decode b_R_spanByMeter 119 = .ok (.iload 17, 2) := by decide +kernel
theorem d_R_spanByMeter_121 : decode b_R_spanByMeter 121 = .ok (.if_icmp .ne 13, 3) := by decide +kernel
theorem d_R_spanByMeter_124 : decode b_R_spanByMeter 124 = .ok (.lload 8, 2) := by decide +kernel
theorem d_R_spanByMeter_126 : decode b_R_spanByMeter 126 = .ok (.lload 18, 2) := by decide +kernel
theorem d_R_spanByMeter_128 : decode b_R_spanByMeter 128 = .ok (.ladd, 1) := by decide +kernel
theorem d_R_spanByMeter_129 : decode b_R_spanByMeter 129 = .ok (.lstore 8, 2) := by decide +kernel
theorem d_R_spanByMeter_131 : decode b_R_spanByMeter 131 = .ok (.goto 52, 3) := by decide +kernel
theorem d_R_spanByMeter_134 : decode b_R_spanByMeter 134 = .ok (.aload_n 0, 1) := by decide +kernel
theorem d_R_spanByMeter_135 : decode b_R_spanByMeter 135 = .ok (.iload 15, 2) := by decide +kernel
theorem d_R_spanByMeter_137 : decode b_R_spanByMeter 137 = .ok (.iload 16, 2) := by decide +kernel
theorem d_R_spanByMeter_139 : decode b_R_spanByMeter 139 = .ok (.iload 15, 2) := by decide +kernel
theorem d_R_spanByMeter_141 : decode b_R_spanByMeter 141 = .ok (.iload 16, 2) := by decide +kernel
theorem d_R_spanByMeter_143 : decode b_R_spanByMeter 143 = .ok (.invokevirtual 199, 3) := by decide +kernel
theorem d_R_spanByMeter_146 : decode b_R_spanByMeter 146 = .ok (.i2l, 1) := by decide +kernel
theorem d_R_spanByMeter_147 : decode b_R_spanByMeter 147 = .ok (.lstore 20, 2) := by decide +kernel
theorem d_R_spanByMeter_149 : decode b_R_spanByMeter 149 = .ok (.lload 10, 2) := by decide +kernel
theorem d_R_spanByMeter_151 : decode b_R_spanByMeter 151 = .ok (.lload 20, 2) := by decide +kernel
theorem d_R_spanByMeter_153 : decode b_R_spanByMeter 153 = .ok (.lmul, 1) := by decide +kernel
theorem d_R_spanByMeter_154 : decode b_R_spanByMeter 154 = .ok (.lload 18, 2) := by decide +kernel
theorem d_R_spanByMeter_156 : decode b_R_spanByMeter 156 = .ok (.aload_n 0, 1) := by decide +kernel
theorem d_R_spanByMeter_157 : decode b_R_spanByMeter 157 = .ok (.iload 14, 2) := by decide +kernel
theorem d_R_spanByMeter_159 : decode b_R_spanByMeter 159 = .ok (.iload 17, 2) := by decide +kernel
theorem d_R_spanByMeter_161 : decode b_R_spanByMeter 161 = .ok (.iload 15, 2) := by decide +kernel
theorem d_R_spanByMeter_163 : decode b_R_spanByMeter 163 = .ok (.iload 16, 2) := by decide +kernel
theorem d_R_spanByMeter_165 : decode b_R_spanByMeter 165 = .ok (.invokevirtual 199, 3) := by decide +kernel
theorem d_R_spanByMeter_168 : decode b_R_spanByMeter 168 = .ok (.i2l, 1) := by decide +kernel
theorem d_R_spanByMeter_169 : decode b_R_spanByMeter 169 = .ok (.lmul, 1) := by decide +kernel
theorem d_R_spanByMeter_170 : decode b_R_spanByMeter 170 = .ok (.lload 12, 2) := by decide +kernel
theorem d_R_spanByMeter_172 : decode b_R_spanByMeter 172 = .ok (.lmul, 1) := by decide +kernel
theorem d_R_spanByMeter_173 : decode b_R_spanByMeter 173 = .ok (.ladd, 1) := by decide +kernel
theorem d_R_spanByMeter_174 : decode b_R_spanByMeter 174 = .ok (.lstore 10, 2) := by decide +kernel
theorem d_R_spanByMeter_176 : decode b_R_spanByMeter 176 = .ok (.lload 12, 2) := by decide +kernel
theorem d_R_spanByMeter_178 : decode b_R_spanByMeter 178 = .ok (.lload 20, 2) := by decide +kernel
theorem d_R_spanByMeter_180 : decode b_R_spanByMeter 180 = .ok (.lmul, 1) := by decide +kernel
theorem d_R_spanByMeter_181 : decode b_R_spanByMeter 181 = .ok (.lstore 12, 2) := by decide +kernel
theorem d_R_spanByMeter_183 : decode b_R_spanByMeter 183 = .ok (.iload 17, 2) := by decide +kernel
theorem d_R_spanByMeter_185 : decode b_R_spanByMeter 185 = .ok (.istore 14, 2) := by decide +kernel
theorem d_R_spanByMeter_187 : decode b_R_spanByMeter 187 = .ok (.goto (-175), 3) := by decide +kernel
theorem d_R_spanByMeter_190 : decode b_R_spanByMeter 190 = .ok (.aload_n 0, 1) := by decide +kernel
theorem d_R_spanByMeter_191 : decode b_R_spanByMeter 191 = .ok (.aload_n 0, 1) := by decide +kernel
theorem d_R_spanByMeter_192 : decode b_R_spanByMeter 192 = .ok (.iload_n 1, 1) := by decide +kernel
theorem d_R_spanByMeter_193 : decode b_R_spanByMeter 193 = .ok (.iload_n 2, 1) := by decide +kernel
theorem d_R_spanByMeter_194 : decode b_R_spanByMeter 194 = .ok (.invokevirtual 180, 3) := by decide +kernel
theorem d_R_spanByMeter_197 : decode b_R_spanByMeter 197 = .ok (.lload 4, 2) := by decide +kernel
theorem d_R_spanByMeter_199 : decode b_R_spanByMeter 199 = .ok (.lload 8, 2) := by decide +kernel
theorem d_R_spanByMeter_201 : decode b_R_spanByMeter 201 = .ok (.lload 12, 2) := by decide +kernel
theorem d_R_spanByMeter_203 : decode b_R_spanByMeter 203 = .ok (.lmul, 1) := by decide +kernel
theorem d_R_spanByMeter_204 : decode b_R_spanByMeter 204 = .ok (.lload 10, 2) := by decide +kernel
theorem d_R_spanByMeter_206 : decode b_R_spanByMeter 206 = .ok (.ladd, 1) := by decide +kernel
theorem d_R_spanByMeter_207 : decode b_R_spanByMeter 207 = .ok (.lmul, 1) := by decide +kernel
theorem d_R_spanByMeter_208 : decode b_R_spanByMeter 208 = .ok (.lload 6, 2) := by decide +kernel
theorem d_R_spanByMeter_210 : decode b_R_spanByMeter 210 = .ok (.lload 12, 2) := by decide +kernel
theorem d_R_spanByMeter_212 : decode b_R_spanByMeter 212 = .ok (.lmul, 1) := by decide +kernel
theorem d_R_spanByMeter_213 : decode b_R_spanByMeter 213 = .ok (.invokevirtual 188, 3) := by decide +kernel
theorem d_R_spanByMeter_216 : decode b_R_spanByMeter 216 = .ok (.return_, 1) := by decide +kernel
theorem d_R_isMore_0 : decode b_R_isMore 0 = .ok (.lload_n 0, 1) := by decide +kernel
theorem d_R_isMore_1 : decode b_R_isMore 1 = .ok (.lstore 8, 2) := by decide +kernel
theorem d_R_isMore_3 : decode b_R_isMore 3 = .ok (.lload_n 2, 1) := by decide +kernel
theorem d_R_isMore_4 : decode b_R_isMore 4 = .ok (.lstore 10, 2) := by decide +kernel
theorem d_R_isMore_6 : decode b_R_isMore 6 = .ok (.lload 4, 2) := by decide +kernel
theorem d_R_isMore_8 : decode b_R_isMore 8 = .ok (.lstore 12, 2) := by decide +kernel
theorem d_R_isMore_10 : decode b_R_isMore 10 = .ok (.lload 6, 2) := by decide +kernel
theorem d_R_isMore_12 : decode b_R_isMore 12 = .ok (.lstore 14, 2) := by decide +kernel
theorem d_R_isMore_14 : decode b_R_isMore 14 = .ok (.iconst 0, 1) := by decide +kernel
theorem d_R_isMore_15 : decode b_R_isMore 15 = .ok (.istore 16, 2) := by decide +kernel
theorem d_R_isMore_17 : decode b_R_isMore 17 = .ok (.lload 8, 2) := by decide +kernel
theorem d_R_isMore_19 : decode b_R_isMore 19 = .ok (.lload 10, 2) := by decide +kernel
theorem d_R_isMore_21 : decode b_R_isMore 21 = .ok (.ldiv, 1) := by decide +kernel
theorem d_R_isMore_22 : decode b_R_isMore 22 = .ok (.lload 12, 2) := by decide +kernel
theorem d_R_isMore_24 : decode b_R_isMore 24 = .ok (.lload 14, 2) := by decide +kernel
theorem d_R_isMore_26 : decode b_R_isMore 26 = .ok (.ldiv, 1) := by decide +kernel
theorem d_R_isMore_27 : decode b_R_isMore 27 = .ok (.lcmp, 1) := by decide +kernel
theorem d_R_isMore_28 : decode b_R_isMore 28 = .ok (.ifCond .ne 97, 3) := by decide +kernel
theorem d_R_isMore_31 : decode b_R_isMore 31 = .ok (.lload 8, 2) := by decide +kernel
theorem d_R_isMore_33 : decode b_R_isMore 33 = .ok (.lload 10, 2) := by decide +kernel
theorem d_R_isMore_35 : decode b_R_isMore 35 = .ok (.lrem, 1) := by decide +kernel
theorem d_R_isMore_36 : decode b_R_isMore 36 = .ok (.lstore 17, 2) := by decide +kernel
theorem d_R_isMore_38 : decode b_R_isMore 38 = .ok (.lload 12, 2) := by decide +kernel
theorem d_R_isMore_40 : decode b_R_isMore 40 = .ok (.lload 14, 2) := by decide +kernel
theorem d_R_isMore_42 : decode b_R_isMore 42 = .ok (.lrem, 1) := by decide +kernel
theorem d_R_isMore_43 : decode b_R_isMore 43 = .ok (.lstore 19, 2) := by decide +kernel
theorem d_R_isMore_45 : decode b_R_isMore 45 = .ok (.lload 17, 2) := by decide +kernel
theorem d_R_isMore_47 : decode b_R_isMore 47 = .ok (.lconst 0, 1) := by decide +kernel
theorem d_R_isMore_48 : decode b_R_isMore 48 = .ok (.lcmp, 1) := by decide +kernel
theorem d_R_isMore_49 : decode b_R_isMore 49 = .ok (.ifCond .eq 10, 3) := by decide +kernel
theorem d_R_isMore_52 : decode b_R_isMore 52 = .ok (.lload 19, 2) := by decide +kernel
theorem d_R_isMore_54 : decode b_R_isMore 54 = .ok (.lconst 0, 1) := by decide +kernel
theorem d_R_isMore_55 : decode b_R_isMore 55 = .ok (.lcmp, 1) := by decide +kernel
theorem d_R_isMore_56 : decode b_R_isMore 56 = .ok (.ifCond .ne 38, 3) := by decide +kernel
theorem d_R_isMore_59 : decode b_R_isMore 59 = .ok (.iload 16, 2) := by decide +kernel
theorem d_R_isMore_61 : decode b_R_isMore 61 = .ok (.ifCond .eq 19, 3) := by decide +kernel
theorem d_R_isMore_64 : decode b_R_isMore 64 = .ok (.lload 17, 2) := by decide +kernel
theorem d_R_isMore_66 : decode b_R_isMore 66 = .ok (.lload 19, 2) := by decide +kernel
theorem d_R_isMore_68 : decode b_R_isMore 68 = .ok (.lcmp, 1) := by decide +kernel
theorem d_R_isMore_69 : decode b_R_isMore 69 = .ok (.ifCond .ge 7, 3) := by decide +kernel
theorem d_R_isMore_72 : decode b_R_isMore 72 = .ok (.iconst 1, 1) := by decide +kernel
theorem d_R_isMore_73 : decode b_R_isMore 73 = .ok (.goto 20, 3) := by decide +kernel
theorem d_R_isMore_76 : decode b_R_isMore 76 = .ok (.iconst 0, 1) := by decide +kernel
theorem d_R_isMore_77 : decode b_R_isMore 77 = .ok (.goto 16, 3) := by decide +kernel
theorem d_R_isMore_80 : decode b_R_isMore 80 = .ok (.lload 17, 2) := by decide +kernel
theorem d_R_isMore_82 : decode b_R_isMore 82 = .ok (.lload 19, 2) := by decide +kernel
theorem d_R_isMore_84 : decode b_R_isMore 84 = .ok (.lcmp, 1) := by decide +kernel
theorem d_R_isMore_85 : decode b_R_isMore 85 = .ok (.ifCond .le 7, 3) := by decide +kernel
theorem d_R_isMore_88 : decode b_R_isMore 88 = .ok (.iconst 1, 1) := by decide +kernel
theorem d_R_isMore_89 : decode b_R_isMore 89 = .ok (.goto 4, 3) := by decide +kernel
theorem d_R_isMore_92 : decode b_R_isMore 92 = .ok (.iconst 0, 1) := by decide +kernel
theorem d_R_isMore_93 : decode b_R_isMore 93 = .ok (.ireturn, 1) := by decide +kernel
theorem d_R_isMore_94 : decode b_R_isMore 94 = .ok (.lload 10, 2) := by decide +kernel
theorem d_R_isMore_96 : decode b_R_isMore 96 = .ok (.lstore 8, 2) := by decide +kernel
theorem d_R_isMore_98 : decode b_R_isMore 98 = .ok (.lload 17, 2) := by decide +kernel
theorem d_R_isMore_100 : decode b_R_isMore 100 = .ok (.lstore 10, 2) := by decide +kernel
theorem d_R_isMore_102 : decode b_R_isMore 102 = .ok (.lload 14, 2) := by decide +kernel
theorem d_R_isMore_104 : decode b_R_isMore 104 = .ok (.lstore 12, 2) := by decide +kernel
theorem d_R_isMore_106 : decode b_R_isMore 106 = .ok (.lload 19, 2) := by decide +kernel
theorem d_R_isMore_108 : decode b_R_isMore 108 = .ok (.lstore 14, 2) := by decide +kernel
theorem d_R_isMore_110 : decode b_R_isMore 110 = .ok (.iload 16, 2) := by decide +kernel
theorem d_R_isMore_112 : decode b_R_isMore 112 = .ok (.ifCond .ne 7, 3) := by decide +kernel
theorem d_R_isMore_115 : decode b_R_isMore 115 = .ok (.iconst 1, 1) := by decide +kernel
theorem d_R_isMore_116 : decode b_R_isMore 116 = .ok (.goto 4, 3) := by decide +kernel
theorem d_R_isMore_119 : decode b_R_isMore 119 = .ok (.iconst 0, 1) := by decide +kernel
theorem d_R_isMore_120 : decode b_R_isMore 120 = .ok (.istore 16, 2) := by decide +kernel
theorem d_R_isMore_122 : decode b_R_isMore 122 = .ok (.goto (-105), 3) := by decide +kernel
theorem d_R_isMore_125 : decode b_R_isMore 125 = .ok (.iload 16, 2) := by decide +kernel
theorem d_R_isMore_127 : decode b_R_isMore 127 = .ok (.ifCond .eq 25, 3) := by decide +kernel
theorem d_R_isMore_130 : decode b_R_isMore 130 = .ok (.lload 8, 2) := by decide +kernel
theorem d_R_isMore_132 : decode b_R_isMore 132 = .ok (.lload 10, 2) := by decide +kernel
theorem d_R_isMore_134 : decode b_R_isMore 134 = .ok (.ldiv, 1) := by decide +kernel
theorem d_R_isMore_135 : decode b_R_isMore 135 = .ok (.lload 12, 2) := by decide +kernel
theorem d_R_isMore_137 : decode b_R_isMore 137 = .ok (.lload 14, 2) := by decide +kernel
theorem d_R_isMore_139 : decode b_R_isMore 139 = .ok (.ldiv, 1) := by decide +kernel
theorem d_R_isMore_140 : decode b_R_isMore 140 = .ok (.lcmp, 1) := by decide +kernel
theorem d_R_isMore_141 : decode b_R_isMore 141 = .ok (.ifCond .ge 7, 3) := by decide +kernel
theorem d_R_isMore_144 : decode b_R_isMore 144 = .ok (.iconst 1, 1) := by decide +kernel
theorem d_R_isMore_145 : decode b_R_isMore 145 = .ok (.goto 26, 3) := by decide +kernel
theorem d_R_isMore_148 : decode b_R_isMore 148 = .ok (.iconst 0, 1) := by decide +kernel
theorem d_R_isMore_149 : decode b_R_isMore 149 = .ok (.goto 22, 3) := by decide +kernel
theorem d_R_isMore_152 : decode b_R_isMore 152 = .ok (.lload 8, 2) := by decide +kernel
theorem d_R_isMore_154 : decode b_R_isMore 154 = .ok (.lload 10, 2) := by decide +kernel
theorem d_R_isMore_156 : decode b_R_isMore 156 = .ok (.ldiv, 1) := by decide +kernel
theorem d_R_isMore_157 : decode b_R_isMore 157 = .ok (.lload 12, 2) := by decide +kernel
theorem d_R_isMore_159 : decode b_R_isMore 159 = .ok (.lload 14, 2) := by decide +kernel
theorem d_R_isMore_161 : decode b_R_isMore 161 = .ok (.ldiv, 1) := by decide +kernel
theorem d_R_isMore_162 : decode b_R_isMore 162 = .ok (.lcmp, 1) := by decide +kernel
theorem d_R_isMore_163 : decode b_R_isMore 163 = .ok (.ifCond .le 7, 3) := by decide +kernel
theorem d_R_isMore_166 : decode b_R_isMore 166 = .ok (.iconst 1, 1) := by decide +kernel
theorem d_R_isMore_167 : decode b_R_isMore 167 = .ok (.goto 4, 3) := by decide +kernel
theorem d_R_isMore_170 : decode b_R_isMore 170 = .ok (.iconst 0, 1) := by decide +kernel
theorem d_R_isMore_171 : decode b_R_isMore 171 = .ok (.ireturn, 1) := by decide +kernel
theorem d_R_handOut_0 : decode b_R_handOut 0 = .ok (.iload_n 1, 1) := by decide +kernel
theorem d_R_handOut_1 : decode b_R_handOut 1 = .ok (.istore_n 3, 1) := by decide +kernel
theorem d_R_handOut_2 : decode b_R_handOut 2 = .ok (.iconst 0, 1) := by decide +kernel
theorem d_R_handOut_3 : decode b_R_handOut 3 = .ok (.istore 4, 2) := by decide +kernel
theorem d_R_handOut_5 : decode b_R_handOut 5 = .ok (.iload 4, 2) := by decide +kernel
theorem d_R_handOut_7 : decode b_R_handOut 7 = .ok (.aload_n 0, 1) := by decide +kernel
theorem d_R_handOut_8 : decode b_R_handOut 8 = .ok (.getfield 177, 3) := by decide +kernel
theorem d_R_handOut_11 : decode b_R_handOut 11 = .ok (.if_icmp .ge 64, 3) := by decide +kernel
theorem d_R_handOut_14 : decode b_R_handOut 14 = .ok (.aload_n 0, 1) := by decide +kernel
theorem d_R_handOut_15 : decode b_R_handOut 15 = .ok (.getfield 78, 3) := by decide +kernel
theorem d_R_handOut_18 : decode b_R_handOut 18 = .ok (.iload 4, 2) := by decide +kernel
theorem d_R_handOut_20 : decode b_R_handOut 20 = .ok (.aload_n 0, 1) := by decide +kernel
theorem d_R_handOut_21 : decode b_R_handOut 21 = .ok (.getfield 72, 3) := by decide +kernel
theorem d_R_handOut_24 : decode b_R_handOut 24 = .ok (.iload 4, 2) := by decide +kernel
theorem d_R_handOut_26 : decode b_R_handOut 26 = .ok (.laload, 1) := by decide +kernel
theorem d_R_handOut_27 : decode b_R_handOut 27 = .ok (.aload_n 0, 1) := by decide +kernel
theorem d_R_handOut_28 : decode b_R_handOut 28 = .ok (.getfield 75, 3) := by decide +kernel
theorem d_R_handOut_31 : decode b_R_handOut 31 = .ok (.iload 4, 2) := by decide +kernel
theorem d_R_handOut_33 : decode b_R_handOut 33 = .ok (.laload, 1) := by decide +kernel
theorem d_R_handOut_34 : decode b_R_handOut 34 = .ok (.ldiv, 1) := by decide +kernel
theorem d_R_handOut_35 : decode b_R_handOut 35 = .ok (.l2i, 1) := by decide +kernel
theorem d_R_handOut_36 : decode b_R_handOut 36 = .ok (.iastore, 1) := by decide +kernel
theorem d_R_handOut_37 : decode b_R_handOut 37 = .ok (.aload_n 0, 1) := by decide +kernel
theorem d_R_handOut_38 : decode b_R_handOut 38 = .ok (.getfield 72, 3) := by decide +kernel
theorem d_R_handOut_41 : decode b_R_handOut 41 = .ok (.iload 4, 2) := by decide +kernel
theorem d_R_handOut_43 : decode b_R_handOut 43 = .ok (.aload_n 0, 1) := by decide +kernel
theorem d_R_handOut_44 : decode b_R_handOut 44 = .ok (.getfield 72, 3) := by decide +kernel
theorem d_R_handOut_47 : decode b_R_handOut 47 = .ok (.iload 4, 2) := by decide +kernel
theorem d_R_handOut_49 : decode b_R_handOut 49 = .ok (.laload, 1) := by decide +kernel
theorem d_R_handOut_50 : decode b_R_handOut 50 = .ok (.aload_n 0, 1) := by decide +kernel
theorem d_R_handOut_51 : decode b_R_handOut 51 = .ok (.getfield 75, 3) := by decide +kernel
theorem d_R_handOut_54 : decode b_R_handOut 54 = .ok (.iload 4, 2) := by decide +kernel
theorem d_R_handOut_56 : decode b_R_handOut 56 = .ok (.laload, 1) := by decide +kernel
theorem d_R_handOut_57 : decode b_R_handOut 57 = .ok (.lrem, 1) := by decide +kernel
theorem d_R_handOut_58 : decode b_R_handOut 58 = .ok (.lastore, 1) := by decide +kernel
theorem d_R_handOut_59 : decode b_R_handOut 59 = .ok (.iload_n 3, 1) := by decide +kernel
theorem d_R_handOut_60 : decode b_R_handOut 60 = .ok (.aload_n 0, 1) := by decide +kernel
theorem d_R_handOut_61 : decode b_R_handOut 61 = .ok (.getfield 78, 3) := by decide +kernel
theorem d_R_handOut_64 : decode b_R_handOut 64 = .ok (.iload 4, 2) := by decide +kernel
theorem d_R_handOut_66 : decode b_R_handOut 66 = .ok (.iaload, 1) := by decide +kernel
theorem d_R_handOut_67 : decode b_R_handOut 67 = .ok (.isub, 1) := by decide +kernel
theorem d_R_handOut_68 : decode b_R_handOut 68 = .ok (.istore_n 3, 1) := by decide +kernel
theorem d_R_handOut_69 : decode b_R_handOut 69 = .ok (.iinc 4 1, 3) := by decide +kernel
theorem d_R_handOut_72 : decode b_R_handOut 72 = .ok (.goto (-67), 3) := by decide +kernel
theorem d_R_handOut_75 : decode b_R_handOut 75 = .ok (.iload_n 3, 1) := by decide +kernel
theorem d_R_handOut_76 : decode b_R_handOut 76 = .ok (.ifCond .le 103, 3) := by decide +kernel
theorem d_R_handOut_79 : decode b_R_handOut 79 = .ok (.iconst (-1), 1) := by decide +kernel
theorem d_R_handOut_80 : decode b_R_handOut 80 = .ok (.istore 4, 2) := by decide +kernel
theorem d_R_handOut_82 : decode b_R_handOut 82 = .ok (.aload_n 0, 1) := by decide +kernel
theorem d_R_handOut_83 : decode b_R_handOut 83 = .ok (.getfield 177, 3) := by decide +kernel
theorem d_R_handOut_86 : decode b_R_handOut 86 = .ok (.iconst 1, 1) := by decide +kernel
theorem d_R_handOut_87 : decode b_R_handOut 87 = .ok (.isub, 1) := by decide +kernel
theorem d_R_handOut_88 : decode b_R_handOut 88 = .ok (.istore 5, 2) := by decide +kernel
theorem d_R_handOut_90 : decode b_R_handOut 90 = .ok (.iload 5, 2) := by decide +kernel
theorem d_R_handOut_92 : decode b_R_handOut 92 = .ok (.ifCond .lt 62, 3) := by decide +kernel
theorem d_R_handOut_95 : decode b_R_handOut 95 = .ok (.aload_n 0, 1) := by decide +kernel
theorem d_R_handOut_96 : decode b_R_handOut 96 = .ok (.getfield 81, 3) := by decide +kernel
theorem d_R_handOut_99 : decode b_R_handOut 99 = .ok (.iload 5, 2) := by decide +kernel
theorem d_R_handOut_101 : decode b_R_handOut 101 = .ok (.baload, 1) := by decide +kernel
theorem d_R_handOut_102 : decode b_R_handOut 102 = .ok (.ifCond .ne 46, 3) := by decide +kernel
theorem d_R_handOut_105 : decode b_R_handOut 105 = .ok (.iload 4, 2) := by decide +kernel
theorem d_R_handOut_107 : decode b_R_handOut 107 = .ok (.ifCond .lt 37, 3) := by decide +kernel
theorem d_R_handOut_110 : decode b_R_handOut 110 = .ok (.aload_n 0, 1) := by decide +kernel
theorem d_R_handOut_111 : decode b_R_handOut 111 = .ok (.getfield 72, 3) := by decide +kernel
theorem d_R_handOut_114 : decode b_R_handOut 114 = .ok (.iload 4, 2) := by decide +kernel
theorem d_R_handOut_116 : decode b_R_handOut 116 = .ok (.laload, 1) := by decide +kernel
theorem d_R_handOut_117 : decode b_R_handOut 117 = .ok (.aload_n 0, 1) := by decide +kernel
theorem d_R_handOut_118 : decode b_R_handOut 118 = .ok (.getfield 75, 3) := by decide +kernel
theorem d_R_handOut_121 : decode b_R_handOut 121 = .ok (.iload 4, 2) := by decide +kernel
theorem d_R_handOut_123 : decode b_R_handOut 123 = .ok (.laload, 1) := by decide +kernel
theorem d_R_handOut_124 : decode b_R_handOut 124 = .ok (.aload_n 0, 1) := by decide +kernel
theorem d_R_handOut_125 : decode b_R_handOut 125 = .ok (.getfield 72, 3) := by decide +kernel
theorem d_R_handOut_128 : decode b_R_handOut 128 = .ok (.iload 5, 2) := by decide +kernel
theorem d_R_handOut_130 : decode b_R_handOut 130 = .ok (.laload, 1) := by decide +kernel
theorem d_R_handOut_131 : decode b_R_handOut 131 = .ok (.aload_n 0, 1) := by decide +kernel
theorem d_R_handOut_132 : decode b_R_handOut 132 = .ok (.getfield 75, 3) := by decide +kernel
theorem d_R_handOut_135 : decode b_R_handOut 135 = .ok (.iload 5, 2) := by decide +kernel
theorem d_R_handOut_137 : decode b_R_handOut 137 = .ok (.laload, 1) := by decide +kernel
theorem d_R_handOut_138 : decode b_R_handOut 138 = .ok (.invokestatic 203, 3) := by decide +kernel
theorem d_R_handOut_141 : decode b_R_handOut 141 = .ok (.ifCond .ne 7, 3) := by decide +kernel
theorem d_R_handOut_144 : decode b_R_handOut 144 = .ok (.iload 5, 2) := by decide +kernel
theorem d_R_handOut_146 : decode b_R_handOut 146 = .ok (.istore 4, 2) := by decide +kernel
theorem d_R_handOut_148 : decode b_R_handOut 148 = .ok (.iinc 5 (-1), 3) := by decide +kernel
theorem d_R_handOut_151 : decode b_R_handOut 151 = .ok (.goto (-61), 3) := by decide +kernel
theorem d_R_handOut_154 : decode b_R_handOut 154 = .ok (.aload_n 0, 1) := by decide +kernel
theorem d_R_handOut_155 : decode b_R_handOut 155 = .ok (.getfield 78, 3) := by decide +kernel
theorem d_R_handOut_158 : decode b_R_handOut 158 = .ok (.iload 4, 2) := by decide +kernel
theorem d_R_handOut_160 : decode b_R_handOut 160 = .ok (.dup2, 1) := by decide +kernel
theorem d_R_handOut_161 : decode b_R_handOut 161 = .ok (.iaload, 1) := by decide +kernel
theorem d_R_handOut_162 : decode b_R_handOut 162 = .ok (.iconst 1, 1) := by decide +kernel
theorem d_R_handOut_163 : decode b_R_handOut 163 = .ok (.iadd, 1) := by decide +kernel
theorem d_R_handOut_164 : decode b_R_handOut 164 = .ok (.iastore, 1) := by decide +kernel
theorem d_R_handOut_165 : decode b_R_handOut 165 = .ok (.aload_n 0, 1) := by decide +kernel
theorem d_R_handOut_166 : decode b_R_handOut 166 = .ok (.getfield 81, 3) := by decide +kernel
theorem d_R_handOut_169 : decode b_R_handOut 169 = .ok (.iload 4, 2) := by decide +kernel
theorem d_R_handOut_171 : decode b_R_handOut 171 = .ok (.iconst 1, 1) := by decide +kernel
