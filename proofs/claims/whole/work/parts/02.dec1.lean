theorem dX6_work_11 : decode cX6_work 11 = .ok (.if_icmp .lt 5, 3) := by decide +kernel
theorem dX6_work_14 : decode cX6_work 14 = .ok (.iconst 0, 1) := by decide +kernel
theorem dX6_work_15 : decode cX6_work 15 = .ok (.ireturn, 1) := by decide +kernel
theorem dX6_work_16 : decode cX6_work 16 = .ok (.aload_n 0, 1) := by decide +kernel
theorem dX6_work_17 : decode cX6_work 17 = .ok (.getfield 25, 3) := by decide +kernel
theorem dX6_work_20 : decode cX6_work 20 = .ok (.aload_n 0, 1) := by decide +kernel
theorem dX6_work_21 : decode cX6_work 21 = .ok (.getfield 9, 3) := by decide +kernel
theorem dX6_work_24 : decode cX6_work 24 = .ok (.arraylength, 1) := by decide +kernel
theorem dX6_work_25 : decode cX6_work 25 = .ok (.if_icmp .ge 23, 3) := by decide +kernel
theorem dX6_work_28 : decode cX6_work 28 = .ok (.aload_n 0, 1) := by decide +kernel
theorem dX6_work_29 : decode cX6_work 29 = .ok (.getfield 9, 3) := by decide +kernel
theorem dX6_work_32 : decode cX6_work 32 = .ok (.aload_n 0, 1) := by decide +kernel
theorem dX6_work_33 : decode cX6_work 33 = .ok (.getfield 25, 3) := by decide +kernel
theorem dX6_work_36 : decode cX6_work 36 = .ok (.iload_n 1, 1) := by decide +kernel
theorem dX6_work_37 : decode cX6_work 37 = .ok (.iastore, 1) := by decide +kernel
theorem dX6_work_38 : decode cX6_work 38 = .ok (.aload_n 0, 1) := by decide +kernel
theorem dX6_work_39 : decode cX6_work 39 = .ok (.dup, 1) := by decide +kernel
theorem dX6_work_40 : decode cX6_work 40 = .ok (.getfield 25, 3) := by decide +kernel
theorem dX6_work_43 : decode cX6_work 43 = .ok (.iconst 1, 1) := by decide +kernel
theorem dX6_work_44 : decode cX6_work 44 = .ok (.iadd, 1) := by decide +kernel
theorem dX6_work_45 : decode cX6_work 45 = .ok (.putfield 25, 3) := by decide +kernel
theorem dX6_work_48 : decode cX6_work 48 = .ok (.iload 4, 2) := by decide +kernel
theorem dX6_work_50 : decode cX6_work 50 = .ok (.iconst 1, 1) := by decide +kernel
theorem dX6_work_51 : decode cX6_work 51 = .ok (.iadd, 1) := by decide +kernel
theorem dX6_work_52 : decode cX6_work 52 = .ok (.istore 5, 2) := by decide +kernel
theorem dX6_work_54 : decode cX6_work 54 = .ok (.iload_n 1, 1) := by decide +kernel
theorem dX6_work_55 : decode cX6_work 55 = .ok (.lookupswitch 263 #[(10, 113), (11, 120), (12, 131), (13, 145), (20, 151), (21, 163), (30, 182), (40, 194), (50, 206), (51, 218), (60, 233), (70, 245), (71, 248)], 113) := by decide +kernel
theorem dX6_work_168 : decode cX6_work 168 = .ok (.iload_n 3, 1) := by decide +kernel
theorem dX6_work_169 : decode cX6_work 169 = .ok (.aload_n 0, 1) := by decide +kernel
theorem dX6_work_170 : decode cX6_work 170 = .ok (.getfield 19, 3) := by decide +kernel
theorem dX6_work_173 : decode cX6_work 173 = .ok (.iadd, 1) := by decide +kernel
theorem dX6_work_174 : decode cX6_work 174 = .ok (.ireturn, 1) := by decide +kernel
theorem dX6_work_175 : decode cX6_work 175 = .ok (.aload_n 0, 1) := by decide +kernel
theorem dX6_work_176 : decode cX6_work 176 = .ok (.iconst 0, 1) := by decide +kernel
theorem dX6_work_177 : decode cX6_work 177 = .ok (.iload_n 3, 1) := by decide +kernel
theorem dX6_work_178 : decode cX6_work 178 = .ok (.iload 5, 2) := by decide +kernel
theorem dX6_work_180 : decode cX6_work 180 = .ok (.invokevirtual 32, 3) := by decide +kernel
theorem dX6_work_183 : decode cX6_work 183 = .ok (.iconst 2, 1) := by decide +kernel
theorem dX6_work_184 : decode cX6_work 184 = .ok (.imul, 1) := by decide +kernel
theorem dX6_work_185 : decode cX6_work 185 = .ok (.ireturn, 1) := by decide +kernel
theorem dX6_work_186 : decode cX6_work 186 = .ok (.aload_n 0, 1) := by decide +kernel
theorem dX6_work_187 : decode cX6_work 187 = .ok (.iconst 1, 1) := by decide +kernel
theorem dX6_work_188 : decode cX6_work 188 = .ok (.iload_n 3, 1) := by decide +kernel
theorem dX6_work_189 : decode cX6_work 189 = .ok (.iload 5, 2) := by decide +kernel
theorem dX6_work_191 : decode cX6_work 191 = .ok (.invokevirtual 32, 3) := by decide +kernel
theorem dX6_work_194 : decode cX6_work 194 = .ok (.aload_n 0, 1) := by decide +kernel
theorem dX6_work_195 : decode cX6_work 195 = .ok (.getfield 22, 3) := by decide +kernel
theorem dX6_work_198 : decode cX6_work 198 = .ok (.isub, 1) := by decide +kernel
theorem dX6_work_199 : decode cX6_work 199 = .ok (.ireturn, 1) := by decide +kernel
theorem dX6_work_200 : decode cX6_work 200 = .ok (.aload_n 0, 1) := by decide +kernel
theorem dX6_work_201 : decode cX6_work 201 = .ok (.iload_n 3, 1) := by decide +kernel
theorem dX6_work_202 : decode cX6_work 202 = .ok (.invokevirtual 49, 3) := by decide +kernel
theorem dX6_work_205 : decode cX6_work 205 = .ok (.ireturn, 1) := by decide +kernel
theorem dX6_work_206 : decode cX6_work 206 = .ok (.aload_n 0, 1) := by decide +kernel
theorem dX6_work_207 : decode cX6_work 207 = .ok (.iload_n 2, 1) := by decide +kernel
theorem dX6_work_208 : decode cX6_work 208 = .ok (.iconst 0, 1) := by decide +kernel
theorem dX6_work_209 : decode cX6_work 209 = .ok (.iload_n 3, 1) := by decide +kernel
theorem dX6_work_210 : decode cX6_work 210 = .ok (.iload 5, 2) := by decide +kernel
theorem dX6_work_212 : decode cX6_work 212 = .ok (.invokevirtual 36, 3) := by decide +kernel
theorem dX6_work_215 : decode cX6_work 215 = .ok (.iconst 4, 1) := by decide +kernel
theorem dX6_work_216 : decode cX6_work 216 = .ok (.isub, 1) := by decide +kernel
theorem dX6_work_217 : decode cX6_work 217 = .ok (.ireturn, 1) := by decide +kernel
theorem dX6_work_218 : decode cX6_work 218 = .ok (.aload_n 0, 1) := by decide +kernel
theorem dX6_work_219 : decode cX6_work 219 = .ok (.iload_n 2, 1) := by decide +kernel
theorem dX6_work_220 : decode cX6_work 220 = .ok (.iconst 3, 1) := by decide +kernel
theorem dX6_work_221 : decode cX6_work 221 = .ok (.iload_n 3, 1) := by decide +kernel
theorem dX6_work_222 : decode cX6_work 222 = .ok (.iload 5, 2) := by decide +kernel
theorem dX6_work_224 : decode cX6_work 224 = .ok (.invokevirtual 36, 3) := by decide +kernel
theorem dX6_work_227 : decode cX6_work 227 = .ok (.aload_n 0, 1) := by decide +kernel
theorem dX6_work_228 : decode cX6_work 228 = .ok (.iconst 1, 1) := by decide +kernel
theorem dX6_work_229 : decode cX6_work 229 = .ok (.iconst 1, 1) := by decide +kernel
theorem dX6_work_230 : decode cX6_work 230 = .ok (.iload 5, 2) := by decide +kernel
theorem dX6_work_232 : decode cX6_work 232 = .ok (.invokevirtual 32, 3) := by decide +kernel
theorem dX6_work_235 : decode cX6_work 235 = .ok (.iadd, 1) := by decide +kernel
theorem dX6_work_236 : decode cX6_work 236 = .ok (.ireturn, 1) := by decide +kernel
theorem dX6_work_237 : decode cX6_work 237 = .ok (.iconst 0, 1) := by decide +kernel
theorem dX6_work_238 : decode cX6_work 238 = .ok (.aload_n 0, 1) := by decide +kernel
theorem dX6_work_239 : decode cX6_work 239 = .ok (.iload_n 2, 1) := by decide +kernel
theorem dX6_work_240 : decode cX6_work 240 = .ok (.iconst 1, 1) := by decide +kernel
theorem dX6_work_241 : decode cX6_work 241 = .ok (.iload_n 3, 1) := by decide +kernel
theorem dX6_work_242 : decode cX6_work 242 = .ok (.iload 5, 2) := by decide +kernel
theorem dX6_work_244 : decode cX6_work 244 = .ok (.invokevirtual 36, 3) := by decide +kernel
theorem dX6_work_247 : decode cX6_work 247 = .ok (.isub, 1) := by decide +kernel
theorem dX6_work_248 : decode cX6_work 248 = .ok (.ireturn, 1) := by decide +kernel
theorem dX6_work_249 : decode cX6_work 249 = .ok (.aload_n 0, 1) := by decide +kernel
theorem dX6_work_250 : decode cX6_work 250 = .ok (.iload_n 2, 1) := by decide +kernel
theorem dX6_work_251 : decode cX6_work 251 = .ok (.iconst 2, 1) := by decide +kernel
theorem dX6_work_252 : decode cX6_work 252 = .ok (.iload_n 3, 1) := by decide +kernel
theorem dX6_work_253 : decode cX6_work 253 = .ok (.iconst 2, 1) := by decide +kernel
theorem dX6_work_254 : decode cX6_work 254 = .ok (.idiv, 1) := by decide +kernel
theorem dX6_work_255 : decode cX6_work 255 = .ok (.iload 5, 2) := by decide +kernel
theorem dX6_work_257 : decode cX6_work 257 = .ok (.invokevirtual 36, 3) := by decide +kernel
theorem dX6_work_260 : decode cX6_work 260 = .ok (.ireturn, 1) := by decide +kernel
theorem dX6_work_261 : decode cX6_work 261 = .ok (.aload_n 0, 1) := by decide +kernel
theorem dX6_work_262 : decode cX6_work 262 = .ok (.iload_n 2, 1) := by decide +kernel
theorem dX6_work_263 : decode cX6_work 263 = .ok (.iconst 0, 1) := by decide +kernel
theorem dX6_work_264 : decode cX6_work 264 = .ok (.iload_n 3, 1) := by decide +kernel
theorem dX6_work_265 : decode cX6_work 265 = .ok (.iload 5, 2) := by decide +kernel
theorem dX6_work_267 : decode cX6_work 267 = .ok (.invokevirtual 36, 3) := by decide +kernel
theorem dX6_work_270 : decode cX6_work 270 = .ok (.iconst 3, 1) := by decide +kernel
theorem dX6_work_271 : decode cX6_work 271 = .ok (.imul, 1) := by decide +kernel
theorem dX6_work_272 : decode cX6_work 272 = .ok (.ireturn, 1) := by decide +kernel
theorem dX6_work_273 : decode cX6_work 273 = .ok (.aload_n 0, 1) := by decide +kernel
theorem dX6_work_274 : decode cX6_work 274 = .ok (.iload_n 2, 1) := by decide +kernel
theorem dX6_work_275 : decode cX6_work 275 = .ok (.iconst 2, 1) := by decide +kernel
theorem dX6_work_276 : decode cX6_work 276 = .ok (.iload_n 3, 1) := by decide +kernel
theorem dX6_work_277 : decode cX6_work 277 = .ok (.iload 5, 2) := by decide +kernel
theorem dX6_work_279 : decode cX6_work 279 = .ok (.invokevirtual 36, 3) := by decide +kernel
theorem dX6_work_282 : decode cX6_work 282 = .ok (.aload_n 0, 1) := by decide +kernel
theorem dX6_work_283 : decode cX6_work 283 = .ok (.getfield 19, 3) := by decide +kernel
theorem dX6_work_286 : decode cX6_work 286 = .ok (.ixor, 1) := by decide +kernel
theorem dX6_work_287 : decode cX6_work 287 = .ok (.ireturn, 1) := by decide +kernel
theorem dX6_work_288 : decode cX6_work 288 = .ok (.aload_n 0, 1) := by decide +kernel
theorem dX6_work_289 : decode cX6_work 289 = .ok (.iload_n 2, 1) := by decide +kernel
theorem dX6_work_290 : decode cX6_work 290 = .ok (.iconst 1, 1) := by decide +kernel
theorem dX6_work_291 : decode cX6_work 291 = .ok (.iload_n 3, 1) := by decide +kernel
theorem dX6_work_292 : decode cX6_work 292 = .ok (.iconst 1, 1) := by decide +kernel
theorem dX6_work_293 : decode cX6_work 293 = .ok (.iadd, 1) := by decide +kernel
theorem dX6_work_294 : decode cX6_work 294 = .ok (.iload 5, 2) := by decide +kernel
theorem dX6_work_296 : decode cX6_work 296 = .ok (.invokevirtual 36, 3) := by decide +kernel
theorem dX6_work_299 : decode cX6_work 299 = .ok (.ireturn, 1) := by decide +kernel
theorem dX6_work_300 : decode cX6_work 300 = .ok (.bipush 9, 2) := by decide +kernel
theorem dX6_work_302 : decode cX6_work 302 = .ok (.ireturn, 1) := by decide +kernel
theorem dX6_work_303 : decode cX6_work 303 = .ok (.aload_n 0, 1) := by decide +kernel
theorem dX6_work_304 : decode cX6_work 304 = .ok (.iload_n 2, 1) := by decide +kernel
theorem dX6_work_305 : decode cX6_work 305 = .ok (.iconst 1, 1) := by decide +kernel
theorem dX6_work_306 : decode cX6_work 306 = .ok (.iload_n 3, 1) := by decide +kernel
theorem dX6_work_307 : decode cX6_work 307 = .ok (.iload 5, 2) := by decide +kernel
theorem dX6_work_309 : decode cX6_work 309 = .ok (.invokevirtual 36, 3) := by decide +kernel
theorem dX6_work_312 : decode cX6_work 312 = .ok (.aload_n 0, 1) := by decide +kernel
theorem dX6_work_313 : decode cX6_work 313 = .ok (.getfield 22, 3) := by decide +kernel
theorem dX6_work_316 : decode cX6_work 316 = .ok (.iadd, 1) := by decide +kernel
theorem dX6_work_317 : decode cX6_work 317 = .ok (.ireturn, 1) := by decide +kernel
theorem dX6_work_318 : decode cX6_work 318 = .ok (.iconst 0, 1) := by decide +kernel
theorem dX6_work_319 : decode cX6_work 319 = .ok (.ireturn, 1) := by decide +kernel
theorem dX6_divided_0 : decode cX6_divided 0 = .ok (.aload_n 0, 1) := by decide +kernel
theorem dX6_divided_1 : decode cX6_divided 1 = .ok (.getfield 22, 3) := by decide +kernel
theorem dX6_divided_4 : decode cX6_divided 4 = .ok (.aload_n 0, 1) := by decide +kernel
theorem dX6_divided_5 : decode cX6_divided 5 = .ok (.getfield 19, 3) := by decide +kernel
theorem dX6_divided_8 : decode cX6_divided 8 = .ok (.isub, 1) := by decide +kernel
theorem dX6_divided_9 : decode cX6_divided 9 = .ok (.istore_n 2, 1) := by decide +kernel
theorem dX6_divided_10 : decode cX6_divided 10 = .ok (.iload_n 2, 1) := by decide +kernel
theorem dX6_divided_11 : decode cX6_divided 11 = .ok (.ifCond .ne 10, 3) := by decide +kernel
theorem dX6_divided_14 : decode cX6_divided 14 = .ok (.aload_n 0, 1) := by decide +kernel
theorem dX6_divided_15 : decode cX6_divided 15 = .ok (.iconst 1, 1) := by decide +kernel
theorem dX6_divided_16 : decode cX6_divided 16 = .ok (.putfield 28, 3) := by decide +kernel
theorem dX6_divided_19 : decode cX6_divided 19 = .ok (.iconst 0, 1) := by decide +kernel
theorem dX6_divided_20 : decode cX6_divided 20 = .ok (.ireturn, 1) := by decide +kernel
theorem dX6_divided_21 : decode cX6_divided 21 = .ok (.iload_n 1, 1) := by decide +kernel
theorem dX6_divided_22 : decode cX6_divided 22 = .ok (.iload_n 2, 1) := by decide +kernel
theorem dX6_divided_23 : decode cX6_divided 23 = .ok (.idiv, 1) := by decide +kernel
theorem dX6_divided_24 : decode cX6_divided 24 = .ok (.ireturn, 1) := by decide +kernel
theorem dX7_init_0 : decode cX7_init 0 = .ok (.aload_n 0, 1) := by decide +kernel
theorem dX7_init_1 : decode cX7_init 1 = .ok (.invokespecial 3, 3) := by decide +kernel
theorem dX7_init_4 : decode cX7_init 4 = .ok (.aload_n 0, 1) := by decide +kernel
theorem dX7_init_5 : decode cX7_init 5 = .ok (.bipush 60, 2) := by decide +kernel
theorem dX7_init_7 : decode cX7_init 7 = .ok (.newarray .byte, 2) := by decide +kernel
theorem dX7_init_9 : decode cX7_init 9 = .ok (.putfield 9, 3) := by decide +kernel
theorem dX7_init_12 : decode cX7_init 12 = .ok (.aload_n 0, 1) := by decide +kernel
theorem dX7_init_13 : decode cX7_init 13 = .ok (.iconst 0, 1) := by decide +kernel
theorem dX7_init_14 : decode cX7_init 14 = .ok (.putfield 15, 3) := by decide +kernel
theorem dX7_init_17 : decode cX7_init 17 = .ok (.return_, 1) := by decide +kernel
theorem dX7_copyOf_0 : decode cX7_copyOf 0 = .ok (.aload_n 1, 1) := by decide +kernel
theorem dX7_copyOf_1 : decode cX7_copyOf 1 = .ok (.getfield 9, 3) := by decide +kernel
theorem dX7_copyOf_4 : decode cX7_copyOf 4 = .ok (.iconst 0, 1) := by decide +kernel
theorem dX7_copyOf_5 : decode cX7_copyOf 5 = .ok (.aload_n 0, 1) := by decide +kernel
theorem dX7_copyOf_6 : decode cX7_copyOf 6 = .ok (.getfield 9, 3) := by decide +kernel
theorem dX7_copyOf_9 : decode cX7_copyOf 9 = .ok (.iconst 0, 1) := by decide +kernel
theorem dX7_copyOf_10 : decode cX7_copyOf 10 = .ok (.bipush 60, 2) := by decide +kernel
theorem dX7_copyOf_12 : decode cX7_copyOf 12 = .ok (.invokestatic 19, 3) := by decide +kernel
theorem dX7_copyOf_15 : decode cX7_copyOf 15 = .ok (.aload_n 0, 1) := by decide +kernel
theorem dX7_copyOf_16 : decode cX7_copyOf 16 = .ok (.aload_n 1, 1) := by decide +kernel
theorem dX7_copyOf_17 : decode cX7_copyOf 17 = .ok (.getfield 15, 3) := by decide +kernel
theorem dX7_copyOf_20 : decode cX7_copyOf 20 = .ok (.putfield 15, 3) := by decide +kernel
theorem dX7_copyOf_23 : decode cX7_copyOf 23 = .ok (.return_, 1) := by decide +kernel
theorem dX7_append_0 : decode cX7_append 0 = .ok (.iconst 0, 1) := by decide +kernel
theorem dX7_append_1 : decode cX7_append 1 = .ok (.istore 4, 2) := by decide +kernel
theorem dX7_append_3 : decode cX7_append 3 = .ok (.iload 4, 2) := by decide +kernel
theorem dX7_append_5 : decode cX7_append 5 = .ok (.iload_n 3, 1) := by decide +kernel
theorem dX7_append_6 : decode cX7_append 6 = .ok (.if_icmp .ge 49, 3) := by decide +kernel
theorem dX7_append_9 : decode cX7_append 9 = .ok (.aload_n 0, 1) := by decide +kernel
theorem dX7_append_10 : decode cX7_append 10 = .ok (.getfield 15, 3) := by decide +kernel
theorem dX7_append_13 : decode cX7_append 13 = .ok (.aload_n 0, 1) := by decide +kernel
theorem dX7_append_14 : decode cX7_append 14 = .ok (.getfield 9, 3) := by decide +kernel
theorem dX7_append_17 : decode cX7_append 17 = .ok (.arraylength, 1) := by decide +kernel
theorem dX7_append_18 : decode cX7_append 18 = .ok (.if_icmp .ge 37, 3) := by decide +kernel
theorem dX7_append_21 : decode cX7_append 21 = .ok (.aload_n 0, 1) := by decide +kernel
theorem dX7_append_22 : decode cX7_append 22 = .ok (.getfield 9, 3) := by decide +kernel
theorem dX7_append_25 : decode cX7_append 25 = .ok (.aload_n 0, 1) := by decide +kernel
theorem dX7_append_26 : decode cX7_append 26 = .ok (.getfield 15, 3) := by decide +kernel
theorem dX7_append_29 : decode cX7_append 29 = .ok (.lload_n 1, 1) := by decide +kernel
theorem dX7_append_30 : decode cX7_append 30 = .ok (.bipush 8, 2) := by decide +kernel
theorem dX7_append_32 : decode cX7_append 32 = .ok (.iload 4, 2) := by decide +kernel
theorem dX7_append_34 : decode cX7_append 34 = .ok (.imul, 1) := by decide +kernel
theorem dX7_append_35 : decode cX7_append 35 = .ok (.lushr, 1) := by decide +kernel
theorem dX7_append_36 : decode cX7_append 36 = .ok (.l2i, 1) := by decide +kernel
theorem dX7_append_37 : decode cX7_append 37 = .ok (.i2b, 1) := by decide +kernel
theorem dX7_append_38 : decode cX7_append 38 = .ok (.bastore, 1) := by decide +kernel
theorem dX7_append_39 : decode cX7_append 39 = .ok (.aload_n 0, 1) := by decide +kernel
theorem dX7_append_40 : decode cX7_append 40 = .ok (.dup, 1) := by decide +kernel
theorem dX7_append_41 : decode cX7_append 41 = .ok (.getfield 15, 3) := by decide +kernel
theorem dX7_append_44 : decode cX7_append 44 = .ok (.iconst 1, 1) := by decide +kernel
theorem dX7_append_45 : decode cX7_append 45 = .ok (.iadd, 1) := by decide +kernel
theorem dX7_append_46 : decode cX7_append 46 = .ok (.putfield 15, 3) := by decide +kernel
theorem dX7_append_49 : decode cX7_append 49 = .ok (.iinc 4 1, 3) := by decide +kernel
theorem dX7_append_52 : decode cX7_append 52 = .ok (.goto (-49), 3) := by decide +kernel
theorem dX7_append_55 : decode cX7_append 55 = .ok (.return_, 1) := by decide +kernel
theorem dX8_init_0 : decode cX8_init 0 = .ok (.aload_n 0, 1) := by decide +kernel
theorem dX8_init_1 : decode cX8_init 1 = .ok (.invokespecial 1, 3) := by decide +kernel
theorem dX8_init_4 : decode cX8_init 4 = .ok (.aload_n 0, 1) := by decide +kernel
theorem dX8_init_5 : decode cX8_init 5 = .ok (.new 7, 3) := by decide +kernel
theorem dX8_init_8 : decode cX8_init 8 = .ok (.dup, 1) := by decide +kernel
theorem dX8_init_9 : decode cX8_init 9 = .ok (.invokespecial 9, 3) := by decide +kernel
theorem dX8_init_12 : decode cX8_init 12 = .ok (.putfield 10, 3) := by decide +kernel
theorem dX8_init_15 : decode cX8_init 15 = .ok (.aload_n 0, 1) := by decide +kernel
theorem dX8_init_16 : decode cX8_init 16 = .ok (.new 7, 3) := by decide +kernel
theorem dX8_init_19 : decode cX8_init 19 = .ok (.dup, 1) := by decide +kernel
theorem dX8_init_20 : decode cX8_init 20 = .ok (.invokespecial 9, 3) := by decide +kernel
theorem dX8_init_23 : decode cX8_init 23 = .ok (.putfield 16, 3) := by decide +kernel
theorem dX8_init_26 : decode cX8_init 26 = .ok (.aload_n 0, 1) := by decide +kernel
theorem dX8_init_27 : decode cX8_init 27 = .ok (.new 19, 3) := by decide +kernel
theorem dX8_init_30 : decode cX8_init 30 = .ok (.dup, 1) := by decide +kernel
theorem dX8_init_31 : decode cX8_init 31 = .ok (.aload_n 0, 1) := by decide +kernel
theorem dX8_init_32 : decode cX8_init 32 = .ok (.getfield 10, 3) := by decide +kernel
theorem dX8_init_35 : decode cX8_init 35 = .ok (.getfield 21, 3) := by decide +kernel
theorem dX8_init_38 : decode cX8_init 38 = .ok (.aload_n 0, 1) := by decide +kernel
theorem dX8_init_39 : decode cX8_init 39 = .ok (.getfield 10, 3) := by decide +kernel
theorem dX8_init_42 : decode cX8_init 42 = .ok (.getfield 25, 3) := by decide +kernel
theorem dX8_init_45 : decode cX8_init 45 = .ok (.invokespecial 28, 3) := by decide +kernel
theorem dX8_init_48 : decode cX8_init 48 = .ok (.putfield 31, 3) := by decide +kernel
theorem dX8_init_51 : decode cX8_init 51 = .ok (.aload_n 0, 1) := by decide +kernel
theorem dX8_init_52 : decode cX8_init 52 = .ok (.new 35, 3) := by decide +kernel
theorem dX8_init_55 : decode cX8_init 55 = .ok (.dup, 1) := by decide +kernel
theorem dX8_init_56 : decode cX8_init 56 = .ok (.invokespecial 37, 3) := by decide +kernel
theorem dX8_init_59 : decode cX8_init 59 = .ok (.putfield 38, 3) := by decide +kernel
theorem dX8_init_62 : decode cX8_init 62 = .ok (.aload_n 0, 1) := by decide +kernel
theorem dX8_init_63 : decode cX8_init 63 = .ok (.new 42, 3) := by decide +kernel
theorem dX8_init_66 : decode cX8_init 66 = .ok (.dup, 1) := by decide +kernel
theorem dX8_init_67 : decode cX8_init 67 = .ok (.invokespecial 44, 3) := by decide +kernel
theorem dX8_init_70 : decode cX8_init 70 = .ok (.putfield 45, 3) := by decide +kernel
theorem dX8_init_73 : decode cX8_init 73 = .ok (.aload_n 0, 1) := by decide +kernel
theorem dX8_init_74 : decode cX8_init 74 = .ok (.new 49, 3) := by decide +kernel
theorem dX8_init_77 : decode cX8_init 77 = .ok (.dup, 1) := by decide +kernel
theorem dX8_init_78 : decode cX8_init 78 = .ok (.invokespecial 51, 3) := by decide +kernel
theorem dX8_init_81 : decode cX8_init 81 = .ok (.putfield 52, 3) := by decide +kernel
theorem dX8_init_84 : decode cX8_init 84 = .ok (.aload_n 0, 1) := by decide +kernel
theorem dX8_init_85 : decode cX8_init 85 = .ok (.iconst 4, 1) := by decide +kernel
theorem dX8_init_86 : decode cX8_init 86 = .ok (.anewarray 56, 3) := by decide +kernel
theorem dX8_init_89 : decode cX8_init 89 = .ok (.putfield 58, 3) := by decide +kernel
theorem dX8_init_92 : decode cX8_init 92 = .ok (.iconst 0, 1) := by decide +kernel
theorem dX8_init_93 : decode cX8_init 93 = .ok (.istore_n 1, 1) := by decide +kernel
theorem dX8_init_94 : decode cX8_init 94 = .ok (.iload_n 1, 1) := by decide +kernel
theorem dX8_init_95 : decode cX8_init 95 = .ok (.iconst 4, 1) := by decide +kernel
theorem dX8_init_96 : decode cX8_init 96 = .ok (.if_icmp .ge 22, 3) := by decide +kernel
theorem dX8_init_99 : decode cX8_init 99 = .ok (.aload_n 0, 1) := by decide +kernel
theorem dX8_init_100 : decode cX8_init 100 = .ok (.getfield 58, 3) := by decide +kernel
theorem dX8_init_103 : decode cX8_init 103 = .ok (.iload_n 1, 1) := by decide +kernel
theorem dX8_init_104 : decode cX8_init 104 = .ok (.new 56, 3) := by decide +kernel
theorem dX8_init_107 : decode cX8_init 107 = .ok (.dup, 1) := by decide +kernel
theorem dX8_init_108 : decode cX8_init 108 = .ok (.invokespecial 62, 3) := by decide +kernel
theorem dX8_init_111 : decode cX8_init 111 = .ok (.aastore, 1) := by decide +kernel
theorem dX8_init_112 : decode cX8_init 112 = .ok (.iinc 1 1, 3) := by decide +kernel
theorem dX8_init_115 : decode cX8_init 115 = .ok (.goto (-21), 3) := by decide +kernel
theorem dX8_init_118 : decode cX8_init 118 = .ok (.aload_n 0, 1) := by decide +kernel
theorem dX8_init_119 : decode cX8_init 119 = .ok (.bipush 7, 2) := by decide +kernel
theorem dX8_init_121 : decode cX8_init 121 = .ok (.newarray .int, 2) := by decide +kernel
theorem dX8_init_123 : decode cX8_init 123 = .ok (.putfield 63, 3) := by decide +kernel
theorem dX8_init_126 : decode cX8_init 126 = .ok (.aload_n 0, 1) := by decide +kernel
theorem dX8_init_127 : decode cX8_init 127 = .ok (.iconst 0, 1) := by decide +kernel
theorem dX8_init_128 : decode cX8_init 128 = .ok (.putfield 67, 3) := by decide +kernel
theorem dX8_init_131 : decode cX8_init 131 = .ok (.return_, 1) := by decide +kernel
theorem dX8_person_0 : decode cX8_person 0 = .ok (.iload_n 1, 1) := by decide +kernel
theorem dX8_person_1 : decode cX8_person 1 = .ok (.invokestatic 71, 3) := by decide +kernel
theorem dX8_person_4 : decode cX8_person 4 = .ok (.ifCond .ne 9, 3) := by decide +kernel
theorem dX8_person_7 : decode cX8_person 7 = .ok (.aload_n 0, 1) := by decide +kernel
theorem dX8_person_8 : decode cX8_person 8 = .ok (.iconst 1, 1) := by decide +kernel
theorem dX8_person_9 : decode cX8_person 9 = .ok (.invokevirtual 75, 3) := by decide +kernel
theorem dX8_person_12 : decode cX8_person 12 = .ok (.ireturn, 1) := by decide +kernel
theorem dX8_person_13 : decode cX8_person 13 = .ok (.aload_n 0, 1) := by decide +kernel
theorem dX8_person_14 : decode cX8_person 14 = .ok (.getfield 10, 3) := by decide +kernel
theorem dX8_person_17 : decode cX8_person 17 = .ok (.getfield 79, 3) := by decide +kernel
theorem dX8_person_20 : decode cX8_person 20 = .ok (.getfield 82, 3) := by decide +kernel
theorem dX8_person_23 : decode cX8_person 23 = .ok (.bipush 6, 2) := by decide +kernel
theorem dX8_person_25 : decode cX8_person 25 = .ok (.if_icmp .lt 9, 3) := by decide +kernel
theorem dX8_person_28 : decode cX8_person 28 = .ok (.aload_n 0, 1) := by decide +kernel
theorem dX8_person_29 : decode cX8_person 29 = .ok (.iconst 4, 1) := by decide +kernel
theorem dX8_person_30 : decode cX8_person 30 = .ok (.invokevirtual 75, 3) := by decide +kernel
theorem dX8_person_33 : decode cX8_person 33 = .ok (.ireturn, 1) := by decide +kernel
theorem dX8_person_34 : decode cX8_person 34 = .ok (.aload_n 0, 1) := by decide +kernel
theorem dX8_person_35 : decode cX8_person 35 = .ok (.getfield 10, 3) := by decide +kernel
theorem dX8_person_38 : decode cX8_person 38 = .ok (.getfield 79, 3) := by decide +kernel
theorem dX8_person_41 : decode cX8_person 41 = .ok (.iload_n 1, 1) := by decide +kernel
theorem dX8_person_42 : decode cX8_person 42 = .ok (.bipush 10, 2) := by decide +kernel
theorem dX8_person_44 : decode cX8_person 44 = .ok (.idiv, 1) := by decide +kernel
theorem dX8_person_45 : decode cX8_person 45 = .ok (.iload_n 1, 1) := by decide +kernel
theorem dX8_person_46 : decode cX8_person 46 = .ok (.bipush 10, 2) := by decide +kernel
theorem dX8_person_48 : decode cX8_person 48 = .ok (.irem, 1) := by decide +kernel
theorem dX8_person_49 : decode cX8_person 49 = .ok (.invokevirtual 85, 3) := by decide +kernel
theorem dX8_person_52 : decode cX8_person 52 = .ok (.ireturn, 1) := by decide +kernel
theorem dX8_personIs_0 : decode cX8_personIs 0 = .ok (.aload_n 0, 1) := by decide +kernel
theorem dX8_personIs_1 : decode cX8_personIs 1 = .ok (.getfield 10, 3) := by decide +kernel
theorem dX8_personIs_4 : decode cX8_personIs 4 = .ok (.getfield 79, 3) := by decide +kernel
theorem dX8_personIs_7 : decode cX8_personIs 7 = .ok (.astore_n 3, 1) := by decide +kernel
theorem dX8_personIs_8 : decode cX8_personIs 8 = .ok (.aload_n 3, 1) := by decide +kernel
theorem dX8_personIs_9 : decode cX8_personIs 9 = .ok (.iload_n 1, 1) := by decide +kernel
theorem dX8_personIs_10 : decode cX8_personIs 10 = .ok (.invokevirtual 89, 3) := by decide +kernel
theorem dX8_personIs_13 : decode cX8_personIs 13 = .ok (.ifCond .eq 12, 3) := by decide +kernel
theorem dX8_personIs_16 : decode cX8_personIs 16 = .ok (.iload_n 2, 1) := by decide +kernel
theorem dX8_personIs_17 : decode cX8_personIs 17 = .ok (.ifCond .lt 8, 3) := by decide +kernel
theorem dX8_personIs_20 : decode cX8_personIs 20 = .ok (.iload_n 2, 1) := by decide +kernel
theorem dX8_personIs_21 : decode cX8_personIs 21 = .ok (.iconst 4, 1) := by decide +kernel
theorem dX8_personIs_22 : decode cX8_personIs 22 = .ok (.if_icmp .le 9, 3) := by decide +kernel
theorem dX8_personIs_25 : decode cX8_personIs 25 = .ok (.aload_n 0, 1) := by decide +kernel
theorem dX8_personIs_26 : decode cX8_personIs 26 = .ok (.iconst 1, 1) := by decide +kernel
theorem dX8_personIs_27 : decode cX8_personIs 27 = .ok (.invokevirtual 75, 3) := by decide +kernel
theorem dX8_personIs_30 : decode cX8_personIs 30 = .ok (.ireturn, 1) := by decide +kernel
theorem dX8_personIs_31 : decode cX8_personIs 31 = .ok (.iload_n 2, 1) := by decide +kernel
theorem dX8_personIs_32 : decode cX8_personIs 32 = .ok (.tableswitch 58 0 3 #[32, 39, 46, 52], 32) := by decide +kernel
theorem dX8_personIs_64 : decode cX8_personIs 64 = .ok (.aload_n 3, 1) := by decide +kernel
theorem dX8_personIs_65 : decode cX8_personIs 65 = .ok (.getfield 92, 3) := by decide +kernel
theorem dX8_personIs_68 : decode cX8_personIs 68 = .ok (.iload_n 1, 1) := by decide +kernel
theorem dX8_personIs_69 : decode cX8_personIs 69 = .ok (.iaload, 1) := by decide +kernel
theorem dX8_personIs_70 : decode cX8_personIs 70 = .ok (.ireturn, 1) := by decide +kernel
theorem dX8_personIs_71 : decode cX8_personIs 71 = .ok (.aload_n 3, 1) := by decide +kernel
theorem dX8_personIs_72 : decode cX8_personIs 72 = .ok (.getfield 95, 3) := by decide +kernel
theorem dX8_personIs_75 : decode cX8_personIs 75 = .ok (.iload_n 1, 1) := by decide +kernel
theorem dX8_personIs_76 : decode cX8_personIs 76 = .ok (.iaload, 1) := by decide +kernel
theorem dX8_personIs_77 : decode cX8_personIs 77 = .ok (.ireturn, 1) := by decide +kernel
theorem dX8_personIs_78 : decode cX8_personIs 78 = .ok (.aload_n 3, 1) := by decide +kernel
theorem dX8_personIs_79 : decode cX8_personIs 79 = .ok (.iload_n 1, 1) := by decide +kernel
theorem dX8_personIs_80 : decode cX8_personIs 80 = .ok (.invokevirtual 98, 3) := by decide +kernel
theorem dX8_personIs_83 : decode cX8_personIs 83 = .ok (.ireturn, 1) := by decide +kernel
theorem dX8_personIs_84 : decode cX8_personIs 84 = .ok (.aload_n 3, 1) := by decide +kernel
theorem dX8_personIs_85 : decode cX8_personIs 85 = .ok (.iload_n 1, 1) := by decide +kernel
theorem dX8_personIs_86 : decode cX8_personIs 86 = .ok (.invokevirtual 101, 3) := by decide +kernel
theorem dX8_personIs_89 : decode cX8_personIs 89 = .ok (.ireturn, 1) := by decide +kernel
theorem dX8_personIs_90 : decode cX8_personIs 90 = .ok (.aload_n 3, 1) := by decide +kernel
theorem dX8_personIs_91 : decode cX8_personIs 91 = .ok (.iload_n 1, 1) := by decide +kernel
theorem dX8_personIs_92 : decode cX8_personIs 92 = .ok (.invokevirtual 104, 3) := by decide +kernel
theorem dX8_personIs_95 : decode cX8_personIs 95 = .ok (.ireturn, 1) := by decide +kernel
theorem dX8_become_0 : decode cX8_become 0 = .ok (.aload_n 0, 1) := by decide +kernel
theorem dX8_become_1 : decode cX8_become 1 = .ok (.getfield 10, 3) := by decide +kernel
theorem dX8_become_4 : decode cX8_become 4 = .ok (.getfield 79, 3) := by decide +kernel
theorem dX8_become_7 : decode cX8_become 7 = .ok (.astore_n 3, 1) := by decide +kernel
theorem dX8_become_8 : decode cX8_become 8 = .ok (.aload_n 3, 1) := by decide +kernel
theorem dX8_become_9 : decode cX8_become 9 = .ok (.iload_n 1, 1) := by decide +kernel
theorem dX8_become_10 : decode cX8_become 10 = .ok (.invokevirtual 89, 3) := by decide +kernel
theorem dX8_become_13 : decode cX8_become 13 = .ok (.ifCond .eq 10, 3) := by decide +kernel
theorem dX8_become_16 : decode cX8_become 16 = .ok (.iload_n 2, 1) := by decide +kernel
theorem dX8_become_17 : decode cX8_become 17 = .ok (.invokestatic 71, 3) := by decide +kernel
theorem dX8_become_20 : decode cX8_become 20 = .ok (.ifCond .ne 9, 3) := by decide +kernel
theorem dX8_become_23 : decode cX8_become 23 = .ok (.aload_n 0, 1) := by decide +kernel
theorem dX8_become_24 : decode cX8_become 24 = .ok (.iconst 1, 1) := by decide +kernel
theorem dX8_become_25 : decode cX8_become 25 = .ok (.invokevirtual 75, 3) := by decide +kernel
theorem dX8_become_28 : decode cX8_become 28 = .ok (.ireturn, 1) := by decide +kernel
theorem dX8_become_29 : decode cX8_become 29 = .ok (.aload_n 3, 1) := by decide +kernel
theorem dX8_become_30 : decode cX8_become 30 = .ok (.getfield 92, 3) := by decide +kernel
theorem dX8_become_33 : decode cX8_become 33 = .ok (.iload_n 1, 1) := by decide +kernel
theorem dX8_become_34 : decode cX8_become 34 = .ok (.iaload, 1) := by decide +kernel
theorem dX8_become_35 : decode cX8_become 35 = .ok (.istore 4, 2) := by decide +kernel
theorem dX8_become_37 : decode cX8_become 37 = .ok (.aload_n 3, 1) := by decide +kernel
theorem dX8_become_38 : decode cX8_become 38 = .ok (.getfield 92, 3) := by decide +kernel
theorem dX8_become_41 : decode cX8_become 41 = .ok (.iload_n 1, 1) := by decide +kernel
theorem dX8_become_42 : decode cX8_become 42 = .ok (.iload_n 2, 1) := by decide +kernel
theorem dX8_become_43 : decode cX8_become 43 = .ok (.bipush 10, 2) := by decide +kernel
theorem dX8_become_45 : decode cX8_become 45 = .ok (.idiv, 1) := by decide +kernel
theorem dX8_become_46 : decode cX8_become 46 = .ok (.iastore, 1) := by decide +kernel
theorem dX8_become_47 : decode cX8_become 47 = .ok (.aload_n 3, 1) := by decide +kernel
theorem dX8_become_48 : decode cX8_become 48 = .ok (.getfield 95, 3) := by decide +kernel
theorem dX8_become_51 : decode cX8_become 51 = .ok (.iload_n 1, 1) := by decide +kernel
theorem dX8_become_52 : decode cX8_become 52 = .ok (.iload_n 2, 1) := by decide +kernel
theorem dX8_become_53 : decode cX8_become 53 = .ok (.bipush 10, 2) := by decide +kernel
theorem dX8_become_55 : decode cX8_become 55 = .ok (.irem, 1) := by decide +kernel
theorem dX8_become_56 : decode cX8_become 56 = .ok (.iastore, 1) := by decide +kernel
theorem dX8_become_57 : decode cX8_become 57 = .ok (.iload 4, 2) := by decide +kernel
theorem dX8_become_59 : decode cX8_become 59 = .ok (.ireturn, 1) := by decide +kernel
theorem dX8_as_0 : decode cX8_as 0 = .ok (.aload_n 0, 1) := by decide +kernel
theorem dX8_as_1 : decode cX8_as 1 = .ok (.getfield 10, 3) := by decide +kernel
theorem dX8_as_4 : decode cX8_as 4 = .ok (.getfield 79, 3) := by decide +kernel
theorem dX8_as_7 : decode cX8_as 7 = .ok (.astore_n 3, 1) := by decide +kernel
theorem dX8_as_8 : decode cX8_as 8 = .ok (.aload_n 3, 1) := by decide +kernel
theorem dX8_as_9 : decode cX8_as 9 = .ok (.iload_n 1, 1) := by decide +kernel
theorem dX8_as_10 : decode cX8_as 10 = .ok (.invokevirtual 89, 3) := by decide +kernel
theorem dX8_as_13 : decode cX8_as 13 = .ok (.ifCond .eq 13, 3) := by decide +kernel
theorem dX8_as_16 : decode cX8_as 16 = .ok (.iload_n 2, 1) := by decide +kernel
theorem dX8_as_17 : decode cX8_as 17 = .ok (.ifCond .lt 9, 3) := by decide +kernel
theorem dX8_as_20 : decode cX8_as 20 = .ok (.iload_n 2, 1) := by decide +kernel
theorem dX8_as_21 : decode cX8_as 21 = .ok (.bipush 7, 2) := by decide +kernel
theorem dX8_as_23 : decode cX8_as 23 = .ok (.if_icmp .lt 9, 3) := by decide +kernel
theorem dX8_as_26 : decode cX8_as 26 = .ok (.aload_n 0, 1) := by decide +kernel
theorem dX8_as_27 : decode cX8_as 27 = .ok (.iconst 1, 1) := by decide +kernel
theorem dX8_as_28 : decode cX8_as 28 = .ok (.invokevirtual 75, 3) := by decide +kernel
theorem dX8_as_31 : decode cX8_as 31 = .ok (.ireturn, 1) := by decide +kernel
theorem dX8_as_32 : decode cX8_as 32 = .ok (.aload_n 3, 1) := by decide +kernel
theorem dX8_as_33 : decode cX8_as 33 = .ok (.getfield 92, 3) := by decide +kernel
theorem dX8_as_36 : decode cX8_as 36 = .ok (.iload_n 1, 1) := by decide +kernel
theorem dX8_as_37 : decode cX8_as 37 = .ok (.iaload, 1) := by decide +kernel
theorem dX8_as_38 : decode cX8_as 38 = .ok (.iload_n 2, 1) := by decide +kernel
theorem dX8_as_39 : decode cX8_as 39 = .ok (.invokestatic 107, 3) := by decide +kernel
theorem dX8_as_42 : decode cX8_as 42 = .ok (.ifCond .ne 9, 3) := by decide +kernel
theorem dX8_as_45 : decode cX8_as 45 = .ok (.aload_n 0, 1) := by decide +kernel
theorem dX8_as_46 : decode cX8_as 46 = .ok (.iconst 5, 1) := by decide +kernel
theorem dX8_as_47 : decode cX8_as 47 = .ok (.invokevirtual 75, 3) := by decide +kernel
theorem dX8_as_50 : decode cX8_as 50 = .ok (.ireturn, 1) := by decide +kernel
theorem dX8_as_51 : decode cX8_as 51 = .ok (.aload_n 3, 1) := by decide +kernel
theorem dX8_as_52 : decode cX8_as 52 = .ok (.getfield 95, 3) := by decide +kernel
theorem dX8_as_55 : decode cX8_as 55 = .ok (.iload_n 1, 1) := by decide +kernel
theorem dX8_as_56 : decode cX8_as 56 = .ok (.iaload, 1) := by decide +kernel
theorem dX8_as_57 : decode cX8_as 57 = .ok (.ireturn, 1) := by decide +kernel
theorem dX8_gate_0 : decode cX8_gate 0 = .ok (.iload_n 1, 1) := by decide +kernel
theorem dX8_gate_1 : decode cX8_gate 1 = .ok (.iload_n 2, 1) := by decide +kernel
theorem dX8_gate_2 : decode cX8_gate 2 = .ok (.invokestatic 111, 3) := by decide +kernel
theorem dX8_gate_5 : decode cX8_gate 5 = .ok (.ifCond .eq 13, 3) := by decide +kernel
theorem dX8_gate_8 : decode cX8_gate 8 = .ok (.iload_n 3, 1) := by decide +kernel
theorem dX8_gate_9 : decode cX8_gate 9 = .ok (.ifCond .lt 9, 3) := by decide +kernel
theorem dX8_gate_12 : decode cX8_gate 12 = .ok (.iload_n 3, 1) := by decide +kernel
theorem dX8_gate_13 : decode cX8_gate 13 = .ok (.bipush 9, 2) := by decide +kernel
theorem dX8_gate_15 : decode cX8_gate 15 = .ok (.if_icmp .le 9, 3) := by decide +kernel
theorem dX8_gate_18 : decode cX8_gate 18 = .ok (.aload_n 0, 1) := by decide +kernel
theorem dX8_gate_19 : decode cX8_gate 19 = .ok (.iconst 1, 1) := by decide +kernel
theorem dX8_gate_20 : decode cX8_gate 20 = .ok (.invokevirtual 75, 3) := by decide +kernel
theorem dX8_gate_23 : decode cX8_gate 23 = .ok (.ireturn, 1) := by decide +kernel
theorem dX8_gate_24 : decode cX8_gate 24 = .ok (.aload_n 0, 1) := by decide +kernel
theorem dX8_gate_25 : decode cX8_gate 25 = .ok (.getfield 10, 3) := by decide +kernel
theorem dX8_gate_28 : decode cX8_gate 28 = .ok (.getfield 79, 3) := by decide +kernel
theorem dX8_gate_31 : decode cX8_gate 31 = .ok (.getfield 114, 3) := by decide +kernel
theorem dX8_gate_34 : decode cX8_gate 34 = .ok (.bipush 9, 2) := by decide +kernel
theorem dX8_gate_36 : decode cX8_gate 36 = .ok (.if_icmp .lt 9, 3) := by decide +kernel
theorem dX8_gate_39 : decode cX8_gate 39 = .ok (.aload_n 0, 1) := by decide +kernel
theorem dX8_gate_40 : decode cX8_gate 40 = .ok (.iconst 4, 1) := by decide +kernel
theorem dX8_gate_41 : decode cX8_gate 41 = .ok (.invokevirtual 75, 3) := by decide +kernel
theorem dX8_gate_44 : decode cX8_gate 44 = .ok (.ireturn, 1) := by decide +kernel
theorem dX8_gate_45 : decode cX8_gate 45 = .ok (.aload_n 0, 1) := by decide +kernel
theorem dX8_gate_46 : decode cX8_gate 46 = .ok (.getfield 10, 3) := by decide +kernel
theorem dX8_gate_49 : decode cX8_gate 49 = .ok (.getfield 79, 3) := by decide +kernel
theorem dX8_gate_52 : decode cX8_gate 52 = .ok (.iload_n 1, 1) := by decide +kernel
theorem dX8_gate_53 : decode cX8_gate 53 = .ok (.iload_n 2, 1) := by decide +kernel
theorem dX8_gate_54 : decode cX8_gate 54 = .ok (.iload_n 3, 1) := by decide +kernel
theorem dX8_gate_55 : decode cX8_gate 55 = .ok (.invokevirtual 117, 3) := by decide +kernel
theorem dX8_gate_58 : decode cX8_gate 58 = .ok (.ireturn, 1) := by decide +kernel
theorem dX8_gateIs_0 : decode cX8_gateIs 0 = .ok (.aload_n 0, 1) := by decide +kernel
theorem dX8_gateIs_1 : decode cX8_gateIs 1 = .ok (.getfield 10, 3) := by decide +kernel
theorem dX8_gateIs_4 : decode cX8_gateIs 4 = .ok (.getfield 79, 3) := by decide +kernel
theorem dX8_gateIs_7 : decode cX8_gateIs 7 = .ok (.astore_n 3, 1) := by decide +kernel
theorem dX8_gateIs_8 : decode cX8_gateIs 8 = .ok (.aload_n 3, 1) := by decide +kernel
theorem dX8_gateIs_9 : decode cX8_gateIs 9 = .ok (.iload_n 1, 1) := by decide +kernel
theorem dX8_gateIs_10 : decode cX8_gateIs 10 = .ok (.invokevirtual 121, 3) := by decide +kernel
theorem dX8_gateIs_13 : decode cX8_gateIs 13 = .ok (.ifCond .eq 12, 3) := by decide +kernel
theorem dX8_gateIs_16 : decode cX8_gateIs 16 = .ok (.iload_n 2, 1) := by decide +kernel
theorem dX8_gateIs_17 : decode cX8_gateIs 17 = .ok (.ifCond .lt 8, 3) := by decide +kernel
theorem dX8_gateIs_20 : decode cX8_gateIs 20 = .ok (.iload_n 2, 1) := by decide +kernel
theorem dX8_gateIs_21 : decode cX8_gateIs 21 = .ok (.iconst 3, 1) := by decide +kernel
theorem dX8_gateIs_22 : decode cX8_gateIs 22 = .ok (.if_icmp .le 9, 3) := by decide +kernel
theorem dX8_gateIs_25 : decode cX8_gateIs 25 = .ok (.aload_n 0, 1) := by decide +kernel
theorem dX8_gateIs_26 : decode cX8_gateIs 26 = .ok (.iconst 1, 1) := by decide +kernel
theorem dX8_gateIs_27 : decode cX8_gateIs 27 = .ok (.invokevirtual 75, 3) := by decide +kernel
theorem dX8_gateIs_30 : decode cX8_gateIs 30 = .ok (.ireturn, 1) := by decide +kernel
theorem dX8_gateIs_31 : decode cX8_gateIs 31 = .ok (.iload_n 2, 1) := by decide +kernel
theorem dX8_gateIs_32 : decode cX8_gateIs 32 = .ok (.tableswitch 49 0 2 #[28, 35, 42], 28) := by decide +kernel
theorem dX8_gateIs_60 : decode cX8_gateIs 60 = .ok (.aload_n 3, 1) := by decide +kernel
theorem dX8_gateIs_61 : decode cX8_gateIs 61 = .ok (.getfield 124, 3) := by decide +kernel
theorem dX8_gateIs_64 : decode cX8_gateIs 64 = .ok (.iload_n 1, 1) := by decide +kernel
theorem dX8_gateIs_65 : decode cX8_gateIs 65 = .ok (.iaload, 1) := by decide +kernel
theorem dX8_gateIs_66 : decode cX8_gateIs 66 = .ok (.ireturn, 1) := by decide +kernel
theorem dX8_gateIs_67 : decode cX8_gateIs 67 = .ok (.aload_n 3, 1) := by decide +kernel
theorem dX8_gateIs_68 : decode cX8_gateIs 68 = .ok (.getfield 127, 3) := by decide +kernel
theorem dX8_gateIs_71 : decode cX8_gateIs 71 = .ok (.iload_n 1, 1) := by decide +kernel
theorem dX8_gateIs_72 : decode cX8_gateIs 72 = .ok (.iaload, 1) := by decide +kernel
theorem dX8_gateIs_73 : decode cX8_gateIs 73 = .ok (.ireturn, 1) := by decide +kernel
theorem dX8_gateIs_74 : decode cX8_gateIs 74 = .ok (.aload_n 3, 1) := by decide +kernel
theorem dX8_gateIs_75 : decode cX8_gateIs 75 = .ok (.getfield 130, 3) := by decide +kernel
theorem dX8_gateIs_78 : decode cX8_gateIs 78 = .ok (.iload_n 1, 1) := by decide +kernel
theorem dX8_gateIs_79 : decode cX8_gateIs 79 = .ok (.iaload, 1) := by decide +kernel
theorem dX8_gateIs_80 : decode cX8_gateIs 80 = .ok (.ireturn, 1) := by decide +kernel
theorem dX8_gateIs_81 : decode cX8_gateIs 81 = .ok (.aload_n 3, 1) := by decide +kernel
theorem dX8_gateIs_82 : decode cX8_gateIs 82 = .ok (.getfield 133, 3) := by decide +kernel
theorem dX8_gateIs_85 : decode cX8_gateIs 85 = .ok (.iload_n 1, 1) := by decide +kernel
theorem dX8_gateIs_86 : decode cX8_gateIs 86 = .ok (.iaload, 1) := by decide +kernel
theorem dX8_gateIs_87 : decode cX8_gateIs 87 = .ok (.ireturn, 1) := by decide +kernel
theorem dX8_hold_0 : decode cX8_hold 0 = .ok (.aload_n 0, 1) := by decide +kernel
theorem dX8_hold_1 : decode cX8_hold 1 = .ok (.getfield 10, 3) := by decide +kernel
theorem dX8_hold_4 : decode cX8_hold 4 = .ok (.getfield 79, 3) := by decide +kernel
theorem dX8_hold_7 : decode cX8_hold 7 = .ok (.astore_n 3, 1) := by decide +kernel
theorem dX8_hold_8 : decode cX8_hold 8 = .ok (.aload_n 3, 1) := by decide +kernel
theorem dX8_hold_9 : decode cX8_hold 9 = .ok (.iload_n 1, 1) := by decide +kernel
theorem dX8_hold_10 : decode cX8_hold 10 = .ok (.invokevirtual 121, 3) := by decide +kernel
theorem dX8_hold_13 : decode cX8_hold 13 = .ok (.ifCond .eq 11, 3) := by decide +kernel
theorem dX8_hold_16 : decode cX8_hold 16 = .ok (.aload_n 3, 1) := by decide +kernel
theorem dX8_hold_17 : decode cX8_hold 17 = .ok (.iload_n 2, 1) := by decide +kernel
theorem dX8_hold_18 : decode cX8_hold 18 = .ok (.invokevirtual 136, 3) := by decide +kernel
theorem dX8_hold_21 : decode cX8_hold 21 = .ok (.ifCond .ne 9, 3) := by decide +kernel
theorem dX8_hold_24 : decode cX8_hold 24 = .ok (.aload_n 0, 1) := by decide +kernel
theorem dX8_hold_25 : decode cX8_hold 25 = .ok (.iconst 1, 1) := by decide +kernel
theorem dX8_hold_26 : decode cX8_hold 26 = .ok (.invokevirtual 75, 3) := by decide +kernel
theorem dX8_hold_29 : decode cX8_hold 29 = .ok (.ireturn, 1) := by decide +kernel
theorem dX8_hold_30 : decode cX8_hold 30 = .ok (.aload_n 3, 1) := by decide +kernel
theorem dX8_hold_31 : decode cX8_hold 31 = .ok (.getfield 133, 3) := by decide +kernel
theorem dX8_hold_34 : decode cX8_hold 34 = .ok (.iload_n 1, 1) := by decide +kernel
theorem dX8_hold_35 : decode cX8_hold 35 = .ok (.iaload, 1) := by decide +kernel
theorem dX8_hold_36 : decode cX8_hold 36 = .ok (.istore 4, 2) := by decide +kernel
theorem dX8_hold_38 : decode cX8_hold 38 = .ok (.aload_n 3, 1) := by decide +kernel
theorem dX8_hold_39 : decode cX8_hold 39 = .ok (.getfield 133, 3) := by decide +kernel
theorem dX8_hold_42 : decode cX8_hold 42 = .ok (.iload_n 1, 1) := by decide +kernel
theorem dX8_hold_43 : decode cX8_hold 43 = .ok (.iload_n 2, 1) := by decide +kernel
theorem dX8_hold_44 : decode cX8_hold 44 = .ok (.iastore, 1) := by decide +kernel
theorem dX8_hold_45 : decode cX8_hold 45 = .ok (.iload 4, 2) := by decide +kernel
theorem dX8_hold_47 : decode cX8_hold 47 = .ok (.ireturn, 1) := by decide +kernel
theorem dX8_pass_0 : decode cX8_pass 0 = .ok (.aload_n 0, 1) := by decide +kernel
theorem dX8_pass_1 : decode cX8_pass 1 = .ok (.getfield 10, 3) := by decide +kernel
theorem dX8_pass_4 : decode cX8_pass 4 = .ok (.getfield 79, 3) := by decide +kernel
theorem dX8_pass_7 : decode cX8_pass 7 = .ok (.astore_n 3, 1) := by decide +kernel
theorem dX8_pass_8 : decode cX8_pass 8 = .ok (.aload_n 3, 1) := by decide +kernel
theorem dX8_pass_9 : decode cX8_pass 9 = .ok (.iload_n 1, 1) := by decide +kernel
theorem dX8_pass_10 : decode cX8_pass 10 = .ok (.invokevirtual 89, 3) := by decide +kernel
theorem dX8_pass_13 : decode cX8_pass 13 = .ok (.ifCond .eq 16, 3) := by decide +kernel
theorem dX8_pass_16 : decode cX8_pass 16 = .ok (.aload_n 3, 1) := by decide +kernel
theorem dX8_pass_17 : decode cX8_pass 17 = .ok (.iload_n 2, 1) := by decide +kernel
theorem dX8_pass_18 : decode cX8_pass 18 = .ok (.invokevirtual 89, 3) := by decide +kernel
theorem dX8_pass_21 : decode cX8_pass 21 = .ok (.ifCond .eq 8, 3) := by decide +kernel
theorem dX8_pass_24 : decode cX8_pass 24 = .ok (.iload_n 1, 1) := by decide +kernel
theorem dX8_pass_25 : decode cX8_pass 25 = .ok (.iload_n 2, 1) := by decide +kernel
theorem dX8_pass_26 : decode cX8_pass 26 = .ok (.if_icmp .ne 9, 3) := by decide +kernel
theorem dX8_pass_29 : decode cX8_pass 29 = .ok (.aload_n 0, 1) := by decide +kernel
theorem dX8_pass_30 : decode cX8_pass 30 = .ok (.iconst 1, 1) := by decide +kernel
theorem dX8_pass_31 : decode cX8_pass 31 = .ok (.invokevirtual 75, 3) := by decide +kernel
theorem dX8_pass_34 : decode cX8_pass 34 = .ok (.ireturn, 1) := by decide +kernel
theorem dX8_pass_35 : decode cX8_pass 35 = .ok (.aload_n 3, 1) := by decide +kernel
theorem dX8_pass_36 : decode cX8_pass 36 = .ok (.iload_n 1, 1) := by decide +kernel
theorem dX8_pass_37 : decode cX8_pass 37 = .ok (.iload_n 2, 1) := by decide +kernel
theorem dX8_pass_38 : decode cX8_pass 38 = .ok (.invokevirtual 139, 3) := by decide +kernel
theorem dX8_pass_41 : decode cX8_pass 41 = .ok (.ireturn, 1) := by decide +kernel
theorem dX8_stock_0 : decode cX8_stock 0 = .ok (.iload_n 1, 1) := by decide +kernel
theorem dX8_stock_1 : decode cX8_stock 1 = .ok (.invokestatic 142, 3) := by decide +kernel
theorem dX8_stock_4 : decode cX8_stock 4 = .ok (.ifCond .ne 9, 3) := by decide +kernel
theorem dX8_stock_7 : decode cX8_stock 7 = .ok (.aload_n 0, 1) := by decide +kernel
theorem dX8_stock_8 : decode cX8_stock 8 = .ok (.iconst 1, 1) := by decide +kernel
theorem dX8_stock_9 : decode cX8_stock 9 = .ok (.invokevirtual 75, 3) := by decide +kernel
theorem dX8_stock_12 : decode cX8_stock 12 = .ok (.ireturn, 1) := by decide +kernel
theorem dX8_stock_13 : decode cX8_stock 13 = .ok (.aload_n 0, 1) := by decide +kernel
theorem dX8_stock_14 : decode cX8_stock 14 = .ok (.getfield 10, 3) := by decide +kernel
theorem dX8_stock_17 : decode cX8_stock 17 = .ok (.getfield 79, 3) := by decide +kernel
theorem dX8_stock_20 : decode cX8_stock 20 = .ok (.getfield 145, 3) := by decide +kernel
theorem dX8_stock_23 : decode cX8_stock 23 = .ok (.bipush 6, 2) := by decide +kernel
theorem dX8_stock_25 : decode cX8_stock 25 = .ok (.if_icmp .lt 9, 3) := by decide +kernel
theorem dX8_stock_28 : decode cX8_stock 28 = .ok (.aload_n 0, 1) := by decide +kernel
theorem dX8_stock_29 : decode cX8_stock 29 = .ok (.iconst 4, 1) := by decide +kernel
theorem dX8_stock_30 : decode cX8_stock 30 = .ok (.invokevirtual 75, 3) := by decide +kernel
theorem dX8_stock_33 : decode cX8_stock 33 = .ok (.ireturn, 1) := by decide +kernel
theorem dX8_stock_34 : decode cX8_stock 34 = .ok (.aload_n 0, 1) := by decide +kernel
theorem dX8_stock_35 : decode cX8_stock 35 = .ok (.getfield 10, 3) := by decide +kernel
theorem dX8_stock_38 : decode cX8_stock 38 = .ok (.getfield 79, 3) := by decide +kernel
theorem dX8_stock_41 : decode cX8_stock 41 = .ok (.iload_n 1, 1) := by decide +kernel
theorem dX8_stock_42 : decode cX8_stock 42 = .ok (.invokevirtual 148, 3) := by decide +kernel
theorem dX8_stock_45 : decode cX8_stock 45 = .ok (.ireturn, 1) := by decide +kernel
theorem dX8_stockAt_0 : decode cX8_stockAt 0 = .ok (.iload_n 1, 1) := by decide +kernel
theorem dX8_stockAt_1 : decode cX8_stockAt 1 = .ok (.ifCond .lt 17, 3) := by decide +kernel
theorem dX8_stockAt_4 : decode cX8_stockAt 4 = .ok (.iload_n 1, 1) := by decide +kernel
theorem dX8_stockAt_5 : decode cX8_stockAt 5 = .ok (.aload_n 0, 1) := by decide +kernel
theorem dX8_stockAt_6 : decode cX8_stockAt 6 = .ok (.getfield 10, 3) := by decide +kernel
theorem dX8_stockAt_9 : decode cX8_stockAt 9 = .ok (.getfield 79, 3) := by decide +kernel
theorem dX8_stockAt_12 : decode cX8_stockAt 12 = .ok (.getfield 145, 3) := by decide +kernel
theorem dX8_stockAt_15 : decode cX8_stockAt 15 = .ok (.if_icmp .lt 9, 3) := by decide +kernel
theorem dX8_stockAt_18 : decode cX8_stockAt 18 = .ok (.aload_n 0, 1) := by decide +kernel
theorem dX8_stockAt_19 : decode cX8_stockAt 19 = .ok (.iconst 1, 1) := by decide +kernel
theorem dX8_stockAt_20 : decode cX8_stockAt 20 = .ok (.invokevirtual 75, 3) := by decide +kernel
theorem dX8_stockAt_23 : decode cX8_stockAt 23 = .ok (.ireturn, 1) := by decide +kernel
theorem dX8_stockAt_24 : decode cX8_stockAt 24 = .ok (.aload_n 0, 1) := by decide +kernel
theorem dX8_stockAt_25 : decode cX8_stockAt 25 = .ok (.getfield 10, 3) := by decide +kernel
theorem dX8_stockAt_28 : decode cX8_stockAt 28 = .ok (.getfield 79, 3) := by decide +kernel
theorem dX8_stockAt_31 : decode cX8_stockAt 31 = .ok (.getfield 151, 3) := by decide +kernel
theorem dX8_stockAt_34 : decode cX8_stockAt 34 = .ok (.iload_n 1, 1) := by decide +kernel
theorem dX8_stockAt_35 : decode cX8_stockAt 35 = .ok (.iaload, 1) := by decide +kernel
theorem dX8_stockAt_36 : decode cX8_stockAt 36 = .ok (.ireturn, 1) := by decide +kernel
theorem dX8_grass_0 : decode cX8_grass 0 = .ok (.iload_n 1, 1) := by decide +kernel
theorem dX8_grass_1 : decode cX8_grass 1 = .ok (.invokestatic 142, 3) := by decide +kernel
theorem dX8_grass_4 : decode cX8_grass 4 = .ok (.ifCond .eq 13, 3) := by decide +kernel
theorem dX8_grass_7 : decode cX8_grass 7 = .ok (.iload_n 2, 1) := by decide +kernel
theorem dX8_grass_8 : decode cX8_grass 8 = .ok (.ifCond .lt 9, 3) := by decide +kernel
theorem dX8_grass_11 : decode cX8_grass 11 = .ok (.iload_n 2, 1) := by decide +kernel
theorem dX8_grass_12 : decode cX8_grass 12 = .ok (.bipush 99, 2) := by decide +kernel
theorem dX8_grass_14 : decode cX8_grass 14 = .ok (.if_icmp .le 9, 3) := by decide +kernel
theorem dX8_grass_17 : decode cX8_grass 17 = .ok (.aload_n 0, 1) := by decide +kernel
theorem dX8_grass_18 : decode cX8_grass 18 = .ok (.iconst 1, 1) := by decide +kernel
theorem dX8_grass_19 : decode cX8_grass 19 = .ok (.invokevirtual 75, 3) := by decide +kernel
theorem dX8_grass_22 : decode cX8_grass 22 = .ok (.ireturn, 1) := by decide +kernel
theorem dX8_grass_23 : decode cX8_grass 23 = .ok (.aload_n 0, 1) := by decide +kernel
theorem dX8_grass_24 : decode cX8_grass 24 = .ok (.getfield 10, 3) := by decide +kernel
theorem dX8_grass_27 : decode cX8_grass 27 = .ok (.getfield 79, 3) := by decide +kernel
theorem dX8_grass_30 : decode cX8_grass 30 = .ok (.getfield 154, 3) := by decide +kernel
theorem dX8_grass_33 : decode cX8_grass 33 = .ok (.iload_n 1, 1) := by decide +kernel
theorem dX8_grass_34 : decode cX8_grass 34 = .ok (.iaload, 1) := by decide +kernel
theorem dX8_grass_35 : decode cX8_grass 35 = .ok (.istore_n 3, 1) := by decide +kernel
theorem dX8_grass_36 : decode cX8_grass 36 = .ok (.aload_n 0, 1) := by decide +kernel
theorem dX8_grass_37 : decode cX8_grass 37 = .ok (.getfield 10, 3) := by decide +kernel
theorem dX8_grass_40 : decode cX8_grass 40 = .ok (.getfield 79, 3) := by decide +kernel
theorem dX8_grass_43 : decode cX8_grass 43 = .ok (.getfield 154, 3) := by decide +kernel
theorem dX8_grass_46 : decode cX8_grass 46 = .ok (.iload_n 1, 1) := by decide +kernel
theorem dX8_grass_47 : decode cX8_grass 47 = .ok (.iload_n 2, 1) := by decide +kernel
theorem dX8_grass_48 : decode cX8_grass 48 = .ok (.iastore, 1) := by decide +kernel
theorem dX8_grass_49 : decode cX8_grass 49 = .ok (.iload_n 3, 1) := by decide +kernel
theorem dX8_grass_50 : decode cX8_grass 50 = .ok (.ireturn, 1) := by decide +kernel
theorem dX8_feed_0 : decode cX8_feed 0 = .ok (.iload_n 3, 1) := by decide +kernel
theorem dX8_feed_1 : decode cX8_feed 1 = .ok (.iconst 1, 1) := by decide +kernel
theorem dX8_feed_2 : decode cX8_feed 2 = .ok (.if_icmp .lt 9, 3) := by decide +kernel
theorem dX8_feed_5 : decode cX8_feed 5 = .ok (.iload_n 3, 1) := by decide +kernel
theorem dX8_feed_6 : decode cX8_feed 6 = .ok (.bipush 8, 2) := by decide +kernel
theorem dX8_feed_8 : decode cX8_feed 8 = .ok (.if_icmp .le 9, 3) := by decide +kernel
theorem dX8_feed_11 : decode cX8_feed 11 = .ok (.aload_n 0, 1) := by decide +kernel
theorem dX8_feed_12 : decode cX8_feed 12 = .ok (.iconst 1, 1) := by decide +kernel
theorem dX8_feed_13 : decode cX8_feed 13 = .ok (.invokevirtual 75, 3) := by decide +kernel
theorem dX8_feed_16 : decode cX8_feed 16 = .ok (.ireturn, 1) := by decide +kernel
theorem dX8_feed_17 : decode cX8_feed 17 = .ok (.aload_n 0, 1) := by decide +kernel
theorem dX8_feed_18 : decode cX8_feed 18 = .ok (.getfield 10, 3) := by decide +kernel
theorem dX8_feed_21 : decode cX8_feed 21 = .ok (.getfield 157, 3) := by decide +kernel
theorem dX8_feed_24 : decode cX8_feed 24 = .ok (.getfield 161, 3) := by decide +kernel
theorem dX8_feed_27 : decode cX8_feed 27 = .ok (.iload_n 3, 1) := by decide +kernel
theorem dX8_feed_28 : decode cX8_feed 28 = .ok (.iadd, 1) := by decide +kernel
theorem dX8_feed_29 : decode cX8_feed 29 = .ok (.bipush 60, 2) := by decide +kernel
theorem dX8_feed_31 : decode cX8_feed 31 = .ok (.if_icmp .le 9, 3) := by decide +kernel
theorem dX8_feed_34 : decode cX8_feed 34 = .ok (.aload_n 0, 1) := by decide +kernel
theorem dX8_feed_35 : decode cX8_feed 35 = .ok (.iconst 4, 1) := by decide +kernel
theorem dX8_feed_36 : decode cX8_feed 36 = .ok (.invokevirtual 75, 3) := by decide +kernel
theorem dX8_feed_39 : decode cX8_feed 39 = .ok (.ireturn, 1) := by decide +kernel
theorem dX8_feed_40 : decode cX8_feed 40 = .ok (.aload_n 0, 1) := by decide +kernel
theorem dX8_feed_41 : decode cX8_feed 41 = .ok (.getfield 10, 3) := by decide +kernel
theorem dX8_feed_44 : decode cX8_feed 44 = .ok (.getfield 157, 3) := by decide +kernel
theorem dX8_feed_47 : decode cX8_feed 47 = .ok (.lload_n 1, 1) := by decide +kernel
theorem dX8_feed_48 : decode cX8_feed 48 = .ok (.iload_n 3, 1) := by decide +kernel
theorem dX8_feed_49 : decode cX8_feed 49 = .ok (.invokevirtual 166, 3) := by decide +kernel
theorem dX8_feed_52 : decode cX8_feed 52 = .ok (.aload_n 0, 1) := by decide +kernel
theorem dX8_feed_53 : decode cX8_feed 53 = .ok (.getfield 10, 3) := by decide +kernel
theorem dX8_feed_56 : decode cX8_feed 56 = .ok (.getfield 157, 3) := by decide +kernel
theorem dX8_feed_59 : decode cX8_feed 59 = .ok (.getfield 161, 3) := by decide +kernel
theorem dX8_feed_62 : decode cX8_feed 62 = .ok (.ireturn, 1) := by decide +kernel
theorem dX8_text_0 : decode cX8_text 0 = .ok (.iload_n 1, 1) := by decide +kernel
theorem dX8_text_1 : decode cX8_text 1 = .ok (.invokestatic 170, 3) := by decide +kernel
theorem dX8_text_4 : decode cX8_text 4 = .ok (.ifCond .ne 9, 3) := by decide +kernel
theorem dX8_text_7 : decode cX8_text 7 = .ok (.aload_n 0, 1) := by decide +kernel
theorem dX8_text_8 : decode cX8_text 8 = .ok (.iconst 1, 1) := by decide +kernel
theorem dX8_text_9 : decode cX8_text 9 = .ok (.invokevirtual 75, 3) := by decide +kernel
theorem dX8_text_12 : decode cX8_text 12 = .ok (.ireturn, 1) := by decide +kernel
theorem dX8_text_13 : decode cX8_text 13 = .ok (.aload_n 0, 1) := by decide +kernel
theorem dX8_text_14 : decode cX8_text 14 = .ok (.getfield 38, 3) := by decide +kernel
theorem dX8_text_17 : decode cX8_text 17 = .ok (.aload_n 0, 1) := by decide +kernel
theorem dX8_text_18 : decode cX8_text 18 = .ok (.getfield 10, 3) := by decide +kernel
theorem dX8_text_21 : decode cX8_text 21 = .ok (.getfield 157, 3) := by decide +kernel
theorem dX8_text_24 : decode cX8_text 24 = .ok (.aload_n 0, 1) := by decide +kernel
theorem dX8_text_25 : decode cX8_text 25 = .ok (.getfield 10, 3) := by decide +kernel
theorem dX8_text_28 : decode cX8_text 28 = .ok (.iload_n 1, 1) := by decide +kernel
theorem dX8_text_29 : decode cX8_text 29 = .ok (.invokevirtual 173, 3) := by decide +kernel
theorem dX8_text_32 : decode cX8_text 32 = .ok (.invokevirtual 177, 3) := by decide +kernel
theorem dX8_text_35 : decode cX8_text 35 = .ok (.istore_n 2, 1) := by decide +kernel
theorem dX8_text_36 : decode cX8_text 36 = .ok (.aload_n 0, 1) := by decide +kernel
theorem dX8_text_37 : decode cX8_text 37 = .ok (.getfield 10, 3) := by decide +kernel
theorem dX8_text_40 : decode cX8_text 40 = .ok (.getfield 157, 3) := by decide +kernel
theorem dX8_text_43 : decode cX8_text 43 = .ok (.iconst 0, 1) := by decide +kernel
theorem dX8_text_44 : decode cX8_text 44 = .ok (.putfield 161, 3) := by decide +kernel
theorem dX8_text_47 : decode cX8_text 47 = .ok (.iload_n 2, 1) := by decide +kernel
theorem dX8_text_48 : decode cX8_text 48 = .ok (.ifCond .ge 7, 3) := by decide +kernel
theorem dX8_text_51 : decode cX8_text 51 = .ok (.iconst 1, 1) := by decide +kernel
theorem dX8_text_52 : decode cX8_text 52 = .ok (.goto 7, 3) := by decide +kernel
theorem dX8_text_55 : decode cX8_text 55 = .ok (.bipush (-10), 2) := by decide +kernel
theorem dX8_text_57 : decode cX8_text 57 = .ok (.iload_n 2, 1) := by decide +kernel
theorem dX8_text_58 : decode cX8_text 58 = .ok (.isub, 1) := by decide +kernel
theorem dX8_text_59 : decode cX8_text 59 = .ok (.ireturn, 1) := by decide +kernel
theorem dX8_untell_0 : decode cX8_untell 0 = .ok (.iload_n 1, 1) := by decide +kernel
theorem dX8_untell_1 : decode cX8_untell 1 = .ok (.invokestatic 170, 3) := by decide +kernel
theorem dX8_untell_4 : decode cX8_untell 4 = .ok (.ifCond .ne 9, 3) := by decide +kernel
theorem dX8_untell_7 : decode cX8_untell 7 = .ok (.aload_n 0, 1) := by decide +kernel
theorem dX8_untell_8 : decode cX8_untell 8 = .ok (.iconst 1, 1) := by decide +kernel
theorem dX8_untell_9 : decode cX8_untell 9 = .ok (.invokevirtual 75, 3) := by decide +kernel
theorem dX8_untell_12 : decode cX8_untell 12 = .ok (.ireturn, 1) := by decide +kernel
theorem dX8_untell_13 : decode cX8_untell 13 = .ok (.aload_n 0, 1) := by decide +kernel
theorem dX8_untell_14 : decode cX8_untell 14 = .ok (.getfield 10, 3) := by decide +kernel
theorem dX8_untell_17 : decode cX8_untell 17 = .ok (.iload_n 1, 1) := by decide +kernel
theorem dX8_untell_18 : decode cX8_untell 18 = .ok (.invokevirtual 173, 3) := by decide +kernel
theorem dX8_untell_21 : decode cX8_untell 21 = .ok (.astore_n 2, 1) := by decide +kernel
theorem dX8_untell_22 : decode cX8_untell 22 = .ok (.aload_n 2, 1) := by decide +kernel
theorem dX8_untell_23 : decode cX8_untell 23 = .ok (.invokevirtual 181, 3) := by decide +kernel
theorem dX8_untell_26 : decode cX8_untell 26 = .ok (.ifCond .eq 7, 3) := by decide +kernel
theorem dX8_untell_29 : decode cX8_untell 29 = .ok (.iconst 1, 1) := by decide +kernel
theorem dX8_untell_30 : decode cX8_untell 30 = .ok (.goto 4, 3) := by decide +kernel
theorem dX8_untell_33 : decode cX8_untell 33 = .ok (.iconst 0, 1) := by decide +kernel
theorem dX8_untell_34 : decode cX8_untell 34 = .ok (.istore_n 3, 1) := by decide +kernel
theorem dX8_untell_35 : decode cX8_untell 35 = .ok (.aload_n 2, 1) := by decide +kernel
theorem dX8_untell_36 : decode cX8_untell 36 = .ok (.iconst 0, 1) := by decide +kernel
theorem dX8_untell_37 : decode cX8_untell 37 = .ok (.putfield 187, 3) := by decide +kernel
theorem dX8_untell_40 : decode cX8_untell 40 = .ok (.iload_n 3, 1) := by decide +kernel
theorem dX8_untell_41 : decode cX8_untell 41 = .ok (.ireturn, 1) := by decide +kernel
theorem dX8_law_0 : decode cX8_law 0 = .ok (.iload_n 1, 1) := by decide +kernel
theorem dX8_law_1 : decode cX8_law 1 = .ok (.invokestatic 170, 3) := by decide +kernel
theorem dX8_law_4 : decode cX8_law 4 = .ok (.ifCond .ne 9, 3) := by decide +kernel
theorem dX8_law_7 : decode cX8_law 7 = .ok (.aload_n 0, 1) := by decide +kernel
theorem dX8_law_8 : decode cX8_law 8 = .ok (.iconst 1, 1) := by decide +kernel
theorem dX8_law_9 : decode cX8_law 9 = .ok (.invokevirtual 75, 3) := by decide +kernel
theorem dX8_law_12 : decode cX8_law 12 = .ok (.ireturn, 1) := by decide +kernel
theorem dX8_law_13 : decode cX8_law 13 = .ok (.aload_n 0, 1) := by decide +kernel
theorem dX8_law_14 : decode cX8_law 14 = .ok (.getfield 10, 3) := by decide +kernel
theorem dX8_law_17 : decode cX8_law 17 = .ok (.iload_n 1, 1) := by decide +kernel
theorem dX8_law_18 : decode cX8_law 18 = .ok (.invokevirtual 173, 3) := by decide +kernel
theorem dX8_law_21 : decode cX8_law 21 = .ok (.iload_n 2, 1) := by decide +kernel
theorem dX8_law_22 : decode cX8_law 22 = .ok (.iload_n 3, 1) := by decide +kernel
theorem dX8_law_23 : decode cX8_law 23 = .ok (.iload 4, 2) := by decide +kernel
theorem dX8_law_25 : decode cX8_law 25 = .ok (.invokevirtual 188, 3) := by decide +kernel
theorem dX8_law_28 : decode cX8_law 28 = .ok (.ireturn, 1) := by decide +kernel
theorem dX8_hours_0 : decode cX8_hours 0 = .ok (.iload_n 1, 1) := by decide +kernel
theorem dX8_hours_1 : decode cX8_hours 1 = .ok (.iconst 1, 1) := by decide +kernel
theorem dX8_hours_2 : decode cX8_hours 2 = .ok (.if_icmp .lt 9, 3) := by decide +kernel
theorem dX8_hours_5 : decode cX8_hours 5 = .ok (.iload_n 1, 1) := by decide +kernel
theorem dX8_hours_6 : decode cX8_hours 6 = .ok (.bipush 60, 2) := by decide +kernel
theorem dX8_hours_8 : decode cX8_hours 8 = .ok (.if_icmp .le 9, 3) := by decide +kernel
theorem dX8_hours_11 : decode cX8_hours 11 = .ok (.aload_n 0, 1) := by decide +kernel
theorem dX8_hours_12 : decode cX8_hours 12 = .ok (.iconst 1, 1) := by decide +kernel
theorem dX8_hours_13 : decode cX8_hours 13 = .ok (.invokevirtual 75, 3) := by decide +kernel
theorem dX8_hours_16 : decode cX8_hours 16 = .ok (.ireturn, 1) := by decide +kernel
theorem dX8_hours_17 : decode cX8_hours 17 = .ok (.aload_n 0, 1) := by decide +kernel
theorem dX8_hours_18 : decode cX8_hours 18 = .ok (.getfield 10, 3) := by decide +kernel
theorem dX8_hours_21 : decode cX8_hours 21 = .ok (.getfield 79, 3) := by decide +kernel
theorem dX8_hours_24 : decode cX8_hours 24 = .ok (.getfield 191, 3) := by decide +kernel
theorem dX8_hours_27 : decode cX8_hours 27 = .ok (.iload_n 1, 1) := by decide +kernel
theorem dX8_hours_28 : decode cX8_hours 28 = .ok (.iadd, 1) := by decide +kernel
theorem dX8_hours_29 : decode cX8_hours 29 = .ok (.sipush 9999, 3) := by decide +kernel
theorem dX8_hours_32 : decode cX8_hours 32 = .ok (.if_icmp .le 9, 3) := by decide +kernel
theorem dX8_hours_35 : decode cX8_hours 35 = .ok (.aload_n 0, 1) := by decide +kernel
theorem dX8_hours_36 : decode cX8_hours 36 = .ok (.iconst 3, 1) := by decide +kernel
theorem dX8_hours_37 : decode cX8_hours 37 = .ok (.invokevirtual 75, 3) := by decide +kernel
theorem dX8_hours_40 : decode cX8_hours 40 = .ok (.ireturn, 1) := by decide +kernel
theorem dX8_hours_41 : decode cX8_hours 41 = .ok (.iconst 0, 1) := by decide +kernel
theorem dX8_hours_42 : decode cX8_hours 42 = .ok (.istore_n 2, 1) := by decide +kernel
theorem dX8_hours_43 : decode cX8_hours 43 = .ok (.iload_n 2, 1) := by decide +kernel
theorem dX8_hours_44 : decode cX8_hours 44 = .ok (.iload_n 1, 1) := by decide +kernel
theorem dX8_hours_45 : decode cX8_hours 45 = .ok (.if_icmp .ge 19, 3) := by decide +kernel
theorem dX8_hours_48 : decode cX8_hours 48 = .ok (.aload_n 0, 1) := by decide +kernel
theorem dX8_hours_49 : decode cX8_hours 49 = .ok (.getfield 10, 3) := by decide +kernel
theorem dX8_hours_52 : decode cX8_hours 52 = .ok (.getfield 79, 3) := by decide +kernel
theorem dX8_hours_55 : decode cX8_hours 55 = .ok (.invokevirtual 194, 3) := by decide +kernel
theorem dX8_hours_58 : decode cX8_hours 58 = .ok (.iinc 2 1, 3) := by decide +kernel
theorem dX8_hours_61 : decode cX8_hours 61 = .ok (.goto (-18), 3) := by decide +kernel
theorem dX8_hours_64 : decode cX8_hours 64 = .ok (.aload_n 0, 1) := by decide +kernel
theorem dX8_hours_65 : decode cX8_hours 65 = .ok (.getfield 10, 3) := by decide +kernel
theorem dX8_hours_68 : decode cX8_hours 68 = .ok (.getfield 79, 3) := by decide +kernel
theorem dX8_hours_71 : decode cX8_hours 71 = .ok (.invokevirtual 197, 3) := by decide +kernel
theorem dX8_hours_74 : decode cX8_hours 74 = .ok (.ireturn, 1) := by decide +kernel
theorem dX8_loose_0 : decode cX8_loose 0 = .ok (.iload_n 1, 1) := by decide +kernel
theorem dX8_loose_1 : decode cX8_loose 1 = .ok (.iconst 1, 1) := by decide +kernel
theorem dX8_loose_2 : decode cX8_loose 2 = .ok (.if_icmp .lt 9, 3) := by decide +kernel
theorem dX8_loose_5 : decode cX8_loose 5 = .ok (.iload_n 1, 1) := by decide +kernel
theorem dX8_loose_6 : decode cX8_loose 6 = .ok (.bipush 30, 2) := by decide +kernel
theorem dX8_loose_8 : decode cX8_loose 8 = .ok (.if_icmp .le 9, 3) := by decide +kernel
theorem dX8_loose_11 : decode cX8_loose 11 = .ok (.aload_n 0, 1) := by decide +kernel
theorem dX8_loose_12 : decode cX8_loose 12 = .ok (.iconst 1, 1) := by decide +kernel
theorem dX8_loose_13 : decode cX8_loose 13 = .ok (.invokevirtual 75, 3) := by decide +kernel
theorem dX8_loose_16 : decode cX8_loose 16 = .ok (.ireturn, 1) := by decide +kernel
theorem dX8_loose_17 : decode cX8_loose 17 = .ok (.aload_n 0, 1) := by decide +kernel
theorem dX8_loose_18 : decode cX8_loose 18 = .ok (.getfield 10, 3) := by decide +kernel
theorem dX8_loose_21 : decode cX8_loose 21 = .ok (.getfield 79, 3) := by decide +kernel
theorem dX8_loose_24 : decode cX8_loose 24 = .ok (.getfield 191, 3) := by decide +kernel
theorem dX8_loose_27 : decode cX8_loose 27 = .ok (.iload_n 1, 1) := by decide +kernel
theorem dX8_loose_28 : decode cX8_loose 28 = .ok (.iadd, 1) := by decide +kernel
theorem dX8_loose_29 : decode cX8_loose 29 = .ok (.sipush 9999, 3) := by decide +kernel
theorem dX8_loose_32 : decode cX8_loose 32 = .ok (.if_icmp .le 9, 3) := by decide +kernel
theorem dX8_loose_35 : decode cX8_loose 35 = .ok (.aload_n 0, 1) := by decide +kernel
theorem dX8_loose_36 : decode cX8_loose 36 = .ok (.iconst 3, 1) := by decide +kernel
theorem dX8_loose_37 : decode cX8_loose 37 = .ok (.invokevirtual 75, 3) := by decide +kernel
theorem dX8_loose_40 : decode cX8_loose 40 = .ok (.ireturn, 1) := by decide +kernel
theorem dX8_loose_41 : decode cX8_loose 41 = .ok (.iconst 0, 1) := by decide +kernel
theorem dX8_loose_42 : decode cX8_loose 42 = .ok (.istore_n 2, 1) := by decide +kernel
theorem dX8_loose_43 : decode cX8_loose 43 = .ok (.iload_n 2, 1) := by decide +kernel
theorem dX8_loose_44 : decode cX8_loose 44 = .ok (.iload_n 1, 1) := by decide +kernel
theorem dX8_loose_45 : decode cX8_loose 45 = .ok (.if_icmp .ge 26, 3) := by decide +kernel
theorem dX8_loose_48 : decode cX8_loose 48 = .ok (.aload_n 0, 1) := by decide +kernel
theorem dX8_loose_49 : decode cX8_loose 49 = .ok (.getfield 10, 3) := by decide +kernel
theorem dX8_loose_52 : decode cX8_loose 52 = .ok (.invokevirtual 201, 3) := by decide +kernel
theorem dX8_loose_55 : decode cX8_loose 55 = .ok (.aload_n 0, 1) := by decide +kernel
theorem dX8_loose_56 : decode cX8_loose 56 = .ok (.getfield 10, 3) := by decide +kernel
theorem dX8_loose_59 : decode cX8_loose 59 = .ok (.getfield 79, 3) := by decide +kernel
theorem dX8_loose_62 : decode cX8_loose 62 = .ok (.invokevirtual 194, 3) := by decide +kernel
theorem dX8_loose_65 : decode cX8_loose 65 = .ok (.iinc 2 1, 3) := by decide +kernel
theorem dX8_loose_68 : decode cX8_loose 68 = .ok (.goto (-25), 3) := by decide +kernel
theorem dX8_loose_71 : decode cX8_loose 71 = .ok (.aload_n 0, 1) := by decide +kernel
theorem dX8_loose_72 : decode cX8_loose 72 = .ok (.getfield 10, 3) := by decide +kernel
theorem dX8_loose_75 : decode cX8_loose 75 = .ok (.getfield 79, 3) := by decide +kernel
theorem dX8_loose_78 : decode cX8_loose 78 = .ok (.invokevirtual 197, 3) := by decide +kernel
theorem dX8_loose_81 : decode cX8_loose 81 = .ok (.ireturn, 1) := by decide +kernel
theorem dX8_hour_0 : decode cX8_hour 0 = .ok (.iload_n 1, 1) := by decide +kernel
theorem dX8_hour_1 : decode cX8_hour 1 = .ok (.ifCond .lt 10, 3) := by decide +kernel
theorem dX8_hour_4 : decode cX8_hour 4 = .ok (.iload_n 1, 1) := by decide +kernel
theorem dX8_hour_5 : decode cX8_hour 5 = .ok (.sipush 9999, 3) := by decide +kernel
theorem dX8_hour_8 : decode cX8_hour 8 = .ok (.if_icmp .le 9, 3) := by decide +kernel
theorem dX8_hour_11 : decode cX8_hour 11 = .ok (.aload_n 0, 1) := by decide +kernel
theorem dX8_hour_12 : decode cX8_hour 12 = .ok (.iconst 1, 1) := by decide +kernel
theorem dX8_hour_13 : decode cX8_hour 13 = .ok (.invokevirtual 75, 3) := by decide +kernel
theorem dX8_hour_16 : decode cX8_hour 16 = .ok (.ireturn, 1) := by decide +kernel
theorem dX8_hour_17 : decode cX8_hour 17 = .ok (.aload_n 0, 1) := by decide +kernel
theorem dX8_hour_18 : decode cX8_hour 18 = .ok (.getfield 10, 3) := by decide +kernel
theorem dX8_hour_21 : decode cX8_hour 21 = .ok (.getfield 79, 3) := by decide +kernel
theorem dX8_hour_24 : decode cX8_hour 24 = .ok (.getfield 191, 3) := by decide +kernel
theorem dX8_hour_27 : decode cX8_hour 27 = .ok (.istore_n 2, 1) := by decide +kernel
theorem dX8_hour_28 : decode cX8_hour 28 = .ok (.aload_n 0, 1) := by decide +kernel
theorem dX8_hour_29 : decode cX8_hour 29 = .ok (.getfield 10, 3) := by decide +kernel
theorem dX8_hour_32 : decode cX8_hour 32 = .ok (.getfield 79, 3) := by decide +kernel
theorem dX8_hour_35 : decode cX8_hour 35 = .ok (.iload_n 1, 1) := by decide +kernel
theorem dX8_hour_36 : decode cX8_hour 36 = .ok (.putfield 191, 3) := by decide +kernel
theorem dX8_hour_39 : decode cX8_hour 39 = .ok (.iload_n 2, 1) := by decide +kernel
theorem dX8_hour_40 : decode cX8_hour 40 = .ok (.ireturn, 1) := by decide +kernel
theorem dX8_seed_0 : decode cX8_seed 0 = .ok (.aload_n 0, 1) := by decide +kernel
theorem dX8_seed_1 : decode cX8_seed 1 = .ok (.getfield 10, 3) := by decide +kernel
theorem dX8_seed_4 : decode cX8_seed 4 = .ok (.getfield 204, 3) := by decide +kernel
theorem dX8_seed_7 : decode cX8_seed 7 = .ok (.istore_n 2, 1) := by decide +kernel
theorem dX8_seed_8 : decode cX8_seed 8 = .ok (.aload_n 0, 1) := by decide +kernel
theorem dX8_seed_9 : decode cX8_seed 9 = .ok (.getfield 10, 3) := by decide +kernel
theorem dX8_seed_12 : decode cX8_seed 12 = .ok (.iload_n 1, 1) := by decide +kernel
theorem dX8_seed_13 : decode cX8_seed 13 = .ok (.putfield 204, 3) := by decide +kernel
theorem dX8_seed_16 : decode cX8_seed 16 = .ok (.iload_n 2, 1) := by decide +kernel
theorem dX8_seed_17 : decode cX8_seed 17 = .ok (.ireturn, 1) := by decide +kernel
theorem dX8_then_0 : decode cX8_then 0 = .ok (.iload_n 1, 1) := by decide +kernel
theorem dX8_then_1 : decode cX8_then 1 = .ok (.ifCond .lt 18, 3) := by decide +kernel
theorem dX8_then_4 : decode cX8_then 4 = .ok (.iload_n 1, 1) := by decide +kernel
theorem dX8_then_5 : decode cX8_then 5 = .ok (.bipush 60, 2) := by decide +kernel
theorem dX8_then_7 : decode cX8_then 7 = .ok (.if_icmp .gt 12, 3) := by decide +kernel
theorem dX8_then_10 : decode cX8_then 10 = .ok (.iload_n 2, 1) := by decide +kernel
theorem dX8_then_11 : decode cX8_then 11 = .ok (.ifCond .lt 8, 3) := by decide +kernel
theorem dX8_then_14 : decode cX8_then 14 = .ok (.iload_n 2, 1) := by decide +kernel
theorem dX8_then_15 : decode cX8_then 15 = .ok (.iconst 1, 1) := by decide +kernel
theorem dX8_then_16 : decode cX8_then 16 = .ok (.if_icmp .le 9, 3) := by decide +kernel
theorem dX8_then_19 : decode cX8_then 19 = .ok (.aload_n 0, 1) := by decide +kernel
theorem dX8_then_20 : decode cX8_then 20 = .ok (.iconst 1, 1) := by decide +kernel
theorem dX8_then_21 : decode cX8_then 21 = .ok (.invokevirtual 75, 3) := by decide +kernel
theorem dX8_then_24 : decode cX8_then 24 = .ok (.ireturn, 1) := by decide +kernel
theorem dX8_then_25 : decode cX8_then 25 = .ok (.aload_n 0, 1) := by decide +kernel
theorem dX8_then_26 : decode cX8_then 26 = .ok (.getfield 31, 3) := by decide +kernel
theorem dX8_then_29 : decode cX8_then 29 = .ok (.aload_n 0, 1) := by decide +kernel
theorem dX8_then_30 : decode cX8_then 30 = .ok (.getfield 10, 3) := by decide +kernel
theorem dX8_then_33 : decode cX8_then 33 = .ok (.getfield 79, 3) := by decide +kernel
theorem dX8_then_36 : decode cX8_then 36 = .ok (.invokevirtual 207, 3) := by decide +kernel
theorem dX8_then_39 : decode cX8_then 39 = .ok (.iconst 0, 1) := by decide +kernel
theorem dX8_then_40 : decode cX8_then 40 = .ok (.istore_n 3, 1) := by decide +kernel
theorem dX8_then_41 : decode cX8_then 41 = .ok (.iload_n 3, 1) := by decide +kernel
theorem dX8_then_42 : decode cX8_then 42 = .ok (.iload_n 1, 1) := by decide +kernel
theorem dX8_then_43 : decode cX8_then 43 = .ok (.if_icmp .ge 16, 3) := by decide +kernel
theorem dX8_then_46 : decode cX8_then 46 = .ok (.aload_n 0, 1) := by decide +kernel
theorem dX8_then_47 : decode cX8_then 47 = .ok (.getfield 31, 3) := by decide +kernel
theorem dX8_then_50 : decode cX8_then 50 = .ok (.invokevirtual 194, 3) := by decide +kernel
theorem dX8_then_53 : decode cX8_then 53 = .ok (.iinc 3 1, 3) := by decide +kernel
theorem dX8_then_56 : decode cX8_then 56 = .ok (.goto (-15), 3) := by decide +kernel
theorem dX8_then_59 : decode cX8_then 59 = .ok (.iload_n 2, 1) := by decide +kernel
theorem dX8_then_60 : decode cX8_then 60 = .ok (.ifCond .ne 13, 3) := by decide +kernel
theorem dX8_then_63 : decode cX8_then 63 = .ok (.aload_n 0, 1) := by decide +kernel
theorem dX8_then_64 : decode cX8_then 64 = .ok (.getfield 31, 3) := by decide +kernel
theorem dX8_then_67 : decode cX8_then 67 = .ok (.invokevirtual 197, 3) := by decide +kernel
theorem dX8_then_70 : decode cX8_then 70 = .ok (.goto 10, 3) := by decide +kernel
theorem dX8_then_73 : decode cX8_then 73 = .ok (.aload_n 0, 1) := by decide +kernel
theorem dX8_then_74 : decode cX8_then 74 = .ok (.getfield 31, 3) := by decide +kernel
theorem dX8_then_77 : decode cX8_then 77 = .ok (.getfield 211, 3) := by decide +kernel
theorem dX8_then_80 : decode cX8_then 80 = .ok (.ireturn, 1) := by decide +kernel
theorem dX8_first_0 : decode cX8_first 0 = .ok (.aload_n 0, 1) := by decide +kernel
theorem dX8_first_1 : decode cX8_first 1 = .ok (.getfield 10, 3) := by decide +kernel
theorem dX8_first_4 : decode cX8_first 4 = .ok (.getfield 79, 3) := by decide +kernel
theorem dX8_first_7 : decode cX8_first 7 = .ok (.iload_n 1, 1) := by decide +kernel
theorem dX8_first_8 : decode cX8_first 8 = .ok (.invokevirtual 121, 3) := by decide +kernel
theorem dX8_first_11 : decode cX8_first 11 = .ok (.ifCond .ne 9, 3) := by decide +kernel
theorem dX8_first_14 : decode cX8_first 14 = .ok (.aload_n 0, 1) := by decide +kernel
theorem dX8_first_15 : decode cX8_first 15 = .ok (.iconst 1, 1) := by decide +kernel
theorem dX8_first_16 : decode cX8_first 16 = .ok (.invokevirtual 75, 3) := by decide +kernel
theorem dX8_first_19 : decode cX8_first 19 = .ok (.ireturn, 1) := by decide +kernel
theorem dX8_first_20 : decode cX8_first 20 = .ok (.aload_n 0, 1) := by decide +kernel
theorem dX8_first_21 : decode cX8_first 21 = .ok (.getfield 31, 3) := by decide +kernel
theorem dX8_first_24 : decode cX8_first 24 = .ok (.aload_n 0, 1) := by decide +kernel
theorem dX8_first_25 : decode cX8_first 25 = .ok (.getfield 10, 3) := by decide +kernel
theorem dX8_first_28 : decode cX8_first 28 = .ok (.getfield 79, 3) := by decide +kernel
theorem dX8_first_31 : decode cX8_first 31 = .ok (.invokevirtual 207, 3) := by decide +kernel
theorem dX8_first_34 : decode cX8_first 34 = .ok (.iconst 0, 1) := by decide +kernel
theorem dX8_first_35 : decode cX8_first 35 = .ok (.istore_n 2, 1) := by decide +kernel
theorem dX8_first_36 : decode cX8_first 36 = .ok (.iload_n 2, 1) := by decide +kernel
theorem dX8_first_37 : decode cX8_first 37 = .ok (.bipush 60, 2) := by decide +kernel
theorem dX8_first_39 : decode cX8_first 39 = .ok (.if_icmp .gt 31, 3) := by decide +kernel
theorem dX8_first_42 : decode cX8_first 42 = .ok (.aload_n 0, 1) := by decide +kernel
theorem dX8_first_43 : decode cX8_first 43 = .ok (.getfield 31, 3) := by decide +kernel
theorem dX8_first_46 : decode cX8_first 46 = .ok (.getfield 133, 3) := by decide +kernel
theorem dX8_first_49 : decode cX8_first 49 = .ok (.iload_n 1, 1) := by decide +kernel
theorem dX8_first_50 : decode cX8_first 50 = .ok (.iaload, 1) := by decide +kernel
theorem dX8_first_51 : decode cX8_first 51 = .ok (.iconst (-1), 1) := by decide +kernel
theorem dX8_first_52 : decode cX8_first 52 = .ok (.if_icmp .ne 5, 3) := by decide +kernel
theorem dX8_first_55 : decode cX8_first 55 = .ok (.iload_n 2, 1) := by decide +kernel
theorem dX8_first_56 : decode cX8_first 56 = .ok (.ireturn, 1) := by decide +kernel
theorem dX8_first_57 : decode cX8_first 57 = .ok (.aload_n 0, 1) := by decide +kernel
theorem dX8_first_58 : decode cX8_first 58 = .ok (.getfield 31, 3) := by decide +kernel
theorem dX8_first_61 : decode cX8_first 61 = .ok (.invokevirtual 194, 3) := by decide +kernel
theorem dX8_first_64 : decode cX8_first 64 = .ok (.iinc 2 1, 3) := by decide +kernel
theorem dX8_first_67 : decode cX8_first 67 = .ok (.goto (-31), 3) := by decide +kernel
theorem dX8_first_70 : decode cX8_first 70 = .ok (.aload_n 0, 1) := by decide +kernel
theorem dX8_first_71 : decode cX8_first 71 = .ok (.iconst 2, 1) := by decide +kernel
theorem dX8_first_72 : decode cX8_first 72 = .ok (.invokevirtual 75, 3) := by decide +kernel
theorem dX8_first_75 : decode cX8_first 75 = .ok (.ireturn, 1) := by decide +kernel
theorem dX8_fewest_0 : decode cX8_fewest 0 = .ok (.aload_n 0, 1) := by decide +kernel
theorem dX8_fewest_1 : decode cX8_fewest 1 = .ok (.getfield 45, 3) := by decide +kernel
theorem dX8_fewest_4 : decode cX8_fewest 4 = .ok (.aload_n 0, 1) := by decide +kernel
theorem dX8_fewest_5 : decode cX8_fewest 5 = .ok (.getfield 10, 3) := by decide +kernel
theorem dX8_fewest_8 : decode cX8_fewest 8 = .ok (.getfield 79, 3) := by decide +kernel
theorem dX8_fewest_11 : decode cX8_fewest 11 = .ok (.invokevirtual 214, 3) := by decide +kernel
theorem dX8_fewest_14 : decode cX8_fewest 14 = .ok (.istore_n 1, 1) := by decide +kernel
theorem dX8_fewest_15 : decode cX8_fewest 15 = .ok (.iload_n 1, 1) := by decide +kernel
theorem dX8_fewest_16 : decode cX8_fewest 16 = .ok (.ifCond .ge 11, 3) := by decide +kernel
theorem dX8_fewest_19 : decode cX8_fewest 19 = .ok (.aload_n 0, 1) := by decide +kernel
theorem dX8_fewest_20 : decode cX8_fewest 20 = .ok (.iconst 2, 1) := by decide +kernel
theorem dX8_fewest_21 : decode cX8_fewest 21 = .ok (.invokevirtual 75, 3) := by decide +kernel
theorem dX8_fewest_24 : decode cX8_fewest 24 = .ok (.goto 4, 3) := by decide +kernel
theorem dX8_fewest_27 : decode cX8_fewest 27 = .ok (.iload_n 1, 1) := by decide +kernel
theorem dX8_fewest_28 : decode cX8_fewest 28 = .ok (.ireturn, 1) := by decide +kernel
theorem dX8_way_0 : decode cX8_way 0 = .ok (.iload_n 1, 1) := by decide +kernel
theorem dX8_way_1 : decode cX8_way 1 = .ok (.invokestatic 142, 3) := by decide +kernel
theorem dX8_way_4 : decode cX8_way 4 = .ok (.ifCond .eq 10, 3) := by decide +kernel
theorem dX8_way_7 : decode cX8_way 7 = .ok (.iload_n 2, 1) := by decide +kernel
theorem dX8_way_8 : decode cX8_way 8 = .ok (.invokestatic 142, 3) := by decide +kernel
theorem dX8_way_11 : decode cX8_way 11 = .ok (.ifCond .ne 9, 3) := by decide +kernel
theorem dX8_way_14 : decode cX8_way 14 = .ok (.aload_n 0, 1) := by decide +kernel
theorem dX8_way_15 : decode cX8_way 15 = .ok (.iconst 1, 1) := by decide +kernel
theorem dX8_way_16 : decode cX8_way 16 = .ok (.invokevirtual 75, 3) := by decide +kernel
theorem dX8_way_19 : decode cX8_way 19 = .ok (.ireturn, 1) := by decide +kernel
theorem dX8_way_20 : decode cX8_way 20 = .ok (.aload_n 0, 1) := by decide +kernel
theorem dX8_way_21 : decode cX8_way 21 = .ok (.getfield 10, 3) := by decide +kernel
theorem dX8_way_24 : decode cX8_way 24 = .ok (.getfield 79, 3) := by decide +kernel
theorem dX8_way_27 : decode cX8_way 27 = .ok (.iload_n 1, 1) := by decide +kernel
theorem dX8_way_28 : decode cX8_way 28 = .ok (.iload_n 2, 1) := by decide +kernel
theorem dX8_way_29 : decode cX8_way 29 = .ok (.invokevirtual 218, 3) := by decide +kernel
theorem dX8_way_32 : decode cX8_way 32 = .ok (.istore_n 3, 1) := by decide +kernel
theorem dX8_way_33 : decode cX8_way 33 = .ok (.iload_n 3, 1) := by decide +kernel
theorem dX8_way_34 : decode cX8_way 34 = .ok (.ifCond .ge 11, 3) := by decide +kernel
theorem dX8_way_37 : decode cX8_way 37 = .ok (.aload_n 0, 1) := by decide +kernel
theorem dX8_way_38 : decode cX8_way 38 = .ok (.iconst 2, 1) := by decide +kernel
theorem dX8_way_39 : decode cX8_way 39 = .ok (.invokevirtual 75, 3) := by decide +kernel
theorem dX8_way_42 : decode cX8_way 42 = .ok (.goto 4, 3) := by decide +kernel
theorem dX8_way_45 : decode cX8_way 45 = .ok (.iload_n 3, 1) := by decide +kernel
theorem dX8_way_46 : decode cX8_way 46 = .ok (.ireturn, 1) := by decide +kernel
theorem dX8_cut_0 : decode cX8_cut 0 = .ok (.iload_n 1, 1) := by decide +kernel
theorem dX8_cut_1 : decode cX8_cut 1 = .ok (.iload_n 2, 1) := by decide +kernel
theorem dX8_cut_2 : decode cX8_cut 2 = .ok (.invokestatic 111, 3) := by decide +kernel
theorem dX8_cut_5 : decode cX8_cut 5 = .ok (.ifCond .eq 12, 3) := by decide +kernel
theorem dX8_cut_8 : decode cX8_cut 8 = .ok (.iload_n 3, 1) := by decide +kernel
theorem dX8_cut_9 : decode cX8_cut 9 = .ok (.ifCond .lt 8, 3) := by decide +kernel
theorem dX8_cut_12 : decode cX8_cut 12 = .ok (.iload_n 3, 1) := by decide +kernel
theorem dX8_cut_13 : decode cX8_cut 13 = .ok (.iconst 1, 1) := by decide +kernel
theorem dX8_cut_14 : decode cX8_cut 14 = .ok (.if_icmp .le 9, 3) := by decide +kernel
theorem dX8_cut_17 : decode cX8_cut 17 = .ok (.aload_n 0, 1) := by decide +kernel
theorem dX8_cut_18 : decode cX8_cut 18 = .ok (.iconst 1, 1) := by decide +kernel
theorem dX8_cut_19 : decode cX8_cut 19 = .ok (.invokevirtual 75, 3) := by decide +kernel
theorem dX8_cut_22 : decode cX8_cut 22 = .ok (.ireturn, 1) := by decide +kernel
theorem dX8_cut_23 : decode cX8_cut 23 = .ok (.aload_n 0, 1) := by decide +kernel
theorem dX8_cut_24 : decode cX8_cut 24 = .ok (.getfield 10, 3) := by decide +kernel
theorem dX8_cut_27 : decode cX8_cut 27 = .ok (.getfield 79, 3) := by decide +kernel
theorem dX8_cut_30 : decode cX8_cut 30 = .ok (.iload_n 1, 1) := by decide +kernel
theorem dX8_cut_31 : decode cX8_cut 31 = .ok (.iload_n 2, 1) := by decide +kernel
theorem dX8_cut_32 : decode cX8_cut 32 = .ok (.invokevirtual 221, 3) := by decide +kernel
theorem dX8_cut_35 : decode cX8_cut 35 = .ok (.istore 4, 2) := by decide +kernel
theorem dX8_cut_37 : decode cX8_cut 37 = .ok (.iload_n 3, 1) := by decide +kernel
theorem dX8_cut_38 : decode cX8_cut 38 = .ok (.ifCond .ne 11, 3) := by decide +kernel
theorem dX8_cut_41 : decode cX8_cut 41 = .ok (.iload 4, 2) := by decide +kernel
theorem dX8_cut_43 : decode cX8_cut 43 = .ok (.invokestatic 224, 3) := by decide +kernel
theorem dX8_cut_46 : decode cX8_cut 46 = .ok (.goto 5, 3) := by decide +kernel
theorem dX8_cut_49 : decode cX8_cut 49 = .ok (.iload 4, 2) := by decide +kernel
theorem dX8_cut_51 : decode cX8_cut 51 = .ok (.ireturn, 1) := by decide +kernel
theorem dX8_roams_0 : decode cX8_roams 0 = .ok (.iload_n 1, 1) := by decide +kernel
theorem dX8_roams_1 : decode cX8_roams 1 = .ok (.invokestatic 142, 3) := by decide +kernel
theorem dX8_roams_4 : decode cX8_roams 4 = .ok (.ifCond .ne 9, 3) := by decide +kernel
theorem dX8_roams_7 : decode cX8_roams 7 = .ok (.aload_n 0, 1) := by decide +kernel
theorem dX8_roams_8 : decode cX8_roams 8 = .ok (.iconst 1, 1) := by decide +kernel
theorem dX8_roams_9 : decode cX8_roams 9 = .ok (.invokevirtual 75, 3) := by decide +kernel
theorem dX8_roams_12 : decode cX8_roams 12 = .ok (.ireturn, 1) := by decide +kernel
theorem dX8_roams_13 : decode cX8_roams 13 = .ok (.aload_n 0, 1) := by decide +kernel
theorem dX8_roams_14 : decode cX8_roams 14 = .ok (.getfield 10, 3) := by decide +kernel
theorem dX8_roams_17 : decode cX8_roams 17 = .ok (.getfield 79, 3) := by decide +kernel
theorem dX8_roams_20 : decode cX8_roams 20 = .ok (.iload_n 1, 1) := by decide +kernel
theorem dX8_roams_21 : decode cX8_roams 21 = .ok (.aload_n 0, 1) := by decide +kernel
theorem dX8_roams_22 : decode cX8_roams 22 = .ok (.getfield 10, 3) := by decide +kernel
theorem dX8_roams_25 : decode cX8_roams 25 = .ok (.getfield 79, 3) := by decide +kernel
theorem dX8_roams_28 : decode cX8_roams 28 = .ok (.invokevirtual 197, 3) := by decide +kernel
theorem dX8_roams_31 : decode cX8_roams 31 = .ok (.invokevirtual 229, 3) := by decide +kernel
theorem dX8_roams_34 : decode cX8_roams 34 = .ok (.ireturn, 1) := by decide +kernel
theorem dX8_odds_0 : decode cX8_odds 0 = .ok (.iload_n 1, 1) := by decide +kernel
theorem dX8_odds_1 : decode cX8_odds 1 = .ok (.invokestatic 142, 3) := by decide +kernel
theorem dX8_odds_4 : decode cX8_odds 4 = .ok (.ifCond .eq 12, 3) := by decide +kernel
theorem dX8_odds_7 : decode cX8_odds 7 = .ok (.iload_n 2, 1) := by decide +kernel
theorem dX8_odds_8 : decode cX8_odds 8 = .ok (.ifCond .lt 8, 3) := by decide +kernel
theorem dX8_odds_11 : decode cX8_odds 11 = .ok (.iload_n 2, 1) := by decide +kernel
theorem dX8_odds_12 : decode cX8_odds 12 = .ok (.iconst 1, 1) := by decide +kernel
theorem dX8_odds_13 : decode cX8_odds 13 = .ok (.if_icmp .le 9, 3) := by decide +kernel
theorem dX8_odds_16 : decode cX8_odds 16 = .ok (.aload_n 0, 1) := by decide +kernel
theorem dX8_odds_17 : decode cX8_odds 17 = .ok (.iconst 1, 1) := by decide +kernel
theorem dX8_odds_18 : decode cX8_odds 18 = .ok (.invokevirtual 75, 3) := by decide +kernel
theorem dX8_odds_21 : decode cX8_odds 21 = .ok (.ireturn, 1) := by decide +kernel
theorem dX8_odds_22 : decode cX8_odds 22 = .ok (.aload_n 0, 1) := by decide +kernel
theorem dX8_odds_23 : decode cX8_odds 23 = .ok (.getfield 10, 3) := by decide +kernel
theorem dX8_odds_26 : decode cX8_odds 26 = .ok (.getfield 79, 3) := by decide +kernel
theorem dX8_odds_29 : decode cX8_odds 29 = .ok (.getfield 114, 3) := by decide +kernel
theorem dX8_odds_32 : decode cX8_odds 32 = .ok (.istore_n 3, 1) := by decide +kernel
theorem dX8_odds_33 : decode cX8_odds 33 = .ok (.iload_n 3, 1) := by decide +kernel
theorem dX8_odds_34 : decode cX8_odds 34 = .ok (.ifCond .gt 9, 3) := by decide +kernel
theorem dX8_odds_37 : decode cX8_odds 37 = .ok (.aload_n 0, 1) := by decide +kernel
theorem dX8_odds_38 : decode cX8_odds 38 = .ok (.iconst 3, 1) := by decide +kernel
theorem dX8_odds_39 : decode cX8_odds 39 = .ok (.invokevirtual 75, 3) := by decide +kernel
theorem dX8_odds_42 : decode cX8_odds 42 = .ok (.ireturn, 1) := by decide +kernel
theorem dX8_odds_43 : decode cX8_odds 43 = .ok (.aload_n 0, 1) := by decide +kernel
theorem dX8_odds_44 : decode cX8_odds 44 = .ok (.getfield 10, 3) := by decide +kernel
theorem dX8_odds_47 : decode cX8_odds 47 = .ok (.getfield 79, 3) := by decide +kernel
theorem dX8_odds_50 : decode cX8_odds 50 = .ok (.iload_n 1, 1) := by decide +kernel
theorem dX8_odds_51 : decode cX8_odds 51 = .ok (.invokevirtual 232, 3) := by decide +kernel
theorem dX8_odds_54 : decode cX8_odds 54 = .ok (.istore 4, 2) := by decide +kernel
theorem dX8_odds_56 : decode cX8_odds 56 = .ok (.iload 4, 2) := by decide +kernel
theorem dX8_odds_58 : decode cX8_odds 58 = .ok (.iload_n 3, 1) := by decide +kernel
theorem dX8_odds_59 : decode cX8_odds 59 = .ok (.invokestatic 235, 3) := by decide +kernel
theorem dX8_odds_62 : decode cX8_odds 62 = .ok (.istore 5, 2) := by decide +kernel
theorem dX8_odds_64 : decode cX8_odds 64 = .ok (.iload_n 2, 1) := by decide +kernel
theorem dX8_odds_65 : decode cX8_odds 65 = .ok (.ifCond .ne 8, 3) := by decide +kernel
theorem dX8_odds_68 : decode cX8_odds 68 = .ok (.iload 4, 2) := by decide +kernel
theorem dX8_odds_70 : decode cX8_odds 70 = .ok (.goto 4, 3) := by decide +kernel
theorem dX8_odds_73 : decode cX8_odds 73 = .ok (.iload_n 3, 1) := by decide +kernel
theorem dX8_odds_74 : decode cX8_odds 74 = .ok (.istore 6, 2) := by decide +kernel
theorem dX8_odds_76 : decode cX8_odds 76 = .ok (.iload 5, 2) := by decide +kernel
theorem dX8_odds_78 : decode cX8_odds 78 = .ok (.iconst 1, 1) := by decide +kernel
theorem dX8_odds_79 : decode cX8_odds 79 = .ok (.if_icmp .le 11, 3) := by decide +kernel
theorem dX8_odds_82 : decode cX8_odds 82 = .ok (.iload 6, 2) := by decide +kernel
theorem dX8_odds_84 : decode cX8_odds 84 = .ok (.iload 5, 2) := by decide +kernel
theorem dX8_odds_86 : decode cX8_odds 86 = .ok (.idiv, 1) := by decide +kernel
theorem dX8_odds_87 : decode cX8_odds 87 = .ok (.goto 5, 3) := by decide +kernel
theorem dX8_odds_90 : decode cX8_odds 90 = .ok (.iload 6, 2) := by decide +kernel
theorem dX8_odds_92 : decode cX8_odds 92 = .ok (.ireturn, 1) := by decide +kernel
theorem dX8_fits_0 : decode cX8_fits 0 = .ok (.iload_n 1, 1) := by decide +kernel
theorem dX8_fits_1 : decode cX8_fits 1 = .ok (.invokestatic 238, 3) := by decide +kernel
theorem dX8_fits_4 : decode cX8_fits 4 = .ok (.ifCond .ne 9, 3) := by decide +kernel
theorem dX8_fits_7 : decode cX8_fits 7 = .ok (.aload_n 0, 1) := by decide +kernel
theorem dX8_fits_8 : decode cX8_fits 8 = .ok (.iconst 1, 1) := by decide +kernel
theorem dX8_fits_9 : decode cX8_fits 9 = .ok (.invokevirtual 75, 3) := by decide +kernel
theorem dX8_fits_12 : decode cX8_fits 12 = .ok (.ireturn, 1) := by decide +kernel
theorem dX8_fits_13 : decode cX8_fits 13 = .ok (.aload_n 0, 1) := by decide +kernel
theorem dX8_fits_14 : decode cX8_fits 14 = .ok (.getfield 58, 3) := by decide +kernel
theorem dX8_fits_17 : decode cX8_fits 17 = .ok (.iload_n 1, 1) := by decide +kernel
theorem dX8_fits_18 : decode cX8_fits 18 = .ok (.aaload, 1) := by decide +kernel
theorem dX8_fits_19 : decode cX8_fits 19 = .ok (.astore_n 2, 1) := by decide +kernel
theorem dX8_fits_20 : decode cX8_fits 20 = .ok (.aload_n 2, 1) := by decide +kernel
theorem dX8_fits_21 : decode cX8_fits 21 = .ok (.invokevirtual 241, 3) := by decide +kernel
theorem dX8_fits_24 : decode cX8_fits 24 = .ok (.ifCond .eq 9, 3) := by decide +kernel
theorem dX8_fits_27 : decode cX8_fits 27 = .ok (.aload_n 0, 1) := by decide +kernel
theorem dX8_fits_28 : decode cX8_fits 28 = .ok (.iconst 2, 1) := by decide +kernel
theorem dX8_fits_29 : decode cX8_fits 29 = .ok (.invokevirtual 75, 3) := by decide +kernel
theorem dX8_fits_32 : decode cX8_fits 32 = .ok (.ireturn, 1) := by decide +kernel
theorem dX8_fits_33 : decode cX8_fits 33 = .ok (.aload_n 0, 1) := by decide +kernel
theorem dX8_fits_34 : decode cX8_fits 34 = .ok (.getfield 31, 3) := by decide +kernel
theorem dX8_fits_37 : decode cX8_fits 37 = .ok (.aload_n 0, 1) := by decide +kernel
theorem dX8_fits_38 : decode cX8_fits 38 = .ok (.getfield 10, 3) := by decide +kernel
theorem dX8_fits_41 : decode cX8_fits 41 = .ok (.getfield 79, 3) := by decide +kernel
theorem dX8_fits_44 : decode cX8_fits 44 = .ok (.invokevirtual 207, 3) := by decide +kernel
theorem dX8_fits_47 : decode cX8_fits 47 = .ok (.iconst 0, 1) := by decide +kernel
theorem dX8_fits_48 : decode cX8_fits 48 = .ok (.istore_n 3, 1) := by decide +kernel
theorem dX8_fits_49 : decode cX8_fits 49 = .ok (.iload_n 3, 1) := by decide +kernel
theorem dX8_fits_50 : decode cX8_fits 50 = .ok (.bipush 60, 2) := by decide +kernel
theorem dX8_fits_52 : decode cX8_fits 52 = .ok (.if_icmp .gt 29, 3) := by decide +kernel
theorem dX8_fits_55 : decode cX8_fits 55 = .ok (.aload_n 2, 1) := by decide +kernel
theorem dX8_fits_56 : decode cX8_fits 56 = .ok (.aload_n 0, 1) := by decide +kernel
theorem dX8_fits_57 : decode cX8_fits 57 = .ok (.getfield 31, 3) := by decide +kernel
theorem dX8_fits_60 : decode cX8_fits 60 = .ok (.invokevirtual 244, 3) := by decide +kernel
theorem dX8_fits_63 : decode cX8_fits 63 = .ok (.ifCond .eq 5, 3) := by decide +kernel
theorem dX8_fits_66 : decode cX8_fits 66 = .ok (.iload_n 3, 1) := by decide +kernel
theorem dX8_fits_67 : decode cX8_fits 67 = .ok (.ireturn, 1) := by decide +kernel
theorem dX8_fits_68 : decode cX8_fits 68 = .ok (.aload_n 0, 1) := by decide +kernel
theorem dX8_fits_69 : decode cX8_fits 69 = .ok (.getfield 31, 3) := by decide +kernel
theorem dX8_fits_72 : decode cX8_fits 72 = .ok (.invokevirtual 194, 3) := by decide +kernel
theorem dX8_fits_75 : decode cX8_fits 75 = .ok (.iinc 3 1, 3) := by decide +kernel
theorem dX8_fits_78 : decode cX8_fits 78 = .ok (.goto (-29), 3) := by decide +kernel
theorem dX8_fits_81 : decode cX8_fits 81 = .ok (.aload_n 0, 1) := by decide +kernel
theorem dX8_fits_82 : decode cX8_fits 82 = .ok (.iconst 2, 1) := by decide +kernel
theorem dX8_fits_83 : decode cX8_fits 83 = .ok (.invokevirtual 75, 3) := by decide +kernel
theorem dX8_fits_86 : decode cX8_fits 86 = .ok (.ireturn, 1) := by decide +kernel
theorem dX8_voice_0 : decode cX8_voice 0 = .ok (.aload_n 0, 1) := by decide +kernel
theorem dX8_voice_1 : decode cX8_voice 1 = .ok (.getfield 10, 3) := by decide +kernel
theorem dX8_voice_4 : decode cX8_voice 4 = .ok (.getfield 79, 3) := by decide +kernel
theorem dX8_voice_7 : decode cX8_voice 7 = .ok (.astore 4, 2) := by decide +kernel
theorem dX8_voice_9 : decode cX8_voice 9 = .ok (.aload 4, 2) := by decide +kernel
theorem dX8_voice_11 : decode cX8_voice 11 = .ok (.iload_n 1, 1) := by decide +kernel
theorem dX8_voice_12 : decode cX8_voice 12 = .ok (.invokevirtual 89, 3) := by decide +kernel
theorem dX8_voice_15 : decode cX8_voice 15 = .ok (.ifCond .eq 12, 3) := by decide +kernel
theorem dX8_voice_18 : decode cX8_voice 18 = .ok (.iload_n 2, 1) := by decide +kernel
theorem dX8_voice_19 : decode cX8_voice 19 = .ok (.ifCond .lt 8, 3) := by decide +kernel
theorem dX8_voice_22 : decode cX8_voice 22 = .ok (.iload_n 2, 1) := by decide +kernel
theorem dX8_voice_23 : decode cX8_voice 23 = .ok (.iconst 4, 1) := by decide +kernel
theorem dX8_voice_24 : decode cX8_voice 24 = .ok (.if_icmp .lt 9, 3) := by decide +kernel
theorem dX8_voice_27 : decode cX8_voice 27 = .ok (.aload_n 0, 1) := by decide +kernel
theorem dX8_voice_28 : decode cX8_voice 28 = .ok (.iconst 1, 1) := by decide +kernel
theorem dX8_voice_29 : decode cX8_voice 29 = .ok (.invokevirtual 75, 3) := by decide +kernel
theorem dX8_voice_32 : decode cX8_voice 32 = .ok (.ireturn, 1) := by decide +kernel
theorem dX8_voice_33 : decode cX8_voice 33 = .ok (.aload_n 0, 1) := by decide +kernel
theorem dX8_voice_34 : decode cX8_voice 34 = .ok (.getfield 52, 3) := by decide +kernel
theorem dX8_voice_37 : decode cX8_voice 37 = .ok (.aload 4, 2) := by decide +kernel
theorem dX8_voice_39 : decode cX8_voice 39 = .ok (.getfield 92, 3) := by decide +kernel
theorem dX8_voice_42 : decode cX8_voice 42 = .ok (.iload_n 1, 1) := by decide +kernel
theorem dX8_voice_43 : decode cX8_voice 43 = .ok (.iaload, 1) := by decide +kernel
theorem dX8_voice_44 : decode cX8_voice 44 = .ok (.iload_n 1, 1) := by decide +kernel
theorem dX8_voice_45 : decode cX8_voice 45 = .ok (.aload 4, 2) := by decide +kernel
theorem dX8_voice_47 : decode cX8_voice 47 = .ok (.getfield 95, 3) := by decide +kernel
theorem dX8_voice_50 : decode cX8_voice 50 = .ok (.iload_n 1, 1) := by decide +kernel
theorem dX8_voice_51 : decode cX8_voice 51 = .ok (.iaload, 1) := by decide +kernel
theorem dX8_voice_52 : decode cX8_voice 52 = .ok (.iload_n 2, 1) := by decide +kernel
theorem dX8_voice_53 : decode cX8_voice 53 = .ok (.iload_n 3, 1) := by decide +kernel
theorem dX8_voice_54 : decode cX8_voice 54 = .ok (.invokevirtual 248, 3) := by decide +kernel
theorem dX8_voice_57 : decode cX8_voice 57 = .ok (.istore 5, 2) := by decide +kernel
theorem dX8_voice_59 : decode cX8_voice 59 = .ok (.aload_n 0, 1) := by decide +kernel
theorem dX8_voice_60 : decode cX8_voice 60 = .ok (.getfield 52, 3) := by decide +kernel
theorem dX8_voice_63 : decode cX8_voice 63 = .ok (.getfield 252, 3) := by decide +kernel
theorem dX8_voice_66 : decode cX8_voice 66 = .ok (.ifCond .eq 12, 3) := by decide +kernel
theorem dX8_voice_69 : decode cX8_voice 69 = .ok (.aload_n 0, 1) := by decide +kernel
theorem dX8_voice_70 : decode cX8_voice 70 = .ok (.bipush 6, 2) := by decide +kernel
theorem dX8_voice_72 : decode cX8_voice 72 = .ok (.invokevirtual 75, 3) := by decide +kernel
theorem dX8_voice_75 : decode cX8_voice 75 = .ok (.goto 5, 3) := by decide +kernel
theorem dX8_voice_78 : decode cX8_voice 78 = .ok (.iload 5, 2) := by decide +kernel
theorem dX8_voice_80 : decode cX8_voice 80 = .ok (.ireturn, 1) := by decide +kernel
theorem dX8_body_0 : decode cX8_body 0 = .ok (.iload_n 1, 1) := by decide +kernel
theorem dX8_body_1 : decode cX8_body 1 = .ok (.ifCond .lt 14, 3) := by decide +kernel
theorem dX8_body_4 : decode cX8_body 4 = .ok (.iload_n 1, 1) := by decide +kernel
theorem dX8_body_5 : decode cX8_body 5 = .ok (.aload_n 0, 1) := by decide +kernel
theorem dX8_body_6 : decode cX8_body 6 = .ok (.getfield 52, 3) := by decide +kernel
theorem dX8_body_9 : decode cX8_body 9 = .ok (.getfield 256, 3) := by decide +kernel
theorem dX8_body_12 : decode cX8_body 12 = .ok (.if_icmp .lt 9, 3) := by decide +kernel
theorem dX8_body_15 : decode cX8_body 15 = .ok (.aload_n 0, 1) := by decide +kernel
theorem dX8_body_16 : decode cX8_body 16 = .ok (.iconst 2, 1) := by decide +kernel
theorem dX8_body_17 : decode cX8_body 17 = .ok (.invokevirtual 75, 3) := by decide +kernel
theorem dX8_body_20 : decode cX8_body 20 = .ok (.ireturn, 1) := by decide +kernel
theorem dX8_body_21 : decode cX8_body 21 = .ok (.aload_n 0, 1) := by decide +kernel
theorem dX8_body_22 : decode cX8_body 22 = .ok (.getfield 52, 3) := by decide +kernel
theorem dX8_body_25 : decode cX8_body 25 = .ok (.getfield 259, 3) := by decide +kernel
theorem dX8_body_28 : decode cX8_body 28 = .ok (.iload_n 1, 1) := by decide +kernel
theorem dX8_body_29 : decode cX8_body 29 = .ok (.iaload, 1) := by decide +kernel
theorem dX8_body_30 : decode cX8_body 30 = .ok (.ireturn, 1) := by decide +kernel
theorem dX8_sheet_0 : decode cX8_sheet 0 = .ok (.iload_n 1, 1) := by decide +kernel
theorem dX8_sheet_1 : decode cX8_sheet 1 = .ok (.invokestatic 238, 3) := by decide +kernel
theorem dX8_sheet_4 : decode cX8_sheet 4 = .ok (.ifCond .eq 10, 3) := by decide +kernel
theorem dX8_sheet_7 : decode cX8_sheet 7 = .ok (.iload_n 2, 1) := by decide +kernel
theorem dX8_sheet_8 : decode cX8_sheet 8 = .ok (.invokestatic 262, 3) := by decide +kernel
theorem dX8_sheet_11 : decode cX8_sheet 11 = .ok (.ifCond .ne 9, 3) := by decide +kernel
theorem dX8_sheet_14 : decode cX8_sheet 14 = .ok (.aload_n 0, 1) := by decide +kernel
theorem dX8_sheet_15 : decode cX8_sheet 15 = .ok (.iconst 1, 1) := by decide +kernel
theorem dX8_sheet_16 : decode cX8_sheet 16 = .ok (.invokevirtual 75, 3) := by decide +kernel
theorem dX8_sheet_19 : decode cX8_sheet 19 = .ok (.ireturn, 1) := by decide +kernel
theorem dX8_sheet_20 : decode cX8_sheet 20 = .ok (.iload_n 2, 1) := by decide +kernel
theorem dX8_sheet_21 : decode cX8_sheet 21 = .ok (.ifCond .ne 16, 3) := by decide +kernel
theorem dX8_sheet_24 : decode cX8_sheet 24 = .ok (.aload_n 0, 1) := by decide +kernel
theorem dX8_sheet_25 : decode cX8_sheet 25 = .ok (.getfield 58, 3) := by decide +kernel
theorem dX8_sheet_28 : decode cX8_sheet 28 = .ok (.iload_n 1, 1) := by decide +kernel
theorem dX8_sheet_29 : decode cX8_sheet 29 = .ok (.aaload, 1) := by decide +kernel
theorem dX8_sheet_30 : decode cX8_sheet 30 = .ok (.iconst 0, 1) := by decide +kernel
theorem dX8_sheet_31 : decode cX8_sheet 31 = .ok (.iconst 0, 1) := by decide +kernel
theorem dX8_sheet_32 : decode cX8_sheet 32 = .ok (.invokevirtual 265, 3) := by decide +kernel
theorem dX8_sheet_35 : decode cX8_sheet 35 = .ok (.iconst 1, 1) := by decide +kernel
theorem dX8_sheet_36 : decode cX8_sheet 36 = .ok (.ireturn, 1) := by decide +kernel
theorem dX8_sheet_37 : decode cX8_sheet 37 = .ok (.iload_n 3, 1) := by decide +kernel
theorem dX8_sheet_38 : decode cX8_sheet 38 = .ok (.ifCond .ge 9, 3) := by decide +kernel
theorem dX8_sheet_41 : decode cX8_sheet 41 = .ok (.aload_n 0, 1) := by decide +kernel
theorem dX8_sheet_42 : decode cX8_sheet 42 = .ok (.iconst 3, 1) := by decide +kernel
theorem dX8_sheet_43 : decode cX8_sheet 43 = .ok (.invokevirtual 75, 3) := by decide +kernel
theorem dX8_sheet_46 : decode cX8_sheet 46 = .ok (.ireturn, 1) := by decide +kernel
theorem dX8_sheet_47 : decode cX8_sheet 47 = .ok (.iload_n 3, 1) := by decide +kernel
theorem dX8_sheet_48 : decode cX8_sheet 48 = .ok (.bipush 24, 2) := by decide +kernel
theorem dX8_sheet_50 : decode cX8_sheet 50 = .ok (.if_icmp .le 9, 3) := by decide +kernel
theorem dX8_sheet_53 : decode cX8_sheet 53 = .ok (.aload_n 0, 1) := by decide +kernel
theorem dX8_sheet_54 : decode cX8_sheet 54 = .ok (.iconst 1, 1) := by decide +kernel
theorem dX8_sheet_55 : decode cX8_sheet 55 = .ok (.invokevirtual 75, 3) := by decide +kernel
theorem dX8_sheet_58 : decode cX8_sheet 58 = .ok (.ireturn, 1) := by decide +kernel
theorem dX8_sheet_59 : decode cX8_sheet 59 = .ok (.aload_n 0, 1) := by decide +kernel
theorem dX8_sheet_60 : decode cX8_sheet 60 = .ok (.getfield 58, 3) := by decide +kernel
theorem dX8_sheet_63 : decode cX8_sheet 63 = .ok (.iload_n 1, 1) := by decide +kernel
theorem dX8_sheet_64 : decode cX8_sheet 64 = .ok (.aaload, 1) := by decide +kernel
theorem dX8_sheet_65 : decode cX8_sheet 65 = .ok (.iload_n 2, 1) := by decide +kernel
theorem dX8_sheet_66 : decode cX8_sheet 66 = .ok (.iload_n 3, 1) := by decide +kernel
theorem dX8_sheet_67 : decode cX8_sheet 67 = .ok (.invokevirtual 265, 3) := by decide +kernel
theorem dX8_sheet_70 : decode cX8_sheet 70 = .ok (.iconst 1, 1) := by decide +kernel
theorem dX8_sheet_71 : decode cX8_sheet 71 = .ok (.ireturn, 1) := by decide +kernel
theorem dX8_put_0 : decode cX8_put 0 = .ok (.iload_n 1, 1) := by decide +kernel
theorem dX8_put_1 : decode cX8_put 1 = .ok (.invokestatic 238, 3) := by decide +kernel
theorem dX8_put_4 : decode cX8_put 4 = .ok (.ifCond .ne 9, 3) := by decide +kernel
theorem dX8_put_7 : decode cX8_put 7 = .ok (.aload_n 0, 1) := by decide +kernel
theorem dX8_put_8 : decode cX8_put 8 = .ok (.iconst 1, 1) := by decide +kernel
theorem dX8_put_9 : decode cX8_put 9 = .ok (.invokevirtual 75, 3) := by decide +kernel
theorem dX8_put_12 : decode cX8_put 12 = .ok (.ireturn, 1) := by decide +kernel
theorem dX8_put_13 : decode cX8_put 13 = .ok (.aload_n 0, 1) := by decide +kernel
theorem dX8_put_14 : decode cX8_put 14 = .ok (.getfield 58, 3) := by decide +kernel
theorem dX8_put_17 : decode cX8_put 17 = .ok (.iload_n 1, 1) := by decide +kernel
theorem dX8_put_18 : decode cX8_put 18 = .ok (.aaload, 1) := by decide +kernel
theorem dX8_put_19 : decode cX8_put 19 = .ok (.astore 4, 2) := by decide +kernel
theorem dX8_put_21 : decode cX8_put 21 = .ok (.aload 4, 2) := by decide +kernel
theorem dX8_put_23 : decode cX8_put 23 = .ok (.invokevirtual 241, 3) := by decide +kernel
theorem dX8_put_26 : decode cX8_put 26 = .ok (.ifCond .eq 9, 3) := by decide +kernel
theorem dX8_put_29 : decode cX8_put 29 = .ok (.aload_n 0, 1) := by decide +kernel
theorem dX8_put_30 : decode cX8_put 30 = .ok (.iconst 2, 1) := by decide +kernel
theorem dX8_put_31 : decode cX8_put 31 = .ok (.invokevirtual 75, 3) := by decide +kernel
theorem dX8_put_34 : decode cX8_put 34 = .ok (.ireturn, 1) := by decide +kernel
theorem dX8_put_35 : decode cX8_put 35 = .ok (.iload_n 2, 1) := by decide +kernel
theorem dX8_put_36 : decode cX8_put 36 = .ok (.ifCond .lt 12, 3) := by decide +kernel
theorem dX8_put_39 : decode cX8_put 39 = .ok (.iload_n 2, 1) := by decide +kernel
theorem dX8_put_40 : decode cX8_put 40 = .ok (.aload 4, 2) := by decide +kernel
theorem dX8_put_42 : decode cX8_put 42 = .ok (.getfield 269, 3) := by decide +kernel
theorem dX8_put_45 : decode cX8_put 45 = .ok (.if_icmp .lt 9, 3) := by decide +kernel
theorem dX8_put_48 : decode cX8_put 48 = .ok (.aload_n 0, 1) := by decide +kernel
theorem dX8_put_49 : decode cX8_put 49 = .ok (.iconst 1, 1) := by decide +kernel
theorem dX8_put_50 : decode cX8_put 50 = .ok (.invokevirtual 75, 3) := by decide +kernel
theorem dX8_put_53 : decode cX8_put 53 = .ok (.ireturn, 1) := by decide +kernel
theorem dX8_put_54 : decode cX8_put 54 = .ok (.aload 4, 2) := by decide +kernel
theorem dX8_put_56 : decode cX8_put 56 = .ok (.getfield 270, 3) := by decide +kernel
theorem dX8_put_59 : decode cX8_put 59 = .ok (.iload_n 2, 1) := by decide +kernel
theorem dX8_put_60 : decode cX8_put 60 = .ok (.aload 4, 2) := by decide +kernel
theorem dX8_put_62 : decode cX8_put 62 = .ok (.iload_n 3, 1) := by decide +kernel
theorem dX8_put_63 : decode cX8_put 63 = .ok (.invokevirtual 273, 3) := by decide +kernel
theorem dX8_put_66 : decode cX8_put 66 = .ok (.iastore, 1) := by decide +kernel
theorem dX8_put_67 : decode cX8_put 67 = .ok (.iconst 1, 1) := by decide +kernel
theorem dX8_put_68 : decode cX8_put 68 = .ok (.ireturn, 1) := by decide +kernel
theorem dX8_move_0 : decode cX8_move 0 = .ok (.iload_n 1, 1) := by decide +kernel
theorem dX8_move_1 : decode cX8_move 1 = .ok (.invokestatic 238, 3) := by decide +kernel
theorem dX8_move_4 : decode cX8_move 4 = .ok (.ifCond .eq 10, 3) := by decide +kernel
theorem dX8_move_7 : decode cX8_move 7 = .ok (.iload_n 3, 1) := by decide +kernel
theorem dX8_move_8 : decode cX8_move 8 = .ok (.invokestatic 238, 3) := by decide +kernel
theorem dX8_move_11 : decode cX8_move 11 = .ok (.ifCond .ne 9, 3) := by decide +kernel
theorem dX8_move_14 : decode cX8_move 14 = .ok (.aload_n 0, 1) := by decide +kernel
theorem dX8_move_15 : decode cX8_move 15 = .ok (.iconst 1, 1) := by decide +kernel
theorem dX8_move_16 : decode cX8_move 16 = .ok (.invokevirtual 75, 3) := by decide +kernel
theorem dX8_move_19 : decode cX8_move 19 = .ok (.ireturn, 1) := by decide +kernel
theorem dX8_move_20 : decode cX8_move 20 = .ok (.aload_n 0, 1) := by decide +kernel
theorem dX8_move_21 : decode cX8_move 21 = .ok (.getfield 58, 3) := by decide +kernel
theorem dX8_move_24 : decode cX8_move 24 = .ok (.iload_n 1, 1) := by decide +kernel
theorem dX8_move_25 : decode cX8_move 25 = .ok (.aaload, 1) := by decide +kernel
theorem dX8_move_26 : decode cX8_move 26 = .ok (.astore 6, 2) := by decide +kernel
theorem dX8_move_28 : decode cX8_move 28 = .ok (.aload_n 0, 1) := by decide +kernel
theorem dX8_move_29 : decode cX8_move 29 = .ok (.getfield 58, 3) := by decide +kernel
theorem dX8_move_32 : decode cX8_move 32 = .ok (.iload_n 3, 1) := by decide +kernel
theorem dX8_move_33 : decode cX8_move 33 = .ok (.aaload, 1) := by decide +kernel
theorem dX8_move_34 : decode cX8_move 34 = .ok (.astore 7, 2) := by decide +kernel
theorem dX8_move_36 : decode cX8_move 36 = .ok (.aload 6, 2) := by decide +kernel
theorem dX8_move_38 : decode cX8_move 38 = .ok (.invokevirtual 241, 3) := by decide +kernel
theorem dX8_move_41 : decode cX8_move 41 = .ok (.ifCond .ne 11, 3) := by decide +kernel
theorem dX8_move_44 : decode cX8_move 44 = .ok (.aload 7, 2) := by decide +kernel
theorem dX8_move_46 : decode cX8_move 46 = .ok (.invokevirtual 241, 3) := by decide +kernel
theorem dX8_move_49 : decode cX8_move 49 = .ok (.ifCond .eq 9, 3) := by decide +kernel
theorem dX8_move_52 : decode cX8_move 52 = .ok (.aload_n 0, 1) := by decide +kernel
theorem dX8_move_53 : decode cX8_move 53 = .ok (.iconst 2, 1) := by decide +kernel
theorem dX8_move_54 : decode cX8_move 54 = .ok (.invokevirtual 75, 3) := by decide +kernel
theorem dX8_move_57 : decode cX8_move 57 = .ok (.ireturn, 1) := by decide +kernel
theorem dX8_move_58 : decode cX8_move 58 = .ok (.aload 6, 2) := by decide +kernel
theorem dX8_move_60 : decode cX8_move 60 = .ok (.getfield 276, 3) := by decide +kernel
theorem dX8_move_63 : decode cX8_move 63 = .ok (.aload 7, 2) := by decide +kernel
theorem dX8_move_65 : decode cX8_move 65 = .ok (.getfield 276, 3) := by decide +kernel
theorem dX8_move_68 : decode cX8_move 68 = .ok (.if_icmp .eq 9, 3) := by decide +kernel
theorem dX8_move_71 : decode cX8_move 71 = .ok (.aload_n 0, 1) := by decide +kernel
theorem dX8_move_72 : decode cX8_move 72 = .ok (.iconst 5, 1) := by decide +kernel
theorem dX8_move_73 : decode cX8_move 73 = .ok (.invokevirtual 75, 3) := by decide +kernel
theorem dX8_move_76 : decode cX8_move 76 = .ok (.ireturn, 1) := by decide +kernel
theorem dX8_move_77 : decode cX8_move 77 = .ok (.aload 6, 2) := by decide +kernel
theorem dX8_move_79 : decode cX8_move 79 = .ok (.iload_n 2, 1) := by decide +kernel
theorem dX8_move_80 : decode cX8_move 80 = .ok (.iload 5, 2) := by decide +kernel
theorem dX8_move_82 : decode cX8_move 82 = .ok (.invokevirtual 279, 3) := by decide +kernel
theorem dX8_move_85 : decode cX8_move 85 = .ok (.ifCond .eq 15, 3) := by decide +kernel
theorem dX8_move_88 : decode cX8_move 88 = .ok (.aload 7, 2) := by decide +kernel
theorem dX8_move_90 : decode cX8_move 90 = .ok (.iload 4, 2) := by decide +kernel
theorem dX8_move_92 : decode cX8_move 92 = .ok (.iload 5, 2) := by decide +kernel
theorem dX8_move_94 : decode cX8_move 94 = .ok (.invokevirtual 279, 3) := by decide +kernel
theorem dX8_move_97 : decode cX8_move 97 = .ok (.ifCond .ne 9, 3) := by decide +kernel
theorem dX8_move_100 : decode cX8_move 100 = .ok (.aload_n 0, 1) := by decide +kernel
theorem dX8_move_101 : decode cX8_move 101 = .ok (.iconst 1, 1) := by decide +kernel
theorem dX8_move_102 : decode cX8_move 102 = .ok (.invokevirtual 75, 3) := by decide +kernel
theorem dX8_move_105 : decode cX8_move 105 = .ok (.ireturn, 1) := by decide +kernel
theorem dX8_move_106 : decode cX8_move 106 = .ok (.aload 6, 2) := by decide +kernel
theorem dX8_move_108 : decode cX8_move 108 = .ok (.getfield 270, 3) := by decide +kernel
theorem dX8_move_111 : decode cX8_move 111 = .ok (.iload_n 2, 1) := by decide +kernel
theorem dX8_move_112 : decode cX8_move 112 = .ok (.aload 7, 2) := by decide +kernel
theorem dX8_move_114 : decode cX8_move 114 = .ok (.getfield 270, 3) := by decide +kernel
theorem dX8_move_117 : decode cX8_move 117 = .ok (.iload 4, 2) := by decide +kernel
theorem dX8_move_119 : decode cX8_move 119 = .ok (.iload 5, 2) := by decide +kernel
theorem dX8_move_121 : decode cX8_move 121 = .ok (.invokestatic 282, 3) := by decide +kernel
theorem dX8_move_124 : decode cX8_move 124 = .ok (.iload 5, 2) := by decide +kernel
theorem dX8_move_126 : decode cX8_move 126 = .ok (.ireturn, 1) := by decide +kernel
theorem dX8_holds_0 : decode cX8_holds 0 = .ok (.iload_n 1, 1) := by decide +kernel
theorem dX8_holds_1 : decode cX8_holds 1 = .ok (.invokestatic 238, 3) := by decide +kernel
theorem dX8_holds_4 : decode cX8_holds 4 = .ok (.ifCond .ne 9, 3) := by decide +kernel
theorem dX8_holds_7 : decode cX8_holds 7 = .ok (.aload_n 0, 1) := by decide +kernel
theorem dX8_holds_8 : decode cX8_holds 8 = .ok (.iconst 1, 1) := by decide +kernel
theorem dX8_holds_9 : decode cX8_holds 9 = .ok (.invokevirtual 75, 3) := by decide +kernel
theorem dX8_holds_12 : decode cX8_holds 12 = .ok (.ireturn, 1) := by decide +kernel
theorem dX8_holds_13 : decode cX8_holds 13 = .ok (.aload_n 0, 1) := by decide +kernel
theorem dX8_holds_14 : decode cX8_holds 14 = .ok (.getfield 58, 3) := by decide +kernel
theorem dX8_holds_17 : decode cX8_holds 17 = .ok (.iload_n 1, 1) := by decide +kernel
theorem dX8_holds_18 : decode cX8_holds 18 = .ok (.aaload, 1) := by decide +kernel
theorem dX8_holds_19 : decode cX8_holds 19 = .ok (.invokevirtual 241, 3) := by decide +kernel
theorem dX8_holds_22 : decode cX8_holds 22 = .ok (.ifCond .eq 9, 3) := by decide +kernel
theorem dX8_holds_25 : decode cX8_holds 25 = .ok (.aload_n 0, 1) := by decide +kernel
theorem dX8_holds_26 : decode cX8_holds 26 = .ok (.iconst 2, 1) := by decide +kernel
theorem dX8_holds_27 : decode cX8_holds 27 = .ok (.invokevirtual 75, 3) := by decide +kernel
theorem dX8_holds_30 : decode cX8_holds 30 = .ok (.ireturn, 1) := by decide +kernel
theorem dX8_holds_31 : decode cX8_holds 31 = .ok (.aload_n 0, 1) := by decide +kernel
theorem dX8_holds_32 : decode cX8_holds 32 = .ok (.getfield 58, 3) := by decide +kernel
theorem dX8_holds_35 : decode cX8_holds 35 = .ok (.iload_n 1, 1) := by decide +kernel
theorem dX8_holds_36 : decode cX8_holds 36 = .ok (.aaload, 1) := by decide +kernel
theorem dX8_holds_37 : decode cX8_holds 37 = .ok (.aload_n 0, 1) := by decide +kernel
theorem dX8_holds_38 : decode cX8_holds 38 = .ok (.getfield 10, 3) := by decide +kernel
theorem dX8_holds_41 : decode cX8_holds 41 = .ok (.getfield 79, 3) := by decide +kernel
theorem dX8_holds_44 : decode cX8_holds 44 = .ok (.invokevirtual 288, 3) := by decide +kernel
theorem dX8_holds_47 : decode cX8_holds 47 = .ok (.ireturn, 1) := by decide +kernel
theorem dX8_judge_0 : decode cX8_judge 0 = .ok (.iload_n 1, 1) := by decide +kernel
theorem dX8_judge_1 : decode cX8_judge 1 = .ok (.invokestatic 238, 3) := by decide +kernel
theorem dX8_judge_4 : decode cX8_judge 4 = .ok (.ifCond .ne 9, 3) := by decide +kernel
theorem dX8_judge_7 : decode cX8_judge 7 = .ok (.aload_n 0, 1) := by decide +kernel
theorem dX8_judge_8 : decode cX8_judge 8 = .ok (.iconst 1, 1) := by decide +kernel
theorem dX8_judge_9 : decode cX8_judge 9 = .ok (.invokevirtual 75, 3) := by decide +kernel
theorem dX8_judge_12 : decode cX8_judge 12 = .ok (.ireturn, 1) := by decide +kernel
theorem dX8_judge_13 : decode cX8_judge 13 = .ok (.aload_n 0, 1) := by decide +kernel
theorem dX8_judge_14 : decode cX8_judge 14 = .ok (.getfield 58, 3) := by decide +kernel
theorem dX8_judge_17 : decode cX8_judge 17 = .ok (.iload_n 1, 1) := by decide +kernel
theorem dX8_judge_18 : decode cX8_judge 18 = .ok (.aaload, 1) := by decide +kernel
theorem dX8_judge_19 : decode cX8_judge 19 = .ok (.invokevirtual 241, 3) := by decide +kernel
theorem dX8_judge_22 : decode cX8_judge 22 = .ok (.ifCond .eq 9, 3) := by decide +kernel
theorem dX8_judge_25 : decode cX8_judge 25 = .ok (.aload_n 0, 1) := by decide +kernel
theorem dX8_judge_26 : decode cX8_judge 26 = .ok (.iconst 2, 1) := by decide +kernel
theorem dX8_judge_27 : decode cX8_judge 27 = .ok (.invokevirtual 75, 3) := by decide +kernel
theorem dX8_judge_30 : decode cX8_judge 30 = .ok (.ireturn, 1) := by decide +kernel
theorem dX8_judge_31 : decode cX8_judge 31 = .ok (.aload_n 0, 1) := by decide +kernel
theorem dX8_judge_32 : decode cX8_judge 32 = .ok (.getfield 58, 3) := by decide +kernel
theorem dX8_judge_35 : decode cX8_judge 35 = .ok (.iload_n 1, 1) := by decide +kernel
theorem dX8_judge_36 : decode cX8_judge 36 = .ok (.aaload, 1) := by decide +kernel
theorem dX8_judge_37 : decode cX8_judge 37 = .ok (.aload_n 0, 1) := by decide +kernel
theorem dX8_judge_38 : decode cX8_judge 38 = .ok (.getfield 10, 3) := by decide +kernel
theorem dX8_judge_41 : decode cX8_judge 41 = .ok (.getfield 79, 3) := by decide +kernel
theorem dX8_judge_44 : decode cX8_judge 44 = .ok (.invokevirtual 291, 3) := by decide +kernel
theorem dX8_judge_47 : decode cX8_judge 47 = .ok (.ireturn, 1) := by decide +kernel
theorem dX8_image_0 : decode cX8_image 0 = .ok (.aload_n 0, 1) := by decide +kernel
theorem dX8_image_1 : decode cX8_image 1 = .ok (.getfield 16, 3) := by decide +kernel
theorem dX8_image_4 : decode cX8_image 4 = .ok (.aload_n 0, 1) := by decide +kernel
theorem dX8_image_5 : decode cX8_image 5 = .ok (.getfield 10, 3) := by decide +kernel
theorem dX8_image_8 : decode cX8_image 8 = .ok (.invokevirtual 294, 3) := by decide +kernel
theorem dX8_image_11 : decode cX8_image 11 = .ok (.aload_n 0, 1) := by decide +kernel
theorem dX8_image_12 : decode cX8_image 12 = .ok (.dup, 1) := by decide +kernel
theorem dX8_image_13 : decode cX8_image 13 = .ok (.getfield 67, 3) := by decide +kernel
theorem dX8_image_16 : decode cX8_image 16 = .ok (.iconst 1, 1) := by decide +kernel
theorem dX8_image_17 : decode cX8_image 17 = .ok (.iadd, 1) := by decide +kernel
theorem dX8_image_18 : decode cX8_image 18 = .ok (.putfield 67, 3) := by decide +kernel
theorem dX8_image_21 : decode cX8_image 21 = .ok (.aload_n 0, 1) := by decide +kernel
theorem dX8_image_22 : decode cX8_image 22 = .ok (.getfield 67, 3) := by decide +kernel
theorem dX8_image_25 : decode cX8_image 25 = .ok (.ireturn, 1) := by decide +kernel
theorem dX8_restore_0 : decode cX8_restore 0 = .ok (.aload_n 0, 1) := by decide +kernel
theorem dX8_restore_1 : decode cX8_restore 1 = .ok (.getfield 67, 3) := by decide +kernel
theorem dX8_restore_4 : decode cX8_restore 4 = .ok (.ifCond .ne 9, 3) := by decide +kernel
theorem dX8_restore_7 : decode cX8_restore 7 = .ok (.aload_n 0, 1) := by decide +kernel
theorem dX8_restore_8 : decode cX8_restore 8 = .ok (.iconst 2, 1) := by decide +kernel
theorem dX8_restore_9 : decode cX8_restore 9 = .ok (.invokevirtual 75, 3) := by decide +kernel
theorem dX8_restore_12 : decode cX8_restore 12 = .ok (.ireturn, 1) := by decide +kernel
theorem dX8_restore_13 : decode cX8_restore 13 = .ok (.aload_n 0, 1) := by decide +kernel
theorem dX8_restore_14 : decode cX8_restore 14 = .ok (.getfield 10, 3) := by decide +kernel
theorem dX8_restore_17 : decode cX8_restore 17 = .ok (.aload_n 0, 1) := by decide +kernel
theorem dX8_restore_18 : decode cX8_restore 18 = .ok (.getfield 16, 3) := by decide +kernel
theorem dX8_restore_21 : decode cX8_restore 21 = .ok (.invokevirtual 294, 3) := by decide +kernel
theorem dX8_restore_24 : decode cX8_restore 24 = .ok (.aload_n 0, 1) := by decide +kernel
theorem dX8_restore_25 : decode cX8_restore 25 = .ok (.getfield 10, 3) := by decide +kernel
theorem dX8_restore_28 : decode cX8_restore 28 = .ok (.getfield 79, 3) := by decide +kernel
theorem dX8_restore_31 : decode cX8_restore 31 = .ok (.getfield 191, 3) := by decide +kernel
theorem dX8_restore_34 : decode cX8_restore 34 = .ok (.ireturn, 1) := by decide +kernel
theorem dX8_tell_0 : decode cX8_tell 0 = .ok (.aload_n 0, 1) := by decide +kernel
theorem dX8_tell_1 : decode cX8_tell 1 = .ok (.getfield 10, 3) := by decide +kernel
theorem dX8_tell_4 : decode cX8_tell 4 = .ok (.getfield 297, 3) := by decide +kernel
theorem dX8_tell_7 : decode cX8_tell 7 = .ok (.bipush 24, 2) := by decide +kernel
theorem dX8_tell_9 : decode cX8_tell 9 = .ok (.if_icmp .lt 9, 3) := by decide +kernel
theorem dX8_tell_12 : decode cX8_tell 12 = .ok (.aload_n 0, 1) := by decide +kernel
theorem dX8_tell_13 : decode cX8_tell 13 = .ok (.iconst 4, 1) := by decide +kernel
theorem dX8_tell_14 : decode cX8_tell 14 = .ok (.invokevirtual 75, 3) := by decide +kernel
theorem dX8_tell_17 : decode cX8_tell 17 = .ok (.ireturn, 1) := by decide +kernel
theorem dX8_tell_18 : decode cX8_tell 18 = .ok (.aload_n 0, 1) := by decide +kernel
theorem dX8_tell_19 : decode cX8_tell 19 = .ok (.getfield 10, 3) := by decide +kernel
theorem dX8_tell_22 : decode cX8_tell 22 = .ok (.getfield 300, 3) := by decide +kernel
theorem dX8_tell_25 : decode cX8_tell 25 = .ok (.aload_n 0, 1) := by decide +kernel
theorem dX8_tell_26 : decode cX8_tell 26 = .ok (.getfield 10, 3) := by decide +kernel
theorem dX8_tell_29 : decode cX8_tell 29 = .ok (.getfield 297, 3) := by decide +kernel
theorem dX8_tell_32 : decode cX8_tell 32 = .ok (.iload_n 1, 1) := by decide +kernel
theorem dX8_tell_33 : decode cX8_tell 33 = .ok (.iastore, 1) := by decide +kernel
theorem dX8_tell_34 : decode cX8_tell 34 = .ok (.aload_n 0, 1) := by decide +kernel
theorem dX8_tell_35 : decode cX8_tell 35 = .ok (.getfield 10, 3) := by decide +kernel
theorem dX8_tell_38 : decode cX8_tell 38 = .ok (.dup, 1) := by decide +kernel
theorem dX8_tell_39 : decode cX8_tell 39 = .ok (.getfield 297, 3) := by decide +kernel
theorem dX8_tell_42 : decode cX8_tell 42 = .ok (.iconst 1, 1) := by decide +kernel
theorem dX8_tell_43 : decode cX8_tell 43 = .ok (.iadd, 1) := by decide +kernel
theorem dX8_tell_44 : decode cX8_tell 44 = .ok (.putfield 297, 3) := by decide +kernel
theorem dX8_tell_47 : decode cX8_tell 47 = .ok (.aload_n 0, 1) := by decide +kernel
theorem dX8_tell_48 : decode cX8_tell 48 = .ok (.getfield 10, 3) := by decide +kernel
theorem dX8_tell_51 : decode cX8_tell 51 = .ok (.getfield 297, 3) := by decide +kernel
theorem dX8_tell_54 : decode cX8_tell 54 = .ok (.ireturn, 1) := by decide +kernel
theorem dX8_check_0 : decode cX8_check 0 = .ok (.aload_n 0, 1) := by decide +kernel
theorem dX8_check_1 : decode cX8_check 1 = .ok (.getfield 10, 3) := by decide +kernel
theorem dX8_check_4 : decode cX8_check 4 = .ok (.invokevirtual 303, 3) := by decide +kernel
theorem dX8_check_7 : decode cX8_check 7 = .ok (.istore_n 1, 1) := by decide +kernel
theorem dX8_check_8 : decode cX8_check 8 = .ok (.aload_n 0, 1) := by decide +kernel
theorem dX8_check_9 : decode cX8_check 9 = .ok (.getfield 10, 3) := by decide +kernel
theorem dX8_check_12 : decode cX8_check 12 = .ok (.iconst 0, 1) := by decide +kernel
theorem dX8_check_13 : decode cX8_check 13 = .ok (.putfield 297, 3) := by decide +kernel
theorem dX8_check_16 : decode cX8_check 16 = .ok (.iload_n 1, 1) := by decide +kernel
theorem dX8_check_17 : decode cX8_check 17 = .ok (.iconst 1, 1) := by decide +kernel
theorem dX8_check_18 : decode cX8_check 18 = .ok (.iadd, 1) := by decide +kernel
theorem dX8_check_19 : decode cX8_check 19 = .ok (.ireturn, 1) := by decide +kernel
theorem dX8_count_0 : decode cX8_count 0 = .ok (.aload_n 0, 1) := by decide +kernel
theorem dX8_count_1 : decode cX8_count 1 = .ok (.getfield 10, 3) := by decide +kernel
theorem dX8_count_4 : decode cX8_count 4 = .ok (.getfield 79, 3) := by decide +kernel
theorem dX8_count_7 : decode cX8_count 7 = .ok (.astore_n 2, 1) := by decide +kernel
theorem dX8_count_8 : decode cX8_count 8 = .ok (.iload_n 1, 1) := by decide +kernel
theorem dX8_count_9 : decode cX8_count 9 = .ok (.tableswitch 120 0 9 #[55, 60, 65, 70, 75, 80, 85, 96, 104, 112], 55) := by decide +kernel
theorem dX8_count_64 : decode cX8_count 64 = .ok (.aload_n 2, 1) := by decide +kernel
theorem dX8_count_65 : decode cX8_count 65 = .ok (.getfield 82, 3) := by decide +kernel
theorem dX8_count_68 : decode cX8_count 68 = .ok (.ireturn, 1) := by decide +kernel
theorem dX8_count_69 : decode cX8_count 69 = .ok (.aload_n 2, 1) := by decide +kernel
theorem dX8_count_70 : decode cX8_count 70 = .ok (.getfield 114, 3) := by decide +kernel
theorem dX8_count_73 : decode cX8_count 73 = .ok (.ireturn, 1) := by decide +kernel
theorem dX8_count_74 : decode cX8_count 74 = .ok (.aload_n 2, 1) := by decide +kernel
theorem dX8_count_75 : decode cX8_count 75 = .ok (.getfield 145, 3) := by decide +kernel
theorem dX8_count_78 : decode cX8_count 78 = .ok (.ireturn, 1) := by decide +kernel
theorem dX8_count_79 : decode cX8_count 79 = .ok (.aload_n 2, 1) := by decide +kernel
theorem dX8_count_80 : decode cX8_count 80 = .ok (.getfield 191, 3) := by decide +kernel
theorem dX8_count_83 : decode cX8_count 83 = .ok (.ireturn, 1) := by decide +kernel
theorem dX8_count_84 : decode cX8_count 84 = .ok (.aload_n 2, 1) := by decide +kernel
theorem dX8_count_85 : decode cX8_count 85 = .ok (.getfield 211, 3) := by decide +kernel
theorem dX8_count_88 : decode cX8_count 88 = .ok (.ireturn, 1) := by decide +kernel
theorem dX8_count_89 : decode cX8_count 89 = .ok (.aload_n 2, 1) := by decide +kernel
theorem dX8_count_90 : decode cX8_count 90 = .ok (.invokevirtual 197, 3) := by decide +kernel
theorem dX8_count_93 : decode cX8_count 93 = .ok (.ireturn, 1) := by decide +kernel
theorem dX8_count_94 : decode cX8_count 94 = .ok (.aload_n 0, 1) := by decide +kernel
theorem dX8_count_95 : decode cX8_count 95 = .ok (.getfield 10, 3) := by decide +kernel
theorem dX8_count_98 : decode cX8_count 98 = .ok (.getfield 157, 3) := by decide +kernel
theorem dX8_count_101 : decode cX8_count 101 = .ok (.getfield 161, 3) := by decide +kernel
theorem dX8_count_104 : decode cX8_count 104 = .ok (.ireturn, 1) := by decide +kernel
theorem dX8_count_105 : decode cX8_count 105 = .ok (.aload_n 0, 1) := by decide +kernel
theorem dX8_count_106 : decode cX8_count 106 = .ok (.getfield 10, 3) := by decide +kernel
theorem dX8_count_109 : decode cX8_count 109 = .ok (.getfield 297, 3) := by decide +kernel
theorem dX8_count_112 : decode cX8_count 112 = .ok (.ireturn, 1) := by decide +kernel
theorem dX8_count_113 : decode cX8_count 113 = .ok (.aload_n 0, 1) := by decide +kernel
theorem dX8_count_114 : decode cX8_count 114 = .ok (.getfield 52, 3) := by decide +kernel
theorem dX8_count_117 : decode cX8_count 117 = .ok (.getfield 256, 3) := by decide +kernel
theorem dX8_count_120 : decode cX8_count 120 = .ok (.ireturn, 1) := by decide +kernel
theorem dX8_count_121 : decode cX8_count 121 = .ok (.aload_n 0, 1) := by decide +kernel
theorem dX8_count_122 : decode cX8_count 122 = .ok (.getfield 10, 3) := by decide +kernel
theorem dX8_count_125 : decode cX8_count 125 = .ok (.getfield 204, 3) := by decide +kernel
theorem dX8_count_128 : decode cX8_count 128 = .ok (.ireturn, 1) := by decide +kernel
theorem dX8_count_129 : decode cX8_count 129 = .ok (.aload_n 0, 1) := by decide +kernel
theorem dX8_count_130 : decode cX8_count 130 = .ok (.iconst 1, 1) := by decide +kernel
theorem dX8_count_131 : decode cX8_count 131 = .ok (.invokevirtual 75, 3) := by decide +kernel
theorem dX8_count_134 : decode cX8_count 134 = .ok (.ireturn, 1) := by decide +kernel
theorem dX8_told_0 : decode cX8_told 0 = .ok (.iload_n 1, 1) := by decide +kernel
theorem dX8_told_1 : decode cX8_told 1 = .ok (.iconst 1, 1) := by decide +kernel
theorem dX8_told_2 : decode cX8_told 2 = .ok (.if_icmp .lt 9, 3) := by decide +kernel
theorem dX8_told_5 : decode cX8_told 5 = .ok (.iload_n 1, 1) := by decide +kernel
theorem dX8_told_6 : decode cX8_told 6 = .ok (.bipush 6, 2) := by decide +kernel
theorem dX8_told_8 : decode cX8_told 8 = .ok (.if_icmp .le 9, 3) := by decide +kernel
theorem dX8_told_11 : decode cX8_told 11 = .ok (.aload_n 0, 1) := by decide +kernel
theorem dX8_told_12 : decode cX8_told 12 = .ok (.iconst 1, 1) := by decide +kernel
theorem dX8_told_13 : decode cX8_told 13 = .ok (.invokevirtual 75, 3) := by decide +kernel
theorem dX8_told_16 : decode cX8_told 16 = .ok (.ireturn, 1) := by decide +kernel
theorem dX8_told_17 : decode cX8_told 17 = .ok (.aload_n 0, 1) := by decide +kernel
theorem dX8_told_18 : decode cX8_told 18 = .ok (.getfield 63, 3) := by decide +kernel
theorem dX8_told_21 : decode cX8_told 21 = .ok (.iload_n 1, 1) := by decide +kernel
theorem dX8_told_22 : decode cX8_told 22 = .ok (.iaload, 1) := by decide +kernel
theorem dX8_told_23 : decode cX8_told 23 = .ok (.ireturn, 1) := by decide +kernel
theorem dX8_fail_0 : decode cX8_fail 0 = .ok (.iload_n 1, 1) := by decide +kernel
theorem dX8_fail_1 : decode cX8_fail 1 = .ok (.ifCond .lt 22, 3) := by decide +kernel
theorem dX8_fail_4 : decode cX8_fail 4 = .ok (.iload_n 1, 1) := by decide +kernel
theorem dX8_fail_5 : decode cX8_fail 5 = .ok (.aload_n 0, 1) := by decide +kernel
theorem dX8_fail_6 : decode cX8_fail 6 = .ok (.getfield 63, 3) := by decide +kernel
theorem dX8_fail_9 : decode cX8_fail 9 = .ok (.arraylength, 1) := by decide +kernel
theorem dX8_fail_10 : decode cX8_fail 10 = .ok (.if_icmp .ge 13, 3) := by decide +kernel
theorem dX8_fail_13 : decode cX8_fail 13 = .ok (.aload_n 0, 1) := by decide +kernel
theorem dX8_fail_14 : decode cX8_fail 14 = .ok (.getfield 63, 3) := by decide +kernel
theorem dX8_fail_17 : decode cX8_fail 17 = .ok (.iload_n 1, 1) := by decide +kernel
theorem dX8_fail_18 : decode cX8_fail 18 = .ok (.dup2, 1) := by decide +kernel
theorem dX8_fail_19 : decode cX8_fail 19 = .ok (.iaload, 1) := by decide +kernel
theorem dX8_fail_20 : decode cX8_fail 20 = .ok (.iconst 1, 1) := by decide +kernel
theorem dX8_fail_21 : decode cX8_fail 21 = .ok (.iadd, 1) := by decide +kernel
theorem dX8_fail_22 : decode cX8_fail 22 = .ok (.iastore, 1) := by decide +kernel
theorem dX8_fail_23 : decode cX8_fail 23 = .ok (.ldc_w 306, 3) := by decide +kernel
theorem dX8_fail_26 : decode cX8_fail 26 = .ok (.iload_n 1, 1) := by decide +kernel
theorem dX8_fail_27 : decode cX8_fail 27 = .ok (.isub, 1) := by decide +kernel
theorem dX8_fail_28 : decode cX8_fail 28 = .ok (.ireturn, 1) := by decide +kernel
theorem dX8_isKindAndNumber_0 : decode cX8_isKindAndNumber 0 = .ok (.iload_n 0, 1) := by decide +kernel
theorem dX8_isKindAndNumber_1 : decode cX8_isKindAndNumber 1 = .ok (.ifCond .lt 13, 3) := by decide +kernel
theorem dX8_isKindAndNumber_4 : decode cX8_isKindAndNumber 4 = .ok (.iload_n 0, 1) := by decide +kernel
theorem dX8_isKindAndNumber_5 : decode cX8_isKindAndNumber 5 = .ok (.bipush 70, 2) := by decide +kernel
theorem dX8_isKindAndNumber_7 : decode cX8_isKindAndNumber 7 = .ok (.if_icmp .ge 7, 3) := by decide +kernel
theorem dX8_isKindAndNumber_10 : decode cX8_isKindAndNumber 10 = .ok (.iconst 1, 1) := by decide +kernel
theorem dX8_isKindAndNumber_11 : decode cX8_isKindAndNumber 11 = .ok (.goto 4, 3) := by decide +kernel
theorem dX8_isKindAndNumber_14 : decode cX8_isKindAndNumber 14 = .ok (.iconst 0, 1) := by decide +kernel
theorem dX8_isKindAndNumber_15 : decode cX8_isKindAndNumber 15 = .ok (.ireturn, 1) := by decide +kernel
theorem dX8_isUnder_0 : decode cX8_isUnder 0 = .ok (.iload_n 0, 1) := by decide +kernel
theorem dX8_isUnder_1 : decode cX8_isUnder 1 = .ok (.istore_n 2, 1) := by decide +kernel
theorem dX8_isUnder_2 : decode cX8_isUnder 2 = .ok (.iconst 0, 1) := by decide +kernel
theorem dX8_isUnder_3 : decode cX8_isUnder 3 = .ok (.istore_n 3, 1) := by decide +kernel
theorem dX8_isUnder_4 : decode cX8_isUnder 4 = .ok (.iload_n 3, 1) := by decide +kernel
theorem dX8_isUnder_5 : decode cX8_isUnder 5 = .ok (.bipush 7, 2) := by decide +kernel
theorem dX8_isUnder_7 : decode cX8_isUnder 7 = .ok (.if_icmp .ge 32, 3) := by decide +kernel
theorem dX8_isUnder_10 : decode cX8_isUnder 10 = .ok (.iload_n 2, 1) := by decide +kernel
theorem dX8_isUnder_11 : decode cX8_isUnder 11 = .ok (.ifCond .lt 28, 3) := by decide +kernel
theorem dX8_isUnder_14 : decode cX8_isUnder 14 = .ok (.iload_n 2, 1) := by decide +kernel
theorem dX8_isUnder_15 : decode cX8_isUnder 15 = .ok (.bipush 7, 2) := by decide +kernel
theorem dX8_isUnder_17 : decode cX8_isUnder 17 = .ok (.if_icmp .ge 22, 3) := by decide +kernel
theorem dX8_isUnder_20 : decode cX8_isUnder 20 = .ok (.iload_n 2, 1) := by decide +kernel
theorem dX8_isUnder_21 : decode cX8_isUnder 21 = .ok (.iload_n 1, 1) := by decide +kernel
theorem dX8_isUnder_22 : decode cX8_isUnder 22 = .ok (.if_icmp .ne 5, 3) := by decide +kernel
theorem dX8_isUnder_25 : decode cX8_isUnder 25 = .ok (.iconst 1, 1) := by decide +kernel
theorem dX8_isUnder_26 : decode cX8_isUnder 26 = .ok (.ireturn, 1) := by decide +kernel
theorem dX8_isUnder_27 : decode cX8_isUnder 27 = .ok (.getstatic 307, 3) := by decide +kernel
theorem dX8_isUnder_30 : decode cX8_isUnder 30 = .ok (.iload_n 2, 1) := by decide +kernel
theorem dX8_isUnder_31 : decode cX8_isUnder 31 = .ok (.iaload, 1) := by decide +kernel
theorem dX8_isUnder_32 : decode cX8_isUnder 32 = .ok (.istore_n 2, 1) := by decide +kernel
theorem dX8_isUnder_33 : decode cX8_isUnder 33 = .ok (.iinc 3 1, 3) := by decide +kernel
theorem dX8_isUnder_36 : decode cX8_isUnder 36 = .ok (.goto (-32), 3) := by decide +kernel
theorem dX8_isUnder_39 : decode cX8_isUnder 39 = .ok (.iconst 0, 1) := by decide +kernel
theorem dX8_isUnder_40 : decode cX8_isUnder 40 = .ok (.ireturn, 1) := by decide +kernel
theorem dX8_isField_0 : decode cX8_isField 0 = .ok (.iload_n 0, 1) := by decide +kernel
theorem dX8_isField_1 : decode cX8_isField 1 = .ok (.ifCond .lt 13, 3) := by decide +kernel
theorem dX8_isField_4 : decode cX8_isField 4 = .ok (.iload_n 0, 1) := by decide +kernel
theorem dX8_isField_5 : decode cX8_isField 5 = .ok (.bipush 7, 2) := by decide +kernel
theorem dX8_isField_7 : decode cX8_isField 7 = .ok (.if_icmp .ge 7, 3) := by decide +kernel
theorem dX8_isField_10 : decode cX8_isField 10 = .ok (.iconst 1, 1) := by decide +kernel
theorem dX8_isField_11 : decode cX8_isField 11 = .ok (.goto 4, 3) := by decide +kernel
theorem dX8_isField_14 : decode cX8_isField 14 = .ok (.iconst 0, 1) := by decide +kernel
theorem dX8_isField_15 : decode cX8_isField 15 = .ok (.ireturn, 1) := by decide +kernel
theorem dX8_areTwoFields_0 : decode cX8_areTwoFields 0 = .ok (.iload_n 0, 1) := by decide +kernel
theorem dX8_areTwoFields_1 : decode cX8_areTwoFields 1 = .ok (.invokestatic 142, 3) := by decide +kernel
theorem dX8_areTwoFields_4 : decode cX8_areTwoFields 4 = .ok (.ifCond .eq 19, 3) := by decide +kernel
theorem dX8_areTwoFields_7 : decode cX8_areTwoFields 7 = .ok (.iload_n 1, 1) := by decide +kernel
theorem dX8_areTwoFields_8 : decode cX8_areTwoFields 8 = .ok (.invokestatic 142, 3) := by decide +kernel
theorem dX8_areTwoFields_11 : decode cX8_areTwoFields 11 = .ok (.ifCond .eq 12, 3) := by decide +kernel
theorem dX8_areTwoFields_14 : decode cX8_areTwoFields 14 = .ok (.iload_n 0, 1) := by decide +kernel
theorem dX8_areTwoFields_15 : decode cX8_areTwoFields 15 = .ok (.iload_n 1, 1) := by decide +kernel
theorem dX8_areTwoFields_16 : decode cX8_areTwoFields 16 = .ok (.if_icmp .eq 7, 3) := by decide +kernel
theorem dX8_areTwoFields_19 : decode cX8_areTwoFields 19 = .ok (.iconst 1, 1) := by decide +kernel
theorem dX8_areTwoFields_20 : decode cX8_areTwoFields 20 = .ok (.goto 4, 3) := by decide +kernel
theorem dX8_areTwoFields_23 : decode cX8_areTwoFields 23 = .ok (.iconst 0, 1) := by decide +kernel
theorem dX8_areTwoFields_24 : decode cX8_areTwoFields 24 = .ok (.ireturn, 1) := by decide +kernel
theorem dX8_isUse_0 : decode cX8_isUse 0 = .ok (.iload_n 0, 1) := by decide +kernel
theorem dX8_isUse_1 : decode cX8_isUse 1 = .ok (.ifCond .lt 12, 3) := by decide +kernel
theorem dX8_isUse_4 : decode cX8_isUse 4 = .ok (.iload_n 0, 1) := by decide +kernel
theorem dX8_isUse_5 : decode cX8_isUse 5 = .ok (.iconst 2, 1) := by decide +kernel
theorem dX8_isUse_6 : decode cX8_isUse 6 = .ok (.if_icmp .ge 7, 3) := by decide +kernel
theorem dX8_isUse_9 : decode cX8_isUse 9 = .ok (.iconst 1, 1) := by decide +kernel
theorem dX8_isUse_10 : decode cX8_isUse 10 = .ok (.goto 4, 3) := by decide +kernel
theorem dX8_isUse_13 : decode cX8_isUse 13 = .ok (.iconst 0, 1) := by decide +kernel
theorem dX8_isUse_14 : decode cX8_isUse 14 = .ok (.ireturn, 1) := by decide +kernel
theorem dX8_isSheet_0 : decode cX8_isSheet 0 = .ok (.iload_n 0, 1) := by decide +kernel
theorem dX8_isSheet_1 : decode cX8_isSheet 1 = .ok (.ifCond .lt 12, 3) := by decide +kernel
theorem dX8_isSheet_4 : decode cX8_isSheet 4 = .ok (.iload_n 0, 1) := by decide +kernel
theorem dX8_isSheet_5 : decode cX8_isSheet 5 = .ok (.iconst 4, 1) := by decide +kernel
theorem dX8_isSheet_6 : decode cX8_isSheet 6 = .ok (.if_icmp .ge 7, 3) := by decide +kernel
theorem dX8_isSheet_9 : decode cX8_isSheet 9 = .ok (.iconst 1, 1) := by decide +kernel
theorem dX8_isSheet_10 : decode cX8_isSheet 10 = .ok (.goto 4, 3) := by decide +kernel
theorem dX8_isSheet_13 : decode cX8_isSheet 13 = .ok (.iconst 0, 1) := by decide +kernel
theorem dX8_isSheet_14 : decode cX8_isSheet 14 = .ok (.ireturn, 1) := by decide +kernel
theorem dX8_isWidth_0 : decode cX8_isWidth 0 = .ok (.iload_n 0, 1) := by decide +kernel
theorem dX8_isWidth_1 : decode cX8_isWidth 1 = .ok (.ifCond .eq 21, 3) := by decide +kernel
theorem dX8_isWidth_4 : decode cX8_isWidth 4 = .ok (.iload_n 0, 1) := by decide +kernel
theorem dX8_isWidth_5 : decode cX8_isWidth 5 = .ok (.bipush 8, 2) := by decide +kernel
theorem dX8_isWidth_7 : decode cX8_isWidth 7 = .ok (.if_icmp .eq 15, 3) := by decide +kernel
theorem dX8_isWidth_10 : decode cX8_isWidth 10 = .ok (.iload_n 0, 1) := by decide +kernel
theorem dX8_isWidth_11 : decode cX8_isWidth 11 = .ok (.bipush 16, 2) := by decide +kernel
theorem dX8_isWidth_13 : decode cX8_isWidth 13 = .ok (.if_icmp .eq 9, 3) := by decide +kernel
theorem dX8_isWidth_16 : decode cX8_isWidth 16 = .ok (.iload_n 0, 1) := by decide +kernel
theorem dX8_isWidth_17 : decode cX8_isWidth 17 = .ok (.bipush 32, 2) := by decide +kernel
theorem dX8_isWidth_19 : decode cX8_isWidth 19 = .ok (.if_icmp .ne 7, 3) := by decide +kernel
theorem dX8_isWidth_22 : decode cX8_isWidth 22 = .ok (.iconst 1, 1) := by decide +kernel
theorem dX8_isWidth_23 : decode cX8_isWidth 23 = .ok (.goto 4, 3) := by decide +kernel
theorem dX8_isWidth_26 : decode cX8_isWidth 26 = .ok (.iconst 0, 1) := by decide +kernel
theorem dX8_isWidth_27 : decode cX8_isWidth 27 = .ok (.ireturn, 1) := by decide +kernel
theorem dX8_commonDivisor_0 : decode cX8_commonDivisor 0 = .ok (.iload_n 1, 1) := by decide +kernel
theorem dX8_commonDivisor_1 : decode cX8_commonDivisor 1 = .ok (.istore_n 2, 1) := by decide +kernel
theorem dX8_commonDivisor_2 : decode cX8_commonDivisor 2 = .ok (.iload_n 2, 1) := by decide +kernel
theorem dX8_commonDivisor_3 : decode cX8_commonDivisor 3 = .ok (.iconst 1, 1) := by decide +kernel
theorem dX8_commonDivisor_4 : decode cX8_commonDivisor 4 = .ok (.if_icmp .le 23, 3) := by decide +kernel
theorem dX8_commonDivisor_7 : decode cX8_commonDivisor 7 = .ok (.iload_n 0, 1) := by decide +kernel
theorem dX8_commonDivisor_8 : decode cX8_commonDivisor 8 = .ok (.iload_n 2, 1) := by decide +kernel
theorem dX8_commonDivisor_9 : decode cX8_commonDivisor 9 = .ok (.irem, 1) := by decide +kernel
theorem dX8_commonDivisor_10 : decode cX8_commonDivisor 10 = .ok (.ifCond .ne 11, 3) := by decide +kernel
theorem dX8_commonDivisor_13 : decode cX8_commonDivisor 13 = .ok (.iload_n 1, 1) := by decide +kernel
theorem dX8_commonDivisor_14 : decode cX8_commonDivisor 14 = .ok (.iload_n 2, 1) := by decide +kernel
theorem dX8_commonDivisor_15 : decode cX8_commonDivisor 15 = .ok (.irem, 1) := by decide +kernel
theorem dX8_commonDivisor_16 : decode cX8_commonDivisor 16 = .ok (.ifCond .ne 5, 3) := by decide +kernel
theorem dX8_commonDivisor_19 : decode cX8_commonDivisor 19 = .ok (.iload_n 2, 1) := by decide +kernel
theorem dX8_commonDivisor_20 : decode cX8_commonDivisor 20 = .ok (.ireturn, 1) := by decide +kernel
theorem dX8_commonDivisor_21 : decode cX8_commonDivisor 21 = .ok (.iinc 2 (-1), 3) := by decide +kernel
theorem dX8_commonDivisor_24 : decode cX8_commonDivisor 24 = .ok (.goto (-22), 3) := by decide +kernel
theorem dX8_commonDivisor_27 : decode cX8_commonDivisor 27 = .ok (.iconst 1, 1) := by decide +kernel
theorem dX8_commonDivisor_28 : decode cX8_commonDivisor 28 = .ok (.ireturn, 1) := by decide +kernel
theorem dX9_init_0 : decode cX9_init 0 = .ok (.aload_n 0, 1) := by decide +kernel
theorem dX9_init_1 : decode cX9_init 1 = .ok (.invokespecial 3, 3) := by decide +kernel
theorem dX9_init_4 : decode cX9_init 4 = .ok (.aload_n 0, 1) := by decide +kernel
theorem dX9_init_5 : decode cX9_init 5 = .ok (.sipush 395, 3) := by decide +kernel
theorem dX9_init_8 : decode cX9_init 8 = .ok (.newarray .int, 2) := by decide +kernel
theorem dX9_init_10 : decode cX9_init 10 = .ok (.putfield 9, 3) := by decide +kernel
theorem dX9_init_13 : decode cX9_init 13 = .ok (.aload_n 0, 1) := by decide +kernel
theorem dX9_init_14 : decode cX9_init 14 = .ok (.sipush 395, 3) := by decide +kernel
theorem dX9_init_17 : decode cX9_init 17 = .ok (.newarray .int, 2) := by decide +kernel
theorem dX9_init_19 : decode cX9_init 19 = .ok (.putfield 13, 3) := by decide +kernel
theorem dX9_init_22 : decode cX9_init 22 = .ok (.aload_n 0, 1) := by decide +kernel
theorem dX9_init_23 : decode cX9_init 23 = .ok (.sipush 395, 3) := by decide +kernel
theorem dX9_init_26 : decode cX9_init 26 = .ok (.newarray .int, 2) := by decide +kernel
theorem dX9_init_28 : decode cX9_init 28 = .ok (.putfield 16, 3) := by decide +kernel
theorem dX9_init_31 : decode cX9_init 31 = .ok (.aload_n 0, 1) := by decide +kernel
theorem dX9_init_32 : decode cX9_init 32 = .ok (.bipush 7, 2) := by decide +kernel
theorem dX9_init_34 : decode cX9_init 34 = .ok (.newarray .int, 2) := by decide +kernel
theorem dX9_init_36 : decode cX9_init 36 = .ok (.putfield 19, 3) := by decide +kernel
theorem dX9_init_39 : decode cX9_init 39 = .ok (.aload_n 0, 1) := by decide +kernel
theorem dX9_init_40 : decode cX9_init 40 = .ok (.iconst 4, 1) := by decide +kernel
theorem dX9_init_41 : decode cX9_init 41 = .ok (.newarray .int, 2) := by decide +kernel
theorem dX9_init_43 : decode cX9_init 43 = .ok (.putfield 22, 3) := by decide +kernel
theorem dX9_init_46 : decode cX9_init 46 = .ok (.aload_n 0, 1) := by decide +kernel
theorem dX9_init_47 : decode cX9_init 47 = .ok (.iconst 4, 1) := by decide +kernel
theorem dX9_init_48 : decode cX9_init 48 = .ok (.newarray .int, 2) := by decide +kernel
theorem dX9_init_50 : decode cX9_init 50 = .ok (.putfield 25, 3) := by decide +kernel
theorem dX9_init_53 : decode cX9_init 53 = .ok (.aload_n 0, 1) := by decide +kernel
theorem dX9_init_54 : decode cX9_init 54 = .ok (.bipush 96, 2) := by decide +kernel
theorem dX9_init_56 : decode cX9_init 56 = .ok (.newarray .int, 2) := by decide +kernel
theorem dX9_init_58 : decode cX9_init 58 = .ok (.putfield 28, 3) := by decide +kernel
theorem dX9_init_61 : decode cX9_init 61 = .ok (.aload_n 0, 1) := by decide +kernel
theorem dX9_init_62 : decode cX9_init 62 = .ok (.bipush 60, 2) := by decide +kernel
theorem dX9_init_64 : decode cX9_init 64 = .ok (.newarray .int, 2) := by decide +kernel
theorem dX9_init_66 : decode cX9_init 66 = .ok (.putfield 31, 3) := by decide +kernel
theorem dX9_init_69 : decode cX9_init 69 = .ok (.aload_n 0, 1) := by decide +kernel
theorem dX9_init_70 : decode cX9_init 70 = .ok (.bipush 60, 2) := by decide +kernel
theorem dX9_init_72 : decode cX9_init 72 = .ok (.newarray .int, 2) := by decide +kernel
theorem dX9_init_74 : decode cX9_init 74 = .ok (.putfield 34, 3) := by decide +kernel
theorem dX9_init_77 : decode cX9_init 77 = .ok (.aload_n 0, 1) := by decide +kernel
theorem dX9_init_78 : decode cX9_init 78 = .ok (.iconst 3, 1) := by decide +kernel
theorem dX9_init_79 : decode cX9_init 79 = .ok (.newarray .int, 2) := by decide +kernel
theorem dX9_init_81 : decode cX9_init 81 = .ok (.putfield 37, 3) := by decide +kernel
theorem dX9_init_84 : decode cX9_init 84 = .ok (.aload_n 0, 1) := by decide +kernel
theorem dX9_init_85 : decode cX9_init 85 = .ok (.bipush 60, 2) := by decide +kernel
theorem dX9_init_87 : decode cX9_init 87 = .ok (.newarray .int, 2) := by decide +kernel
theorem dX9_init_89 : decode cX9_init 89 = .ok (.putfield 40, 3) := by decide +kernel
theorem dX9_init_92 : decode cX9_init 92 = .ok (.aload_n 0, 1) := by decide +kernel
theorem dX9_init_93 : decode cX9_init 93 = .ok (.sipush 512, 3) := by decide +kernel
theorem dX9_init_96 : decode cX9_init 96 = .ok (.newarray .int, 2) := by decide +kernel
theorem dX9_init_98 : decode cX9_init 98 = .ok (.putfield 43, 3) := by decide +kernel
theorem dX9_init_101 : decode cX9_init 101 = .ok (.aload_n 0, 1) := by decide +kernel
theorem dX9_init_102 : decode cX9_init 102 = .ok (.sipush 512, 3) := by decide +kernel
theorem dX9_init_105 : decode cX9_init 105 = .ok (.newarray .int, 2) := by decide +kernel
theorem dX9_init_107 : decode cX9_init 107 = .ok (.putfield 46, 3) := by decide +kernel
theorem dX9_init_110 : decode cX9_init 110 = .ok (.aload_n 0, 1) := by decide +kernel
theorem dX9_init_111 : decode cX9_init 111 = .ok (.sipush 512, 3) := by decide +kernel
theorem dX9_init_114 : decode cX9_init 114 = .ok (.newarray .int, 2) := by decide +kernel
theorem dX9_init_116 : decode cX9_init 116 = .ok (.putfield 49, 3) := by decide +kernel
theorem dX9_init_119 : decode cX9_init 119 = .ok (.aload_n 0, 1) := by decide +kernel
theorem dX9_init_120 : decode cX9_init 120 = .ok (.bipush 30, 2) := by decide +kernel
theorem dX9_init_122 : decode cX9_init 122 = .ok (.newarray .int, 2) := by decide +kernel
theorem dX9_init_124 : decode cX9_init 124 = .ok (.putfield 52, 3) := by decide +kernel
theorem dX9_init_127 : decode cX9_init 127 = .ok (.aload_n 0, 1) := by decide +kernel
theorem dX9_init_128 : decode cX9_init 128 = .ok (.getfield 9, 3) := by decide +kernel
theorem dX9_init_131 : decode cX9_init 131 = .ok (.iconst 1, 1) := by decide +kernel
theorem dX9_init_132 : decode cX9_init 132 = .ok (.iconst 1, 1) := by decide +kernel
theorem dX9_init_133 : decode cX9_init 133 = .ok (.iastore, 1) := by decide +kernel
theorem dX9_init_134 : decode cX9_init 134 = .ok (.iconst 0, 1) := by decide +kernel
theorem dX9_init_135 : decode cX9_init 135 = .ok (.istore_n 1, 1) := by decide +kernel
theorem dX9_init_136 : decode cX9_init 136 = .ok (.iload_n 1, 1) := by decide +kernel
theorem dX9_init_137 : decode cX9_init 137 = .ok (.bipush 7, 2) := by decide +kernel
theorem dX9_init_139 : decode cX9_init 139 = .ok (.if_icmp .ge 20, 3) := by decide +kernel
theorem dX9_init_142 : decode cX9_init 142 = .ok (.aload_n 0, 1) := by decide +kernel
theorem dX9_init_143 : decode cX9_init 143 = .ok (.getfield 9, 3) := by decide +kernel
theorem dX9_init_146 : decode cX9_init 146 = .ok (.bipush 8, 2) := by decide +kernel
theorem dX9_init_148 : decode cX9_init 148 = .ok (.iload_n 1, 1) := by decide +kernel
theorem dX9_init_149 : decode cX9_init 149 = .ok (.iadd, 1) := by decide +kernel
theorem dX9_init_150 : decode cX9_init 150 = .ok (.bipush 20, 2) := by decide +kernel
theorem dX9_init_152 : decode cX9_init 152 = .ok (.iastore, 1) := by decide +kernel
theorem dX9_init_153 : decode cX9_init 153 = .ok (.iinc 1 1, 3) := by decide +kernel
theorem dX9_init_156 : decode cX9_init 156 = .ok (.goto (-20), 3) := by decide +kernel
theorem dX9_init_159 : decode cX9_init 159 = .ok (.return_, 1) := by decide +kernel
theorem dX9_error_0 : decode cX9_error 0 = .ok (.aload_n 0, 1) := by decide +kernel
theorem dX9_error_1 : decode cX9_error 1 = .ok (.getfield 19, 3) := by decide +kernel
theorem dX9_error_4 : decode cX9_error 4 = .ok (.ldc 55, 2) := by decide +kernel
theorem dX9_error_6 : decode cX9_error 6 = .ok (.iload_n 1, 1) := by decide +kernel
theorem dX9_error_7 : decode cX9_error 7 = .ok (.isub, 1) := by decide +kernel
theorem dX9_error_8 : decode cX9_error 8 = .ok (.dup2, 1) := by decide +kernel
theorem dX9_error_9 : decode cX9_error 9 = .ok (.iaload, 1) := by decide +kernel
theorem dX9_error_10 : decode cX9_error 10 = .ok (.iconst 1, 1) := by decide +kernel
theorem dX9_error_11 : decode cX9_error 11 = .ok (.iadd, 1) := by decide +kernel
theorem dX9_error_12 : decode cX9_error 12 = .ok (.iastore, 1) := by decide +kernel
theorem dX9_error_13 : decode cX9_error 13 = .ok (.iload_n 1, 1) := by decide +kernel
theorem dX9_error_14 : decode cX9_error 14 = .ok (.ireturn, 1) := by decide +kernel
theorem dX9_in_0 : decode cX9_in 0 = .ok (.iload_n 0, 1) := by decide +kernel
theorem dX9_in_1 : decode cX9_in 1 = .ok (.iload_n 1, 1) := by decide +kernel
theorem dX9_in_2 : decode cX9_in 2 = .ok (.if_icmp .lt 12, 3) := by decide +kernel
theorem dX9_in_5 : decode cX9_in 5 = .ok (.iload_n 0, 1) := by decide +kernel
theorem dX9_in_6 : decode cX9_in 6 = .ok (.iload_n 2, 1) := by decide +kernel
theorem dX9_in_7 : decode cX9_in 7 = .ok (.if_icmp .gt 7, 3) := by decide +kernel
theorem dX9_in_10 : decode cX9_in 10 = .ok (.iconst 1, 1) := by decide +kernel
theorem dX9_in_11 : decode cX9_in 11 = .ok (.goto 4, 3) := by decide +kernel
theorem dX9_in_14 : decode cX9_in 14 = .ok (.iconst 0, 1) := by decide +kernel
theorem dX9_in_15 : decode cX9_in 15 = .ok (.ireturn, 1) := by decide +kernel
theorem dX9_held_0 : decode cX9_held 0 = .ok (.iload_n 0, 1) := by decide +kernel
theorem dX9_held_1 : decode cX9_held 1 = .ok (.iload_n 1, 1) := by decide +kernel
theorem dX9_held_2 : decode cX9_held 2 = .ok (.if_icmp .ge 7, 3) := by decide +kernel
theorem dX9_held_5 : decode cX9_held 5 = .ok (.iload_n 1, 1) := by decide +kernel
theorem dX9_held_6 : decode cX9_held 6 = .ok (.goto 13, 3) := by decide +kernel
theorem dX9_held_9 : decode cX9_held 9 = .ok (.iload_n 0, 1) := by decide +kernel
theorem dX9_held_10 : decode cX9_held 10 = .ok (.iload_n 2, 1) := by decide +kernel
theorem dX9_held_11 : decode cX9_held 11 = .ok (.if_icmp .le 7, 3) := by decide +kernel
theorem dX9_held_14 : decode cX9_held 14 = .ok (.iload_n 2, 1) := by decide +kernel
theorem dX9_held_15 : decode cX9_held 15 = .ok (.goto 4, 3) := by decide +kernel
theorem dX9_held_18 : decode cX9_held 18 = .ok (.iload_n 0, 1) := by decide +kernel
theorem dX9_held_19 : decode cX9_held 19 = .ok (.ireturn, 1) := by decide +kernel
theorem dX9_copyAll_0 : decode cX9_copyAll 0 = .ok (.iconst 0, 1) := by decide +kernel
theorem dX9_copyAll_1 : decode cX9_copyAll 1 = .ok (.istore_n 2, 1) := by decide +kernel
theorem dX9_copyAll_2 : decode cX9_copyAll 2 = .ok (.iload_n 2, 1) := by decide +kernel
theorem dX9_copyAll_3 : decode cX9_copyAll 3 = .ok (.sipush 395, 3) := by decide +kernel
theorem dX9_copyAll_6 : decode cX9_copyAll 6 = .ok (.if_icmp .ge 15, 3) := by decide +kernel
theorem dX9_copyAll_9 : decode cX9_copyAll 9 = .ok (.aload_n 1, 1) := by decide +kernel
theorem dX9_copyAll_10 : decode cX9_copyAll 10 = .ok (.iload_n 2, 1) := by decide +kernel
theorem dX9_copyAll_11 : decode cX9_copyAll 11 = .ok (.aload_n 0, 1) := by decide +kernel
theorem dX9_copyAll_12 : decode cX9_copyAll 12 = .ok (.iload_n 2, 1) := by decide +kernel
theorem dX9_copyAll_13 : decode cX9_copyAll 13 = .ok (.iaload, 1) := by decide +kernel
theorem dX9_copyAll_14 : decode cX9_copyAll 14 = .ok (.iastore, 1) := by decide +kernel
theorem dX9_copyAll_15 : decode cX9_copyAll 15 = .ok (.iinc 2 1, 3) := by decide +kernel
theorem dX9_copyAll_18 : decode cX9_copyAll 18 = .ok (.goto (-16), 3) := by decide +kernel
theorem dX9_copyAll_21 : decode cX9_copyAll 21 = .ok (.return_, 1) := by decide +kernel
theorem dX9_thinks_0 : decode cX9_thinks 0 = .ok (.aload_n 0, 1) := by decide +kernel
theorem dX9_thinks_1 : decode cX9_thinks 1 = .ok (.getfield 9, 3) := by decide +kernel
theorem dX9_thinks_4 : decode cX9_thinks 4 = .ok (.aload_n 0, 1) := by decide +kernel
theorem dX9_thinks_5 : decode cX9_thinks 5 = .ok (.getfield 16, 3) := by decide +kernel
theorem dX9_thinks_8 : decode cX9_thinks 8 = .ok (.invokestatic 56, 3) := by decide +kernel
theorem dX9_thinks_11 : decode cX9_thinks 11 = .ok (.return_, 1) := by decide +kernel
theorem dX9_putsBack_0 : decode cX9_putsBack 0 = .ok (.aload_n 0, 1) := by decide +kernel
theorem dX9_putsBack_1 : decode cX9_putsBack 1 = .ok (.getfield 16, 3) := by decide +kernel
theorem dX9_putsBack_4 : decode cX9_putsBack 4 = .ok (.aload_n 0, 1) := by decide +kernel
theorem dX9_putsBack_5 : decode cX9_putsBack 5 = .ok (.getfield 9, 3) := by decide +kernel
theorem dX9_putsBack_8 : decode cX9_putsBack 8 = .ok (.invokestatic 56, 3) := by decide +kernel
theorem dX9_putsBack_11 : decode cX9_putsBack 11 = .ok (.return_, 1) := by decide +kernel
theorem dX9_bits_0 : decode cX9_bits 0 = .ok (.iconst 0, 1) := by decide +kernel
theorem dX9_bits_1 : decode cX9_bits 1 = .ok (.istore_n 1, 1) := by decide +kernel
theorem dX9_bits_2 : decode cX9_bits 2 = .ok (.iload_n 0, 1) := by decide +kernel
theorem dX9_bits_3 : decode cX9_bits 3 = .ok (.istore_n 2, 1) := by decide +kernel
theorem dX9_bits_4 : decode cX9_bits 4 = .ok (.iload_n 2, 1) := by decide +kernel
theorem dX9_bits_5 : decode cX9_bits 5 = .ok (.ifCond .eq 15, 3) := by decide +kernel
theorem dX9_bits_8 : decode cX9_bits 8 = .ok (.iinc 1 1, 3) := by decide +kernel
theorem dX9_bits_11 : decode cX9_bits 11 = .ok (.iload_n 2, 1) := by decide +kernel
theorem dX9_bits_12 : decode cX9_bits 12 = .ok (.iload_n 2, 1) := by decide +kernel
theorem dX9_bits_13 : decode cX9_bits 13 = .ok (.iconst 1, 1) := by decide +kernel
theorem dX9_bits_14 : decode cX9_bits 14 = .ok (.isub, 1) := by decide +kernel
theorem dX9_bits_15 : decode cX9_bits 15 = .ok (.iand, 1) := by decide +kernel
theorem dX9_bits_16 : decode cX9_bits 16 = .ok (.istore_n 2, 1) := by decide +kernel
theorem dX9_bits_17 : decode cX9_bits 17 = .ok (.goto (-13), 3) := by decide +kernel
theorem dX9_bits_20 : decode cX9_bits 20 = .ok (.iload_n 1, 1) := by decide +kernel
theorem dX9_bits_21 : decode cX9_bits 21 = .ok (.ireturn, 1) := by decide +kernel
theorem dX9_isPerson_0 : decode cX9_isPerson 0 = .ok (.iload_n 1, 1) := by decide +kernel
theorem dX9_isPerson_1 : decode cX9_isPerson 1 = .ok (.iconst 0, 1) := by decide +kernel
theorem dX9_isPerson_2 : decode cX9_isPerson 2 = .ok (.aload_n 0, 1) := by decide +kernel
theorem dX9_isPerson_3 : decode cX9_isPerson 3 = .ok (.getfield 9, 3) := by decide +kernel
theorem dX9_isPerson_6 : decode cX9_isPerson 6 = .ok (.iconst 2, 1) := by decide +kernel
theorem dX9_isPerson_7 : decode cX9_isPerson 7 = .ok (.iaload, 1) := by decide +kernel
theorem dX9_isPerson_8 : decode cX9_isPerson 8 = .ok (.iconst 1, 1) := by decide +kernel
theorem dX9_isPerson_9 : decode cX9_isPerson 9 = .ok (.isub, 1) := by decide +kernel
theorem dX9_isPerson_10 : decode cX9_isPerson 10 = .ok (.invokestatic 60, 3) := by decide +kernel
theorem dX9_isPerson_13 : decode cX9_isPerson 13 = .ok (.ireturn, 1) := by decide +kernel
theorem dX9_isGate_0 : decode cX9_isGate 0 = .ok (.iload_n 1, 1) := by decide +kernel
theorem dX9_isGate_1 : decode cX9_isGate 1 = .ok (.iconst 0, 1) := by decide +kernel
theorem dX9_isGate_2 : decode cX9_isGate 2 = .ok (.aload_n 0, 1) := by decide +kernel
theorem dX9_isGate_3 : decode cX9_isGate 3 = .ok (.getfield 9, 3) := by decide +kernel
theorem dX9_isGate_6 : decode cX9_isGate 6 = .ok (.iconst 3, 1) := by decide +kernel
theorem dX9_isGate_7 : decode cX9_isGate 7 = .ok (.iaload, 1) := by decide +kernel
theorem dX9_isGate_8 : decode cX9_isGate 8 = .ok (.iconst 1, 1) := by decide +kernel
theorem dX9_isGate_9 : decode cX9_isGate 9 = .ok (.isub, 1) := by decide +kernel
theorem dX9_isGate_10 : decode cX9_isGate 10 = .ok (.invokestatic 60, 3) := by decide +kernel
theorem dX9_isGate_13 : decode cX9_isGate 13 = .ok (.ireturn, 1) := by decide +kernel
theorem dX9_isField_0 : decode cX9_isField 0 = .ok (.iload_n 0, 1) := by decide +kernel
theorem dX9_isField_1 : decode cX9_isField 1 = .ok (.iconst 0, 1) := by decide +kernel
theorem dX9_isField_2 : decode cX9_isField 2 = .ok (.bipush 6, 2) := by decide +kernel
theorem dX9_isField_4 : decode cX9_isField 4 = .ok (.invokestatic 60, 3) := by decide +kernel
theorem dX9_isField_7 : decode cX9_isField 7 = .ok (.ireturn, 1) := by decide +kernel
theorem dX9_areTwo_0 : decode cX9_areTwo 0 = .ok (.iload_n 0, 1) := by decide +kernel
theorem dX9_areTwo_1 : decode cX9_areTwo 1 = .ok (.invokestatic 64, 3) := by decide +kernel
theorem dX9_areTwo_4 : decode cX9_areTwo 4 = .ok (.ifCond .eq 19, 3) := by decide +kernel
theorem dX9_areTwo_7 : decode cX9_areTwo 7 = .ok (.iload_n 1, 1) := by decide +kernel
theorem dX9_areTwo_8 : decode cX9_areTwo 8 = .ok (.invokestatic 64, 3) := by decide +kernel
theorem dX9_areTwo_11 : decode cX9_areTwo 11 = .ok (.ifCond .eq 12, 3) := by decide +kernel
theorem dX9_areTwo_14 : decode cX9_areTwo 14 = .ok (.iload_n 0, 1) := by decide +kernel
theorem dX9_areTwo_15 : decode cX9_areTwo 15 = .ok (.iload_n 1, 1) := by decide +kernel
theorem dX9_areTwo_16 : decode cX9_areTwo 16 = .ok (.if_icmp .eq 7, 3) := by decide +kernel
theorem dX9_areTwo_19 : decode cX9_areTwo 19 = .ok (.iconst 1, 1) := by decide +kernel
theorem dX9_areTwo_20 : decode cX9_areTwo 20 = .ok (.goto 4, 3) := by decide +kernel
theorem dX9_areTwo_23 : decode cX9_areTwo 23 = .ok (.iconst 0, 1) := by decide +kernel
theorem dX9_areTwo_24 : decode cX9_areTwo 24 = .ok (.ireturn, 1) := by decide +kernel
theorem dX9_becomes_0 : decode cX9_becomes 0 = .ok (.aload_n 0, 1) := by decide +kernel
theorem dX9_becomes_1 : decode cX9_becomes 1 = .ok (.getfield 9, 3) := by decide +kernel
theorem dX9_becomes_4 : decode cX9_becomes 4 = .ok (.iload_n 1, 1) := by decide +kernel
theorem dX9_becomes_5 : decode cX9_becomes 5 = .ok (.iaload, 1) := by decide +kernel
theorem dX9_becomes_6 : decode cX9_becomes 6 = .ok (.istore_n 3, 1) := by decide +kernel
theorem dX9_becomes_7 : decode cX9_becomes 7 = .ok (.aload_n 0, 1) := by decide +kernel
theorem dX9_becomes_8 : decode cX9_becomes 8 = .ok (.getfield 9, 3) := by decide +kernel
theorem dX9_becomes_11 : decode cX9_becomes 11 = .ok (.iload_n 1, 1) := by decide +kernel
theorem dX9_becomes_12 : decode cX9_becomes 12 = .ok (.iload_n 2, 1) := by decide +kernel
theorem dX9_becomes_13 : decode cX9_becomes 13 = .ok (.iastore, 1) := by decide +kernel
theorem dX9_becomes_14 : decode cX9_becomes 14 = .ok (.iload_n 3, 1) := by decide +kernel
theorem dX9_becomes_15 : decode cX9_becomes 15 = .ok (.ireturn, 1) := by decide +kernel
theorem dX9_of_0 : decode cX9_of 0 = .ok (.aload_n 0, 1) := by decide +kernel
theorem dX9_of_1 : decode cX9_of 1 = .ok (.getfield 9, 3) := by decide +kernel
theorem dX9_of_4 : decode cX9_of 4 = .ok (.bipush 15, 2) := by decide +kernel
theorem dX9_of_6 : decode cX9_of 6 = .ok (.iconst 2, 1) := by decide +kernel
theorem dX9_of_7 : decode cX9_of 7 = .ok (.iload_n 1, 1) := by decide +kernel
theorem dX9_of_8 : decode cX9_of 8 = .ok (.imul, 1) := by decide +kernel
theorem dX9_of_9 : decode cX9_of 9 = .ok (.iadd, 1) := by decide +kernel
theorem dX9_of_10 : decode cX9_of 10 = .ok (.iload_n 2, 1) := by decide +kernel
theorem dX9_of_11 : decode cX9_of 11 = .ok (.iadd, 1) := by decide +kernel
theorem dX9_of_12 : decode cX9_of 12 = .ok (.iaload, 1) := by decide +kernel
theorem dX9_of_13 : decode cX9_of 13 = .ok (.ireturn, 1) := by decide +kernel
theorem dX9_about_0 : decode cX9_about 0 = .ok (.aload_n 0, 1) := by decide +kernel
theorem dX9_about_1 : decode cX9_about 1 = .ok (.getfield 9, 3) := by decide +kernel
theorem dX9_about_4 : decode cX9_about 4 = .ok (.bipush 27, 2) := by decide +kernel
theorem dX9_about_6 : decode cX9_about 6 = .ok (.iconst 4, 1) := by decide +kernel
theorem dX9_about_7 : decode cX9_about 7 = .ok (.iload_n 1, 1) := by decide +kernel
theorem dX9_about_8 : decode cX9_about 8 = .ok (.imul, 1) := by decide +kernel
theorem dX9_about_9 : decode cX9_about 9 = .ok (.iadd, 1) := by decide +kernel
theorem dX9_about_10 : decode cX9_about 10 = .ok (.iload_n 2, 1) := by decide +kernel
theorem dX9_about_11 : decode cX9_about 11 = .ok (.iadd, 1) := by decide +kernel
theorem dX9_about_12 : decode cX9_about 12 = .ok (.iaload, 1) := by decide +kernel
theorem dX9_about_13 : decode cX9_about 13 = .ok (.ireturn, 1) := by decide +kernel
theorem dX9_lets_0 : decode cX9_lets 0 = .ok (.aload_n 0, 1) := by decide +kernel
theorem dX9_lets_1 : decode cX9_lets 1 = .ok (.getfield 9, 3) := by decide +kernel
theorem dX9_lets_4 : decode cX9_lets 4 = .ok (.bipush 27, 2) := by decide +kernel
theorem dX9_lets_6 : decode cX9_lets 6 = .ok (.iconst 4, 1) := by decide +kernel
theorem dX9_lets_7 : decode cX9_lets 7 = .ok (.iload_n 1, 1) := by decide +kernel
theorem dX9_lets_8 : decode cX9_lets 8 = .ok (.imul, 1) := by decide +kernel
theorem dX9_lets_9 : decode cX9_lets 9 = .ok (.iadd, 1) := by decide +kernel
theorem dX9_lets_10 : decode cX9_lets 10 = .ok (.iload_n 2, 1) := by decide +kernel
theorem dX9_lets_11 : decode cX9_lets 11 = .ok (.iadd, 1) := by decide +kernel
theorem dX9_lets_12 : decode cX9_lets 12 = .ok (.iload_n 3, 1) := by decide +kernel
theorem dX9_lets_13 : decode cX9_lets 13 = .ok (.iastore, 1) := by decide +kernel
theorem dX9_lets_14 : decode cX9_lets 14 = .ok (.return_, 1) := by decide +kernel
theorem dX9_isOpen_0 : decode cX9_isOpen 0 = .ok (.aload_n 0, 1) := by decide +kernel
theorem dX9_isOpen_1 : decode cX9_isOpen 1 = .ok (.iload_n 1, 1) := by decide +kernel
theorem dX9_isOpen_2 : decode cX9_isOpen 2 = .ok (.iconst 3, 1) := by decide +kernel
theorem dX9_isOpen_3 : decode cX9_isOpen 3 = .ok (.invokevirtual 68, 3) := by decide +kernel
theorem dX9_isOpen_6 : decode cX9_isOpen 6 = .ok (.ifCond .ge 7, 3) := by decide +kernel
theorem dX9_isOpen_9 : decode cX9_isOpen 9 = .ok (.iconst 1, 1) := by decide +kernel
theorem dX9_isOpen_10 : decode cX9_isOpen 10 = .ok (.goto 4, 3) := by decide +kernel
theorem dX9_isOpen_13 : decode cX9_isOpen 13 = .ok (.iconst 0, 1) := by decide +kernel
theorem dX9_isOpen_14 : decode cX9_isOpen 14 = .ok (.ireturn, 1) := by decide +kernel
theorem dX9_opened_0 : decode cX9_opened 0 = .ok (.iconst 0, 1) := by decide +kernel
theorem dX9_opened_1 : decode cX9_opened 1 = .ok (.istore_n 1, 1) := by decide +kernel
theorem dX9_opened_2 : decode cX9_opened 2 = .ok (.iconst 0, 1) := by decide +kernel
theorem dX9_opened_3 : decode cX9_opened 3 = .ok (.istore_n 2, 1) := by decide +kernel
theorem dX9_opened_4 : decode cX9_opened 4 = .ok (.iload_n 2, 1) := by decide +kernel
theorem dX9_opened_5 : decode cX9_opened 5 = .ok (.aload_n 0, 1) := by decide +kernel
theorem dX9_opened_6 : decode cX9_opened 6 = .ok (.getfield 9, 3) := by decide +kernel
theorem dX9_opened_9 : decode cX9_opened 9 = .ok (.iconst 3, 1) := by decide +kernel
theorem dX9_opened_10 : decode cX9_opened 10 = .ok (.iaload, 1) := by decide +kernel
theorem dX9_opened_11 : decode cX9_opened 11 = .ok (.if_icmp .ge 27, 3) := by decide +kernel
theorem dX9_opened_14 : decode cX9_opened 14 = .ok (.iload_n 1, 1) := by decide +kernel
theorem dX9_opened_15 : decode cX9_opened 15 = .ok (.aload_n 0, 1) := by decide +kernel
theorem dX9_opened_16 : decode cX9_opened 16 = .ok (.iload_n 2, 1) := by decide +kernel
theorem dX9_opened_17 : decode cX9_opened 17 = .ok (.invokevirtual 72, 3) := by decide +kernel
theorem dX9_opened_20 : decode cX9_opened 20 = .ok (.ifCond .eq 9, 3) := by decide +kernel
theorem dX9_opened_23 : decode cX9_opened 23 = .ok (.iconst 1, 1) := by decide +kernel
theorem dX9_opened_24 : decode cX9_opened 24 = .ok (.iload_n 2, 1) := by decide +kernel
theorem dX9_opened_25 : decode cX9_opened 25 = .ok (.ishl, 1) := by decide +kernel
theorem dX9_opened_26 : decode cX9_opened 26 = .ok (.goto 4, 3) := by decide +kernel
theorem dX9_opened_29 : decode cX9_opened 29 = .ok (.iconst 0, 1) := by decide +kernel
theorem dX9_opened_30 : decode cX9_opened 30 = .ok (.ior, 1) := by decide +kernel
theorem dX9_opened_31 : decode cX9_opened 31 = .ok (.istore_n 1, 1) := by decide +kernel
theorem dX9_opened_32 : decode cX9_opened 32 = .ok (.iinc 2 1, 3) := by decide +kernel
theorem dX9_opened_35 : decode cX9_opened 35 = .ok (.goto (-31), 3) := by decide +kernel
theorem dX9_opened_38 : decode cX9_opened 38 = .ok (.iload_n 1, 1) := by decide +kernel
theorem dX9_opened_39 : decode cX9_opened 39 = .ok (.ireturn, 1) := by decide +kernel
theorem dX9_howManyBy_0 : decode cX9_howManyBy 0 = .ok (.iconst 0, 1) := by decide +kernel
theorem dX9_howManyBy_1 : decode cX9_howManyBy 1 = .ok (.istore_n 2, 1) := by decide +kernel
theorem dX9_howManyBy_2 : decode cX9_howManyBy 2 = .ok (.iconst 0, 1) := by decide +kernel
theorem dX9_howManyBy_3 : decode cX9_howManyBy 3 = .ok (.istore_n 3, 1) := by decide +kernel
theorem dX9_howManyBy_4 : decode cX9_howManyBy 4 = .ok (.iload_n 3, 1) := by decide +kernel
theorem dX9_howManyBy_5 : decode cX9_howManyBy 5 = .ok (.aload_n 0, 1) := by decide +kernel
theorem dX9_howManyBy_6 : decode cX9_howManyBy 6 = .ok (.getfield 9, 3) := by decide +kernel
theorem dX9_howManyBy_9 : decode cX9_howManyBy 9 = .ok (.iconst 3, 1) := by decide +kernel
theorem dX9_howManyBy_10 : decode cX9_howManyBy 10 = .ok (.iaload, 1) := by decide +kernel
theorem dX9_howManyBy_11 : decode cX9_howManyBy 11 = .ok (.if_icmp .ge 27, 3) := by decide +kernel
theorem dX9_howManyBy_14 : decode cX9_howManyBy 14 = .ok (.iload_n 2, 1) := by decide +kernel
theorem dX9_howManyBy_15 : decode cX9_howManyBy 15 = .ok (.aload_n 0, 1) := by decide +kernel
theorem dX9_howManyBy_16 : decode cX9_howManyBy 16 = .ok (.iload_n 3, 1) := by decide +kernel
theorem dX9_howManyBy_17 : decode cX9_howManyBy 17 = .ok (.iconst 3, 1) := by decide +kernel
theorem dX9_howManyBy_18 : decode cX9_howManyBy 18 = .ok (.invokevirtual 68, 3) := by decide +kernel
theorem dX9_howManyBy_21 : decode cX9_howManyBy 21 = .ok (.iload_n 1, 1) := by decide +kernel
theorem dX9_howManyBy_22 : decode cX9_howManyBy 22 = .ok (.if_icmp .ne 7, 3) := by decide +kernel
theorem dX9_howManyBy_25 : decode cX9_howManyBy 25 = .ok (.iconst 1, 1) := by decide +kernel
theorem dX9_howManyBy_26 : decode cX9_howManyBy 26 = .ok (.goto 4, 3) := by decide +kernel
theorem dX9_howManyBy_29 : decode cX9_howManyBy 29 = .ok (.iconst 0, 1) := by decide +kernel
theorem dX9_howManyBy_30 : decode cX9_howManyBy 30 = .ok (.iadd, 1) := by decide +kernel
theorem dX9_howManyBy_31 : decode cX9_howManyBy 31 = .ok (.istore_n 2, 1) := by decide +kernel
theorem dX9_howManyBy_32 : decode cX9_howManyBy 32 = .ok (.iinc 3 1, 3) := by decide +kernel
theorem dX9_howManyBy_35 : decode cX9_howManyBy 35 = .ok (.goto (-31), 3) := by decide +kernel
theorem dX9_howManyBy_38 : decode cX9_howManyBy 38 = .ok (.iload_n 2, 1) := by decide +kernel
theorem dX9_howManyBy_39 : decode cX9_howManyBy 39 = .ok (.ireturn, 1) := by decide +kernel
theorem dX9_roomOf_0 : decode cX9_roomOf 0 = .ok (.bipush 10, 2) := by decide +kernel
theorem dX9_roomOf_2 : decode cX9_roomOf 2 = .ok (.aload_n 0, 1) := by decide +kernel
theorem dX9_roomOf_3 : decode cX9_roomOf 3 = .ok (.iload_n 1, 1) := by decide +kernel
theorem dX9_roomOf_4 : decode cX9_roomOf 4 = .ok (.iconst 1, 1) := by decide +kernel
theorem dX9_roomOf_5 : decode cX9_roomOf 5 = .ok (.invokevirtual 75, 3) := by decide +kernel
theorem dX9_roomOf_8 : decode cX9_roomOf 8 = .ok (.iadd, 1) := by decide +kernel
theorem dX9_roomOf_9 : decode cX9_roomOf 9 = .ok (.istore_n 2, 1) := by decide +kernel
theorem dX9_roomOf_10 : decode cX9_roomOf 10 = .ok (.aload_n 0, 1) := by decide +kernel
theorem dX9_roomOf_11 : decode cX9_roomOf 11 = .ok (.iload_n 1, 1) := by decide +kernel
theorem dX9_roomOf_12 : decode cX9_roomOf 12 = .ok (.iconst 0, 1) := by decide +kernel
theorem dX9_roomOf_13 : decode cX9_roomOf 13 = .ok (.invokevirtual 75, 3) := by decide +kernel
theorem dX9_roomOf_16 : decode cX9_roomOf 16 = .ok (.tableswitch 96 1 6 #[40, 44, 48, 60, 70, 76], 40) := by decide +kernel
theorem dX9_roomOf_56 : decode cX9_roomOf 56 = .ok (.iload_n 2, 1) := by decide +kernel
theorem dX9_roomOf_57 : decode cX9_roomOf 57 = .ok (.iconst 2, 1) := by decide +kernel
theorem dX9_roomOf_58 : decode cX9_roomOf 58 = .ok (.idiv, 1) := by decide +kernel
theorem dX9_roomOf_59 : decode cX9_roomOf 59 = .ok (.ireturn, 1) := by decide +kernel
theorem dX9_roomOf_60 : decode cX9_roomOf 60 = .ok (.iconst 3, 1) := by decide +kernel
theorem dX9_roomOf_61 : decode cX9_roomOf 61 = .ok (.iload_n 2, 1) := by decide +kernel
theorem dX9_roomOf_62 : decode cX9_roomOf 62 = .ok (.imul, 1) := by decide +kernel
theorem dX9_roomOf_63 : decode cX9_roomOf 63 = .ok (.ireturn, 1) := by decide +kernel
theorem dX9_roomOf_64 : decode cX9_roomOf 64 = .ok (.iload_n 2, 1) := by decide +kernel
theorem dX9_roomOf_65 : decode cX9_roomOf 65 = .ok (.aload_n 0, 1) := by decide +kernel
theorem dX9_roomOf_66 : decode cX9_roomOf 66 = .ok (.getfield 9, 3) := by decide +kernel
theorem dX9_roomOf_69 : decode cX9_roomOf 69 = .ok (.iconst 0, 1) := by decide +kernel
theorem dX9_roomOf_70 : decode cX9_roomOf 70 = .ok (.iaload, 1) := by decide +kernel
theorem dX9_roomOf_71 : decode cX9_roomOf 71 = .ok (.bipush 6, 2) := by decide +kernel
theorem dX9_roomOf_73 : decode cX9_roomOf 73 = .ok (.irem, 1) := by decide +kernel
theorem dX9_roomOf_74 : decode cX9_roomOf 74 = .ok (.isub, 1) := by decide +kernel
theorem dX9_roomOf_75 : decode cX9_roomOf 75 = .ok (.ireturn, 1) := by decide +kernel
theorem dX9_roomOf_76 : decode cX9_roomOf 76 = .ok (.iload_n 2, 1) := by decide +kernel
theorem dX9_roomOf_77 : decode cX9_roomOf 77 = .ok (.iconst 2, 1) := by decide +kernel
theorem dX9_roomOf_78 : decode cX9_roomOf 78 = .ok (.idiv, 1) := by decide +kernel
theorem dX9_roomOf_79 : decode cX9_roomOf 79 = .ok (.aload_n 0, 1) := by decide +kernel
theorem dX9_roomOf_80 : decode cX9_roomOf 80 = .ok (.iload_n 1, 1) := by decide +kernel
theorem dX9_roomOf_81 : decode cX9_roomOf 81 = .ok (.invokevirtual 78, 3) := by decide +kernel
theorem dX9_roomOf_84 : decode cX9_roomOf 84 = .ok (.iadd, 1) := by decide +kernel
theorem dX9_roomOf_85 : decode cX9_roomOf 85 = .ok (.ireturn, 1) := by decide +kernel
theorem dX9_roomOf_86 : decode cX9_roomOf 86 = .ok (.iconst 3, 1) := by decide +kernel
theorem dX9_roomOf_87 : decode cX9_roomOf 87 = .ok (.iload_n 2, 1) := by decide +kernel
theorem dX9_roomOf_88 : decode cX9_roomOf 88 = .ok (.imul, 1) := by decide +kernel
theorem dX9_roomOf_89 : decode cX9_roomOf 89 = .ok (.iconst 5, 1) := by decide +kernel
theorem dX9_roomOf_90 : decode cX9_roomOf 90 = .ok (.iadd, 1) := by decide +kernel
theorem dX9_roomOf_91 : decode cX9_roomOf 91 = .ok (.ireturn, 1) := by decide +kernel
theorem dX9_roomOf_92 : decode cX9_roomOf 92 = .ok (.aload_n 0, 1) := by decide +kernel
theorem dX9_roomOf_93 : decode cX9_roomOf 93 = .ok (.getfield 9, 3) := by decide +kernel
theorem dX9_roomOf_96 : decode cX9_roomOf 96 = .ok (.iconst 0, 1) := by decide +kernel
theorem dX9_roomOf_97 : decode cX9_roomOf 97 = .ok (.iaload, 1) := by decide +kernel
theorem dX9_roomOf_98 : decode cX9_roomOf 98 = .ok (.bipush 24, 2) := by decide +kernel
theorem dX9_roomOf_100 : decode cX9_roomOf 100 = .ok (.irem, 1) := by decide +kernel
theorem dX9_roomOf_101 : decode cX9_roomOf 101 = .ok (.bipush 12, 2) := by decide +kernel
theorem dX9_roomOf_103 : decode cX9_roomOf 103 = .ok (.if_icmp .ge 7, 3) := by decide +kernel
theorem dX9_roomOf_106 : decode cX9_roomOf 106 = .ok (.iconst 0, 1) := by decide +kernel
theorem dX9_roomOf_107 : decode cX9_roomOf 107 = .ok (.goto 4, 3) := by decide +kernel
theorem dX9_roomOf_110 : decode cX9_roomOf 110 = .ok (.iload_n 2, 1) := by decide +kernel
theorem dX9_roomOf_111 : decode cX9_roomOf 111 = .ok (.ireturn, 1) := by decide +kernel
theorem dX9_roomOf_112 : decode cX9_roomOf 112 = .ok (.iload_n 2, 1) := by decide +kernel
theorem dX9_roomOf_113 : decode cX9_roomOf 113 = .ok (.ireturn, 1) := by decide +kernel
theorem dX9_costsOf_0 : decode cX9_costsOf 0 = .ok (.aload_n 0, 1) := by decide +kernel
theorem dX9_costsOf_1 : decode cX9_costsOf 1 = .ok (.iload_n 2, 1) := by decide +kernel
theorem dX9_costsOf_2 : decode cX9_costsOf 2 = .ok (.iconst 2, 1) := by decide +kernel
theorem dX9_costsOf_3 : decode cX9_costsOf 3 = .ok (.invokevirtual 68, 3) := by decide +kernel
theorem dX9_costsOf_6 : decode cX9_costsOf 6 = .ok (.istore_n 3, 1) := by decide +kernel
theorem dX9_costsOf_7 : decode cX9_costsOf 7 = .ok (.aload_n 0, 1) := by decide +kernel
theorem dX9_costsOf_8 : decode cX9_costsOf 8 = .ok (.iload_n 1, 1) := by decide +kernel
theorem dX9_costsOf_9 : decode cX9_costsOf 9 = .ok (.iconst 0, 1) := by decide +kernel
theorem dX9_costsOf_10 : decode cX9_costsOf 10 = .ok (.invokevirtual 75, 3) := by decide +kernel
theorem dX9_costsOf_13 : decode cX9_costsOf 13 = .ok (.tableswitch 77 1 6 #[39, 43, 77, 47, 55, 71], 39) := by decide +kernel
theorem dX9_costsOf_52 : decode cX9_costsOf 52 = .ok (.iload_n 3, 1) := by decide +kernel
theorem dX9_costsOf_53 : decode cX9_costsOf 53 = .ok (.iconst 1, 1) := by decide +kernel
theorem dX9_costsOf_54 : decode cX9_costsOf 54 = .ok (.iadd, 1) := by decide +kernel
theorem dX9_costsOf_55 : decode cX9_costsOf 55 = .ok (.ireturn, 1) := by decide +kernel
theorem dX9_costsOf_56 : decode cX9_costsOf 56 = .ok (.iconst 2, 1) := by decide +kernel
theorem dX9_costsOf_57 : decode cX9_costsOf 57 = .ok (.iload_n 3, 1) := by decide +kernel
theorem dX9_costsOf_58 : decode cX9_costsOf 58 = .ok (.imul, 1) := by decide +kernel
theorem dX9_costsOf_59 : decode cX9_costsOf 59 = .ok (.ireturn, 1) := by decide +kernel
theorem dX9_costsOf_60 : decode cX9_costsOf 60 = .ok (.iload_n 3, 1) := by decide +kernel
theorem dX9_costsOf_61 : decode cX9_costsOf 61 = .ok (.iconst 1, 1) := by decide +kernel
theorem dX9_costsOf_62 : decode cX9_costsOf 62 = .ok (.iadd, 1) := by decide +kernel
theorem dX9_costsOf_63 : decode cX9_costsOf 63 = .ok (.iload_n 3, 1) := by decide +kernel
theorem dX9_costsOf_64 : decode cX9_costsOf 64 = .ok (.iconst 2, 1) := by decide +kernel
theorem dX9_costsOf_65 : decode cX9_costsOf 65 = .ok (.idiv, 1) := by decide +kernel
theorem dX9_costsOf_66 : decode cX9_costsOf 66 = .ok (.isub, 1) := by decide +kernel
theorem dX9_costsOf_67 : decode cX9_costsOf 67 = .ok (.ireturn, 1) := by decide +kernel
theorem dX9_costsOf_68 : decode cX9_costsOf 68 = .ok (.aload_n 0, 1) := by decide +kernel
theorem dX9_costsOf_69 : decode cX9_costsOf 69 = .ok (.iload_n 2, 1) := by decide +kernel
theorem dX9_costsOf_70 : decode cX9_costsOf 70 = .ok (.invokevirtual 72, 3) := by decide +kernel
theorem dX9_costsOf_73 : decode cX9_costsOf 73 = .ok (.ifCond .eq 7, 3) := by decide +kernel
theorem dX9_costsOf_76 : decode cX9_costsOf 76 = .ok (.iconst 0, 1) := by decide +kernel
theorem dX9_costsOf_77 : decode cX9_costsOf 77 = .ok (.goto 6, 3) := by decide +kernel
theorem dX9_costsOf_80 : decode cX9_costsOf 80 = .ok (.iconst 2, 1) := by decide +kernel
theorem dX9_costsOf_81 : decode cX9_costsOf 81 = .ok (.iload_n 3, 1) := by decide +kernel
theorem dX9_costsOf_82 : decode cX9_costsOf 82 = .ok (.imul, 1) := by decide +kernel
theorem dX9_costsOf_83 : decode cX9_costsOf 83 = .ok (.ireturn, 1) := by decide +kernel
theorem dX9_costsOf_84 : decode cX9_costsOf 84 = .ok (.iload_n 3, 1) := by decide +kernel
theorem dX9_costsOf_85 : decode cX9_costsOf 85 = .ok (.iload_n 2, 1) := by decide +kernel
theorem dX9_costsOf_86 : decode cX9_costsOf 86 = .ok (.iconst 3, 1) := by decide +kernel
theorem dX9_costsOf_87 : decode cX9_costsOf 87 = .ok (.irem, 1) := by decide +kernel
theorem dX9_costsOf_88 : decode cX9_costsOf 88 = .ok (.iadd, 1) := by decide +kernel
theorem dX9_costsOf_89 : decode cX9_costsOf 89 = .ok (.ireturn, 1) := by decide +kernel
theorem dX9_costsOf_90 : decode cX9_costsOf 90 = .ok (.iload_n 3, 1) := by decide +kernel
theorem dX9_costsOf_91 : decode cX9_costsOf 91 = .ok (.ireturn, 1) := by decide +kernel
theorem dX9_weighsOn_0 : decode cX9_weighsOn 0 = .ok (.aload_n 0, 1) := by decide +kernel
theorem dX9_weighsOn_1 : decode cX9_weighsOn 1 = .ok (.iconst 0, 1) := by decide +kernel
theorem dX9_weighsOn_2 : decode cX9_weighsOn 2 = .ok (.aload_n 0, 1) := by decide +kernel
theorem dX9_weighsOn_3 : decode cX9_weighsOn 3 = .ok (.iload_n 1, 1) := by decide +kernel
theorem dX9_weighsOn_4 : decode cX9_weighsOn 4 = .ok (.iload_n 2, 1) := by decide +kernel
theorem dX9_weighsOn_5 : decode cX9_weighsOn 5 = .ok (.invokevirtual 82, 3) := by decide +kernel
theorem dX9_weighsOn_8 : decode cX9_weighsOn 8 = .ok (.aload_n 0, 1) := by decide +kernel
theorem dX9_weighsOn_9 : decode cX9_weighsOn 9 = .ok (.getfield 9, 3) := by decide +kernel
theorem dX9_weighsOn_12 : decode cX9_weighsOn 12 = .ok (.iconst 0, 1) := by decide +kernel
theorem dX9_weighsOn_13 : decode cX9_weighsOn 13 = .ok (.iaload, 1) := by decide +kernel
theorem dX9_weighsOn_14 : decode cX9_weighsOn 14 = .ok (.bipush 24, 2) := by decide +kernel
theorem dX9_weighsOn_16 : decode cX9_weighsOn 16 = .ok (.irem, 1) := by decide +kernel
theorem dX9_weighsOn_17 : decode cX9_weighsOn 17 = .ok (.iload_n 2, 1) := by decide +kernel
theorem dX9_weighsOn_18 : decode cX9_weighsOn 18 = .ok (.invokevirtual 85, 3) := by decide +kernel
theorem dX9_weighsOn_21 : decode cX9_weighsOn 21 = .ok (.ireturn, 1) := by decide +kernel
theorem dX9_loadOf_0 : decode cX9_loadOf 0 = .ok (.iconst 0, 1) := by decide +kernel
theorem dX9_loadOf_1 : decode cX9_loadOf 1 = .ok (.istore_n 2, 1) := by decide +kernel
theorem dX9_loadOf_2 : decode cX9_loadOf 2 = .ok (.iconst 0, 1) := by decide +kernel
theorem dX9_loadOf_3 : decode cX9_loadOf 3 = .ok (.istore_n 3, 1) := by decide +kernel
theorem dX9_loadOf_4 : decode cX9_loadOf 4 = .ok (.iload_n 3, 1) := by decide +kernel
theorem dX9_loadOf_5 : decode cX9_loadOf 5 = .ok (.aload_n 0, 1) := by decide +kernel
theorem dX9_loadOf_6 : decode cX9_loadOf 6 = .ok (.getfield 9, 3) := by decide +kernel
theorem dX9_loadOf_9 : decode cX9_loadOf 9 = .ok (.iconst 3, 1) := by decide +kernel
theorem dX9_loadOf_10 : decode cX9_loadOf 10 = .ok (.iaload, 1) := by decide +kernel
theorem dX9_loadOf_11 : decode cX9_loadOf 11 = .ok (.if_icmp .ge 32, 3) := by decide +kernel
theorem dX9_loadOf_14 : decode cX9_loadOf 14 = .ok (.iload_n 2, 1) := by decide +kernel
theorem dX9_loadOf_15 : decode cX9_loadOf 15 = .ok (.aload_n 0, 1) := by decide +kernel
theorem dX9_loadOf_16 : decode cX9_loadOf 16 = .ok (.iload_n 3, 1) := by decide +kernel
theorem dX9_loadOf_17 : decode cX9_loadOf 17 = .ok (.iconst 3, 1) := by decide +kernel
theorem dX9_loadOf_18 : decode cX9_loadOf 18 = .ok (.invokevirtual 68, 3) := by decide +kernel
theorem dX9_loadOf_21 : decode cX9_loadOf 21 = .ok (.iload_n 1, 1) := by decide +kernel
theorem dX9_loadOf_22 : decode cX9_loadOf 22 = .ok (.if_icmp .ne 12, 3) := by decide +kernel
theorem dX9_loadOf_25 : decode cX9_loadOf 25 = .ok (.aload_n 0, 1) := by decide +kernel
theorem dX9_loadOf_26 : decode cX9_loadOf 26 = .ok (.iload_n 1, 1) := by decide +kernel
theorem dX9_loadOf_27 : decode cX9_loadOf 27 = .ok (.iload_n 3, 1) := by decide +kernel
theorem dX9_loadOf_28 : decode cX9_loadOf 28 = .ok (.invokevirtual 89, 3) := by decide +kernel
theorem dX9_loadOf_31 : decode cX9_loadOf 31 = .ok (.goto 4, 3) := by decide +kernel
theorem dX9_loadOf_34 : decode cX9_loadOf 34 = .ok (.iconst 0, 1) := by decide +kernel
theorem dX9_loadOf_35 : decode cX9_loadOf 35 = .ok (.iadd, 1) := by decide +kernel
theorem dX9_loadOf_36 : decode cX9_loadOf 36 = .ok (.istore_n 2, 1) := by decide +kernel
theorem dX9_loadOf_37 : decode cX9_loadOf 37 = .ok (.iinc 3 1, 3) := by decide +kernel
theorem dX9_loadOf_40 : decode cX9_loadOf 40 = .ok (.goto (-36), 3) := by decide +kernel
theorem dX9_loadOf_43 : decode cX9_loadOf 43 = .ok (.iload_n 2, 1) := by decide +kernel
theorem dX9_loadOf_44 : decode cX9_loadOf 44 = .ok (.ireturn, 1) := by decide +kernel
theorem dX9_drawsOf_0 : decode cX9_drawsOf 0 = .ok (.aload_n 0, 1) := by decide +kernel
theorem dX9_drawsOf_1 : decode cX9_drawsOf 1 = .ok (.iconst 1, 1) := by decide +kernel
theorem dX9_drawsOf_2 : decode cX9_drawsOf 2 = .ok (.aload_n 0, 1) := by decide +kernel
theorem dX9_drawsOf_3 : decode cX9_drawsOf 3 = .ok (.getfield 9, 3) := by decide +kernel
theorem dX9_drawsOf_6 : decode cX9_drawsOf 6 = .ok (.bipush 8, 2) := by decide +kernel
theorem dX9_drawsOf_8 : decode cX9_drawsOf 8 = .ok (.iload_n 1, 1) := by decide +kernel
theorem dX9_drawsOf_9 : decode cX9_drawsOf 9 = .ok (.iadd, 1) := by decide +kernel
theorem dX9_drawsOf_10 : decode cX9_drawsOf 10 = .ok (.iaload, 1) := by decide +kernel
theorem dX9_drawsOf_11 : decode cX9_drawsOf 11 = .ok (.iload_n 1, 1) := by decide +kernel
theorem dX9_drawsOf_12 : decode cX9_drawsOf 12 = .ok (.aload_n 0, 1) := by decide +kernel
theorem dX9_drawsOf_13 : decode cX9_drawsOf 13 = .ok (.getfield 9, 3) := by decide +kernel
theorem dX9_drawsOf_16 : decode cX9_drawsOf 16 = .ok (.iconst 0, 1) := by decide +kernel
theorem dX9_drawsOf_17 : decode cX9_drawsOf 17 = .ok (.iaload, 1) := by decide +kernel
theorem dX9_drawsOf_18 : decode cX9_drawsOf 18 = .ok (.bipush 24, 2) := by decide +kernel
theorem dX9_drawsOf_20 : decode cX9_drawsOf 20 = .ok (.irem, 1) := by decide +kernel
theorem dX9_drawsOf_21 : decode cX9_drawsOf 21 = .ok (.invokevirtual 85, 3) := by decide +kernel
theorem dX9_drawsOf_24 : decode cX9_drawsOf 24 = .ok (.ireturn, 1) := by decide +kernel
theorem dX9_isKm_0 : decode cX9_isKm 0 = .ok (.iload_n 0, 1) := by decide +kernel
theorem dX9_isKm_1 : decode cX9_isKm 1 = .ok (.iconst 0, 1) := by decide +kernel
theorem dX9_isKm_2 : decode cX9_isKm 2 = .ok (.bipush 69, 2) := by decide +kernel
theorem dX9_isKm_4 : decode cX9_isKm 4 = .ok (.invokestatic 60, 3) := by decide +kernel
theorem dX9_isKm_7 : decode cX9_isKm 7 = .ok (.ireturn, 1) := by decide +kernel
theorem dX9_person_0 : decode cX9_person 0 = .ok (.iload_n 1, 1) := by decide +kernel
theorem dX9_person_1 : decode cX9_person 1 = .ok (.invokestatic 92, 3) := by decide +kernel
theorem dX9_person_4 : decode cX9_person 4 = .ok (.ifCond .ne 10, 3) := by decide +kernel
theorem dX9_person_7 : decode cX9_person 7 = .ok (.aload_n 0, 1) := by decide +kernel
theorem dX9_person_8 : decode cX9_person 8 = .ok (.ldc 95, 2) := by decide +kernel
theorem dX9_person_10 : decode cX9_person 10 = .ok (.invokevirtual 96, 3) := by decide +kernel
theorem dX9_person_13 : decode cX9_person 13 = .ok (.ireturn, 1) := by decide +kernel
theorem dX9_person_14 : decode cX9_person 14 = .ok (.aload_n 0, 1) := by decide +kernel
theorem dX9_person_15 : decode cX9_person 15 = .ok (.getfield 9, 3) := by decide +kernel
theorem dX9_person_18 : decode cX9_person 18 = .ok (.iconst 2, 1) := by decide +kernel
theorem dX9_person_19 : decode cX9_person 19 = .ok (.iaload, 1) := by decide +kernel
theorem dX9_person_20 : decode cX9_person 20 = .ok (.istore_n 2, 1) := by decide +kernel
theorem dX9_person_21 : decode cX9_person 21 = .ok (.iload_n 2, 1) := by decide +kernel
theorem dX9_person_22 : decode cX9_person 22 = .ok (.bipush 6, 2) := by decide +kernel
theorem dX9_person_24 : decode cX9_person 24 = .ok (.if_icmp .ne 10, 3) := by decide +kernel
theorem dX9_person_27 : decode cX9_person 27 = .ok (.aload_n 0, 1) := by decide +kernel
theorem dX9_person_28 : decode cX9_person 28 = .ok (.ldc 99, 2) := by decide +kernel
theorem dX9_person_30 : decode cX9_person 30 = .ok (.invokevirtual 96, 3) := by decide +kernel
theorem dX9_person_33 : decode cX9_person 33 = .ok (.ireturn, 1) := by decide +kernel
theorem dX9_person_34 : decode cX9_person 34 = .ok (.aload_n 0, 1) := by decide +kernel
theorem dX9_person_35 : decode cX9_person 35 = .ok (.getfield 9, 3) := by decide +kernel
theorem dX9_person_38 : decode cX9_person 38 = .ok (.iconst 2, 1) := by decide +kernel
theorem dX9_person_39 : decode cX9_person 39 = .ok (.dup2, 1) := by decide +kernel
theorem dX9_person_40 : decode cX9_person 40 = .ok (.iaload, 1) := by decide +kernel
theorem dX9_person_41 : decode cX9_person 41 = .ok (.iconst 1, 1) := by decide +kernel
theorem dX9_person_42 : decode cX9_person 42 = .ok (.iadd, 1) := by decide +kernel
theorem dX9_person_43 : decode cX9_person 43 = .ok (.iastore, 1) := by decide +kernel
theorem dX9_person_44 : decode cX9_person 44 = .ok (.aload_n 0, 1) := by decide +kernel
theorem dX9_person_45 : decode cX9_person 45 = .ok (.getfield 9, 3) := by decide +kernel
theorem dX9_person_48 : decode cX9_person 48 = .ok (.bipush 15, 2) := by decide +kernel
theorem dX9_person_50 : decode cX9_person 50 = .ok (.iconst 2, 1) := by decide +kernel
theorem dX9_person_51 : decode cX9_person 51 = .ok (.iload_n 2, 1) := by decide +kernel
theorem dX9_person_52 : decode cX9_person 52 = .ok (.imul, 1) := by decide +kernel
theorem dX9_person_53 : decode cX9_person 53 = .ok (.iadd, 1) := by decide +kernel
theorem dX9_person_54 : decode cX9_person 54 = .ok (.iload_n 1, 1) := by decide +kernel
theorem dX9_person_55 : decode cX9_person 55 = .ok (.bipush 10, 2) := by decide +kernel
theorem dX9_person_57 : decode cX9_person 57 = .ok (.idiv, 1) := by decide +kernel
theorem dX9_person_58 : decode cX9_person 58 = .ok (.iastore, 1) := by decide +kernel
theorem dX9_person_59 : decode cX9_person 59 = .ok (.aload_n 0, 1) := by decide +kernel
theorem dX9_person_60 : decode cX9_person 60 = .ok (.getfield 9, 3) := by decide +kernel
theorem dX9_person_63 : decode cX9_person 63 = .ok (.bipush 15, 2) := by decide +kernel
theorem dX9_person_65 : decode cX9_person 65 = .ok (.iconst 2, 1) := by decide +kernel
theorem dX9_person_66 : decode cX9_person 66 = .ok (.iload_n 2, 1) := by decide +kernel
theorem dX9_person_67 : decode cX9_person 67 = .ok (.imul, 1) := by decide +kernel
theorem dX9_person_68 : decode cX9_person 68 = .ok (.iadd, 1) := by decide +kernel
theorem dX9_person_69 : decode cX9_person 69 = .ok (.iconst 1, 1) := by decide +kernel
theorem dX9_person_70 : decode cX9_person 70 = .ok (.iadd, 1) := by decide +kernel
theorem dX9_person_71 : decode cX9_person 71 = .ok (.iload_n 1, 1) := by decide +kernel
theorem dX9_person_72 : decode cX9_person 72 = .ok (.bipush 10, 2) := by decide +kernel
theorem dX9_person_74 : decode cX9_person 74 = .ok (.irem, 1) := by decide +kernel
theorem dX9_person_75 : decode cX9_person 75 = .ok (.iastore, 1) := by decide +kernel
theorem dX9_person_76 : decode cX9_person 76 = .ok (.iload_n 2, 1) := by decide +kernel
theorem dX9_person_77 : decode cX9_person 77 = .ok (.ireturn, 1) := by decide +kernel
theorem dX9_personIs_0 : decode cX9_personIs 0 = .ok (.aload_n 0, 1) := by decide +kernel
theorem dX9_personIs_1 : decode cX9_personIs 1 = .ok (.iload_n 1, 1) := by decide +kernel
theorem dX9_personIs_2 : decode cX9_personIs 2 = .ok (.invokevirtual 100, 3) := by decide +kernel
theorem dX9_personIs_5 : decode cX9_personIs 5 = .ok (.ifCond .ne 10, 3) := by decide +kernel
