/-! The law: what stands at its places, 1. -/
theorem dC_0 : decode code 0 = .ok (.new 8, 3) := by decide +kernel
theorem dC_3 : decode code 3 = .ok (.dup, 1) := by decide +kernel
theorem dC_4 : decode code 4 = .ok (.invokespecial 100, 3) := by decide +kernel
theorem dC_7 : decode code 7 = .ok (.astore_n 1, 1) := by decide +kernel
theorem dC_8 : decode code 8 = .ok (.new 101, 3) := by decide +kernel
theorem dC_11 : decode code 11 = .ok (.dup, 1) := by decide +kernel
theorem dC_12 : decode code 12 = .ok (.invokespecial 103, 3) := by decide +kernel
theorem dC_15 : decode code 15 = .ok (.astore_n 2, 1) := by decide +kernel
theorem dC_16 : decode code 16 = .ok (.iconst 1, 1) := by decide +kernel
theorem dC_17 : decode code 17 = .ok (.newarray .long, 2) := by decide +kernel
theorem dC_19 : decode code 19 = .ok (.astore_n 3, 1) := by decide +kernel
theorem dC_20 : decode code 20 = .ok (.iconst 1, 1) := by decide +kernel
theorem dC_21 : decode code 21 = .ok (.newarray .double, 2) := by decide +kernel
theorem dC_23 : decode code 23 = .ok (.astore 4, 2) := by decide +kernel
theorem dC_25 : decode code 25 = .ok (.iconst 0, 1) := by decide +kernel
theorem dC_26 : decode code 26 = .ok (.istore 5, 2) := by decide +kernel
theorem dC_28 : decode code 28 = .ok (.iload 5, 2) := by decide +kernel
theorem dC_30 : decode code 30 = .ok (.aload_n 0, 1) := by decide +kernel
theorem dC_31 : decode code 31 = .ok (.arraylength, 1) := by decide +kernel
theorem dC_32 : decode code 32 = .ok (.iconst 5, 1) := by decide +kernel
theorem dC_33 : decode code 33 = .ok (.isub, 1) := by decide +kernel
theorem dC_34 : decode code 34 = .ok (.if_icmp .gt 1723, 3) := by decide +kernel
theorem dC_37 : decode code 37 = .ok (.aload_n 0, 1) := by decide +kernel
theorem dC_38 : decode code 38 = .ok (.iload 5, 2) := by decide +kernel
theorem dC_40 : decode code 40 = .ok (.iaload, 1) := by decide +kernel
theorem dC_41 : decode code 41 = .ok (.bipush 31, 2) := by decide +kernel
theorem dC_43 : decode code 43 = .ok (.iand, 1) := by decide +kernel
theorem dC_44 : decode code 44 = .ok (.tableswitch 1707 0 24 #[116, 160, 228, 319, 379, 451, 511, 586, 678, 714, 762, 830, 898, 966, 1041, 1097, 1153, 1230, 1286, 1342, 1410, 1502, 1570, 1638, 1651], 116) := by decide +kernel
theorem dC_160 : decode code 160 = .ok (.aload_n 1, 1) := by decide +kernel
theorem dC_161 : decode code 161 = .ok (.aload_n 3, 1) := by decide +kernel
theorem dC_162 : decode code 162 = .ok (.invokestatic 104, 3) := by decide +kernel
theorem dC_165 : decode code 165 = .ok (.istore 6, 2) := by decide +kernel
theorem dC_167 : decode code 167 = .ok (.aload_n 2, 1) := by decide +kernel
theorem dC_168 : decode code 168 = .ok (.invokevirtual 109, 3) := by decide +kernel
theorem dC_171 : decode code 171 = .ok (.istore 7, 2) := by decide +kernel
theorem dC_173 : decode code 173 = .ok (.aload_n 2, 1) := by decide +kernel
theorem dC_174 : decode code 174 = .ok (.invokevirtual 110, 3) := by decide +kernel
theorem dC_177 : decode code 177 = .ok (.iload 6, 2) := by decide +kernel
theorem dC_179 : decode code 179 = .ok (.if_icmp .eq 5, 3) := by decide +kernel
theorem dC_184 : decode code 184 = .ok (.iload 6, 2) := by decide +kernel
theorem dC_186 : decode code 186 = .ok (.ifCond .ne 15, 3) := by decide +kernel
theorem dC_189 : decode code 189 = .ok (.aload_n 3, 1) := by decide +kernel
theorem dC_190 : decode code 190 = .ok (.iconst 0, 1) := by decide +kernel
theorem dC_191 : decode code 191 = .ok (.laload, 1) := by decide +kernel
theorem dC_192 : decode code 192 = .ok (.iload 7, 2) := by decide +kernel
theorem dC_194 : decode code 194 = .ok (.i2l, 1) := by decide +kernel
theorem dC_195 : decode code 195 = .ok (.lcmp, 1) := by decide +kernel
theorem dC_196 : decode code 196 = .ok (.ifCond .eq 5, 3) := by decide +kernel
theorem dC_201 : decode code 201 = .ok (.goto 1550, 3) := by decide +kernel
theorem dC_204 : decode code 204 = .ok (.aload_n 1, 1) := by decide +kernel
theorem dC_205 : decode code 205 = .ok (.aload_n 0, 1) := by decide +kernel
theorem dC_206 : decode code 206 = .ok (.iload 5, 2) := by decide +kernel
theorem dC_208 : decode code 208 = .ok (.iconst 1, 1) := by decide +kernel
theorem dC_209 : decode code 209 = .ok (.iadd, 1) := by decide +kernel
theorem dC_210 : decode code 210 = .ok (.iaload, 1) := by decide +kernel
theorem dC_211 : decode code 211 = .ok (.aload_n 0, 1) := by decide +kernel
theorem dC_212 : decode code 212 = .ok (.iload 5, 2) := by decide +kernel
theorem dC_214 : decode code 214 = .ok (.iconst 2, 1) := by decide +kernel
theorem dC_215 : decode code 215 = .ok (.iadd, 1) := by decide +kernel
theorem dC_216 : decode code 216 = .ok (.iaload, 1) := by decide +kernel
theorem dC_217 : decode code 217 = .ok (.aload_n 3, 1) := by decide +kernel
theorem dC_218 : decode code 218 = .ok (.invokestatic 113, 3) := by decide +kernel
theorem dC_221 : decode code 221 = .ok (.istore 6, 2) := by decide +kernel
theorem dC_223 : decode code 223 = .ok (.aload_n 2, 1) := by decide +kernel
theorem dC_224 : decode code 224 = .ok (.aload_n 0, 1) := by decide +kernel
theorem dC_225 : decode code 225 = .ok (.iload 5, 2) := by decide +kernel
theorem dC_227 : decode code 227 = .ok (.iconst 1, 1) := by decide +kernel
theorem dC_228 : decode code 228 = .ok (.iadd, 1) := by decide +kernel
theorem dC_229 : decode code 229 = .ok (.iaload, 1) := by decide +kernel
theorem dC_230 : decode code 230 = .ok (.aload_n 0, 1) := by decide +kernel
theorem dC_231 : decode code 231 = .ok (.iload 5, 2) := by decide +kernel
theorem dC_233 : decode code 233 = .ok (.iconst 2, 1) := by decide +kernel
theorem dC_234 : decode code 234 = .ok (.iadd, 1) := by decide +kernel
theorem dC_235 : decode code 235 = .ok (.iaload, 1) := by decide +kernel
theorem dC_236 : decode code 236 = .ok (.invokevirtual 116, 3) := by decide +kernel
theorem dC_239 : decode code 239 = .ok (.istore 7, 2) := by decide +kernel
theorem dC_241 : decode code 241 = .ok (.aload_n 2, 1) := by decide +kernel
theorem dC_242 : decode code 242 = .ok (.invokevirtual 110, 3) := by decide +kernel
theorem dC_245 : decode code 245 = .ok (.iload 6, 2) := by decide +kernel
theorem dC_247 : decode code 247 = .ok (.if_icmp .eq 5, 3) := by decide +kernel
theorem dC_252 : decode code 252 = .ok (.iload 6, 2) := by decide +kernel
theorem dC_254 : decode code 254 = .ok (.ifCond .ne 15, 3) := by decide +kernel
theorem dC_257 : decode code 257 = .ok (.aload_n 3, 1) := by decide +kernel
theorem dC_258 : decode code 258 = .ok (.iconst 0, 1) := by decide +kernel
theorem dC_259 : decode code 259 = .ok (.laload, 1) := by decide +kernel
theorem dC_260 : decode code 260 = .ok (.iload 7, 2) := by decide +kernel
theorem dC_262 : decode code 262 = .ok (.i2l, 1) := by decide +kernel
theorem dC_263 : decode code 263 = .ok (.lcmp, 1) := by decide +kernel
theorem dC_264 : decode code 264 = .ok (.ifCond .eq 5, 3) := by decide +kernel
theorem dC_269 : decode code 269 = .ok (.goto 1482, 3) := by decide +kernel
theorem dC_272 : decode code 272 = .ok (.aload_n 1, 1) := by decide +kernel
theorem dC_273 : decode code 273 = .ok (.aload_n 0, 1) := by decide +kernel
theorem dC_274 : decode code 274 = .ok (.iload 5, 2) := by decide +kernel
theorem dC_276 : decode code 276 = .ok (.iconst 1, 1) := by decide +kernel
theorem dC_277 : decode code 277 = .ok (.iadd, 1) := by decide +kernel
theorem dC_278 : decode code 278 = .ok (.iaload, 1) := by decide +kernel
theorem dC_279 : decode code 279 = .ok (.aload_n 0, 1) := by decide +kernel
theorem dC_280 : decode code 280 = .ok (.iload 5, 2) := by decide +kernel
theorem dC_282 : decode code 282 = .ok (.iconst 2, 1) := by decide +kernel
theorem dC_283 : decode code 283 = .ok (.iadd, 1) := by decide +kernel
theorem dC_284 : decode code 284 = .ok (.iaload, 1) := by decide +kernel
theorem dC_285 : decode code 285 = .ok (.ifCond .eq 7, 3) := by decide +kernel
theorem dC_288 : decode code 288 = .ok (.iconst 1, 1) := by decide +kernel
theorem dC_289 : decode code 289 = .ok (.goto 4, 3) := by decide +kernel
theorem dC_292 : decode code 292 = .ok (.iconst 0, 1) := by decide +kernel
theorem dC_293 : decode code 293 = .ok (.aload_n 3, 1) := by decide +kernel
theorem dC_294 : decode code 294 = .ok (.invokestatic 117, 3) := by decide +kernel
theorem dC_297 : decode code 297 = .ok (.istore 6, 2) := by decide +kernel
theorem dC_299 : decode code 299 = .ok (.aload_n 2, 1) := by decide +kernel
theorem dC_300 : decode code 300 = .ok (.aload_n 0, 1) := by decide +kernel
theorem dC_301 : decode code 301 = .ok (.iload 5, 2) := by decide +kernel
theorem dC_303 : decode code 303 = .ok (.iconst 1, 1) := by decide +kernel
theorem dC_304 : decode code 304 = .ok (.iadd, 1) := by decide +kernel
theorem dC_305 : decode code 305 = .ok (.iaload, 1) := by decide +kernel
theorem dC_306 : decode code 306 = .ok (.aload_n 0, 1) := by decide +kernel
theorem dC_307 : decode code 307 = .ok (.iload 5, 2) := by decide +kernel
theorem dC_309 : decode code 309 = .ok (.iconst 2, 1) := by decide +kernel
theorem dC_310 : decode code 310 = .ok (.iadd, 1) := by decide +kernel
theorem dC_311 : decode code 311 = .ok (.iaload, 1) := by decide +kernel
theorem dC_312 : decode code 312 = .ok (.ifCond .eq 7, 3) := by decide +kernel
theorem dC_315 : decode code 315 = .ok (.iconst 1, 1) := by decide +kernel
theorem dC_316 : decode code 316 = .ok (.goto 4, 3) := by decide +kernel
theorem dC_319 : decode code 319 = .ok (.iconst 0, 1) := by decide +kernel
theorem dC_320 : decode code 320 = .ok (.invokevirtual 120, 3) := by decide +kernel
theorem dC_323 : decode code 323 = .ok (.istore 7, 2) := by decide +kernel
theorem dC_325 : decode code 325 = .ok (.aload_n 2, 1) := by decide +kernel
theorem dC_326 : decode code 326 = .ok (.invokevirtual 110, 3) := by decide +kernel
theorem dC_329 : decode code 329 = .ok (.iload 6, 2) := by decide +kernel
theorem dC_331 : decode code 331 = .ok (.if_icmp .eq 5, 3) := by decide +kernel
theorem dC_336 : decode code 336 = .ok (.iload 6, 2) := by decide +kernel
