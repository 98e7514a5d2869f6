theorem d_L_law_223 : decode b_L_law 223 = .ok (.aload_n 0, 1) := by decide +kernel
theorem d_L_law_224 : decode b_L_law 224 = .ok (.iload 4, 2) := by decide +kernel
theorem d_L_law_226 : decode b_L_law 226 = .ok (.iconst 3, 1) := by decide +kernel
theorem d_L_law_227 : decode b_L_law 227 = .ok (.iadd, 1) := by decide +kernel
theorem d_L_law_228 : decode b_L_law 228 = .ok (.iaload, 1) := by decide +kernel
theorem d_L_law_229 : decode b_L_law 229 = .ok (.invokevirtual 67, 3) := by decide +kernel
theorem d_L_law_232 : decode b_L_law 232 = .ok (.istore 6, 2) := by decide +kernel
theorem d_L_law_234 : decode b_L_law 234 = .ok (.aload_n 2, 1) := by decide +kernel
theorem d_L_law_235 : decode b_L_law 235 = .ok (.invokevirtual 68, 3) := by decide +kernel
theorem d_L_law_238 : decode b_L_law 238 = .ok (.iload 5, 2) := by decide +kernel
theorem d_L_law_240 : decode b_L_law 240 = .ok (.if_icmp .eq 5, 3) := by decide +kernel
theorem d_L_law_243 : decode b_L_law 243 = .ok (.iconst 0, 1) := by decide +kernel
theorem d_L_law_244 : decode b_L_law 244 = .ok (.ireturn, 1) := by decide +kernel
theorem d_L_law_245 : decode b_L_law 245 = .ok (.iload 5, 2) := by decide +kernel
theorem d_L_law_247 : decode b_L_law 247 = .ok (.ifCond .ne 15, 3) := by decide +kernel
theorem d_L_law_250 : decode b_L_law 250 = .ok (.aload_n 3, 1) := by decide +kernel
theorem d_L_law_251 : decode b_L_law 251 = .ok (.iconst 0, 1) := by decide +kernel
theorem d_L_law_252 : decode b_L_law 252 = .ok (.laload, 1) := by decide +kernel
theorem d_L_law_253 : decode b_L_law 253 = .ok (.iload 6, 2) := by decide +kernel
theorem d_L_law_255 : decode b_L_law 255 = .ok (.i2l, 1) := by decide +kernel
theorem d_L_law_256 : decode b_L_law 256 = .ok (.lcmp, 1) := by decide +kernel
theorem d_L_law_257 : decode b_L_law 257 = .ok (.ifCond .eq 5, 3) := by decide +kernel
theorem d_L_law_260 : decode b_L_law 260 = .ok (.iconst 0, 1) := by decide +kernel
theorem d_L_law_261 : decode b_L_law 261 = .ok (.ireturn, 1) := by decide +kernel
theorem d_L_law_262 : decode b_L_law 262 = .ok (.goto 680, 3) := by decide +kernel
theorem d_L_law_265 : decode b_L_law 265 = .ok (.aload_n 1, 1) := by decide +kernel
theorem d_L_law_266 : decode b_L_law 266 = .ok (.aload_n 0, 1) := by decide +kernel
theorem d_L_law_267 : decode b_L_law 267 = .ok (.iload 4, 2) := by decide +kernel
theorem d_L_law_269 : decode b_L_law 269 = .ok (.iconst 1, 1) := by decide +kernel
theorem d_L_law_270 : decode b_L_law 270 = .ok (.iadd, 1) := by decide +kernel
theorem d_L_law_271 : decode b_L_law 271 = .ok (.iaload, 1) := by decide +kernel
theorem d_L_law_272 : decode b_L_law 272 = .ok (.aload_n 0, 1) := by decide +kernel
theorem d_L_law_273 : decode b_L_law 273 = .ok (.iload 4, 2) := by decide +kernel
theorem d_L_law_275 : decode b_L_law 275 = .ok (.iconst 2, 1) := by decide +kernel
theorem d_L_law_276 : decode b_L_law 276 = .ok (.iadd, 1) := by decide +kernel
theorem d_L_law_277 : decode b_L_law 277 = .ok (.iaload, 1) := by decide +kernel
theorem d_L_law_278 : decode b_L_law 278 = .ok (.aload_n 0, 1) := by decide +kernel
theorem d_L_law_279 : decode b_L_law 279 = .ok (.iload 4, 2) := by decide +kernel
theorem d_L_law_281 : decode b_L_law 281 = .ok (.iconst 3, 1) := by decide +kernel
theorem d_L_law_282 : decode b_L_law 282 = .ok (.iadd, 1) := by decide +kernel
theorem d_L_law_283 : decode b_L_law 283 = .ok (.iaload, 1) := by decide +kernel
theorem d_L_law_284 : decode b_L_law 284 = .ok (.aload_n 0, 1) := by decide +kernel
theorem d_L_law_285 : decode b_L_law 285 = .ok (.iload 4, 2) := by decide +kernel
theorem d_L_law_287 : decode b_L_law 287 = .ok (.iconst 4, 1) := by decide +kernel
theorem d_L_law_288 : decode b_L_law 288 = .ok (.iadd, 1) := by decide +kernel
theorem d_L_law_289 : decode b_L_law 289 = .ok (.iaload, 1) := by decide +kernel
theorem d_L_law_290 : decode b_L_law 290 = .ok (.aload_n 3, 1) := by decide +kernel
theorem d_L_law_291 : decode b_L_law 291 = .ok (.invokestatic 72, 3) := by decide +kernel
theorem d_L_law_294 : decode b_L_law 294 = .ok (.istore 5, 2) := by decide +kernel
theorem d_L_law_296 : decode b_L_law 296 = .ok (.aload_n 2, 1) := by decide +kernel
