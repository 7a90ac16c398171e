/-! The law's entry, decoded. -/
theorem d_W_law_246 : decode code 246 = .ok (.if_icmp .eq 757, 3) := by decide +kernel
theorem d_W_law_249 : decode code 249 = .ok (.iconst 0, 1) := by decide +kernel
theorem d_W_law_250 : decode code 250 = .ok (.ireturn, 1) := by decide +kernel
theorem d_W_law_251 : decode code 251 = .ok (.aload_n 1, 1) := by decide +kernel
theorem d_W_law_252 : decode code 252 = .ok (.aload_n 0, 1) := by decide +kernel
theorem d_W_law_253 : decode code 253 = .ok (.iload 4, 2) := by decide +kernel
theorem d_W_law_255 : decode code 255 = .ok (.iconst 1, 1) := by decide +kernel
theorem d_W_law_256 : decode code 256 = .ok (.iadd, 1) := by decide +kernel
theorem d_W_law_257 : decode code 257 = .ok (.iaload, 1) := by decide +kernel
theorem d_W_law_258 : decode code 258 = .ok (.aload_n 3, 1) := by decide +kernel
theorem d_W_law_259 : decode code 259 = .ok (.invokestatic 77, 3) := by decide +kernel
theorem d_W_law_262 : decode code 262 = .ok (.istore 5, 2) := by decide +kernel
theorem d_W_law_264 : decode code 264 = .ok (.aload_n 2, 1) := by decide +kernel
theorem d_W_law_265 : decode code 265 = .ok (.aload_n 0, 1) := by decide +kernel
theorem d_W_law_266 : decode code 266 = .ok (.iload 4, 2) := by decide +kernel
theorem d_W_law_268 : decode code 268 = .ok (.iconst 1, 1) := by decide +kernel
theorem d_W_law_269 : decode code 269 = .ok (.iadd, 1) := by decide +kernel
theorem d_W_law_270 : decode code 270 = .ok (.iaload, 1) := by decide +kernel
theorem d_W_law_271 : decode code 271 = .ok (.invokevirtual 80, 3) := by decide +kernel
theorem d_W_law_274 : decode code 274 = .ok (.istore 6, 2) := by decide +kernel
theorem d_W_law_276 : decode code 276 = .ok (.aload_n 2, 1) := by decide +kernel
theorem d_W_law_277 : decode code 277 = .ok (.invokevirtual 69, 3) := by decide +kernel
theorem d_W_law_280 : decode code 280 = .ok (.iload 5, 2) := by decide +kernel
theorem d_W_law_282 : decode code 282 = .ok (.if_icmp .eq 5, 3) := by decide +kernel
theorem d_W_law_285 : decode code 285 = .ok (.iconst 0, 1) := by decide +kernel
theorem d_W_law_286 : decode code 286 = .ok (.ireturn, 1) := by decide +kernel
theorem d_W_law_287 : decode code 287 = .ok (.iload 5, 2) := by decide +kernel
theorem d_W_law_289 : decode code 289 = .ok (.ifCond .ne 15, 3) := by decide +kernel
theorem d_W_law_292 : decode code 292 = .ok (.aload_n 3, 1) := by decide +kernel
theorem d_W_law_293 : decode code 293 = .ok (.iconst 0, 1) := by decide +kernel
theorem d_W_law_294 : decode code 294 = .ok (.laload, 1) := by decide +kernel
theorem d_W_law_295 : decode code 295 = .ok (.iload 6, 2) := by decide +kernel
theorem d_W_law_297 : decode code 297 = .ok (.i2l, 1) := by decide +kernel
theorem d_W_law_298 : decode code 298 = .ok (.lcmp, 1) := by decide +kernel
theorem d_W_law_299 : decode code 299 = .ok (.ifCond .eq 5, 3) := by decide +kernel
theorem d_W_law_302 : decode code 302 = .ok (.iconst 0, 1) := by decide +kernel
theorem d_W_law_303 : decode code 303 = .ok (.ireturn, 1) := by decide +kernel
theorem d_W_law_304 : decode code 304 = .ok (.goto 699, 3) := by decide +kernel
theorem d_W_law_307 : decode code 307 = .ok (.aload_n 1, 1) := by decide +kernel
theorem d_W_law_308 : decode code 308 = .ok (.aload_n 0, 1) := by decide +kernel
theorem d_W_law_309 : decode code 309 = .ok (.iload 4, 2) := by decide +kernel
theorem d_W_law_311 : decode code 311 = .ok (.iconst 1, 1) := by decide +kernel
theorem d_W_law_312 : decode code 312 = .ok (.iadd, 1) := by decide +kernel
theorem d_W_law_313 : decode code 313 = .ok (.iaload, 1) := by decide +kernel
theorem d_W_law_314 : decode code 314 = .ok (.aload_n 0, 1) := by decide +kernel
theorem d_W_law_315 : decode code 315 = .ok (.iload 4, 2) := by decide +kernel
theorem d_W_law_317 : decode code 317 = .ok (.iconst 2, 1) := by decide +kernel
theorem d_W_law_318 : decode code 318 = .ok (.iadd, 1) := by decide +kernel
theorem d_W_law_319 : decode code 319 = .ok (.iaload, 1) := by decide +kernel
theorem d_W_law_320 : decode code 320 = .ok (.aload_n 3, 1) := by decide +kernel
theorem d_W_law_321 : decode code 321 = .ok (.invokestatic 81, 3) := by decide +kernel
theorem d_W_law_324 : decode code 324 = .ok (.istore 5, 2) := by decide +kernel
theorem d_W_law_326 : decode code 326 = .ok (.aload_n 2, 1) := by decide +kernel
theorem d_W_law_327 : decode code 327 = .ok (.aload_n 0, 1) := by decide +kernel
theorem d_W_law_328 : decode code 328 = .ok (.iload 4, 2) := by decide +kernel
theorem d_W_law_330 : decode code 330 = .ok (.iconst 1, 1) := by decide +kernel
theorem d_W_law_331 : decode code 331 = .ok (.iadd, 1) := by decide +kernel
theorem d_W_law_332 : decode code 332 = .ok (.iaload, 1) := by decide +kernel
theorem d_W_law_333 : decode code 333 = .ok (.aload_n 0, 1) := by decide +kernel
theorem d_W_law_334 : decode code 334 = .ok (.iload 4, 2) := by decide +kernel
