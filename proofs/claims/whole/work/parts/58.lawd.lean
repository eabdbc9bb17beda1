/-! the law: its loop -/
theorem d_Lw_law_0 : decode m_Lw_law.2.1 0 = .ok (.new 7, 3) := by decide +kernel
theorem d_Lw_law_3 : decode m_Lw_law.2.1 3 = .ok (.dup, 1) := by decide +kernel
theorem d_Lw_law_4 : decode m_Lw_law.2.1 4 = .ok (.invokespecial 9, 3) := by decide +kernel
theorem d_Lw_law_7 : decode m_Lw_law.2.1 7 = .ok (.astore_n 1, 1) := by decide +kernel
theorem d_Lw_law_8 : decode m_Lw_law.2.1 8 = .ok (.new 10, 3) := by decide +kernel
theorem d_Lw_law_11 : decode m_Lw_law.2.1 11 = .ok (.dup, 1) := by decide +kernel
theorem d_Lw_law_12 : decode m_Lw_law.2.1 12 = .ok (.invokespecial 12, 3) := by decide +kernel
theorem d_Lw_law_15 : decode m_Lw_law.2.1 15 = .ok (.astore_n 2, 1) := by decide +kernel
theorem d_Lw_law_16 : decode m_Lw_law.2.1 16 = .ok (.iconst 0, 1) := by decide +kernel
theorem d_Lw_law_17 : decode m_Lw_law.2.1 17 = .ok (.istore_n 3, 1) := by decide +kernel
theorem d_Lw_law_18 : decode m_Lw_law.2.1 18 = .ok (.iload_n 3, 1) := by decide +kernel
theorem d_Lw_law_19 : decode m_Lw_law.2.1 19 = .ok (.aload_n 0, 1) := by decide +kernel
theorem d_Lw_law_20 : decode m_Lw_law.2.1 20 = .ok (.arraylength, 1) := by decide +kernel
theorem d_Lw_law_21 : decode m_Lw_law.2.1 21 = .ok (.bipush 6, 2) := by decide +kernel
theorem d_Lw_law_23 : decode m_Lw_law.2.1 23 = .ok (.isub, 1) := by decide +kernel
theorem d_Lw_law_24 : decode m_Lw_law.2.1 24 = .ok (.if_icmp .gt 1287, 3) := by decide +kernel
theorem d_Lw_law_27 : decode m_Lw_law.2.1 27 = .ok (.aload_n 0, 1) := by decide +kernel
theorem d_Lw_law_28 : decode m_Lw_law.2.1 28 = .ok (.iload_n 3, 1) := by decide +kernel
theorem d_Lw_law_29 : decode m_Lw_law.2.1 29 = .ok (.iaload, 1) := by decide +kernel
theorem d_Lw_law_30 : decode m_Lw_law.2.1 30 = .ok (.bipush 63, 2) := by decide +kernel
theorem d_Lw_law_32 : decode m_Lw_law.2.1 32 = .ok (.iand, 1) := by decide +kernel
theorem d_Lw_law_33 : decode m_Lw_law.2.1 33 = .ok (.tableswitch 1272 0 33 #[151, 214, 237, 260, 283, 296, 349, 382, 405, 438, 471, 504, 527, 560, 593, 616, 649, 672, 695, 718, 742, 765, 798, 821, 874, 933, 976, 1019, 1052, 1095, 1148, 1181, 1214, 1258], 151) := by decide +kernel
theorem d_Lw_law_184 : decode m_Lw_law.2.1 184 = .ok (.aload_n 1, 1) := by decide +kernel
theorem d_Lw_law_185 : decode m_Lw_law.2.1 185 = .ok (.aload_n 0, 1) := by decide +kernel
theorem d_Lw_law_186 : decode m_Lw_law.2.1 186 = .ok (.iload_n 3, 1) := by decide +kernel
theorem d_Lw_law_187 : decode m_Lw_law.2.1 187 = .ok (.iconst 1, 1) := by decide +kernel
theorem d_Lw_law_188 : decode m_Lw_law.2.1 188 = .ok (.iadd, 1) := by decide +kernel
theorem d_Lw_law_189 : decode m_Lw_law.2.1 189 = .ok (.iaload, 1) := by decide +kernel
theorem d_Lw_law_190 : decode m_Lw_law.2.1 190 = .ok (.aload_n 0, 1) := by decide +kernel
theorem d_Lw_law_191 : decode m_Lw_law.2.1 191 = .ok (.iload_n 3, 1) := by decide +kernel
theorem d_Lw_law_192 : decode m_Lw_law.2.1 192 = .ok (.iconst 2, 1) := by decide +kernel
theorem d_Lw_law_193 : decode m_Lw_law.2.1 193 = .ok (.iadd, 1) := by decide +kernel
theorem d_Lw_law_194 : decode m_Lw_law.2.1 194 = .ok (.iaload, 1) := by decide +kernel
theorem d_Lw_law_195 : decode m_Lw_law.2.1 195 = .ok (.aload_n 0, 1) := by decide +kernel
theorem d_Lw_law_196 : decode m_Lw_law.2.1 196 = .ok (.iload_n 3, 1) := by decide +kernel
theorem d_Lw_law_197 : decode m_Lw_law.2.1 197 = .ok (.iconst 3, 1) := by decide +kernel
theorem d_Lw_law_198 : decode m_Lw_law.2.1 198 = .ok (.iadd, 1) := by decide +kernel
theorem d_Lw_law_199 : decode m_Lw_law.2.1 199 = .ok (.iaload, 1) := by decide +kernel
theorem d_Lw_law_200 : decode m_Lw_law.2.1 200 = .ok (.aload_n 0, 1) := by decide +kernel
theorem d_Lw_law_201 : decode m_Lw_law.2.1 201 = .ok (.iload_n 3, 1) := by decide +kernel
theorem d_Lw_law_202 : decode m_Lw_law.2.1 202 = .ok (.iconst 4, 1) := by decide +kernel
theorem d_Lw_law_203 : decode m_Lw_law.2.1 203 = .ok (.iadd, 1) := by decide +kernel
theorem d_Lw_law_204 : decode m_Lw_law.2.1 204 = .ok (.iaload, 1) := by decide +kernel
theorem d_Lw_law_205 : decode m_Lw_law.2.1 205 = .ok (.aload_n 0, 1) := by decide +kernel
theorem d_Lw_law_206 : decode m_Lw_law.2.1 206 = .ok (.iload_n 3, 1) := by decide +kernel
theorem d_Lw_law_207 : decode m_Lw_law.2.1 207 = .ok (.iconst 5, 1) := by decide +kernel
theorem d_Lw_law_208 : decode m_Lw_law.2.1 208 = .ok (.iadd, 1) := by decide +kernel
theorem d_Lw_law_209 : decode m_Lw_law.2.1 209 = .ok (.iaload, 1) := by decide +kernel
theorem d_Lw_law_210 : decode m_Lw_law.2.1 210 = .ok (.invokevirtual 13, 3) := by decide +kernel
theorem d_Lw_law_213 : decode m_Lw_law.2.1 213 = .ok (.aload_n 2, 1) := by decide +kernel
theorem d_Lw_law_214 : decode m_Lw_law.2.1 214 = .ok (.aload_n 0, 1) := by decide +kernel
theorem d_Lw_law_215 : decode m_Lw_law.2.1 215 = .ok (.iload_n 3, 1) := by decide +kernel
theorem d_Lw_law_216 : decode m_Lw_law.2.1 216 = .ok (.iconst 1, 1) := by decide +kernel
theorem d_Lw_law_217 : decode m_Lw_law.2.1 217 = .ok (.iadd, 1) := by decide +kernel
theorem d_Lw_law_218 : decode m_Lw_law.2.1 218 = .ok (.iaload, 1) := by decide +kernel
theorem d_Lw_law_219 : decode m_Lw_law.2.1 219 = .ok (.aload_n 0, 1) := by decide +kernel
theorem d_Lw_law_220 : decode m_Lw_law.2.1 220 = .ok (.iload_n 3, 1) := by decide +kernel
theorem d_Lw_law_221 : decode m_Lw_law.2.1 221 = .ok (.iconst 2, 1) := by decide +kernel
theorem d_Lw_law_222 : decode m_Lw_law.2.1 222 = .ok (.iadd, 1) := by decide +kernel
theorem d_Lw_law_223 : decode m_Lw_law.2.1 223 = .ok (.iaload, 1) := by decide +kernel
theorem d_Lw_law_224 : decode m_Lw_law.2.1 224 = .ok (.aload_n 0, 1) := by decide +kernel
theorem d_Lw_law_225 : decode m_Lw_law.2.1 225 = .ok (.iload_n 3, 1) := by decide +kernel
theorem d_Lw_law_226 : decode m_Lw_law.2.1 226 = .ok (.iconst 3, 1) := by decide +kernel
theorem d_Lw_law_227 : decode m_Lw_law.2.1 227 = .ok (.iadd, 1) := by decide +kernel
theorem d_Lw_law_228 : decode m_Lw_law.2.1 228 = .ok (.iaload, 1) := by decide +kernel
theorem d_Lw_law_229 : decode m_Lw_law.2.1 229 = .ok (.aload_n 0, 1) := by decide +kernel
theorem d_Lw_law_230 : decode m_Lw_law.2.1 230 = .ok (.iload_n 3, 1) := by decide +kernel
theorem d_Lw_law_231 : decode m_Lw_law.2.1 231 = .ok (.iconst 4, 1) := by decide +kernel
theorem d_Lw_law_232 : decode m_Lw_law.2.1 232 = .ok (.iadd, 1) := by decide +kernel
theorem d_Lw_law_233 : decode m_Lw_law.2.1 233 = .ok (.iaload, 1) := by decide +kernel
theorem d_Lw_law_234 : decode m_Lw_law.2.1 234 = .ok (.aload_n 0, 1) := by decide +kernel
theorem d_Lw_law_235 : decode m_Lw_law.2.1 235 = .ok (.iload_n 3, 1) := by decide +kernel
theorem d_Lw_law_236 : decode m_Lw_law.2.1 236 = .ok (.iconst 5, 1) := by decide +kernel
theorem d_Lw_law_237 : decode m_Lw_law.2.1 237 = .ok (.iadd, 1) := by decide +kernel
theorem d_Lw_law_238 : decode m_Lw_law.2.1 238 = .ok (.iaload, 1) := by decide +kernel
theorem d_Lw_law_239 : decode m_Lw_law.2.1 239 = .ok (.invokevirtual 17, 3) := by decide +kernel
theorem d_Lw_law_242 : decode m_Lw_law.2.1 242 = .ok (.if_icmp .eq 1063, 3) := by decide +kernel
theorem d_Lw_law_245 : decode m_Lw_law.2.1 245 = .ok (.iconst 0, 1) := by decide +kernel
theorem d_Lw_law_246 : decode m_Lw_law.2.1 246 = .ok (.ireturn, 1) := by decide +kernel
theorem d_Lw_law_247 : decode m_Lw_law.2.1 247 = .ok (.aload_n 1, 1) := by decide +kernel
theorem d_Lw_law_248 : decode m_Lw_law.2.1 248 = .ok (.aload_n 0, 1) := by decide +kernel
theorem d_Lw_law_249 : decode m_Lw_law.2.1 249 = .ok (.iload_n 3, 1) := by decide +kernel
theorem d_Lw_law_250 : decode m_Lw_law.2.1 250 = .ok (.iconst 1, 1) := by decide +kernel
theorem d_Lw_law_251 : decode m_Lw_law.2.1 251 = .ok (.iadd, 1) := by decide +kernel
theorem d_Lw_law_252 : decode m_Lw_law.2.1 252 = .ok (.iaload, 1) := by decide +kernel
theorem d_Lw_law_253 : decode m_Lw_law.2.1 253 = .ok (.invokevirtual 18, 3) := by decide +kernel
theorem d_Lw_law_256 : decode m_Lw_law.2.1 256 = .ok (.aload_n 2, 1) := by decide +kernel
theorem d_Lw_law_257 : decode m_Lw_law.2.1 257 = .ok (.aload_n 0, 1) := by decide +kernel
theorem d_Lw_law_258 : decode m_Lw_law.2.1 258 = .ok (.iload_n 3, 1) := by decide +kernel
theorem d_Lw_law_259 : decode m_Lw_law.2.1 259 = .ok (.iconst 1, 1) := by decide +kernel
theorem d_Lw_law_260 : decode m_Lw_law.2.1 260 = .ok (.iadd, 1) := by decide +kernel
theorem d_Lw_law_261 : decode m_Lw_law.2.1 261 = .ok (.iaload, 1) := by decide +kernel
theorem d_Lw_law_262 : decode m_Lw_law.2.1 262 = .ok (.invokevirtual 22, 3) := by decide +kernel
theorem d_Lw_law_265 : decode m_Lw_law.2.1 265 = .ok (.if_icmp .eq 1040, 3) := by decide +kernel
theorem d_Lw_law_268 : decode m_Lw_law.2.1 268 = .ok (.iconst 0, 1) := by decide +kernel
theorem d_Lw_law_269 : decode m_Lw_law.2.1 269 = .ok (.ireturn, 1) := by decide +kernel
theorem d_Lw_law_270 : decode m_Lw_law.2.1 270 = .ok (.aload_n 1, 1) := by decide +kernel
theorem d_Lw_law_271 : decode m_Lw_law.2.1 271 = .ok (.aload_n 0, 1) := by decide +kernel
theorem d_Lw_law_272 : decode m_Lw_law.2.1 272 = .ok (.iload_n 3, 1) := by decide +kernel
theorem d_Lw_law_273 : decode m_Lw_law.2.1 273 = .ok (.iconst 1, 1) := by decide +kernel
theorem d_Lw_law_274 : decode m_Lw_law.2.1 274 = .ok (.iadd, 1) := by decide +kernel
theorem d_Lw_law_275 : decode m_Lw_law.2.1 275 = .ok (.iaload, 1) := by decide +kernel
theorem d_Lw_law_276 : decode m_Lw_law.2.1 276 = .ok (.invokevirtual 23, 3) := by decide +kernel
theorem d_Lw_law_279 : decode m_Lw_law.2.1 279 = .ok (.aload_n 2, 1) := by decide +kernel
theorem d_Lw_law_280 : decode m_Lw_law.2.1 280 = .ok (.aload_n 0, 1) := by decide +kernel
theorem d_Lw_law_281 : decode m_Lw_law.2.1 281 = .ok (.iload_n 3, 1) := by decide +kernel
theorem d_Lw_law_282 : decode m_Lw_law.2.1 282 = .ok (.iconst 1, 1) := by decide +kernel
theorem d_Lw_law_283 : decode m_Lw_law.2.1 283 = .ok (.iadd, 1) := by decide +kernel
theorem d_Lw_law_284 : decode m_Lw_law.2.1 284 = .ok (.iaload, 1) := by decide +kernel
theorem d_Lw_law_285 : decode m_Lw_law.2.1 285 = .ok (.invokevirtual 27, 3) := by decide +kernel
theorem d_Lw_law_288 : decode m_Lw_law.2.1 288 = .ok (.if_icmp .eq 1017, 3) := by decide +kernel
theorem d_Lw_law_291 : decode m_Lw_law.2.1 291 = .ok (.iconst 0, 1) := by decide +kernel
theorem d_Lw_law_292 : decode m_Lw_law.2.1 292 = .ok (.ireturn, 1) := by decide +kernel
theorem d_Lw_law_293 : decode m_Lw_law.2.1 293 = .ok (.aload_n 1, 1) := by decide +kernel
theorem d_Lw_law_294 : decode m_Lw_law.2.1 294 = .ok (.aload_n 0, 1) := by decide +kernel
theorem d_Lw_law_295 : decode m_Lw_law.2.1 295 = .ok (.iload_n 3, 1) := by decide +kernel
theorem d_Lw_law_296 : decode m_Lw_law.2.1 296 = .ok (.iconst 1, 1) := by decide +kernel
theorem d_Lw_law_297 : decode m_Lw_law.2.1 297 = .ok (.iadd, 1) := by decide +kernel
theorem d_Lw_law_298 : decode m_Lw_law.2.1 298 = .ok (.iaload, 1) := by decide +kernel
theorem d_Lw_law_299 : decode m_Lw_law.2.1 299 = .ok (.invokevirtual 28, 3) := by decide +kernel
theorem d_Lw_law_302 : decode m_Lw_law.2.1 302 = .ok (.aload_n 2, 1) := by decide +kernel
theorem d_Lw_law_303 : decode m_Lw_law.2.1 303 = .ok (.aload_n 0, 1) := by decide +kernel
theorem d_Lw_law_304 : decode m_Lw_law.2.1 304 = .ok (.iload_n 3, 1) := by decide +kernel
theorem d_Lw_law_305 : decode m_Lw_law.2.1 305 = .ok (.iconst 1, 1) := by decide +kernel
theorem d_Lw_law_306 : decode m_Lw_law.2.1 306 = .ok (.iadd, 1) := by decide +kernel
theorem d_Lw_law_307 : decode m_Lw_law.2.1 307 = .ok (.iaload, 1) := by decide +kernel
theorem d_Lw_law_308 : decode m_Lw_law.2.1 308 = .ok (.invokevirtual 31, 3) := by decide +kernel
theorem d_Lw_law_311 : decode m_Lw_law.2.1 311 = .ok (.if_icmp .eq 994, 3) := by decide +kernel
theorem d_Lw_law_314 : decode m_Lw_law.2.1 314 = .ok (.iconst 0, 1) := by decide +kernel
theorem d_Lw_law_315 : decode m_Lw_law.2.1 315 = .ok (.ireturn, 1) := by decide +kernel
theorem d_Lw_law_316 : decode m_Lw_law.2.1 316 = .ok (.aload_n 1, 1) := by decide +kernel
theorem d_Lw_law_317 : decode m_Lw_law.2.1 317 = .ok (.invokevirtual 32, 3) := by decide +kernel
theorem d_Lw_law_320 : decode m_Lw_law.2.1 320 = .ok (.aload_n 2, 1) := by decide +kernel
theorem d_Lw_law_321 : decode m_Lw_law.2.1 321 = .ok (.invokevirtual 36, 3) := by decide +kernel
theorem d_Lw_law_324 : decode m_Lw_law.2.1 324 = .ok (.if_icmp .eq 981, 3) := by decide +kernel
theorem d_Lw_law_327 : decode m_Lw_law.2.1 327 = .ok (.iconst 0, 1) := by decide +kernel
theorem d_Lw_law_328 : decode m_Lw_law.2.1 328 = .ok (.ireturn, 1) := by decide +kernel
theorem d_Lw_law_329 : decode m_Lw_law.2.1 329 = .ok (.aload_n 1, 1) := by decide +kernel
theorem d_Lw_law_330 : decode m_Lw_law.2.1 330 = .ok (.aload_n 0, 1) := by decide +kernel
theorem d_Lw_law_331 : decode m_Lw_law.2.1 331 = .ok (.iload_n 3, 1) := by decide +kernel
theorem d_Lw_law_332 : decode m_Lw_law.2.1 332 = .ok (.iconst 1, 1) := by decide +kernel
theorem d_Lw_law_333 : decode m_Lw_law.2.1 333 = .ok (.iadd, 1) := by decide +kernel
theorem d_Lw_law_334 : decode m_Lw_law.2.1 334 = .ok (.iaload, 1) := by decide +kernel
theorem d_Lw_law_335 : decode m_Lw_law.2.1 335 = .ok (.aload_n 0, 1) := by decide +kernel
theorem d_Lw_law_336 : decode m_Lw_law.2.1 336 = .ok (.iload_n 3, 1) := by decide +kernel
theorem d_Lw_law_337 : decode m_Lw_law.2.1 337 = .ok (.iconst 2, 1) := by decide +kernel
theorem d_Lw_law_338 : decode m_Lw_law.2.1 338 = .ok (.iadd, 1) := by decide +kernel
theorem d_Lw_law_339 : decode m_Lw_law.2.1 339 = .ok (.iaload, 1) := by decide +kernel
theorem d_Lw_law_340 : decode m_Lw_law.2.1 340 = .ok (.aload_n 0, 1) := by decide +kernel
theorem d_Lw_law_341 : decode m_Lw_law.2.1 341 = .ok (.iload_n 3, 1) := by decide +kernel
theorem d_Lw_law_342 : decode m_Lw_law.2.1 342 = .ok (.iconst 3, 1) := by decide +kernel
theorem d_Lw_law_343 : decode m_Lw_law.2.1 343 = .ok (.iadd, 1) := by decide +kernel
theorem d_Lw_law_344 : decode m_Lw_law.2.1 344 = .ok (.iaload, 1) := by decide +kernel
theorem d_Lw_law_345 : decode m_Lw_law.2.1 345 = .ok (.aload_n 0, 1) := by decide +kernel
theorem d_Lw_law_346 : decode m_Lw_law.2.1 346 = .ok (.iload_n 3, 1) := by decide +kernel
theorem d_Lw_law_347 : decode m_Lw_law.2.1 347 = .ok (.iconst 4, 1) := by decide +kernel
theorem d_Lw_law_348 : decode m_Lw_law.2.1 348 = .ok (.iadd, 1) := by decide +kernel
theorem d_Lw_law_349 : decode m_Lw_law.2.1 349 = .ok (.iaload, 1) := by decide +kernel
theorem d_Lw_law_350 : decode m_Lw_law.2.1 350 = .ok (.invokevirtual 37, 3) := by decide +kernel
theorem d_Lw_law_353 : decode m_Lw_law.2.1 353 = .ok (.aload_n 2, 1) := by decide +kernel
theorem d_Lw_law_354 : decode m_Lw_law.2.1 354 = .ok (.aload_n 0, 1) := by decide +kernel
theorem d_Lw_law_355 : decode m_Lw_law.2.1 355 = .ok (.iload_n 3, 1) := by decide +kernel
theorem d_Lw_law_356 : decode m_Lw_law.2.1 356 = .ok (.iconst 1, 1) := by decide +kernel
theorem d_Lw_law_357 : decode m_Lw_law.2.1 357 = .ok (.iadd, 1) := by decide +kernel
theorem d_Lw_law_358 : decode m_Lw_law.2.1 358 = .ok (.iaload, 1) := by decide +kernel
theorem d_Lw_law_359 : decode m_Lw_law.2.1 359 = .ok (.aload_n 0, 1) := by decide +kernel
theorem d_Lw_law_360 : decode m_Lw_law.2.1 360 = .ok (.iload_n 3, 1) := by decide +kernel
theorem d_Lw_law_361 : decode m_Lw_law.2.1 361 = .ok (.iconst 2, 1) := by decide +kernel
theorem d_Lw_law_362 : decode m_Lw_law.2.1 362 = .ok (.iadd, 1) := by decide +kernel
theorem d_Lw_law_363 : decode m_Lw_law.2.1 363 = .ok (.iaload, 1) := by decide +kernel
theorem d_Lw_law_364 : decode m_Lw_law.2.1 364 = .ok (.aload_n 0, 1) := by decide +kernel
theorem d_Lw_law_365 : decode m_Lw_law.2.1 365 = .ok (.iload_n 3, 1) := by decide +kernel
theorem d_Lw_law_366 : decode m_Lw_law.2.1 366 = .ok (.iconst 3, 1) := by decide +kernel
theorem d_Lw_law_367 : decode m_Lw_law.2.1 367 = .ok (.iadd, 1) := by decide +kernel
theorem d_Lw_law_368 : decode m_Lw_law.2.1 368 = .ok (.iaload, 1) := by decide +kernel
theorem d_Lw_law_369 : decode m_Lw_law.2.1 369 = .ok (.aload_n 0, 1) := by decide +kernel
theorem d_Lw_law_370 : decode m_Lw_law.2.1 370 = .ok (.iload_n 3, 1) := by decide +kernel
theorem d_Lw_law_371 : decode m_Lw_law.2.1 371 = .ok (.iconst 4, 1) := by decide +kernel
theorem d_Lw_law_372 : decode m_Lw_law.2.1 372 = .ok (.iadd, 1) := by decide +kernel
theorem d_Lw_law_373 : decode m_Lw_law.2.1 373 = .ok (.iaload, 1) := by decide +kernel
theorem d_Lw_law_374 : decode m_Lw_law.2.1 374 = .ok (.invokevirtual 41, 3) := by decide +kernel
theorem d_Lw_law_377 : decode m_Lw_law.2.1 377 = .ok (.if_icmp .eq 928, 3) := by decide +kernel
theorem d_Lw_law_380 : decode m_Lw_law.2.1 380 = .ok (.iconst 0, 1) := by decide +kernel
theorem d_Lw_law_381 : decode m_Lw_law.2.1 381 = .ok (.ireturn, 1) := by decide +kernel
theorem d_Lw_law_382 : decode m_Lw_law.2.1 382 = .ok (.aload_n 1, 1) := by decide +kernel
theorem d_Lw_law_383 : decode m_Lw_law.2.1 383 = .ok (.aload_n 0, 1) := by decide +kernel
theorem d_Lw_law_384 : decode m_Lw_law.2.1 384 = .ok (.iload_n 3, 1) := by decide +kernel
theorem d_Lw_law_385 : decode m_Lw_law.2.1 385 = .ok (.iconst 1, 1) := by decide +kernel
theorem d_Lw_law_386 : decode m_Lw_law.2.1 386 = .ok (.iadd, 1) := by decide +kernel
theorem d_Lw_law_387 : decode m_Lw_law.2.1 387 = .ok (.iaload, 1) := by decide +kernel
theorem d_Lw_law_388 : decode m_Lw_law.2.1 388 = .ok (.aload_n 0, 1) := by decide +kernel
theorem d_Lw_law_389 : decode m_Lw_law.2.1 389 = .ok (.iload_n 3, 1) := by decide +kernel
theorem d_Lw_law_390 : decode m_Lw_law.2.1 390 = .ok (.iconst 2, 1) := by decide +kernel
theorem d_Lw_law_391 : decode m_Lw_law.2.1 391 = .ok (.iadd, 1) := by decide +kernel
theorem d_Lw_law_392 : decode m_Lw_law.2.1 392 = .ok (.iaload, 1) := by decide +kernel
theorem d_Lw_law_393 : decode m_Lw_law.2.1 393 = .ok (.invokevirtual 42, 3) := by decide +kernel
theorem d_Lw_law_396 : decode m_Lw_law.2.1 396 = .ok (.aload_n 2, 1) := by decide +kernel
theorem d_Lw_law_397 : decode m_Lw_law.2.1 397 = .ok (.aload_n 0, 1) := by decide +kernel
theorem d_Lw_law_398 : decode m_Lw_law.2.1 398 = .ok (.iload_n 3, 1) := by decide +kernel
theorem d_Lw_law_399 : decode m_Lw_law.2.1 399 = .ok (.iconst 1, 1) := by decide +kernel
theorem d_Lw_law_400 : decode m_Lw_law.2.1 400 = .ok (.iadd, 1) := by decide +kernel
theorem d_Lw_law_401 : decode m_Lw_law.2.1 401 = .ok (.iaload, 1) := by decide +kernel
theorem d_Lw_law_402 : decode m_Lw_law.2.1 402 = .ok (.aload_n 0, 1) := by decide +kernel
theorem d_Lw_law_403 : decode m_Lw_law.2.1 403 = .ok (.iload_n 3, 1) := by decide +kernel
theorem d_Lw_law_404 : decode m_Lw_law.2.1 404 = .ok (.iconst 2, 1) := by decide +kernel
theorem d_Lw_law_405 : decode m_Lw_law.2.1 405 = .ok (.iadd, 1) := by decide +kernel
theorem d_Lw_law_406 : decode m_Lw_law.2.1 406 = .ok (.iaload, 1) := by decide +kernel
theorem d_Lw_law_407 : decode m_Lw_law.2.1 407 = .ok (.invokevirtual 46, 3) := by decide +kernel
theorem d_Lw_law_410 : decode m_Lw_law.2.1 410 = .ok (.if_icmp .eq 895, 3) := by decide +kernel
theorem d_Lw_law_413 : decode m_Lw_law.2.1 413 = .ok (.iconst 0, 1) := by decide +kernel
theorem d_Lw_law_414 : decode m_Lw_law.2.1 414 = .ok (.ireturn, 1) := by decide +kernel
theorem d_Lw_law_415 : decode m_Lw_law.2.1 415 = .ok (.aload_n 1, 1) := by decide +kernel
theorem d_Lw_law_416 : decode m_Lw_law.2.1 416 = .ok (.aload_n 0, 1) := by decide +kernel
theorem d_Lw_law_417 : decode m_Lw_law.2.1 417 = .ok (.iload_n 3, 1) := by decide +kernel
theorem d_Lw_law_418 : decode m_Lw_law.2.1 418 = .ok (.iconst 1, 1) := by decide +kernel
theorem d_Lw_law_419 : decode m_Lw_law.2.1 419 = .ok (.iadd, 1) := by decide +kernel
theorem d_Lw_law_420 : decode m_Lw_law.2.1 420 = .ok (.iaload, 1) := by decide +kernel
theorem d_Lw_law_421 : decode m_Lw_law.2.1 421 = .ok (.invokevirtual 47, 3) := by decide +kernel
theorem d_Lw_law_424 : decode m_Lw_law.2.1 424 = .ok (.aload_n 2, 1) := by decide +kernel
theorem d_Lw_law_425 : decode m_Lw_law.2.1 425 = .ok (.aload_n 0, 1) := by decide +kernel
theorem d_Lw_law_426 : decode m_Lw_law.2.1 426 = .ok (.iload_n 3, 1) := by decide +kernel
theorem d_Lw_law_427 : decode m_Lw_law.2.1 427 = .ok (.iconst 1, 1) := by decide +kernel
theorem d_Lw_law_428 : decode m_Lw_law.2.1 428 = .ok (.iadd, 1) := by decide +kernel
theorem d_Lw_law_429 : decode m_Lw_law.2.1 429 = .ok (.iaload, 1) := by decide +kernel
theorem d_Lw_law_430 : decode m_Lw_law.2.1 430 = .ok (.invokevirtual 50, 3) := by decide +kernel
theorem d_Lw_law_433 : decode m_Lw_law.2.1 433 = .ok (.if_icmp .eq 872, 3) := by decide +kernel
theorem d_Lw_law_436 : decode m_Lw_law.2.1 436 = .ok (.iconst 0, 1) := by decide +kernel
theorem d_Lw_law_437 : decode m_Lw_law.2.1 437 = .ok (.ireturn, 1) := by decide +kernel
theorem d_Lw_law_438 : decode m_Lw_law.2.1 438 = .ok (.aload_n 1, 1) := by decide +kernel
theorem d_Lw_law_439 : decode m_Lw_law.2.1 439 = .ok (.aload_n 0, 1) := by decide +kernel
theorem d_Lw_law_440 : decode m_Lw_law.2.1 440 = .ok (.iload_n 3, 1) := by decide +kernel
theorem d_Lw_law_441 : decode m_Lw_law.2.1 441 = .ok (.iconst 1, 1) := by decide +kernel
theorem d_Lw_law_442 : decode m_Lw_law.2.1 442 = .ok (.iadd, 1) := by decide +kernel
theorem d_Lw_law_443 : decode m_Lw_law.2.1 443 = .ok (.iaload, 1) := by decide +kernel
theorem d_Lw_law_444 : decode m_Lw_law.2.1 444 = .ok (.aload_n 0, 1) := by decide +kernel
theorem d_Lw_law_445 : decode m_Lw_law.2.1 445 = .ok (.iload_n 3, 1) := by decide +kernel
theorem d_Lw_law_446 : decode m_Lw_law.2.1 446 = .ok (.iconst 2, 1) := by decide +kernel
theorem d_Lw_law_447 : decode m_Lw_law.2.1 447 = .ok (.iadd, 1) := by decide +kernel
theorem d_Lw_law_448 : decode m_Lw_law.2.1 448 = .ok (.iaload, 1) := by decide +kernel
theorem d_Lw_law_449 : decode m_Lw_law.2.1 449 = .ok (.invokevirtual 51, 3) := by decide +kernel
theorem d_Lw_law_452 : decode m_Lw_law.2.1 452 = .ok (.aload_n 2, 1) := by decide +kernel
theorem d_Lw_law_453 : decode m_Lw_law.2.1 453 = .ok (.aload_n 0, 1) := by decide +kernel
theorem d_Lw_law_454 : decode m_Lw_law.2.1 454 = .ok (.iload_n 3, 1) := by decide +kernel
theorem d_Lw_law_455 : decode m_Lw_law.2.1 455 = .ok (.iconst 1, 1) := by decide +kernel
theorem d_Lw_law_456 : decode m_Lw_law.2.1 456 = .ok (.iadd, 1) := by decide +kernel
theorem d_Lw_law_457 : decode m_Lw_law.2.1 457 = .ok (.iaload, 1) := by decide +kernel
theorem d_Lw_law_458 : decode m_Lw_law.2.1 458 = .ok (.aload_n 0, 1) := by decide +kernel
theorem d_Lw_law_459 : decode m_Lw_law.2.1 459 = .ok (.iload_n 3, 1) := by decide +kernel
theorem d_Lw_law_460 : decode m_Lw_law.2.1 460 = .ok (.iconst 2, 1) := by decide +kernel
theorem d_Lw_law_461 : decode m_Lw_law.2.1 461 = .ok (.iadd, 1) := by decide +kernel
theorem d_Lw_law_462 : decode m_Lw_law.2.1 462 = .ok (.iaload, 1) := by decide +kernel
theorem d_Lw_law_463 : decode m_Lw_law.2.1 463 = .ok (.invokevirtual 54, 3) := by decide +kernel
theorem d_Lw_law_466 : decode m_Lw_law.2.1 466 = .ok (.if_icmp .eq 839, 3) := by decide +kernel
theorem d_Lw_law_469 : decode m_Lw_law.2.1 469 = .ok (.iconst 0, 1) := by decide +kernel
theorem d_Lw_law_470 : decode m_Lw_law.2.1 470 = .ok (.ireturn, 1) := by decide +kernel
theorem d_Lw_law_471 : decode m_Lw_law.2.1 471 = .ok (.aload_n 1, 1) := by decide +kernel
theorem d_Lw_law_472 : decode m_Lw_law.2.1 472 = .ok (.aload_n 0, 1) := by decide +kernel
theorem d_Lw_law_473 : decode m_Lw_law.2.1 473 = .ok (.iload_n 3, 1) := by decide +kernel
theorem d_Lw_law_474 : decode m_Lw_law.2.1 474 = .ok (.iconst 1, 1) := by decide +kernel
theorem d_Lw_law_475 : decode m_Lw_law.2.1 475 = .ok (.iadd, 1) := by decide +kernel
theorem d_Lw_law_476 : decode m_Lw_law.2.1 476 = .ok (.iaload, 1) := by decide +kernel
theorem d_Lw_law_477 : decode m_Lw_law.2.1 477 = .ok (.aload_n 0, 1) := by decide +kernel
theorem d_Lw_law_478 : decode m_Lw_law.2.1 478 = .ok (.iload_n 3, 1) := by decide +kernel
theorem d_Lw_law_479 : decode m_Lw_law.2.1 479 = .ok (.iconst 2, 1) := by decide +kernel
theorem d_Lw_law_480 : decode m_Lw_law.2.1 480 = .ok (.iadd, 1) := by decide +kernel
theorem d_Lw_law_481 : decode m_Lw_law.2.1 481 = .ok (.iaload, 1) := by decide +kernel
theorem d_Lw_law_482 : decode m_Lw_law.2.1 482 = .ok (.invokevirtual 55, 3) := by decide +kernel
theorem d_Lw_law_485 : decode m_Lw_law.2.1 485 = .ok (.aload_n 2, 1) := by decide +kernel
theorem d_Lw_law_486 : decode m_Lw_law.2.1 486 = .ok (.aload_n 0, 1) := by decide +kernel
theorem d_Lw_law_487 : decode m_Lw_law.2.1 487 = .ok (.iload_n 3, 1) := by decide +kernel
theorem d_Lw_law_488 : decode m_Lw_law.2.1 488 = .ok (.iconst 1, 1) := by decide +kernel
theorem d_Lw_law_489 : decode m_Lw_law.2.1 489 = .ok (.iadd, 1) := by decide +kernel
theorem d_Lw_law_490 : decode m_Lw_law.2.1 490 = .ok (.iaload, 1) := by decide +kernel
theorem d_Lw_law_491 : decode m_Lw_law.2.1 491 = .ok (.aload_n 0, 1) := by decide +kernel
theorem d_Lw_law_492 : decode m_Lw_law.2.1 492 = .ok (.iload_n 3, 1) := by decide +kernel
theorem d_Lw_law_493 : decode m_Lw_law.2.1 493 = .ok (.iconst 2, 1) := by decide +kernel
theorem d_Lw_law_494 : decode m_Lw_law.2.1 494 = .ok (.iadd, 1) := by decide +kernel
theorem d_Lw_law_495 : decode m_Lw_law.2.1 495 = .ok (.iaload, 1) := by decide +kernel
theorem d_Lw_law_496 : decode m_Lw_law.2.1 496 = .ok (.invokevirtual 58, 3) := by decide +kernel
theorem d_Lw_law_499 : decode m_Lw_law.2.1 499 = .ok (.if_icmp .eq 806, 3) := by decide +kernel
theorem d_Lw_law_502 : decode m_Lw_law.2.1 502 = .ok (.iconst 0, 1) := by decide +kernel
theorem d_Lw_law_503 : decode m_Lw_law.2.1 503 = .ok (.ireturn, 1) := by decide +kernel
theorem d_Lw_law_504 : decode m_Lw_law.2.1 504 = .ok (.aload_n 1, 1) := by decide +kernel
theorem d_Lw_law_505 : decode m_Lw_law.2.1 505 = .ok (.aload_n 0, 1) := by decide +kernel
theorem d_Lw_law_506 : decode m_Lw_law.2.1 506 = .ok (.iload_n 3, 1) := by decide +kernel
theorem d_Lw_law_507 : decode m_Lw_law.2.1 507 = .ok (.iconst 1, 1) := by decide +kernel
theorem d_Lw_law_508 : decode m_Lw_law.2.1 508 = .ok (.iadd, 1) := by decide +kernel
theorem d_Lw_law_509 : decode m_Lw_law.2.1 509 = .ok (.iaload, 1) := by decide +kernel
theorem d_Lw_law_510 : decode m_Lw_law.2.1 510 = .ok (.aload_n 0, 1) := by decide +kernel
theorem d_Lw_law_511 : decode m_Lw_law.2.1 511 = .ok (.iload_n 3, 1) := by decide +kernel
theorem d_Lw_law_512 : decode m_Lw_law.2.1 512 = .ok (.iconst 2, 1) := by decide +kernel
theorem d_Lw_law_513 : decode m_Lw_law.2.1 513 = .ok (.iadd, 1) := by decide +kernel
theorem d_Lw_law_514 : decode m_Lw_law.2.1 514 = .ok (.iaload, 1) := by decide +kernel
theorem d_Lw_law_515 : decode m_Lw_law.2.1 515 = .ok (.invokevirtual 59, 3) := by decide +kernel
theorem d_Lw_law_518 : decode m_Lw_law.2.1 518 = .ok (.aload_n 2, 1) := by decide +kernel
theorem d_Lw_law_519 : decode m_Lw_law.2.1 519 = .ok (.aload_n 0, 1) := by decide +kernel
theorem d_Lw_law_520 : decode m_Lw_law.2.1 520 = .ok (.iload_n 3, 1) := by decide +kernel
theorem d_Lw_law_521 : decode m_Lw_law.2.1 521 = .ok (.iconst 1, 1) := by decide +kernel
theorem d_Lw_law_522 : decode m_Lw_law.2.1 522 = .ok (.iadd, 1) := by decide +kernel
theorem d_Lw_law_523 : decode m_Lw_law.2.1 523 = .ok (.iaload, 1) := by decide +kernel
theorem d_Lw_law_524 : decode m_Lw_law.2.1 524 = .ok (.aload_n 0, 1) := by decide +kernel
theorem d_Lw_law_525 : decode m_Lw_law.2.1 525 = .ok (.iload_n 3, 1) := by decide +kernel
theorem d_Lw_law_526 : decode m_Lw_law.2.1 526 = .ok (.iconst 2, 1) := by decide +kernel
theorem d_Lw_law_527 : decode m_Lw_law.2.1 527 = .ok (.iadd, 1) := by decide +kernel
theorem d_Lw_law_528 : decode m_Lw_law.2.1 528 = .ok (.iaload, 1) := by decide +kernel
theorem d_Lw_law_529 : decode m_Lw_law.2.1 529 = .ok (.invokevirtual 62, 3) := by decide +kernel
theorem d_Lw_law_532 : decode m_Lw_law.2.1 532 = .ok (.if_icmp .eq 773, 3) := by decide +kernel
theorem d_Lw_law_535 : decode m_Lw_law.2.1 535 = .ok (.iconst 0, 1) := by decide +kernel
theorem d_Lw_law_536 : decode m_Lw_law.2.1 536 = .ok (.ireturn, 1) := by decide +kernel
theorem d_Lw_law_537 : decode m_Lw_law.2.1 537 = .ok (.aload_n 1, 1) := by decide +kernel
theorem d_Lw_law_538 : decode m_Lw_law.2.1 538 = .ok (.aload_n 0, 1) := by decide +kernel
theorem d_Lw_law_539 : decode m_Lw_law.2.1 539 = .ok (.iload_n 3, 1) := by decide +kernel
theorem d_Lw_law_540 : decode m_Lw_law.2.1 540 = .ok (.iconst 1, 1) := by decide +kernel
theorem d_Lw_law_541 : decode m_Lw_law.2.1 541 = .ok (.iadd, 1) := by decide +kernel
theorem d_Lw_law_542 : decode m_Lw_law.2.1 542 = .ok (.iaload, 1) := by decide +kernel
theorem d_Lw_law_543 : decode m_Lw_law.2.1 543 = .ok (.invokevirtual 63, 3) := by decide +kernel
theorem d_Lw_law_546 : decode m_Lw_law.2.1 546 = .ok (.aload_n 2, 1) := by decide +kernel
theorem d_Lw_law_547 : decode m_Lw_law.2.1 547 = .ok (.aload_n 0, 1) := by decide +kernel
theorem d_Lw_law_548 : decode m_Lw_law.2.1 548 = .ok (.iload_n 3, 1) := by decide +kernel
theorem d_Lw_law_549 : decode m_Lw_law.2.1 549 = .ok (.iconst 1, 1) := by decide +kernel
theorem d_Lw_law_550 : decode m_Lw_law.2.1 550 = .ok (.iadd, 1) := by decide +kernel
theorem d_Lw_law_551 : decode m_Lw_law.2.1 551 = .ok (.iaload, 1) := by decide +kernel
theorem d_Lw_law_552 : decode m_Lw_law.2.1 552 = .ok (.invokevirtual 66, 3) := by decide +kernel
theorem d_Lw_law_555 : decode m_Lw_law.2.1 555 = .ok (.if_icmp .eq 750, 3) := by decide +kernel
theorem d_Lw_law_558 : decode m_Lw_law.2.1 558 = .ok (.iconst 0, 1) := by decide +kernel
theorem d_Lw_law_559 : decode m_Lw_law.2.1 559 = .ok (.ireturn, 1) := by decide +kernel
theorem d_Lw_law_560 : decode m_Lw_law.2.1 560 = .ok (.aload_n 1, 1) := by decide +kernel
theorem d_Lw_law_561 : decode m_Lw_law.2.1 561 = .ok (.aload_n 0, 1) := by decide +kernel
theorem d_Lw_law_562 : decode m_Lw_law.2.1 562 = .ok (.iload_n 3, 1) := by decide +kernel
theorem d_Lw_law_563 : decode m_Lw_law.2.1 563 = .ok (.iconst 1, 1) := by decide +kernel
theorem d_Lw_law_564 : decode m_Lw_law.2.1 564 = .ok (.iadd, 1) := by decide +kernel
theorem d_Lw_law_565 : decode m_Lw_law.2.1 565 = .ok (.iaload, 1) := by decide +kernel
theorem d_Lw_law_566 : decode m_Lw_law.2.1 566 = .ok (.aload_n 0, 1) := by decide +kernel
theorem d_Lw_law_567 : decode m_Lw_law.2.1 567 = .ok (.iload_n 3, 1) := by decide +kernel
theorem d_Lw_law_568 : decode m_Lw_law.2.1 568 = .ok (.iconst 2, 1) := by decide +kernel
theorem d_Lw_law_569 : decode m_Lw_law.2.1 569 = .ok (.iadd, 1) := by decide +kernel
theorem d_Lw_law_570 : decode m_Lw_law.2.1 570 = .ok (.iaload, 1) := by decide +kernel
theorem d_Lw_law_571 : decode m_Lw_law.2.1 571 = .ok (.invokevirtual 67, 3) := by decide +kernel
theorem d_Lw_law_574 : decode m_Lw_law.2.1 574 = .ok (.aload_n 2, 1) := by decide +kernel
theorem d_Lw_law_575 : decode m_Lw_law.2.1 575 = .ok (.aload_n 0, 1) := by decide +kernel
theorem d_Lw_law_576 : decode m_Lw_law.2.1 576 = .ok (.iload_n 3, 1) := by decide +kernel
theorem d_Lw_law_577 : decode m_Lw_law.2.1 577 = .ok (.iconst 1, 1) := by decide +kernel
theorem d_Lw_law_578 : decode m_Lw_law.2.1 578 = .ok (.iadd, 1) := by decide +kernel
theorem d_Lw_law_579 : decode m_Lw_law.2.1 579 = .ok (.iaload, 1) := by decide +kernel
theorem d_Lw_law_580 : decode m_Lw_law.2.1 580 = .ok (.aload_n 0, 1) := by decide +kernel
theorem d_Lw_law_581 : decode m_Lw_law.2.1 581 = .ok (.iload_n 3, 1) := by decide +kernel
theorem d_Lw_law_582 : decode m_Lw_law.2.1 582 = .ok (.iconst 2, 1) := by decide +kernel
theorem d_Lw_law_583 : decode m_Lw_law.2.1 583 = .ok (.iadd, 1) := by decide +kernel
theorem d_Lw_law_584 : decode m_Lw_law.2.1 584 = .ok (.iaload, 1) := by decide +kernel
theorem d_Lw_law_585 : decode m_Lw_law.2.1 585 = .ok (.invokevirtual 71, 3) := by decide +kernel
theorem d_Lw_law_588 : decode m_Lw_law.2.1 588 = .ok (.if_icmp .eq 717, 3) := by decide +kernel
theorem d_Lw_law_591 : decode m_Lw_law.2.1 591 = .ok (.iconst 0, 1) := by decide +kernel
theorem d_Lw_law_592 : decode m_Lw_law.2.1 592 = .ok (.ireturn, 1) := by decide +kernel
theorem d_Lw_law_593 : decode m_Lw_law.2.1 593 = .ok (.aload_n 1, 1) := by decide +kernel
theorem d_Lw_law_594 : decode m_Lw_law.2.1 594 = .ok (.aload_n 0, 1) := by decide +kernel
theorem d_Lw_law_595 : decode m_Lw_law.2.1 595 = .ok (.iload_n 3, 1) := by decide +kernel
theorem d_Lw_law_596 : decode m_Lw_law.2.1 596 = .ok (.iconst 1, 1) := by decide +kernel
theorem d_Lw_law_597 : decode m_Lw_law.2.1 597 = .ok (.iadd, 1) := by decide +kernel
theorem d_Lw_law_598 : decode m_Lw_law.2.1 598 = .ok (.iaload, 1) := by decide +kernel
theorem d_Lw_law_599 : decode m_Lw_law.2.1 599 = .ok (.aload_n 0, 1) := by decide +kernel
theorem d_Lw_law_600 : decode m_Lw_law.2.1 600 = .ok (.iload_n 3, 1) := by decide +kernel
theorem d_Lw_law_601 : decode m_Lw_law.2.1 601 = .ok (.iconst 2, 1) := by decide +kernel
theorem d_Lw_law_602 : decode m_Lw_law.2.1 602 = .ok (.iadd, 1) := by decide +kernel
theorem d_Lw_law_603 : decode m_Lw_law.2.1 603 = .ok (.iaload, 1) := by decide +kernel
theorem d_Lw_law_604 : decode m_Lw_law.2.1 604 = .ok (.invokevirtual 72, 3) := by decide +kernel
theorem d_Lw_law_607 : decode m_Lw_law.2.1 607 = .ok (.aload_n 2, 1) := by decide +kernel
theorem d_Lw_law_608 : decode m_Lw_law.2.1 608 = .ok (.aload_n 0, 1) := by decide +kernel
theorem d_Lw_law_609 : decode m_Lw_law.2.1 609 = .ok (.iload_n 3, 1) := by decide +kernel
theorem d_Lw_law_610 : decode m_Lw_law.2.1 610 = .ok (.iconst 1, 1) := by decide +kernel
theorem d_Lw_law_611 : decode m_Lw_law.2.1 611 = .ok (.iadd, 1) := by decide +kernel
theorem d_Lw_law_612 : decode m_Lw_law.2.1 612 = .ok (.iaload, 1) := by decide +kernel
theorem d_Lw_law_613 : decode m_Lw_law.2.1 613 = .ok (.aload_n 0, 1) := by decide +kernel
theorem d_Lw_law_614 : decode m_Lw_law.2.1 614 = .ok (.iload_n 3, 1) := by decide +kernel
theorem d_Lw_law_615 : decode m_Lw_law.2.1 615 = .ok (.iconst 2, 1) := by decide +kernel
theorem d_Lw_law_616 : decode m_Lw_law.2.1 616 = .ok (.iadd, 1) := by decide +kernel
theorem d_Lw_law_617 : decode m_Lw_law.2.1 617 = .ok (.iaload, 1) := by decide +kernel
theorem d_Lw_law_618 : decode m_Lw_law.2.1 618 = .ok (.invokevirtual 75, 3) := by decide +kernel
theorem d_Lw_law_621 : decode m_Lw_law.2.1 621 = .ok (.if_icmp .eq 684, 3) := by decide +kernel
theorem d_Lw_law_624 : decode m_Lw_law.2.1 624 = .ok (.iconst 0, 1) := by decide +kernel
theorem d_Lw_law_625 : decode m_Lw_law.2.1 625 = .ok (.ireturn, 1) := by decide +kernel
theorem d_Lw_law_626 : decode m_Lw_law.2.1 626 = .ok (.aload_n 1, 1) := by decide +kernel
theorem d_Lw_law_627 : decode m_Lw_law.2.1 627 = .ok (.aload_n 0, 1) := by decide +kernel
theorem d_Lw_law_628 : decode m_Lw_law.2.1 628 = .ok (.iload_n 3, 1) := by decide +kernel
theorem d_Lw_law_629 : decode m_Lw_law.2.1 629 = .ok (.iconst 1, 1) := by decide +kernel
theorem d_Lw_law_630 : decode m_Lw_law.2.1 630 = .ok (.iadd, 1) := by decide +kernel
theorem d_Lw_law_631 : decode m_Lw_law.2.1 631 = .ok (.iaload, 1) := by decide +kernel
theorem d_Lw_law_632 : decode m_Lw_law.2.1 632 = .ok (.invokevirtual 76, 3) := by decide +kernel
theorem d_Lw_law_635 : decode m_Lw_law.2.1 635 = .ok (.aload_n 2, 1) := by decide +kernel
theorem d_Lw_law_636 : decode m_Lw_law.2.1 636 = .ok (.aload_n 0, 1) := by decide +kernel
theorem d_Lw_law_637 : decode m_Lw_law.2.1 637 = .ok (.iload_n 3, 1) := by decide +kernel
theorem d_Lw_law_638 : decode m_Lw_law.2.1 638 = .ok (.iconst 1, 1) := by decide +kernel
theorem d_Lw_law_639 : decode m_Lw_law.2.1 639 = .ok (.iadd, 1) := by decide +kernel
theorem d_Lw_law_640 : decode m_Lw_law.2.1 640 = .ok (.iaload, 1) := by decide +kernel
theorem d_Lw_law_641 : decode m_Lw_law.2.1 641 = .ok (.invokevirtual 79, 3) := by decide +kernel
theorem d_Lw_law_644 : decode m_Lw_law.2.1 644 = .ok (.if_icmp .eq 661, 3) := by decide +kernel
theorem d_Lw_law_647 : decode m_Lw_law.2.1 647 = .ok (.iconst 0, 1) := by decide +kernel
theorem d_Lw_law_648 : decode m_Lw_law.2.1 648 = .ok (.ireturn, 1) := by decide +kernel
theorem d_Lw_law_649 : decode m_Lw_law.2.1 649 = .ok (.aload_n 1, 1) := by decide +kernel
theorem d_Lw_law_650 : decode m_Lw_law.2.1 650 = .ok (.aload_n 0, 1) := by decide +kernel
theorem d_Lw_law_651 : decode m_Lw_law.2.1 651 = .ok (.iload_n 3, 1) := by decide +kernel
theorem d_Lw_law_652 : decode m_Lw_law.2.1 652 = .ok (.iconst 1, 1) := by decide +kernel
theorem d_Lw_law_653 : decode m_Lw_law.2.1 653 = .ok (.iadd, 1) := by decide +kernel
theorem d_Lw_law_654 : decode m_Lw_law.2.1 654 = .ok (.iaload, 1) := by decide +kernel
theorem d_Lw_law_655 : decode m_Lw_law.2.1 655 = .ok (.aload_n 0, 1) := by decide +kernel
theorem d_Lw_law_656 : decode m_Lw_law.2.1 656 = .ok (.iload_n 3, 1) := by decide +kernel
theorem d_Lw_law_657 : decode m_Lw_law.2.1 657 = .ok (.iconst 2, 1) := by decide +kernel
theorem d_Lw_law_658 : decode m_Lw_law.2.1 658 = .ok (.iadd, 1) := by decide +kernel
theorem d_Lw_law_659 : decode m_Lw_law.2.1 659 = .ok (.iaload, 1) := by decide +kernel
theorem d_Lw_law_660 : decode m_Lw_law.2.1 660 = .ok (.invokevirtual 80, 3) := by decide +kernel
theorem d_Lw_law_663 : decode m_Lw_law.2.1 663 = .ok (.aload_n 2, 1) := by decide +kernel
theorem d_Lw_law_664 : decode m_Lw_law.2.1 664 = .ok (.aload_n 0, 1) := by decide +kernel
theorem d_Lw_law_665 : decode m_Lw_law.2.1 665 = .ok (.iload_n 3, 1) := by decide +kernel
theorem d_Lw_law_666 : decode m_Lw_law.2.1 666 = .ok (.iconst 1, 1) := by decide +kernel
theorem d_Lw_law_667 : decode m_Lw_law.2.1 667 = .ok (.iadd, 1) := by decide +kernel
theorem d_Lw_law_668 : decode m_Lw_law.2.1 668 = .ok (.iaload, 1) := by decide +kernel
theorem d_Lw_law_669 : decode m_Lw_law.2.1 669 = .ok (.aload_n 0, 1) := by decide +kernel
theorem d_Lw_law_670 : decode m_Lw_law.2.1 670 = .ok (.iload_n 3, 1) := by decide +kernel
theorem d_Lw_law_671 : decode m_Lw_law.2.1 671 = .ok (.iconst 2, 1) := by decide +kernel
theorem d_Lw_law_672 : decode m_Lw_law.2.1 672 = .ok (.iadd, 1) := by decide +kernel
theorem d_Lw_law_673 : decode m_Lw_law.2.1 673 = .ok (.iaload, 1) := by decide +kernel
theorem d_Lw_law_674 : decode m_Lw_law.2.1 674 = .ok (.invokevirtual 83, 3) := by decide +kernel
theorem d_Lw_law_677 : decode m_Lw_law.2.1 677 = .ok (.if_icmp .eq 628, 3) := by decide +kernel
theorem d_Lw_law_680 : decode m_Lw_law.2.1 680 = .ok (.iconst 0, 1) := by decide +kernel
theorem d_Lw_law_681 : decode m_Lw_law.2.1 681 = .ok (.ireturn, 1) := by decide +kernel
theorem d_Lw_law_682 : decode m_Lw_law.2.1 682 = .ok (.aload_n 1, 1) := by decide +kernel
theorem d_Lw_law_683 : decode m_Lw_law.2.1 683 = .ok (.aload_n 0, 1) := by decide +kernel
theorem d_Lw_law_684 : decode m_Lw_law.2.1 684 = .ok (.iload_n 3, 1) := by decide +kernel
theorem d_Lw_law_685 : decode m_Lw_law.2.1 685 = .ok (.iconst 1, 1) := by decide +kernel
theorem d_Lw_law_686 : decode m_Lw_law.2.1 686 = .ok (.iadd, 1) := by decide +kernel
theorem d_Lw_law_687 : decode m_Lw_law.2.1 687 = .ok (.iaload, 1) := by decide +kernel
theorem d_Lw_law_688 : decode m_Lw_law.2.1 688 = .ok (.invokevirtual 84, 3) := by decide +kernel
theorem d_Lw_law_691 : decode m_Lw_law.2.1 691 = .ok (.aload_n 2, 1) := by decide +kernel
theorem d_Lw_law_692 : decode m_Lw_law.2.1 692 = .ok (.aload_n 0, 1) := by decide +kernel
theorem d_Lw_law_693 : decode m_Lw_law.2.1 693 = .ok (.iload_n 3, 1) := by decide +kernel
theorem d_Lw_law_694 : decode m_Lw_law.2.1 694 = .ok (.iconst 1, 1) := by decide +kernel
theorem d_Lw_law_695 : decode m_Lw_law.2.1 695 = .ok (.iadd, 1) := by decide +kernel
theorem d_Lw_law_696 : decode m_Lw_law.2.1 696 = .ok (.iaload, 1) := by decide +kernel
theorem d_Lw_law_697 : decode m_Lw_law.2.1 697 = .ok (.invokevirtual 87, 3) := by decide +kernel
theorem d_Lw_law_700 : decode m_Lw_law.2.1 700 = .ok (.if_icmp .eq 605, 3) := by decide +kernel
theorem d_Lw_law_703 : decode m_Lw_law.2.1 703 = .ok (.iconst 0, 1) := by decide +kernel
theorem d_Lw_law_704 : decode m_Lw_law.2.1 704 = .ok (.ireturn, 1) := by decide +kernel
theorem d_Lw_law_705 : decode m_Lw_law.2.1 705 = .ok (.aload_n 1, 1) := by decide +kernel
theorem d_Lw_law_706 : decode m_Lw_law.2.1 706 = .ok (.aload_n 0, 1) := by decide +kernel
theorem d_Lw_law_707 : decode m_Lw_law.2.1 707 = .ok (.iload_n 3, 1) := by decide +kernel
theorem d_Lw_law_708 : decode m_Lw_law.2.1 708 = .ok (.iconst 1, 1) := by decide +kernel
theorem d_Lw_law_709 : decode m_Lw_law.2.1 709 = .ok (.iadd, 1) := by decide +kernel
theorem d_Lw_law_710 : decode m_Lw_law.2.1 710 = .ok (.iaload, 1) := by decide +kernel
theorem d_Lw_law_711 : decode m_Lw_law.2.1 711 = .ok (.invokevirtual 88, 3) := by decide +kernel
theorem d_Lw_law_714 : decode m_Lw_law.2.1 714 = .ok (.aload_n 2, 1) := by decide +kernel
theorem d_Lw_law_715 : decode m_Lw_law.2.1 715 = .ok (.aload_n 0, 1) := by decide +kernel
theorem d_Lw_law_716 : decode m_Lw_law.2.1 716 = .ok (.iload_n 3, 1) := by decide +kernel
theorem d_Lw_law_717 : decode m_Lw_law.2.1 717 = .ok (.iconst 1, 1) := by decide +kernel
theorem d_Lw_law_718 : decode m_Lw_law.2.1 718 = .ok (.iadd, 1) := by decide +kernel
theorem d_Lw_law_719 : decode m_Lw_law.2.1 719 = .ok (.iaload, 1) := by decide +kernel
theorem d_Lw_law_720 : decode m_Lw_law.2.1 720 = .ok (.invokevirtual 91, 3) := by decide +kernel
theorem d_Lw_law_723 : decode m_Lw_law.2.1 723 = .ok (.if_icmp .eq 582, 3) := by decide +kernel
theorem d_Lw_law_726 : decode m_Lw_law.2.1 726 = .ok (.iconst 0, 1) := by decide +kernel
theorem d_Lw_law_727 : decode m_Lw_law.2.1 727 = .ok (.ireturn, 1) := by decide +kernel
theorem d_Lw_law_728 : decode m_Lw_law.2.1 728 = .ok (.aload_n 1, 1) := by decide +kernel
theorem d_Lw_law_729 : decode m_Lw_law.2.1 729 = .ok (.aload_n 0, 1) := by decide +kernel
theorem d_Lw_law_730 : decode m_Lw_law.2.1 730 = .ok (.iload_n 3, 1) := by decide +kernel
theorem d_Lw_law_731 : decode m_Lw_law.2.1 731 = .ok (.iconst 1, 1) := by decide +kernel
theorem d_Lw_law_732 : decode m_Lw_law.2.1 732 = .ok (.iadd, 1) := by decide +kernel
theorem d_Lw_law_733 : decode m_Lw_law.2.1 733 = .ok (.iaload, 1) := by decide +kernel
theorem d_Lw_law_734 : decode m_Lw_law.2.1 734 = .ok (.invokevirtual 92, 3) := by decide +kernel
theorem d_Lw_law_737 : decode m_Lw_law.2.1 737 = .ok (.aload_n 2, 1) := by decide +kernel
theorem d_Lw_law_738 : decode m_Lw_law.2.1 738 = .ok (.aload_n 0, 1) := by decide +kernel
theorem d_Lw_law_739 : decode m_Lw_law.2.1 739 = .ok (.iload_n 3, 1) := by decide +kernel
theorem d_Lw_law_740 : decode m_Lw_law.2.1 740 = .ok (.iconst 1, 1) := by decide +kernel
theorem d_Lw_law_741 : decode m_Lw_law.2.1 741 = .ok (.iadd, 1) := by decide +kernel
theorem d_Lw_law_742 : decode m_Lw_law.2.1 742 = .ok (.iaload, 1) := by decide +kernel
theorem d_Lw_law_743 : decode m_Lw_law.2.1 743 = .ok (.invokevirtual 95, 3) := by decide +kernel
theorem d_Lw_law_746 : decode m_Lw_law.2.1 746 = .ok (.if_icmp .eq 559, 3) := by decide +kernel
theorem d_Lw_law_749 : decode m_Lw_law.2.1 749 = .ok (.iconst 0, 1) := by decide +kernel
theorem d_Lw_law_750 : decode m_Lw_law.2.1 750 = .ok (.ireturn, 1) := by decide +kernel
theorem d_Lw_law_751 : decode m_Lw_law.2.1 751 = .ok (.aload_n 1, 1) := by decide +kernel
theorem d_Lw_law_752 : decode m_Lw_law.2.1 752 = .ok (.aload_n 0, 1) := by decide +kernel
theorem d_Lw_law_753 : decode m_Lw_law.2.1 753 = .ok (.iload_n 3, 1) := by decide +kernel
theorem d_Lw_law_754 : decode m_Lw_law.2.1 754 = .ok (.iconst 1, 1) := by decide +kernel
theorem d_Lw_law_755 : decode m_Lw_law.2.1 755 = .ok (.iadd, 1) := by decide +kernel
theorem d_Lw_law_756 : decode m_Lw_law.2.1 756 = .ok (.iaload, 1) := by decide +kernel
theorem d_Lw_law_757 : decode m_Lw_law.2.1 757 = .ok (.invokevirtual 96, 3) := by decide +kernel
theorem d_Lw_law_760 : decode m_Lw_law.2.1 760 = .ok (.aload_n 2, 1) := by decide +kernel
theorem d_Lw_law_761 : decode m_Lw_law.2.1 761 = .ok (.aload_n 0, 1) := by decide +kernel
theorem d_Lw_law_762 : decode m_Lw_law.2.1 762 = .ok (.iload_n 3, 1) := by decide +kernel
theorem d_Lw_law_763 : decode m_Lw_law.2.1 763 = .ok (.iconst 1, 1) := by decide +kernel
theorem d_Lw_law_764 : decode m_Lw_law.2.1 764 = .ok (.iadd, 1) := by decide +kernel
theorem d_Lw_law_765 : decode m_Lw_law.2.1 765 = .ok (.iaload, 1) := by decide +kernel
theorem d_Lw_law_766 : decode m_Lw_law.2.1 766 = .ok (.invokevirtual 100, 3) := by decide +kernel
theorem d_Lw_law_769 : decode m_Lw_law.2.1 769 = .ok (.lcmp, 1) := by decide +kernel
theorem d_Lw_law_770 : decode m_Lw_law.2.1 770 = .ok (.ifCond .eq 535, 3) := by decide +kernel
theorem d_Lw_law_773 : decode m_Lw_law.2.1 773 = .ok (.iconst 0, 1) := by decide +kernel
theorem d_Lw_law_774 : decode m_Lw_law.2.1 774 = .ok (.ireturn, 1) := by decide +kernel
theorem d_Lw_law_775 : decode m_Lw_law.2.1 775 = .ok (.aload_n 1, 1) := by decide +kernel
theorem d_Lw_law_776 : decode m_Lw_law.2.1 776 = .ok (.aload_n 0, 1) := by decide +kernel
theorem d_Lw_law_777 : decode m_Lw_law.2.1 777 = .ok (.iload_n 3, 1) := by decide +kernel
theorem d_Lw_law_778 : decode m_Lw_law.2.1 778 = .ok (.iconst 1, 1) := by decide +kernel
theorem d_Lw_law_779 : decode m_Lw_law.2.1 779 = .ok (.iadd, 1) := by decide +kernel
theorem d_Lw_law_780 : decode m_Lw_law.2.1 780 = .ok (.iaload, 1) := by decide +kernel
theorem d_Lw_law_781 : decode m_Lw_law.2.1 781 = .ok (.invokevirtual 101, 3) := by decide +kernel
theorem d_Lw_law_784 : decode m_Lw_law.2.1 784 = .ok (.aload_n 2, 1) := by decide +kernel
theorem d_Lw_law_785 : decode m_Lw_law.2.1 785 = .ok (.aload_n 0, 1) := by decide +kernel
theorem d_Lw_law_786 : decode m_Lw_law.2.1 786 = .ok (.iload_n 3, 1) := by decide +kernel
theorem d_Lw_law_787 : decode m_Lw_law.2.1 787 = .ok (.iconst 1, 1) := by decide +kernel
theorem d_Lw_law_788 : decode m_Lw_law.2.1 788 = .ok (.iadd, 1) := by decide +kernel
theorem d_Lw_law_789 : decode m_Lw_law.2.1 789 = .ok (.iaload, 1) := by decide +kernel
theorem d_Lw_law_790 : decode m_Lw_law.2.1 790 = .ok (.invokevirtual 104, 3) := by decide +kernel
theorem d_Lw_law_793 : decode m_Lw_law.2.1 793 = .ok (.if_icmp .eq 512, 3) := by decide +kernel
theorem d_Lw_law_796 : decode m_Lw_law.2.1 796 = .ok (.iconst 0, 1) := by decide +kernel
theorem d_Lw_law_797 : decode m_Lw_law.2.1 797 = .ok (.ireturn, 1) := by decide +kernel
theorem d_Lw_law_798 : decode m_Lw_law.2.1 798 = .ok (.aload_n 1, 1) := by decide +kernel
theorem d_Lw_law_799 : decode m_Lw_law.2.1 799 = .ok (.aload_n 0, 1) := by decide +kernel
theorem d_Lw_law_800 : decode m_Lw_law.2.1 800 = .ok (.iload_n 3, 1) := by decide +kernel
theorem d_Lw_law_801 : decode m_Lw_law.2.1 801 = .ok (.iconst 1, 1) := by decide +kernel
theorem d_Lw_law_802 : decode m_Lw_law.2.1 802 = .ok (.iadd, 1) := by decide +kernel
theorem d_Lw_law_803 : decode m_Lw_law.2.1 803 = .ok (.iaload, 1) := by decide +kernel
theorem d_Lw_law_804 : decode m_Lw_law.2.1 804 = .ok (.aload_n 0, 1) := by decide +kernel
theorem d_Lw_law_805 : decode m_Lw_law.2.1 805 = .ok (.iload_n 3, 1) := by decide +kernel
theorem d_Lw_law_806 : decode m_Lw_law.2.1 806 = .ok (.iconst 2, 1) := by decide +kernel
theorem d_Lw_law_807 : decode m_Lw_law.2.1 807 = .ok (.iadd, 1) := by decide +kernel
theorem d_Lw_law_808 : decode m_Lw_law.2.1 808 = .ok (.iaload, 1) := by decide +kernel
theorem d_Lw_law_809 : decode m_Lw_law.2.1 809 = .ok (.invokevirtual 105, 3) := by decide +kernel
theorem d_Lw_law_812 : decode m_Lw_law.2.1 812 = .ok (.aload_n 2, 1) := by decide +kernel
theorem d_Lw_law_813 : decode m_Lw_law.2.1 813 = .ok (.aload_n 0, 1) := by decide +kernel
theorem d_Lw_law_814 : decode m_Lw_law.2.1 814 = .ok (.iload_n 3, 1) := by decide +kernel
theorem d_Lw_law_815 : decode m_Lw_law.2.1 815 = .ok (.iconst 1, 1) := by decide +kernel
theorem d_Lw_law_816 : decode m_Lw_law.2.1 816 = .ok (.iadd, 1) := by decide +kernel
theorem d_Lw_law_817 : decode m_Lw_law.2.1 817 = .ok (.iaload, 1) := by decide +kernel
theorem d_Lw_law_818 : decode m_Lw_law.2.1 818 = .ok (.aload_n 0, 1) := by decide +kernel
theorem d_Lw_law_819 : decode m_Lw_law.2.1 819 = .ok (.iload_n 3, 1) := by decide +kernel
theorem d_Lw_law_820 : decode m_Lw_law.2.1 820 = .ok (.iconst 2, 1) := by decide +kernel
theorem d_Lw_law_821 : decode m_Lw_law.2.1 821 = .ok (.iadd, 1) := by decide +kernel
theorem d_Lw_law_822 : decode m_Lw_law.2.1 822 = .ok (.iaload, 1) := by decide +kernel
theorem d_Lw_law_823 : decode m_Lw_law.2.1 823 = .ok (.invokevirtual 108, 3) := by decide +kernel
theorem d_Lw_law_826 : decode m_Lw_law.2.1 826 = .ok (.if_icmp .eq 479, 3) := by decide +kernel
theorem d_Lw_law_829 : decode m_Lw_law.2.1 829 = .ok (.iconst 0, 1) := by decide +kernel
theorem d_Lw_law_830 : decode m_Lw_law.2.1 830 = .ok (.ireturn, 1) := by decide +kernel
theorem d_Lw_law_831 : decode m_Lw_law.2.1 831 = .ok (.aload_n 1, 1) := by decide +kernel
theorem d_Lw_law_832 : decode m_Lw_law.2.1 832 = .ok (.aload_n 0, 1) := by decide +kernel
theorem d_Lw_law_833 : decode m_Lw_law.2.1 833 = .ok (.iload_n 3, 1) := by decide +kernel
theorem d_Lw_law_834 : decode m_Lw_law.2.1 834 = .ok (.iconst 1, 1) := by decide +kernel
theorem d_Lw_law_835 : decode m_Lw_law.2.1 835 = .ok (.iadd, 1) := by decide +kernel
theorem d_Lw_law_836 : decode m_Lw_law.2.1 836 = .ok (.iaload, 1) := by decide +kernel
theorem d_Lw_law_837 : decode m_Lw_law.2.1 837 = .ok (.invokevirtual 109, 3) := by decide +kernel
theorem d_Lw_law_840 : decode m_Lw_law.2.1 840 = .ok (.aload_n 2, 1) := by decide +kernel
theorem d_Lw_law_841 : decode m_Lw_law.2.1 841 = .ok (.aload_n 0, 1) := by decide +kernel
theorem d_Lw_law_842 : decode m_Lw_law.2.1 842 = .ok (.iload_n 3, 1) := by decide +kernel
theorem d_Lw_law_843 : decode m_Lw_law.2.1 843 = .ok (.iconst 1, 1) := by decide +kernel
theorem d_Lw_law_844 : decode m_Lw_law.2.1 844 = .ok (.iadd, 1) := by decide +kernel
theorem d_Lw_law_845 : decode m_Lw_law.2.1 845 = .ok (.iaload, 1) := by decide +kernel
theorem d_Lw_law_846 : decode m_Lw_law.2.1 846 = .ok (.invokevirtual 112, 3) := by decide +kernel
theorem d_Lw_law_849 : decode m_Lw_law.2.1 849 = .ok (.if_icmp .eq 456, 3) := by decide +kernel
theorem d_Lw_law_852 : decode m_Lw_law.2.1 852 = .ok (.iconst 0, 1) := by decide +kernel
theorem d_Lw_law_853 : decode m_Lw_law.2.1 853 = .ok (.ireturn, 1) := by decide +kernel
theorem d_Lw_law_854 : decode m_Lw_law.2.1 854 = .ok (.aload_n 1, 1) := by decide +kernel
theorem d_Lw_law_855 : decode m_Lw_law.2.1 855 = .ok (.aload_n 0, 1) := by decide +kernel
theorem d_Lw_law_856 : decode m_Lw_law.2.1 856 = .ok (.iload_n 3, 1) := by decide +kernel
theorem d_Lw_law_857 : decode m_Lw_law.2.1 857 = .ok (.iconst 1, 1) := by decide +kernel
theorem d_Lw_law_858 : decode m_Lw_law.2.1 858 = .ok (.iadd, 1) := by decide +kernel
theorem d_Lw_law_859 : decode m_Lw_law.2.1 859 = .ok (.iaload, 1) := by decide +kernel
theorem d_Lw_law_860 : decode m_Lw_law.2.1 860 = .ok (.aload_n 0, 1) := by decide +kernel
theorem d_Lw_law_861 : decode m_Lw_law.2.1 861 = .ok (.iload_n 3, 1) := by decide +kernel
theorem d_Lw_law_862 : decode m_Lw_law.2.1 862 = .ok (.iconst 2, 1) := by decide +kernel
theorem d_Lw_law_863 : decode m_Lw_law.2.1 863 = .ok (.iadd, 1) := by decide +kernel
theorem d_Lw_law_864 : decode m_Lw_law.2.1 864 = .ok (.iaload, 1) := by decide +kernel
theorem d_Lw_law_865 : decode m_Lw_law.2.1 865 = .ok (.aload_n 0, 1) := by decide +kernel
theorem d_Lw_law_866 : decode m_Lw_law.2.1 866 = .ok (.iload_n 3, 1) := by decide +kernel
theorem d_Lw_law_867 : decode m_Lw_law.2.1 867 = .ok (.iconst 3, 1) := by decide +kernel
theorem d_Lw_law_868 : decode m_Lw_law.2.1 868 = .ok (.iadd, 1) := by decide +kernel
theorem d_Lw_law_869 : decode m_Lw_law.2.1 869 = .ok (.iaload, 1) := by decide +kernel
theorem d_Lw_law_870 : decode m_Lw_law.2.1 870 = .ok (.aload_n 0, 1) := by decide +kernel
theorem d_Lw_law_871 : decode m_Lw_law.2.1 871 = .ok (.iload_n 3, 1) := by decide +kernel
theorem d_Lw_law_872 : decode m_Lw_law.2.1 872 = .ok (.iconst 4, 1) := by decide +kernel
theorem d_Lw_law_873 : decode m_Lw_law.2.1 873 = .ok (.iadd, 1) := by decide +kernel
theorem d_Lw_law_874 : decode m_Lw_law.2.1 874 = .ok (.iaload, 1) := by decide +kernel
theorem d_Lw_law_875 : decode m_Lw_law.2.1 875 = .ok (.invokevirtual 113, 3) := by decide +kernel
theorem d_Lw_law_878 : decode m_Lw_law.2.1 878 = .ok (.aload_n 2, 1) := by decide +kernel
theorem d_Lw_law_879 : decode m_Lw_law.2.1 879 = .ok (.aload_n 0, 1) := by decide +kernel
theorem d_Lw_law_880 : decode m_Lw_law.2.1 880 = .ok (.iload_n 3, 1) := by decide +kernel
theorem d_Lw_law_881 : decode m_Lw_law.2.1 881 = .ok (.iconst 1, 1) := by decide +kernel
theorem d_Lw_law_882 : decode m_Lw_law.2.1 882 = .ok (.iadd, 1) := by decide +kernel
theorem d_Lw_law_883 : decode m_Lw_law.2.1 883 = .ok (.iaload, 1) := by decide +kernel
theorem d_Lw_law_884 : decode m_Lw_law.2.1 884 = .ok (.aload_n 0, 1) := by decide +kernel
theorem d_Lw_law_885 : decode m_Lw_law.2.1 885 = .ok (.iload_n 3, 1) := by decide +kernel
theorem d_Lw_law_886 : decode m_Lw_law.2.1 886 = .ok (.iconst 2, 1) := by decide +kernel
theorem d_Lw_law_887 : decode m_Lw_law.2.1 887 = .ok (.iadd, 1) := by decide +kernel
theorem d_Lw_law_888 : decode m_Lw_law.2.1 888 = .ok (.iaload, 1) := by decide +kernel
theorem d_Lw_law_889 : decode m_Lw_law.2.1 889 = .ok (.aload_n 0, 1) := by decide +kernel
theorem d_Lw_law_890 : decode m_Lw_law.2.1 890 = .ok (.iload_n 3, 1) := by decide +kernel
theorem d_Lw_law_891 : decode m_Lw_law.2.1 891 = .ok (.iconst 3, 1) := by decide +kernel
theorem d_Lw_law_892 : decode m_Lw_law.2.1 892 = .ok (.iadd, 1) := by decide +kernel
theorem d_Lw_law_893 : decode m_Lw_law.2.1 893 = .ok (.iaload, 1) := by decide +kernel
theorem d_Lw_law_894 : decode m_Lw_law.2.1 894 = .ok (.aload_n 0, 1) := by decide +kernel
theorem d_Lw_law_895 : decode m_Lw_law.2.1 895 = .ok (.iload_n 3, 1) := by decide +kernel
theorem d_Lw_law_896 : decode m_Lw_law.2.1 896 = .ok (.iconst 4, 1) := by decide +kernel
theorem d_Lw_law_897 : decode m_Lw_law.2.1 897 = .ok (.iadd, 1) := by decide +kernel
theorem d_Lw_law_898 : decode m_Lw_law.2.1 898 = .ok (.iaload, 1) := by decide +kernel
theorem d_Lw_law_899 : decode m_Lw_law.2.1 899 = .ok (.invokevirtual 116, 3) := by decide +kernel
theorem d_Lw_law_902 : decode m_Lw_law.2.1 902 = .ok (.if_icmp .eq 403, 3) := by decide +kernel
theorem d_Lw_law_905 : decode m_Lw_law.2.1 905 = .ok (.iconst 0, 1) := by decide +kernel
theorem d_Lw_law_906 : decode m_Lw_law.2.1 906 = .ok (.ireturn, 1) := by decide +kernel
theorem d_Lw_law_907 : decode m_Lw_law.2.1 907 = .ok (.aload_n 1, 1) := by decide +kernel
theorem d_Lw_law_908 : decode m_Lw_law.2.1 908 = .ok (.aload_n 0, 1) := by decide +kernel
theorem d_Lw_law_909 : decode m_Lw_law.2.1 909 = .ok (.iload_n 3, 1) := by decide +kernel
theorem d_Lw_law_910 : decode m_Lw_law.2.1 910 = .ok (.iconst 1, 1) := by decide +kernel
theorem d_Lw_law_911 : decode m_Lw_law.2.1 911 = .ok (.iadd, 1) := by decide +kernel
theorem d_Lw_law_912 : decode m_Lw_law.2.1 912 = .ok (.iaload, 1) := by decide +kernel
theorem d_Lw_law_913 : decode m_Lw_law.2.1 913 = .ok (.aload_n 0, 1) := by decide +kernel
theorem d_Lw_law_914 : decode m_Lw_law.2.1 914 = .ok (.iload_n 3, 1) := by decide +kernel
theorem d_Lw_law_915 : decode m_Lw_law.2.1 915 = .ok (.iconst 2, 1) := by decide +kernel
theorem d_Lw_law_916 : decode m_Lw_law.2.1 916 = .ok (.iadd, 1) := by decide +kernel
theorem d_Lw_law_917 : decode m_Lw_law.2.1 917 = .ok (.iaload, 1) := by decide +kernel
theorem d_Lw_law_918 : decode m_Lw_law.2.1 918 = .ok (.aload_n 0, 1) := by decide +kernel
theorem d_Lw_law_919 : decode m_Lw_law.2.1 919 = .ok (.iload_n 3, 1) := by decide +kernel
theorem d_Lw_law_920 : decode m_Lw_law.2.1 920 = .ok (.iconst 3, 1) := by decide +kernel
theorem d_Lw_law_921 : decode m_Lw_law.2.1 921 = .ok (.iadd, 1) := by decide +kernel
theorem d_Lw_law_922 : decode m_Lw_law.2.1 922 = .ok (.iaload, 1) := by decide +kernel
theorem d_Lw_law_923 : decode m_Lw_law.2.1 923 = .ok (.ifCond .eq 7, 3) := by decide +kernel
theorem d_Lw_law_926 : decode m_Lw_law.2.1 926 = .ok (.iconst 1, 1) := by decide +kernel
theorem d_Lw_law_927 : decode m_Lw_law.2.1 927 = .ok (.goto 4, 3) := by decide +kernel
theorem d_Lw_law_930 : decode m_Lw_law.2.1 930 = .ok (.iconst 0, 1) := by decide +kernel
theorem d_Lw_law_931 : decode m_Lw_law.2.1 931 = .ok (.invokevirtual 117, 3) := by decide +kernel
theorem d_Lw_law_934 : decode m_Lw_law.2.1 934 = .ok (.aload_n 2, 1) := by decide +kernel
theorem d_Lw_law_935 : decode m_Lw_law.2.1 935 = .ok (.aload_n 0, 1) := by decide +kernel
theorem d_Lw_law_936 : decode m_Lw_law.2.1 936 = .ok (.iload_n 3, 1) := by decide +kernel
theorem d_Lw_law_937 : decode m_Lw_law.2.1 937 = .ok (.iconst 1, 1) := by decide +kernel
theorem d_Lw_law_938 : decode m_Lw_law.2.1 938 = .ok (.iadd, 1) := by decide +kernel
theorem d_Lw_law_939 : decode m_Lw_law.2.1 939 = .ok (.iaload, 1) := by decide +kernel
theorem d_Lw_law_940 : decode m_Lw_law.2.1 940 = .ok (.aload_n 0, 1) := by decide +kernel
theorem d_Lw_law_941 : decode m_Lw_law.2.1 941 = .ok (.iload_n 3, 1) := by decide +kernel
theorem d_Lw_law_942 : decode m_Lw_law.2.1 942 = .ok (.iconst 2, 1) := by decide +kernel
theorem d_Lw_law_943 : decode m_Lw_law.2.1 943 = .ok (.iadd, 1) := by decide +kernel
theorem d_Lw_law_944 : decode m_Lw_law.2.1 944 = .ok (.iaload, 1) := by decide +kernel
theorem d_Lw_law_945 : decode m_Lw_law.2.1 945 = .ok (.aload_n 0, 1) := by decide +kernel
theorem d_Lw_law_946 : decode m_Lw_law.2.1 946 = .ok (.iload_n 3, 1) := by decide +kernel
theorem d_Lw_law_947 : decode m_Lw_law.2.1 947 = .ok (.iconst 3, 1) := by decide +kernel
theorem d_Lw_law_948 : decode m_Lw_law.2.1 948 = .ok (.iadd, 1) := by decide +kernel
theorem d_Lw_law_949 : decode m_Lw_law.2.1 949 = .ok (.iaload, 1) := by decide +kernel
theorem d_Lw_law_950 : decode m_Lw_law.2.1 950 = .ok (.ifCond .eq 7, 3) := by decide +kernel
theorem d_Lw_law_953 : decode m_Lw_law.2.1 953 = .ok (.iconst 1, 1) := by decide +kernel
theorem d_Lw_law_954 : decode m_Lw_law.2.1 954 = .ok (.goto 4, 3) := by decide +kernel
theorem d_Lw_law_957 : decode m_Lw_law.2.1 957 = .ok (.iconst 0, 1) := by decide +kernel
theorem d_Lw_law_958 : decode m_Lw_law.2.1 958 = .ok (.invokevirtual 121, 3) := by decide +kernel
theorem d_Lw_law_961 : decode m_Lw_law.2.1 961 = .ok (.if_icmp .eq 344, 3) := by decide +kernel
theorem d_Lw_law_964 : decode m_Lw_law.2.1 964 = .ok (.iconst 0, 1) := by decide +kernel
theorem d_Lw_law_965 : decode m_Lw_law.2.1 965 = .ok (.ireturn, 1) := by decide +kernel
theorem d_Lw_law_966 : decode m_Lw_law.2.1 966 = .ok (.aload_n 1, 1) := by decide +kernel
theorem d_Lw_law_967 : decode m_Lw_law.2.1 967 = .ok (.aload_n 0, 1) := by decide +kernel
theorem d_Lw_law_968 : decode m_Lw_law.2.1 968 = .ok (.iload_n 3, 1) := by decide +kernel
theorem d_Lw_law_969 : decode m_Lw_law.2.1 969 = .ok (.iconst 1, 1) := by decide +kernel
theorem d_Lw_law_970 : decode m_Lw_law.2.1 970 = .ok (.iadd, 1) := by decide +kernel
theorem d_Lw_law_971 : decode m_Lw_law.2.1 971 = .ok (.iaload, 1) := by decide +kernel
theorem d_Lw_law_972 : decode m_Lw_law.2.1 972 = .ok (.aload_n 0, 1) := by decide +kernel
theorem d_Lw_law_973 : decode m_Lw_law.2.1 973 = .ok (.iload_n 3, 1) := by decide +kernel
theorem d_Lw_law_974 : decode m_Lw_law.2.1 974 = .ok (.iconst 2, 1) := by decide +kernel
theorem d_Lw_law_975 : decode m_Lw_law.2.1 975 = .ok (.iadd, 1) := by decide +kernel
theorem d_Lw_law_976 : decode m_Lw_law.2.1 976 = .ok (.iaload, 1) := by decide +kernel
theorem d_Lw_law_977 : decode m_Lw_law.2.1 977 = .ok (.aload_n 0, 1) := by decide +kernel
theorem d_Lw_law_978 : decode m_Lw_law.2.1 978 = .ok (.iload_n 3, 1) := by decide +kernel
theorem d_Lw_law_979 : decode m_Lw_law.2.1 979 = .ok (.iconst 3, 1) := by decide +kernel
theorem d_Lw_law_980 : decode m_Lw_law.2.1 980 = .ok (.iadd, 1) := by decide +kernel
theorem d_Lw_law_981 : decode m_Lw_law.2.1 981 = .ok (.iaload, 1) := by decide +kernel
theorem d_Lw_law_982 : decode m_Lw_law.2.1 982 = .ok (.invokevirtual 122, 3) := by decide +kernel
theorem d_Lw_law_985 : decode m_Lw_law.2.1 985 = .ok (.aload_n 2, 1) := by decide +kernel
theorem d_Lw_law_986 : decode m_Lw_law.2.1 986 = .ok (.aload_n 0, 1) := by decide +kernel
theorem d_Lw_law_987 : decode m_Lw_law.2.1 987 = .ok (.iload_n 3, 1) := by decide +kernel
theorem d_Lw_law_988 : decode m_Lw_law.2.1 988 = .ok (.iconst 1, 1) := by decide +kernel
theorem d_Lw_law_989 : decode m_Lw_law.2.1 989 = .ok (.iadd, 1) := by decide +kernel
theorem d_Lw_law_990 : decode m_Lw_law.2.1 990 = .ok (.iaload, 1) := by decide +kernel
theorem d_Lw_law_991 : decode m_Lw_law.2.1 991 = .ok (.aload_n 0, 1) := by decide +kernel
theorem d_Lw_law_992 : decode m_Lw_law.2.1 992 = .ok (.iload_n 3, 1) := by decide +kernel
theorem d_Lw_law_993 : decode m_Lw_law.2.1 993 = .ok (.iconst 2, 1) := by decide +kernel
theorem d_Lw_law_994 : decode m_Lw_law.2.1 994 = .ok (.iadd, 1) := by decide +kernel
theorem d_Lw_law_995 : decode m_Lw_law.2.1 995 = .ok (.iaload, 1) := by decide +kernel
theorem d_Lw_law_996 : decode m_Lw_law.2.1 996 = .ok (.aload_n 0, 1) := by decide +kernel
theorem d_Lw_law_997 : decode m_Lw_law.2.1 997 = .ok (.iload_n 3, 1) := by decide +kernel
theorem d_Lw_law_998 : decode m_Lw_law.2.1 998 = .ok (.iconst 3, 1) := by decide +kernel
theorem d_Lw_law_999 : decode m_Lw_law.2.1 999 = .ok (.iadd, 1) := by decide +kernel
theorem d_Lw_law_1000 : decode m_Lw_law.2.1 1000 = .ok (.iaload, 1) := by decide +kernel
theorem d_Lw_law_1001 : decode m_Lw_law.2.1 1001 = .ok (.invokevirtual 126, 3) := by decide +kernel
theorem d_Lw_law_1004 : decode m_Lw_law.2.1 1004 = .ok (.if_icmp .eq 301, 3) := by decide +kernel
theorem d_Lw_law_1007 : decode m_Lw_law.2.1 1007 = .ok (.iconst 0, 1) := by decide +kernel
theorem d_Lw_law_1008 : decode m_Lw_law.2.1 1008 = .ok (.ireturn, 1) := by decide +kernel
theorem d_Lw_law_1009 : decode m_Lw_law.2.1 1009 = .ok (.aload_n 1, 1) := by decide +kernel
theorem d_Lw_law_1010 : decode m_Lw_law.2.1 1010 = .ok (.aload_n 0, 1) := by decide +kernel
theorem d_Lw_law_1011 : decode m_Lw_law.2.1 1011 = .ok (.iload_n 3, 1) := by decide +kernel
theorem d_Lw_law_1012 : decode m_Lw_law.2.1 1012 = .ok (.iconst 1, 1) := by decide +kernel
theorem d_Lw_law_1013 : decode m_Lw_law.2.1 1013 = .ok (.iadd, 1) := by decide +kernel
theorem d_Lw_law_1014 : decode m_Lw_law.2.1 1014 = .ok (.iaload, 1) := by decide +kernel
theorem d_Lw_law_1015 : decode m_Lw_law.2.1 1015 = .ok (.aload_n 0, 1) := by decide +kernel
theorem d_Lw_law_1016 : decode m_Lw_law.2.1 1016 = .ok (.iload_n 3, 1) := by decide +kernel
theorem d_Lw_law_1017 : decode m_Lw_law.2.1 1017 = .ok (.iconst 2, 1) := by decide +kernel
theorem d_Lw_law_1018 : decode m_Lw_law.2.1 1018 = .ok (.iadd, 1) := by decide +kernel
theorem d_Lw_law_1019 : decode m_Lw_law.2.1 1019 = .ok (.iaload, 1) := by decide +kernel
theorem d_Lw_law_1020 : decode m_Lw_law.2.1 1020 = .ok (.aload_n 0, 1) := by decide +kernel
theorem d_Lw_law_1021 : decode m_Lw_law.2.1 1021 = .ok (.iload_n 3, 1) := by decide +kernel
theorem d_Lw_law_1022 : decode m_Lw_law.2.1 1022 = .ok (.iconst 3, 1) := by decide +kernel
theorem d_Lw_law_1023 : decode m_Lw_law.2.1 1023 = .ok (.iadd, 1) := by decide +kernel
theorem d_Lw_law_1024 : decode m_Lw_law.2.1 1024 = .ok (.iaload, 1) := by decide +kernel
theorem d_Lw_law_1025 : decode m_Lw_law.2.1 1025 = .ok (.invokevirtual 127, 3) := by decide +kernel
theorem d_Lw_law_1028 : decode m_Lw_law.2.1 1028 = .ok (.aload_n 2, 1) := by decide +kernel
theorem d_Lw_law_1029 : decode m_Lw_law.2.1 1029 = .ok (.aload_n 0, 1) := by decide +kernel
theorem d_Lw_law_1030 : decode m_Lw_law.2.1 1030 = .ok (.iload_n 3, 1) := by decide +kernel
theorem d_Lw_law_1031 : decode m_Lw_law.2.1 1031 = .ok (.iconst 1, 1) := by decide +kernel
theorem d_Lw_law_1032 : decode m_Lw_law.2.1 1032 = .ok (.iadd, 1) := by decide +kernel
theorem d_Lw_law_1033 : decode m_Lw_law.2.1 1033 = .ok (.iaload, 1) := by decide +kernel
theorem d_Lw_law_1034 : decode m_Lw_law.2.1 1034 = .ok (.aload_n 0, 1) := by decide +kernel
theorem d_Lw_law_1035 : decode m_Lw_law.2.1 1035 = .ok (.iload_n 3, 1) := by decide +kernel
theorem d_Lw_law_1036 : decode m_Lw_law.2.1 1036 = .ok (.iconst 2, 1) := by decide +kernel
theorem d_Lw_law_1037 : decode m_Lw_law.2.1 1037 = .ok (.iadd, 1) := by decide +kernel
theorem d_Lw_law_1038 : decode m_Lw_law.2.1 1038 = .ok (.iaload, 1) := by decide +kernel
theorem d_Lw_law_1039 : decode m_Lw_law.2.1 1039 = .ok (.aload_n 0, 1) := by decide +kernel
theorem d_Lw_law_1040 : decode m_Lw_law.2.1 1040 = .ok (.iload_n 3, 1) := by decide +kernel
theorem d_Lw_law_1041 : decode m_Lw_law.2.1 1041 = .ok (.iconst 3, 1) := by decide +kernel
theorem d_Lw_law_1042 : decode m_Lw_law.2.1 1042 = .ok (.iadd, 1) := by decide +kernel
theorem d_Lw_law_1043 : decode m_Lw_law.2.1 1043 = .ok (.iaload, 1) := by decide +kernel
theorem d_Lw_law_1044 : decode m_Lw_law.2.1 1044 = .ok (.invokevirtual 130, 3) := by decide +kernel
theorem d_Lw_law_1047 : decode m_Lw_law.2.1 1047 = .ok (.if_icmp .eq 258, 3) := by decide +kernel
theorem d_Lw_law_1050 : decode m_Lw_law.2.1 1050 = .ok (.iconst 0, 1) := by decide +kernel
theorem d_Lw_law_1051 : decode m_Lw_law.2.1 1051 = .ok (.ireturn, 1) := by decide +kernel
theorem d_Lw_law_1052 : decode m_Lw_law.2.1 1052 = .ok (.aload_n 1, 1) := by decide +kernel
theorem d_Lw_law_1053 : decode m_Lw_law.2.1 1053 = .ok (.aload_n 0, 1) := by decide +kernel
theorem d_Lw_law_1054 : decode m_Lw_law.2.1 1054 = .ok (.iload_n 3, 1) := by decide +kernel
theorem d_Lw_law_1055 : decode m_Lw_law.2.1 1055 = .ok (.iconst 1, 1) := by decide +kernel
theorem d_Lw_law_1056 : decode m_Lw_law.2.1 1056 = .ok (.iadd, 1) := by decide +kernel
theorem d_Lw_law_1057 : decode m_Lw_law.2.1 1057 = .ok (.iaload, 1) := by decide +kernel
theorem d_Lw_law_1058 : decode m_Lw_law.2.1 1058 = .ok (.aload_n 0, 1) := by decide +kernel
theorem d_Lw_law_1059 : decode m_Lw_law.2.1 1059 = .ok (.iload_n 3, 1) := by decide +kernel
theorem d_Lw_law_1060 : decode m_Lw_law.2.1 1060 = .ok (.iconst 2, 1) := by decide +kernel
theorem d_Lw_law_1061 : decode m_Lw_law.2.1 1061 = .ok (.iadd, 1) := by decide +kernel
theorem d_Lw_law_1062 : decode m_Lw_law.2.1 1062 = .ok (.iaload, 1) := by decide +kernel
theorem d_Lw_law_1063 : decode m_Lw_law.2.1 1063 = .ok (.invokevirtual 131, 3) := by decide +kernel
theorem d_Lw_law_1066 : decode m_Lw_law.2.1 1066 = .ok (.aload_n 2, 1) := by decide +kernel
theorem d_Lw_law_1067 : decode m_Lw_law.2.1 1067 = .ok (.aload_n 0, 1) := by decide +kernel
theorem d_Lw_law_1068 : decode m_Lw_law.2.1 1068 = .ok (.iload_n 3, 1) := by decide +kernel
theorem d_Lw_law_1069 : decode m_Lw_law.2.1 1069 = .ok (.iconst 1, 1) := by decide +kernel
theorem d_Lw_law_1070 : decode m_Lw_law.2.1 1070 = .ok (.iadd, 1) := by decide +kernel
theorem d_Lw_law_1071 : decode m_Lw_law.2.1 1071 = .ok (.iaload, 1) := by decide +kernel
theorem d_Lw_law_1072 : decode m_Lw_law.2.1 1072 = .ok (.aload_n 0, 1) := by decide +kernel
theorem d_Lw_law_1073 : decode m_Lw_law.2.1 1073 = .ok (.iload_n 3, 1) := by decide +kernel
theorem d_Lw_law_1074 : decode m_Lw_law.2.1 1074 = .ok (.iconst 2, 1) := by decide +kernel
theorem d_Lw_law_1075 : decode m_Lw_law.2.1 1075 = .ok (.iadd, 1) := by decide +kernel
theorem d_Lw_law_1076 : decode m_Lw_law.2.1 1076 = .ok (.iaload, 1) := by decide +kernel
theorem d_Lw_law_1077 : decode m_Lw_law.2.1 1077 = .ok (.invokevirtual 134, 3) := by decide +kernel
theorem d_Lw_law_1080 : decode m_Lw_law.2.1 1080 = .ok (.if_icmp .eq 225, 3) := by decide +kernel
theorem d_Lw_law_1083 : decode m_Lw_law.2.1 1083 = .ok (.iconst 0, 1) := by decide +kernel
theorem d_Lw_law_1084 : decode m_Lw_law.2.1 1084 = .ok (.ireturn, 1) := by decide +kernel
theorem d_Lw_law_1085 : decode m_Lw_law.2.1 1085 = .ok (.aload_n 1, 1) := by decide +kernel
theorem d_Lw_law_1086 : decode m_Lw_law.2.1 1086 = .ok (.aload_n 0, 1) := by decide +kernel
theorem d_Lw_law_1087 : decode m_Lw_law.2.1 1087 = .ok (.iload_n 3, 1) := by decide +kernel
theorem d_Lw_law_1088 : decode m_Lw_law.2.1 1088 = .ok (.iconst 1, 1) := by decide +kernel
theorem d_Lw_law_1089 : decode m_Lw_law.2.1 1089 = .ok (.iadd, 1) := by decide +kernel
theorem d_Lw_law_1090 : decode m_Lw_law.2.1 1090 = .ok (.iaload, 1) := by decide +kernel
theorem d_Lw_law_1091 : decode m_Lw_law.2.1 1091 = .ok (.aload_n 0, 1) := by decide +kernel
theorem d_Lw_law_1092 : decode m_Lw_law.2.1 1092 = .ok (.iload_n 3, 1) := by decide +kernel
theorem d_Lw_law_1093 : decode m_Lw_law.2.1 1093 = .ok (.iconst 2, 1) := by decide +kernel
theorem d_Lw_law_1094 : decode m_Lw_law.2.1 1094 = .ok (.iadd, 1) := by decide +kernel
theorem d_Lw_law_1095 : decode m_Lw_law.2.1 1095 = .ok (.iaload, 1) := by decide +kernel
theorem d_Lw_law_1096 : decode m_Lw_law.2.1 1096 = .ok (.aload_n 0, 1) := by decide +kernel
theorem d_Lw_law_1097 : decode m_Lw_law.2.1 1097 = .ok (.iload_n 3, 1) := by decide +kernel
theorem d_Lw_law_1098 : decode m_Lw_law.2.1 1098 = .ok (.iconst 3, 1) := by decide +kernel
theorem d_Lw_law_1099 : decode m_Lw_law.2.1 1099 = .ok (.iadd, 1) := by decide +kernel
theorem d_Lw_law_1100 : decode m_Lw_law.2.1 1100 = .ok (.iaload, 1) := by decide +kernel
theorem d_Lw_law_1101 : decode m_Lw_law.2.1 1101 = .ok (.invokevirtual 135, 3) := by decide +kernel
theorem d_Lw_law_1104 : decode m_Lw_law.2.1 1104 = .ok (.aload_n 2, 1) := by decide +kernel
theorem d_Lw_law_1105 : decode m_Lw_law.2.1 1105 = .ok (.aload_n 0, 1) := by decide +kernel
theorem d_Lw_law_1106 : decode m_Lw_law.2.1 1106 = .ok (.iload_n 3, 1) := by decide +kernel
theorem d_Lw_law_1107 : decode m_Lw_law.2.1 1107 = .ok (.iconst 1, 1) := by decide +kernel
theorem d_Lw_law_1108 : decode m_Lw_law.2.1 1108 = .ok (.iadd, 1) := by decide +kernel
theorem d_Lw_law_1109 : decode m_Lw_law.2.1 1109 = .ok (.iaload, 1) := by decide +kernel
theorem d_Lw_law_1110 : decode m_Lw_law.2.1 1110 = .ok (.aload_n 0, 1) := by decide +kernel
theorem d_Lw_law_1111 : decode m_Lw_law.2.1 1111 = .ok (.iload_n 3, 1) := by decide +kernel
theorem d_Lw_law_1112 : decode m_Lw_law.2.1 1112 = .ok (.iconst 2, 1) := by decide +kernel
theorem d_Lw_law_1113 : decode m_Lw_law.2.1 1113 = .ok (.iadd, 1) := by decide +kernel
theorem d_Lw_law_1114 : decode m_Lw_law.2.1 1114 = .ok (.iaload, 1) := by decide +kernel
theorem d_Lw_law_1115 : decode m_Lw_law.2.1 1115 = .ok (.aload_n 0, 1) := by decide +kernel
theorem d_Lw_law_1116 : decode m_Lw_law.2.1 1116 = .ok (.iload_n 3, 1) := by decide +kernel
theorem d_Lw_law_1117 : decode m_Lw_law.2.1 1117 = .ok (.iconst 3, 1) := by decide +kernel
theorem d_Lw_law_1118 : decode m_Lw_law.2.1 1118 = .ok (.iadd, 1) := by decide +kernel
theorem d_Lw_law_1119 : decode m_Lw_law.2.1 1119 = .ok (.iaload, 1) := by decide +kernel
theorem d_Lw_law_1120 : decode m_Lw_law.2.1 1120 = .ok (.invokevirtual 138, 3) := by decide +kernel
theorem d_Lw_law_1123 : decode m_Lw_law.2.1 1123 = .ok (.if_icmp .eq 182, 3) := by decide +kernel
theorem d_Lw_law_1126 : decode m_Lw_law.2.1 1126 = .ok (.iconst 0, 1) := by decide +kernel
theorem d_Lw_law_1127 : decode m_Lw_law.2.1 1127 = .ok (.ireturn, 1) := by decide +kernel
theorem d_Lw_law_1128 : decode m_Lw_law.2.1 1128 = .ok (.aload_n 1, 1) := by decide +kernel
theorem d_Lw_law_1129 : decode m_Lw_law.2.1 1129 = .ok (.aload_n 0, 1) := by decide +kernel
theorem d_Lw_law_1130 : decode m_Lw_law.2.1 1130 = .ok (.iload_n 3, 1) := by decide +kernel
theorem d_Lw_law_1131 : decode m_Lw_law.2.1 1131 = .ok (.iconst 1, 1) := by decide +kernel
theorem d_Lw_law_1132 : decode m_Lw_law.2.1 1132 = .ok (.iadd, 1) := by decide +kernel
theorem d_Lw_law_1133 : decode m_Lw_law.2.1 1133 = .ok (.iaload, 1) := by decide +kernel
theorem d_Lw_law_1134 : decode m_Lw_law.2.1 1134 = .ok (.aload_n 0, 1) := by decide +kernel
theorem d_Lw_law_1135 : decode m_Lw_law.2.1 1135 = .ok (.iload_n 3, 1) := by decide +kernel
theorem d_Lw_law_1136 : decode m_Lw_law.2.1 1136 = .ok (.iconst 2, 1) := by decide +kernel
theorem d_Lw_law_1137 : decode m_Lw_law.2.1 1137 = .ok (.iadd, 1) := by decide +kernel
theorem d_Lw_law_1138 : decode m_Lw_law.2.1 1138 = .ok (.iaload, 1) := by decide +kernel
theorem d_Lw_law_1139 : decode m_Lw_law.2.1 1139 = .ok (.aload_n 0, 1) := by decide +kernel
theorem d_Lw_law_1140 : decode m_Lw_law.2.1 1140 = .ok (.iload_n 3, 1) := by decide +kernel
theorem d_Lw_law_1141 : decode m_Lw_law.2.1 1141 = .ok (.iconst 3, 1) := by decide +kernel
theorem d_Lw_law_1142 : decode m_Lw_law.2.1 1142 = .ok (.iadd, 1) := by decide +kernel
theorem d_Lw_law_1143 : decode m_Lw_law.2.1 1143 = .ok (.iaload, 1) := by decide +kernel
theorem d_Lw_law_1144 : decode m_Lw_law.2.1 1144 = .ok (.aload_n 0, 1) := by decide +kernel
theorem d_Lw_law_1145 : decode m_Lw_law.2.1 1145 = .ok (.iload_n 3, 1) := by decide +kernel
theorem d_Lw_law_1146 : decode m_Lw_law.2.1 1146 = .ok (.iconst 4, 1) := by decide +kernel
theorem d_Lw_law_1147 : decode m_Lw_law.2.1 1147 = .ok (.iadd, 1) := by decide +kernel
theorem d_Lw_law_1148 : decode m_Lw_law.2.1 1148 = .ok (.iaload, 1) := by decide +kernel
theorem d_Lw_law_1149 : decode m_Lw_law.2.1 1149 = .ok (.invokevirtual 139, 3) := by decide +kernel
theorem d_Lw_law_1152 : decode m_Lw_law.2.1 1152 = .ok (.aload_n 2, 1) := by decide +kernel
theorem d_Lw_law_1153 : decode m_Lw_law.2.1 1153 = .ok (.aload_n 0, 1) := by decide +kernel
theorem d_Lw_law_1154 : decode m_Lw_law.2.1 1154 = .ok (.iload_n 3, 1) := by decide +kernel
theorem d_Lw_law_1155 : decode m_Lw_law.2.1 1155 = .ok (.iconst 1, 1) := by decide +kernel
theorem d_Lw_law_1156 : decode m_Lw_law.2.1 1156 = .ok (.iadd, 1) := by decide +kernel
theorem d_Lw_law_1157 : decode m_Lw_law.2.1 1157 = .ok (.iaload, 1) := by decide +kernel
theorem d_Lw_law_1158 : decode m_Lw_law.2.1 1158 = .ok (.aload_n 0, 1) := by decide +kernel
theorem d_Lw_law_1159 : decode m_Lw_law.2.1 1159 = .ok (.iload_n 3, 1) := by decide +kernel
theorem d_Lw_law_1160 : decode m_Lw_law.2.1 1160 = .ok (.iconst 2, 1) := by decide +kernel
theorem d_Lw_law_1161 : decode m_Lw_law.2.1 1161 = .ok (.iadd, 1) := by decide +kernel
theorem d_Lw_law_1162 : decode m_Lw_law.2.1 1162 = .ok (.iaload, 1) := by decide +kernel
theorem d_Lw_law_1163 : decode m_Lw_law.2.1 1163 = .ok (.aload_n 0, 1) := by decide +kernel
theorem d_Lw_law_1164 : decode m_Lw_law.2.1 1164 = .ok (.iload_n 3, 1) := by decide +kernel
theorem d_Lw_law_1165 : decode m_Lw_law.2.1 1165 = .ok (.iconst 3, 1) := by decide +kernel
theorem d_Lw_law_1166 : decode m_Lw_law.2.1 1166 = .ok (.iadd, 1) := by decide +kernel
theorem d_Lw_law_1167 : decode m_Lw_law.2.1 1167 = .ok (.iaload, 1) := by decide +kernel
theorem d_Lw_law_1168 : decode m_Lw_law.2.1 1168 = .ok (.aload_n 0, 1) := by decide +kernel
theorem d_Lw_law_1169 : decode m_Lw_law.2.1 1169 = .ok (.iload_n 3, 1) := by decide +kernel
theorem d_Lw_law_1170 : decode m_Lw_law.2.1 1170 = .ok (.iconst 4, 1) := by decide +kernel
theorem d_Lw_law_1171 : decode m_Lw_law.2.1 1171 = .ok (.iadd, 1) := by decide +kernel
theorem d_Lw_law_1172 : decode m_Lw_law.2.1 1172 = .ok (.iaload, 1) := by decide +kernel
theorem d_Lw_law_1173 : decode m_Lw_law.2.1 1173 = .ok (.invokevirtual 143, 3) := by decide +kernel
theorem d_Lw_law_1176 : decode m_Lw_law.2.1 1176 = .ok (.if_icmp .eq 129, 3) := by decide +kernel
theorem d_Lw_law_1179 : decode m_Lw_law.2.1 1179 = .ok (.iconst 0, 1) := by decide +kernel
theorem d_Lw_law_1180 : decode m_Lw_law.2.1 1180 = .ok (.ireturn, 1) := by decide +kernel
theorem d_Lw_law_1181 : decode m_Lw_law.2.1 1181 = .ok (.aload_n 1, 1) := by decide +kernel
theorem d_Lw_law_1182 : decode m_Lw_law.2.1 1182 = .ok (.aload_n 0, 1) := by decide +kernel
theorem d_Lw_law_1183 : decode m_Lw_law.2.1 1183 = .ok (.iload_n 3, 1) := by decide +kernel
theorem d_Lw_law_1184 : decode m_Lw_law.2.1 1184 = .ok (.iconst 1, 1) := by decide +kernel
theorem d_Lw_law_1185 : decode m_Lw_law.2.1 1185 = .ok (.iadd, 1) := by decide +kernel
theorem d_Lw_law_1186 : decode m_Lw_law.2.1 1186 = .ok (.iaload, 1) := by decide +kernel
theorem d_Lw_law_1187 : decode m_Lw_law.2.1 1187 = .ok (.aload_n 0, 1) := by decide +kernel
theorem d_Lw_law_1188 : decode m_Lw_law.2.1 1188 = .ok (.iload_n 3, 1) := by decide +kernel
theorem d_Lw_law_1189 : decode m_Lw_law.2.1 1189 = .ok (.iconst 2, 1) := by decide +kernel
theorem d_Lw_law_1190 : decode m_Lw_law.2.1 1190 = .ok (.iadd, 1) := by decide +kernel
theorem d_Lw_law_1191 : decode m_Lw_law.2.1 1191 = .ok (.iaload, 1) := by decide +kernel
theorem d_Lw_law_1192 : decode m_Lw_law.2.1 1192 = .ok (.invokevirtual 144, 3) := by decide +kernel
theorem d_Lw_law_1195 : decode m_Lw_law.2.1 1195 = .ok (.aload_n 2, 1) := by decide +kernel
theorem d_Lw_law_1196 : decode m_Lw_law.2.1 1196 = .ok (.aload_n 0, 1) := by decide +kernel
theorem d_Lw_law_1197 : decode m_Lw_law.2.1 1197 = .ok (.iload_n 3, 1) := by decide +kernel
theorem d_Lw_law_1198 : decode m_Lw_law.2.1 1198 = .ok (.iconst 1, 1) := by decide +kernel
theorem d_Lw_law_1199 : decode m_Lw_law.2.1 1199 = .ok (.iadd, 1) := by decide +kernel
theorem d_Lw_law_1200 : decode m_Lw_law.2.1 1200 = .ok (.iaload, 1) := by decide +kernel
theorem d_Lw_law_1201 : decode m_Lw_law.2.1 1201 = .ok (.aload_n 0, 1) := by decide +kernel
theorem d_Lw_law_1202 : decode m_Lw_law.2.1 1202 = .ok (.iload_n 3, 1) := by decide +kernel
theorem d_Lw_law_1203 : decode m_Lw_law.2.1 1203 = .ok (.iconst 2, 1) := by decide +kernel
theorem d_Lw_law_1204 : decode m_Lw_law.2.1 1204 = .ok (.iadd, 1) := by decide +kernel
theorem d_Lw_law_1205 : decode m_Lw_law.2.1 1205 = .ok (.iaload, 1) := by decide +kernel
theorem d_Lw_law_1206 : decode m_Lw_law.2.1 1206 = .ok (.invokevirtual 147, 3) := by decide +kernel
theorem d_Lw_law_1209 : decode m_Lw_law.2.1 1209 = .ok (.if_icmp .eq 96, 3) := by decide +kernel
theorem d_Lw_law_1212 : decode m_Lw_law.2.1 1212 = .ok (.iconst 0, 1) := by decide +kernel
theorem d_Lw_law_1213 : decode m_Lw_law.2.1 1213 = .ok (.ireturn, 1) := by decide +kernel
theorem d_Lw_law_1214 : decode m_Lw_law.2.1 1214 = .ok (.aload_n 1, 1) := by decide +kernel
theorem d_Lw_law_1215 : decode m_Lw_law.2.1 1215 = .ok (.aload_n 0, 1) := by decide +kernel
theorem d_Lw_law_1216 : decode m_Lw_law.2.1 1216 = .ok (.iload_n 3, 1) := by decide +kernel
theorem d_Lw_law_1217 : decode m_Lw_law.2.1 1217 = .ok (.iconst 1, 1) := by decide +kernel
theorem d_Lw_law_1218 : decode m_Lw_law.2.1 1218 = .ok (.iadd, 1) := by decide +kernel
theorem d_Lw_law_1219 : decode m_Lw_law.2.1 1219 = .ok (.iaload, 1) := by decide +kernel
theorem d_Lw_law_1220 : decode m_Lw_law.2.1 1220 = .ok (.aload_n 0, 1) := by decide +kernel
theorem d_Lw_law_1221 : decode m_Lw_law.2.1 1221 = .ok (.iload_n 3, 1) := by decide +kernel
theorem d_Lw_law_1222 : decode m_Lw_law.2.1 1222 = .ok (.iconst 2, 1) := by decide +kernel
theorem d_Lw_law_1223 : decode m_Lw_law.2.1 1223 = .ok (.iadd, 1) := by decide +kernel
theorem d_Lw_law_1224 : decode m_Lw_law.2.1 1224 = .ok (.iaload, 1) := by decide +kernel
theorem d_Lw_law_1225 : decode m_Lw_law.2.1 1225 = .ok (.invokevirtual 148, 3) := by decide +kernel
theorem d_Lw_law_1228 : decode m_Lw_law.2.1 1228 = .ok (.aload_n 2, 1) := by decide +kernel
theorem d_Lw_law_1229 : decode m_Lw_law.2.1 1229 = .ok (.aload_n 0, 1) := by decide +kernel
theorem d_Lw_law_1230 : decode m_Lw_law.2.1 1230 = .ok (.iload_n 3, 1) := by decide +kernel
theorem d_Lw_law_1231 : decode m_Lw_law.2.1 1231 = .ok (.iconst 1, 1) := by decide +kernel
theorem d_Lw_law_1232 : decode m_Lw_law.2.1 1232 = .ok (.iadd, 1) := by decide +kernel
theorem d_Lw_law_1233 : decode m_Lw_law.2.1 1233 = .ok (.iaload, 1) := by decide +kernel
theorem d_Lw_law_1234 : decode m_Lw_law.2.1 1234 = .ok (.aload_n 0, 1) := by decide +kernel
theorem d_Lw_law_1235 : decode m_Lw_law.2.1 1235 = .ok (.iload_n 3, 1) := by decide +kernel
theorem d_Lw_law_1236 : decode m_Lw_law.2.1 1236 = .ok (.iconst 2, 1) := by decide +kernel
theorem d_Lw_law_1237 : decode m_Lw_law.2.1 1237 = .ok (.iadd, 1) := by decide +kernel
theorem d_Lw_law_1238 : decode m_Lw_law.2.1 1238 = .ok (.iaload, 1) := by decide +kernel
theorem d_Lw_law_1239 : decode m_Lw_law.2.1 1239 = .ok (.invokevirtual 151, 3) := by decide +kernel
theorem d_Lw_law_1242 : decode m_Lw_law.2.1 1242 = .ok (.if_icmp .eq 63, 3) := by decide +kernel
theorem d_Lw_law_1245 : decode m_Lw_law.2.1 1245 = .ok (.iconst 0, 1) := by decide +kernel
theorem d_Lw_law_1246 : decode m_Lw_law.2.1 1246 = .ok (.ireturn, 1) := by decide +kernel
theorem d_Lw_law_1247 : decode m_Lw_law.2.1 1247 = .ok (.aload_n 1, 1) := by decide +kernel
theorem d_Lw_law_1248 : decode m_Lw_law.2.1 1248 = .ok (.aload_n 0, 1) := by decide +kernel
theorem d_Lw_law_1249 : decode m_Lw_law.2.1 1249 = .ok (.iload_n 3, 1) := by decide +kernel
theorem d_Lw_law_1250 : decode m_Lw_law.2.1 1250 = .ok (.iconst 1, 1) := by decide +kernel
theorem d_Lw_law_1251 : decode m_Lw_law.2.1 1251 = .ok (.iadd, 1) := by decide +kernel
theorem d_Lw_law_1252 : decode m_Lw_law.2.1 1252 = .ok (.iaload, 1) := by decide +kernel
theorem d_Lw_law_1253 : decode m_Lw_law.2.1 1253 = .ok (.aload_n 0, 1) := by decide +kernel
theorem d_Lw_law_1254 : decode m_Lw_law.2.1 1254 = .ok (.iload_n 3, 1) := by decide +kernel
theorem d_Lw_law_1255 : decode m_Lw_law.2.1 1255 = .ok (.iconst 2, 1) := by decide +kernel
theorem d_Lw_law_1256 : decode m_Lw_law.2.1 1256 = .ok (.iadd, 1) := by decide +kernel
theorem d_Lw_law_1257 : decode m_Lw_law.2.1 1257 = .ok (.iaload, 1) := by decide +kernel
theorem d_Lw_law_1258 : decode m_Lw_law.2.1 1258 = .ok (.aload_n 0, 1) := by decide +kernel
theorem d_Lw_law_1259 : decode m_Lw_law.2.1 1259 = .ok (.iload_n 3, 1) := by decide +kernel
theorem d_Lw_law_1260 : decode m_Lw_law.2.1 1260 = .ok (.iconst 3, 1) := by decide +kernel
theorem d_Lw_law_1261 : decode m_Lw_law.2.1 1261 = .ok (.iadd, 1) := by decide +kernel
theorem d_Lw_law_1262 : decode m_Lw_law.2.1 1262 = .ok (.iaload, 1) := by decide +kernel
theorem d_Lw_law_1263 : decode m_Lw_law.2.1 1263 = .ok (.invokevirtual 152, 3) := by decide +kernel
theorem d_Lw_law_1266 : decode m_Lw_law.2.1 1266 = .ok (.aload_n 2, 1) := by decide +kernel
theorem d_Lw_law_1267 : decode m_Lw_law.2.1 1267 = .ok (.aload_n 0, 1) := by decide +kernel
theorem d_Lw_law_1268 : decode m_Lw_law.2.1 1268 = .ok (.iload_n 3, 1) := by decide +kernel
theorem d_Lw_law_1269 : decode m_Lw_law.2.1 1269 = .ok (.iconst 1, 1) := by decide +kernel
theorem d_Lw_law_1270 : decode m_Lw_law.2.1 1270 = .ok (.iadd, 1) := by decide +kernel
theorem d_Lw_law_1271 : decode m_Lw_law.2.1 1271 = .ok (.iaload, 1) := by decide +kernel
theorem d_Lw_law_1272 : decode m_Lw_law.2.1 1272 = .ok (.aload_n 0, 1) := by decide +kernel
theorem d_Lw_law_1273 : decode m_Lw_law.2.1 1273 = .ok (.iload_n 3, 1) := by decide +kernel
theorem d_Lw_law_1274 : decode m_Lw_law.2.1 1274 = .ok (.iconst 2, 1) := by decide +kernel
theorem d_Lw_law_1275 : decode m_Lw_law.2.1 1275 = .ok (.iadd, 1) := by decide +kernel
theorem d_Lw_law_1276 : decode m_Lw_law.2.1 1276 = .ok (.iaload, 1) := by decide +kernel
theorem d_Lw_law_1277 : decode m_Lw_law.2.1 1277 = .ok (.aload_n 0, 1) := by decide +kernel
theorem d_Lw_law_1278 : decode m_Lw_law.2.1 1278 = .ok (.iload_n 3, 1) := by decide +kernel
theorem d_Lw_law_1279 : decode m_Lw_law.2.1 1279 = .ok (.iconst 3, 1) := by decide +kernel
theorem d_Lw_law_1280 : decode m_Lw_law.2.1 1280 = .ok (.iadd, 1) := by decide +kernel
theorem d_Lw_law_1281 : decode m_Lw_law.2.1 1281 = .ok (.iaload, 1) := by decide +kernel
theorem d_Lw_law_1282 : decode m_Lw_law.2.1 1282 = .ok (.invokevirtual 156, 3) := by decide +kernel
theorem d_Lw_law_1285 : decode m_Lw_law.2.1 1285 = .ok (.lcmp, 1) := by decide +kernel
theorem d_Lw_law_1286 : decode m_Lw_law.2.1 1286 = .ok (.ifCond .eq 19, 3) := by decide +kernel
theorem d_Lw_law_1289 : decode m_Lw_law.2.1 1289 = .ok (.iconst 0, 1) := by decide +kernel
theorem d_Lw_law_1290 : decode m_Lw_law.2.1 1290 = .ok (.ireturn, 1) := by decide +kernel
theorem d_Lw_law_1291 : decode m_Lw_law.2.1 1291 = .ok (.aload_n 1, 1) := by decide +kernel
theorem d_Lw_law_1292 : decode m_Lw_law.2.1 1292 = .ok (.invokevirtual 157, 3) := by decide +kernel
theorem d_Lw_law_1295 : decode m_Lw_law.2.1 1295 = .ok (.aload_n 2, 1) := by decide +kernel
theorem d_Lw_law_1296 : decode m_Lw_law.2.1 1296 = .ok (.invokevirtual 161, 3) := by decide +kernel
theorem d_Lw_law_1299 : decode m_Lw_law.2.1 1299 = .ok (.lcmp, 1) := by decide +kernel
theorem d_Lw_law_1300 : decode m_Lw_law.2.1 1300 = .ok (.ifCond .eq 5, 3) := by decide +kernel
theorem d_Lw_law_1303 : decode m_Lw_law.2.1 1303 = .ok (.iconst 0, 1) := by decide +kernel
theorem d_Lw_law_1304 : decode m_Lw_law.2.1 1304 = .ok (.ireturn, 1) := by decide +kernel
theorem d_Lw_law_1305 : decode m_Lw_law.2.1 1305 = .ok (.iinc 3 6, 3) := by decide +kernel
theorem d_Lw_law_1308 : decode m_Lw_law.2.1 1308 = .ok (.goto (-1290), 3) := by decide +kernel
theorem d_Lw_law_1311 : decode m_Lw_law.2.1 1311 = .ok (.iconst 1, 1) := by decide +kernel
theorem d_Lw_law_1312 : decode m_Lw_law.2.1 1312 = .ok (.ireturn, 1) := by decide +kernel
