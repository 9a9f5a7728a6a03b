theorem dL_law_0 : decode cL_law 0 = .ok (.new 7, 3) := by decide +kernel
theorem dL_law_3 : decode cL_law 3 = .ok (.dup, 1) := by decide +kernel
theorem dL_law_4 : decode cL_law 4 = .ok (.invokespecial 9, 3) := by decide +kernel
theorem dL_law_7 : decode cL_law 7 = .ok (.astore_n 1, 1) := by decide +kernel
theorem dL_law_8 : decode cL_law 8 = .ok (.new 10, 3) := by decide +kernel
theorem dL_law_11 : decode cL_law 11 = .ok (.dup, 1) := by decide +kernel
theorem dL_law_12 : decode cL_law 12 = .ok (.invokespecial 12, 3) := by decide +kernel
theorem dL_law_15 : decode cL_law 15 = .ok (.astore_n 2, 1) := by decide +kernel
theorem dL_law_16 : decode cL_law 16 = .ok (.iconst 0, 1) := by decide +kernel
theorem dL_law_17 : decode cL_law 17 = .ok (.istore_n 3, 1) := by decide +kernel
theorem dL_law_18 : decode cL_law 18 = .ok (.iload_n 3, 1) := by decide +kernel
theorem dL_law_19 : decode cL_law 19 = .ok (.aload_n 0, 1) := by decide +kernel
theorem dL_law_20 : decode cL_law 20 = .ok (.arraylength, 1) := by decide +kernel
theorem dL_law_21 : decode cL_law 21 = .ok (.iconst 5, 1) := by decide +kernel
theorem dL_law_22 : decode cL_law 22 = .ok (.isub, 1) := by decide +kernel
theorem dL_law_23 : decode cL_law 23 = .ok (.if_icmp .gt 792, 3) := by decide +kernel
theorem dL_law_26 : decode cL_law 26 = .ok (.aload_n 0, 1) := by decide +kernel
theorem dL_law_27 : decode cL_law 27 = .ok (.iload_n 3, 1) := by decide +kernel
theorem dL_law_28 : decode cL_law 28 = .ok (.iaload, 1) := by decide +kernel
theorem dL_law_29 : decode cL_law 29 = .ok (.bipush 31, 2) := by decide +kernel
theorem dL_law_31 : decode cL_law 31 = .ok (.iand, 1) := by decide +kernel
theorem dL_law_32 : decode cL_law 32 = .ok (.tableswitch 777 0 22 #[108, 141, 194, 217, 260, 293, 326, 359, 392, 425, 448, 471, 504, 527, 570, 603, 636, 669, 692, 705, 728, 741, 764], 108) := by decide +kernel
theorem dL_law_140 : decode cL_law 140 = .ok (.aload_n 1, 1) := by decide +kernel
theorem dL_law_141 : decode cL_law 141 = .ok (.aload_n 0, 1) := by decide +kernel
theorem dL_law_142 : decode cL_law 142 = .ok (.iload_n 3, 1) := by decide +kernel
theorem dL_law_143 : decode cL_law 143 = .ok (.iconst 1, 1) := by decide +kernel
theorem dL_law_144 : decode cL_law 144 = .ok (.iadd, 1) := by decide +kernel
theorem dL_law_145 : decode cL_law 145 = .ok (.iaload, 1) := by decide +kernel
theorem dL_law_146 : decode cL_law 146 = .ok (.aload_n 0, 1) := by decide +kernel
theorem dL_law_147 : decode cL_law 147 = .ok (.iload_n 3, 1) := by decide +kernel
theorem dL_law_148 : decode cL_law 148 = .ok (.iconst 2, 1) := by decide +kernel
theorem dL_law_149 : decode cL_law 149 = .ok (.iadd, 1) := by decide +kernel
theorem dL_law_150 : decode cL_law 150 = .ok (.iaload, 1) := by decide +kernel
theorem dL_law_151 : decode cL_law 151 = .ok (.invokevirtual 13, 3) := by decide +kernel
theorem dL_law_154 : decode cL_law 154 = .ok (.aload_n 2, 1) := by decide +kernel
theorem dL_law_155 : decode cL_law 155 = .ok (.aload_n 0, 1) := by decide +kernel
theorem dL_law_156 : decode cL_law 156 = .ok (.iload_n 3, 1) := by decide +kernel
theorem dL_law_157 : decode cL_law 157 = .ok (.iconst 1, 1) := by decide +kernel
theorem dL_law_158 : decode cL_law 158 = .ok (.iadd, 1) := by decide +kernel
theorem dL_law_159 : decode cL_law 159 = .ok (.iaload, 1) := by decide +kernel
theorem dL_law_160 : decode cL_law 160 = .ok (.aload_n 0, 1) := by decide +kernel
theorem dL_law_161 : decode cL_law 161 = .ok (.iload_n 3, 1) := by decide +kernel
theorem dL_law_162 : decode cL_law 162 = .ok (.iconst 2, 1) := by decide +kernel
theorem dL_law_163 : decode cL_law 163 = .ok (.iadd, 1) := by decide +kernel
theorem dL_law_164 : decode cL_law 164 = .ok (.iaload, 1) := by decide +kernel
theorem dL_law_165 : decode cL_law 165 = .ok (.invokevirtual 17, 3) := by decide +kernel
theorem dL_law_168 : decode cL_law 168 = .ok (.if_icmp .eq 641, 3) := by decide +kernel
theorem dL_law_171 : decode cL_law 171 = .ok (.iconst 0, 1) := by decide +kernel
theorem dL_law_172 : decode cL_law 172 = .ok (.ireturn, 1) := by decide +kernel
theorem dL_law_173 : decode cL_law 173 = .ok (.aload_n 1, 1) := by decide +kernel
theorem dL_law_174 : decode cL_law 174 = .ok (.aload_n 0, 1) := by decide +kernel
theorem dL_law_175 : decode cL_law 175 = .ok (.iload_n 3, 1) := by decide +kernel
theorem dL_law_176 : decode cL_law 176 = .ok (.iconst 1, 1) := by decide +kernel
theorem dL_law_177 : decode cL_law 177 = .ok (.iadd, 1) := by decide +kernel
theorem dL_law_178 : decode cL_law 178 = .ok (.iaload, 1) := by decide +kernel
theorem dL_law_179 : decode cL_law 179 = .ok (.aload_n 0, 1) := by decide +kernel
theorem dL_law_180 : decode cL_law 180 = .ok (.iload_n 3, 1) := by decide +kernel
theorem dL_law_181 : decode cL_law 181 = .ok (.iconst 2, 1) := by decide +kernel
theorem dL_law_182 : decode cL_law 182 = .ok (.iadd, 1) := by decide +kernel
theorem dL_law_183 : decode cL_law 183 = .ok (.iaload, 1) := by decide +kernel
theorem dL_law_184 : decode cL_law 184 = .ok (.aload_n 0, 1) := by decide +kernel
theorem dL_law_185 : decode cL_law 185 = .ok (.iload_n 3, 1) := by decide +kernel
theorem dL_law_186 : decode cL_law 186 = .ok (.iconst 3, 1) := by decide +kernel
theorem dL_law_187 : decode cL_law 187 = .ok (.iadd, 1) := by decide +kernel
theorem dL_law_188 : decode cL_law 188 = .ok (.iaload, 1) := by decide +kernel
theorem dL_law_189 : decode cL_law 189 = .ok (.aload_n 0, 1) := by decide +kernel
theorem dL_law_190 : decode cL_law 190 = .ok (.iload_n 3, 1) := by decide +kernel
theorem dL_law_191 : decode cL_law 191 = .ok (.iconst 4, 1) := by decide +kernel
theorem dL_law_192 : decode cL_law 192 = .ok (.iadd, 1) := by decide +kernel
theorem dL_law_193 : decode cL_law 193 = .ok (.iaload, 1) := by decide +kernel
theorem dL_law_194 : decode cL_law 194 = .ok (.invokevirtual 18, 3) := by decide +kernel
theorem dL_law_197 : decode cL_law 197 = .ok (.aload_n 2, 1) := by decide +kernel
theorem dL_law_198 : decode cL_law 198 = .ok (.aload_n 0, 1) := by decide +kernel
theorem dL_law_199 : decode cL_law 199 = .ok (.iload_n 3, 1) := by decide +kernel
theorem dL_law_200 : decode cL_law 200 = .ok (.iconst 1, 1) := by decide +kernel
theorem dL_law_201 : decode cL_law 201 = .ok (.iadd, 1) := by decide +kernel
theorem dL_law_202 : decode cL_law 202 = .ok (.iaload, 1) := by decide +kernel
theorem dL_law_203 : decode cL_law 203 = .ok (.aload_n 0, 1) := by decide +kernel
theorem dL_law_204 : decode cL_law 204 = .ok (.iload_n 3, 1) := by decide +kernel
theorem dL_law_205 : decode cL_law 205 = .ok (.iconst 2, 1) := by decide +kernel
theorem dL_law_206 : decode cL_law 206 = .ok (.iadd, 1) := by decide +kernel
theorem dL_law_207 : decode cL_law 207 = .ok (.iaload, 1) := by decide +kernel
theorem dL_law_208 : decode cL_law 208 = .ok (.aload_n 0, 1) := by decide +kernel
theorem dL_law_209 : decode cL_law 209 = .ok (.iload_n 3, 1) := by decide +kernel
theorem dL_law_210 : decode cL_law 210 = .ok (.iconst 3, 1) := by decide +kernel
theorem dL_law_211 : decode cL_law 211 = .ok (.iadd, 1) := by decide +kernel
theorem dL_law_212 : decode cL_law 212 = .ok (.iaload, 1) := by decide +kernel
theorem dL_law_213 : decode cL_law 213 = .ok (.aload_n 0, 1) := by decide +kernel
theorem dL_law_214 : decode cL_law 214 = .ok (.iload_n 3, 1) := by decide +kernel
theorem dL_law_215 : decode cL_law 215 = .ok (.iconst 4, 1) := by decide +kernel
theorem dL_law_216 : decode cL_law 216 = .ok (.iadd, 1) := by decide +kernel
theorem dL_law_217 : decode cL_law 217 = .ok (.iaload, 1) := by decide +kernel
theorem dL_law_218 : decode cL_law 218 = .ok (.invokevirtual 22, 3) := by decide +kernel
theorem dL_law_221 : decode cL_law 221 = .ok (.if_icmp .eq 588, 3) := by decide +kernel
theorem dL_law_224 : decode cL_law 224 = .ok (.iconst 0, 1) := by decide +kernel
theorem dL_law_225 : decode cL_law 225 = .ok (.ireturn, 1) := by decide +kernel
theorem dL_law_226 : decode cL_law 226 = .ok (.aload_n 1, 1) := by decide +kernel
theorem dL_law_227 : decode cL_law 227 = .ok (.aload_n 0, 1) := by decide +kernel
theorem dL_law_228 : decode cL_law 228 = .ok (.iload_n 3, 1) := by decide +kernel
theorem dL_law_229 : decode cL_law 229 = .ok (.iconst 1, 1) := by decide +kernel
theorem dL_law_230 : decode cL_law 230 = .ok (.iadd, 1) := by decide +kernel
theorem dL_law_231 : decode cL_law 231 = .ok (.iaload, 1) := by decide +kernel
theorem dL_law_232 : decode cL_law 232 = .ok (.invokevirtual 23, 3) := by decide +kernel
theorem dL_law_235 : decode cL_law 235 = .ok (.aload_n 2, 1) := by decide +kernel
theorem dL_law_236 : decode cL_law 236 = .ok (.aload_n 0, 1) := by decide +kernel
theorem dL_law_237 : decode cL_law 237 = .ok (.iload_n 3, 1) := by decide +kernel
theorem dL_law_238 : decode cL_law 238 = .ok (.iconst 1, 1) := by decide +kernel
theorem dL_law_239 : decode cL_law 239 = .ok (.iadd, 1) := by decide +kernel
theorem dL_law_240 : decode cL_law 240 = .ok (.iaload, 1) := by decide +kernel
theorem dL_law_241 : decode cL_law 241 = .ok (.invokevirtual 27, 3) := by decide +kernel
theorem dL_law_244 : decode cL_law 244 = .ok (.if_icmp .eq 565, 3) := by decide +kernel
theorem dL_law_247 : decode cL_law 247 = .ok (.iconst 0, 1) := by decide +kernel
theorem dL_law_248 : decode cL_law 248 = .ok (.ireturn, 1) := by decide +kernel
theorem dL_law_249 : decode cL_law 249 = .ok (.aload_n 1, 1) := by decide +kernel
theorem dL_law_250 : decode cL_law 250 = .ok (.aload_n 0, 1) := by decide +kernel
theorem dL_law_251 : decode cL_law 251 = .ok (.iload_n 3, 1) := by decide +kernel
theorem dL_law_252 : decode cL_law 252 = .ok (.iconst 1, 1) := by decide +kernel
theorem dL_law_253 : decode cL_law 253 = .ok (.iadd, 1) := by decide +kernel
theorem dL_law_254 : decode cL_law 254 = .ok (.iaload, 1) := by decide +kernel
theorem dL_law_255 : decode cL_law 255 = .ok (.aload_n 0, 1) := by decide +kernel
theorem dL_law_256 : decode cL_law 256 = .ok (.iload_n 3, 1) := by decide +kernel
theorem dL_law_257 : decode cL_law 257 = .ok (.iconst 2, 1) := by decide +kernel
theorem dL_law_258 : decode cL_law 258 = .ok (.iadd, 1) := by decide +kernel
theorem dL_law_259 : decode cL_law 259 = .ok (.iaload, 1) := by decide +kernel
theorem dL_law_260 : decode cL_law 260 = .ok (.aload_n 0, 1) := by decide +kernel
theorem dL_law_261 : decode cL_law 261 = .ok (.iload_n 3, 1) := by decide +kernel
theorem dL_law_262 : decode cL_law 262 = .ok (.iconst 3, 1) := by decide +kernel
theorem dL_law_263 : decode cL_law 263 = .ok (.iadd, 1) := by decide +kernel
theorem dL_law_264 : decode cL_law 264 = .ok (.iaload, 1) := by decide +kernel
theorem dL_law_265 : decode cL_law 265 = .ok (.invokevirtual 28, 3) := by decide +kernel
theorem dL_law_268 : decode cL_law 268 = .ok (.aload_n 2, 1) := by decide +kernel
theorem dL_law_269 : decode cL_law 269 = .ok (.aload_n 0, 1) := by decide +kernel
theorem dL_law_270 : decode cL_law 270 = .ok (.iload_n 3, 1) := by decide +kernel
theorem dL_law_271 : decode cL_law 271 = .ok (.iconst 1, 1) := by decide +kernel
theorem dL_law_272 : decode cL_law 272 = .ok (.iadd, 1) := by decide +kernel
theorem dL_law_273 : decode cL_law 273 = .ok (.iaload, 1) := by decide +kernel
theorem dL_law_274 : decode cL_law 274 = .ok (.aload_n 0, 1) := by decide +kernel
theorem dL_law_275 : decode cL_law 275 = .ok (.iload_n 3, 1) := by decide +kernel
theorem dL_law_276 : decode cL_law 276 = .ok (.iconst 2, 1) := by decide +kernel
theorem dL_law_277 : decode cL_law 277 = .ok (.iadd, 1) := by decide +kernel
theorem dL_law_278 : decode cL_law 278 = .ok (.iaload, 1) := by decide +kernel
theorem dL_law_279 : decode cL_law 279 = .ok (.aload_n 0, 1) := by decide +kernel
theorem dL_law_280 : decode cL_law 280 = .ok (.iload_n 3, 1) := by decide +kernel
theorem dL_law_281 : decode cL_law 281 = .ok (.iconst 3, 1) := by decide +kernel
theorem dL_law_282 : decode cL_law 282 = .ok (.iadd, 1) := by decide +kernel
theorem dL_law_283 : decode cL_law 283 = .ok (.iaload, 1) := by decide +kernel
theorem dL_law_284 : decode cL_law 284 = .ok (.invokevirtual 32, 3) := by decide +kernel
theorem dL_law_287 : decode cL_law 287 = .ok (.if_icmp .eq 522, 3) := by decide +kernel
theorem dL_law_290 : decode cL_law 290 = .ok (.iconst 0, 1) := by decide +kernel
theorem dL_law_291 : decode cL_law 291 = .ok (.ireturn, 1) := by decide +kernel
theorem dL_law_292 : decode cL_law 292 = .ok (.aload_n 1, 1) := by decide +kernel
theorem dL_law_293 : decode cL_law 293 = .ok (.aload_n 0, 1) := by decide +kernel
theorem dL_law_294 : decode cL_law 294 = .ok (.iload_n 3, 1) := by decide +kernel
theorem dL_law_295 : decode cL_law 295 = .ok (.iconst 1, 1) := by decide +kernel
theorem dL_law_296 : decode cL_law 296 = .ok (.iadd, 1) := by decide +kernel
theorem dL_law_297 : decode cL_law 297 = .ok (.iaload, 1) := by decide +kernel
theorem dL_law_298 : decode cL_law 298 = .ok (.aload_n 0, 1) := by decide +kernel
theorem dL_law_299 : decode cL_law 299 = .ok (.iload_n 3, 1) := by decide +kernel
theorem dL_law_300 : decode cL_law 300 = .ok (.iconst 2, 1) := by decide +kernel
theorem dL_law_301 : decode cL_law 301 = .ok (.iadd, 1) := by decide +kernel
theorem dL_law_302 : decode cL_law 302 = .ok (.iaload, 1) := by decide +kernel
theorem dL_law_303 : decode cL_law 303 = .ok (.invokevirtual 33, 3) := by decide +kernel
theorem dL_law_306 : decode cL_law 306 = .ok (.aload_n 2, 1) := by decide +kernel
theorem dL_law_307 : decode cL_law 307 = .ok (.aload_n 0, 1) := by decide +kernel
theorem dL_law_308 : decode cL_law 308 = .ok (.iload_n 3, 1) := by decide +kernel
theorem dL_law_309 : decode cL_law 309 = .ok (.iconst 1, 1) := by decide +kernel
theorem dL_law_310 : decode cL_law 310 = .ok (.iadd, 1) := by decide +kernel
theorem dL_law_311 : decode cL_law 311 = .ok (.iaload, 1) := by decide +kernel
theorem dL_law_312 : decode cL_law 312 = .ok (.aload_n 0, 1) := by decide +kernel
theorem dL_law_313 : decode cL_law 313 = .ok (.iload_n 3, 1) := by decide +kernel
theorem dL_law_314 : decode cL_law 314 = .ok (.iconst 2, 1) := by decide +kernel
theorem dL_law_315 : decode cL_law 315 = .ok (.iadd, 1) := by decide +kernel
theorem dL_law_316 : decode cL_law 316 = .ok (.iaload, 1) := by decide +kernel
theorem dL_law_317 : decode cL_law 317 = .ok (.invokevirtual 36, 3) := by decide +kernel
theorem dL_law_320 : decode cL_law 320 = .ok (.if_icmp .eq 489, 3) := by decide +kernel
theorem dL_law_323 : decode cL_law 323 = .ok (.iconst 0, 1) := by decide +kernel
theorem dL_law_324 : decode cL_law 324 = .ok (.ireturn, 1) := by decide +kernel
theorem dL_law_325 : decode cL_law 325 = .ok (.aload_n 1, 1) := by decide +kernel
theorem dL_law_326 : decode cL_law 326 = .ok (.aload_n 0, 1) := by decide +kernel
theorem dL_law_327 : decode cL_law 327 = .ok (.iload_n 3, 1) := by decide +kernel
theorem dL_law_328 : decode cL_law 328 = .ok (.iconst 1, 1) := by decide +kernel
theorem dL_law_329 : decode cL_law 329 = .ok (.iadd, 1) := by decide +kernel
theorem dL_law_330 : decode cL_law 330 = .ok (.iaload, 1) := by decide +kernel
theorem dL_law_331 : decode cL_law 331 = .ok (.aload_n 0, 1) := by decide +kernel
theorem dL_law_332 : decode cL_law 332 = .ok (.iload_n 3, 1) := by decide +kernel
theorem dL_law_333 : decode cL_law 333 = .ok (.iconst 2, 1) := by decide +kernel
theorem dL_law_334 : decode cL_law 334 = .ok (.iadd, 1) := by decide +kernel
theorem dL_law_335 : decode cL_law 335 = .ok (.iaload, 1) := by decide +kernel
theorem dL_law_336 : decode cL_law 336 = .ok (.invokevirtual 37, 3) := by decide +kernel
theorem dL_law_339 : decode cL_law 339 = .ok (.aload_n 2, 1) := by decide +kernel
theorem dL_law_340 : decode cL_law 340 = .ok (.aload_n 0, 1) := by decide +kernel
theorem dL_law_341 : decode cL_law 341 = .ok (.iload_n 3, 1) := by decide +kernel
theorem dL_law_342 : decode cL_law 342 = .ok (.iconst 1, 1) := by decide +kernel
theorem dL_law_343 : decode cL_law 343 = .ok (.iadd, 1) := by decide +kernel
theorem dL_law_344 : decode cL_law 344 = .ok (.iaload, 1) := by decide +kernel
theorem dL_law_345 : decode cL_law 345 = .ok (.aload_n 0, 1) := by decide +kernel
theorem dL_law_346 : decode cL_law 346 = .ok (.iload_n 3, 1) := by decide +kernel
theorem dL_law_347 : decode cL_law 347 = .ok (.iconst 2, 1) := by decide +kernel
theorem dL_law_348 : decode cL_law 348 = .ok (.iadd, 1) := by decide +kernel
theorem dL_law_349 : decode cL_law 349 = .ok (.iaload, 1) := by decide +kernel
theorem dL_law_350 : decode cL_law 350 = .ok (.invokevirtual 40, 3) := by decide +kernel
theorem dL_law_353 : decode cL_law 353 = .ok (.if_icmp .eq 456, 3) := by decide +kernel
theorem dL_law_356 : decode cL_law 356 = .ok (.iconst 0, 1) := by decide +kernel
theorem dL_law_357 : decode cL_law 357 = .ok (.ireturn, 1) := by decide +kernel
theorem dL_law_358 : decode cL_law 358 = .ok (.aload_n 1, 1) := by decide +kernel
theorem dL_law_359 : decode cL_law 359 = .ok (.aload_n 0, 1) := by decide +kernel
theorem dL_law_360 : decode cL_law 360 = .ok (.iload_n 3, 1) := by decide +kernel
theorem dL_law_361 : decode cL_law 361 = .ok (.iconst 1, 1) := by decide +kernel
theorem dL_law_362 : decode cL_law 362 = .ok (.iadd, 1) := by decide +kernel
theorem dL_law_363 : decode cL_law 363 = .ok (.iaload, 1) := by decide +kernel
theorem dL_law_364 : decode cL_law 364 = .ok (.aload_n 0, 1) := by decide +kernel
theorem dL_law_365 : decode cL_law 365 = .ok (.iload_n 3, 1) := by decide +kernel
theorem dL_law_366 : decode cL_law 366 = .ok (.iconst 2, 1) := by decide +kernel
theorem dL_law_367 : decode cL_law 367 = .ok (.iadd, 1) := by decide +kernel
theorem dL_law_368 : decode cL_law 368 = .ok (.iaload, 1) := by decide +kernel
theorem dL_law_369 : decode cL_law 369 = .ok (.invokevirtual 41, 3) := by decide +kernel
theorem dL_law_372 : decode cL_law 372 = .ok (.aload_n 2, 1) := by decide +kernel
theorem dL_law_373 : decode cL_law 373 = .ok (.aload_n 0, 1) := by decide +kernel
theorem dL_law_374 : decode cL_law 374 = .ok (.iload_n 3, 1) := by decide +kernel
theorem dL_law_375 : decode cL_law 375 = .ok (.iconst 1, 1) := by decide +kernel
theorem dL_law_376 : decode cL_law 376 = .ok (.iadd, 1) := by decide +kernel
theorem dL_law_377 : decode cL_law 377 = .ok (.iaload, 1) := by decide +kernel
theorem dL_law_378 : decode cL_law 378 = .ok (.aload_n 0, 1) := by decide +kernel
theorem dL_law_379 : decode cL_law 379 = .ok (.iload_n 3, 1) := by decide +kernel
theorem dL_law_380 : decode cL_law 380 = .ok (.iconst 2, 1) := by decide +kernel
theorem dL_law_381 : decode cL_law 381 = .ok (.iadd, 1) := by decide +kernel
theorem dL_law_382 : decode cL_law 382 = .ok (.iaload, 1) := by decide +kernel
theorem dL_law_383 : decode cL_law 383 = .ok (.invokevirtual 44, 3) := by decide +kernel
theorem dL_law_386 : decode cL_law 386 = .ok (.if_icmp .eq 423, 3) := by decide +kernel
theorem dL_law_389 : decode cL_law 389 = .ok (.iconst 0, 1) := by decide +kernel
theorem dL_law_390 : decode cL_law 390 = .ok (.ireturn, 1) := by decide +kernel
theorem dL_law_391 : decode cL_law 391 = .ok (.aload_n 1, 1) := by decide +kernel
theorem dL_law_392 : decode cL_law 392 = .ok (.aload_n 0, 1) := by decide +kernel
theorem dL_law_393 : decode cL_law 393 = .ok (.iload_n 3, 1) := by decide +kernel
theorem dL_law_394 : decode cL_law 394 = .ok (.iconst 1, 1) := by decide +kernel
theorem dL_law_395 : decode cL_law 395 = .ok (.iadd, 1) := by decide +kernel
theorem dL_law_396 : decode cL_law 396 = .ok (.iaload, 1) := by decide +kernel
theorem dL_law_397 : decode cL_law 397 = .ok (.aload_n 0, 1) := by decide +kernel
theorem dL_law_398 : decode cL_law 398 = .ok (.iload_n 3, 1) := by decide +kernel
theorem dL_law_399 : decode cL_law 399 = .ok (.iconst 2, 1) := by decide +kernel
theorem dL_law_400 : decode cL_law 400 = .ok (.iadd, 1) := by decide +kernel
theorem dL_law_401 : decode cL_law 401 = .ok (.iaload, 1) := by decide +kernel
theorem dL_law_402 : decode cL_law 402 = .ok (.invokevirtual 45, 3) := by decide +kernel
theorem dL_law_405 : decode cL_law 405 = .ok (.aload_n 2, 1) := by decide +kernel
theorem dL_law_406 : decode cL_law 406 = .ok (.aload_n 0, 1) := by decide +kernel
theorem dL_law_407 : decode cL_law 407 = .ok (.iload_n 3, 1) := by decide +kernel
theorem dL_law_408 : decode cL_law 408 = .ok (.iconst 1, 1) := by decide +kernel
theorem dL_law_409 : decode cL_law 409 = .ok (.iadd, 1) := by decide +kernel
theorem dL_law_410 : decode cL_law 410 = .ok (.iaload, 1) := by decide +kernel
theorem dL_law_411 : decode cL_law 411 = .ok (.aload_n 0, 1) := by decide +kernel
theorem dL_law_412 : decode cL_law 412 = .ok (.iload_n 3, 1) := by decide +kernel
theorem dL_law_413 : decode cL_law 413 = .ok (.iconst 2, 1) := by decide +kernel
theorem dL_law_414 : decode cL_law 414 = .ok (.iadd, 1) := by decide +kernel
theorem dL_law_415 : decode cL_law 415 = .ok (.iaload, 1) := by decide +kernel
theorem dL_law_416 : decode cL_law 416 = .ok (.invokevirtual 48, 3) := by decide +kernel
theorem dL_law_419 : decode cL_law 419 = .ok (.if_icmp .eq 390, 3) := by decide +kernel
theorem dL_law_422 : decode cL_law 422 = .ok (.iconst 0, 1) := by decide +kernel
theorem dL_law_423 : decode cL_law 423 = .ok (.ireturn, 1) := by decide +kernel
theorem dL_law_424 : decode cL_law 424 = .ok (.aload_n 1, 1) := by decide +kernel
theorem dL_law_425 : decode cL_law 425 = .ok (.aload_n 0, 1) := by decide +kernel
theorem dL_law_426 : decode cL_law 426 = .ok (.iload_n 3, 1) := by decide +kernel
theorem dL_law_427 : decode cL_law 427 = .ok (.iconst 1, 1) := by decide +kernel
theorem dL_law_428 : decode cL_law 428 = .ok (.iadd, 1) := by decide +kernel
theorem dL_law_429 : decode cL_law 429 = .ok (.iaload, 1) := by decide +kernel
theorem dL_law_430 : decode cL_law 430 = .ok (.aload_n 0, 1) := by decide +kernel
theorem dL_law_431 : decode cL_law 431 = .ok (.iload_n 3, 1) := by decide +kernel
theorem dL_law_432 : decode cL_law 432 = .ok (.iconst 2, 1) := by decide +kernel
theorem dL_law_433 : decode cL_law 433 = .ok (.iadd, 1) := by decide +kernel
theorem dL_law_434 : decode cL_law 434 = .ok (.iaload, 1) := by decide +kernel
theorem dL_law_435 : decode cL_law 435 = .ok (.invokevirtual 49, 3) := by decide +kernel
theorem dL_law_438 : decode cL_law 438 = .ok (.aload_n 2, 1) := by decide +kernel
theorem dL_law_439 : decode cL_law 439 = .ok (.aload_n 0, 1) := by decide +kernel
theorem dL_law_440 : decode cL_law 440 = .ok (.iload_n 3, 1) := by decide +kernel
theorem dL_law_441 : decode cL_law 441 = .ok (.iconst 1, 1) := by decide +kernel
theorem dL_law_442 : decode cL_law 442 = .ok (.iadd, 1) := by decide +kernel
theorem dL_law_443 : decode cL_law 443 = .ok (.iaload, 1) := by decide +kernel
theorem dL_law_444 : decode cL_law 444 = .ok (.aload_n 0, 1) := by decide +kernel
theorem dL_law_445 : decode cL_law 445 = .ok (.iload_n 3, 1) := by decide +kernel
theorem dL_law_446 : decode cL_law 446 = .ok (.iconst 2, 1) := by decide +kernel
theorem dL_law_447 : decode cL_law 447 = .ok (.iadd, 1) := by decide +kernel
theorem dL_law_448 : decode cL_law 448 = .ok (.iaload, 1) := by decide +kernel
theorem dL_law_449 : decode cL_law 449 = .ok (.invokevirtual 52, 3) := by decide +kernel
theorem dL_law_452 : decode cL_law 452 = .ok (.if_icmp .eq 357, 3) := by decide +kernel
theorem dL_law_455 : decode cL_law 455 = .ok (.iconst 0, 1) := by decide +kernel
theorem dL_law_456 : decode cL_law 456 = .ok (.ireturn, 1) := by decide +kernel
theorem dL_law_457 : decode cL_law 457 = .ok (.aload_n 1, 1) := by decide +kernel
theorem dL_law_458 : decode cL_law 458 = .ok (.aload_n 0, 1) := by decide +kernel
theorem dL_law_459 : decode cL_law 459 = .ok (.iload_n 3, 1) := by decide +kernel
theorem dL_law_460 : decode cL_law 460 = .ok (.iconst 1, 1) := by decide +kernel
theorem dL_law_461 : decode cL_law 461 = .ok (.iadd, 1) := by decide +kernel
theorem dL_law_462 : decode cL_law 462 = .ok (.iaload, 1) := by decide +kernel
theorem dL_law_463 : decode cL_law 463 = .ok (.invokevirtual 53, 3) := by decide +kernel
theorem dL_law_466 : decode cL_law 466 = .ok (.aload_n 2, 1) := by decide +kernel
theorem dL_law_467 : decode cL_law 467 = .ok (.aload_n 0, 1) := by decide +kernel
theorem dL_law_468 : decode cL_law 468 = .ok (.iload_n 3, 1) := by decide +kernel
theorem dL_law_469 : decode cL_law 469 = .ok (.iconst 1, 1) := by decide +kernel
theorem dL_law_470 : decode cL_law 470 = .ok (.iadd, 1) := by decide +kernel
theorem dL_law_471 : decode cL_law 471 = .ok (.iaload, 1) := by decide +kernel
theorem dL_law_472 : decode cL_law 472 = .ok (.invokevirtual 56, 3) := by decide +kernel
theorem dL_law_475 : decode cL_law 475 = .ok (.if_icmp .eq 334, 3) := by decide +kernel
theorem dL_law_478 : decode cL_law 478 = .ok (.iconst 0, 1) := by decide +kernel
theorem dL_law_479 : decode cL_law 479 = .ok (.ireturn, 1) := by decide +kernel
theorem dL_law_480 : decode cL_law 480 = .ok (.aload_n 1, 1) := by decide +kernel
theorem dL_law_481 : decode cL_law 481 = .ok (.aload_n 0, 1) := by decide +kernel
theorem dL_law_482 : decode cL_law 482 = .ok (.iload_n 3, 1) := by decide +kernel
theorem dL_law_483 : decode cL_law 483 = .ok (.iconst 1, 1) := by decide +kernel
theorem dL_law_484 : decode cL_law 484 = .ok (.iadd, 1) := by decide +kernel
theorem dL_law_485 : decode cL_law 485 = .ok (.iaload, 1) := by decide +kernel
theorem dL_law_486 : decode cL_law 486 = .ok (.invokevirtual 57, 3) := by decide +kernel
theorem dL_law_489 : decode cL_law 489 = .ok (.aload_n 2, 1) := by decide +kernel
theorem dL_law_490 : decode cL_law 490 = .ok (.aload_n 0, 1) := by decide +kernel
theorem dL_law_491 : decode cL_law 491 = .ok (.iload_n 3, 1) := by decide +kernel
theorem dL_law_492 : decode cL_law 492 = .ok (.iconst 1, 1) := by decide +kernel
theorem dL_law_493 : decode cL_law 493 = .ok (.iadd, 1) := by decide +kernel
theorem dL_law_494 : decode cL_law 494 = .ok (.iaload, 1) := by decide +kernel
theorem dL_law_495 : decode cL_law 495 = .ok (.invokevirtual 60, 3) := by decide +kernel
theorem dL_law_498 : decode cL_law 498 = .ok (.if_icmp .eq 311, 3) := by decide +kernel
theorem dL_law_501 : decode cL_law 501 = .ok (.iconst 0, 1) := by decide +kernel
theorem dL_law_502 : decode cL_law 502 = .ok (.ireturn, 1) := by decide +kernel
theorem dL_law_503 : decode cL_law 503 = .ok (.aload_n 1, 1) := by decide +kernel
theorem dL_law_504 : decode cL_law 504 = .ok (.aload_n 0, 1) := by decide +kernel
theorem dL_law_505 : decode cL_law 505 = .ok (.iload_n 3, 1) := by decide +kernel
theorem dL_law_506 : decode cL_law 506 = .ok (.iconst 1, 1) := by decide +kernel
theorem dL_law_507 : decode cL_law 507 = .ok (.iadd, 1) := by decide +kernel
theorem dL_law_508 : decode cL_law 508 = .ok (.iaload, 1) := by decide +kernel
theorem dL_law_509 : decode cL_law 509 = .ok (.aload_n 0, 1) := by decide +kernel
theorem dL_law_510 : decode cL_law 510 = .ok (.iload_n 3, 1) := by decide +kernel
theorem dL_law_511 : decode cL_law 511 = .ok (.iconst 2, 1) := by decide +kernel
theorem dL_law_512 : decode cL_law 512 = .ok (.iadd, 1) := by decide +kernel
theorem dL_law_513 : decode cL_law 513 = .ok (.iaload, 1) := by decide +kernel
theorem dL_law_514 : decode cL_law 514 = .ok (.invokevirtual 61, 3) := by decide +kernel
theorem dL_law_517 : decode cL_law 517 = .ok (.aload_n 2, 1) := by decide +kernel
theorem dL_law_518 : decode cL_law 518 = .ok (.aload_n 0, 1) := by decide +kernel
theorem dL_law_519 : decode cL_law 519 = .ok (.iload_n 3, 1) := by decide +kernel
theorem dL_law_520 : decode cL_law 520 = .ok (.iconst 1, 1) := by decide +kernel
theorem dL_law_521 : decode cL_law 521 = .ok (.iadd, 1) := by decide +kernel
theorem dL_law_522 : decode cL_law 522 = .ok (.iaload, 1) := by decide +kernel
theorem dL_law_523 : decode cL_law 523 = .ok (.aload_n 0, 1) := by decide +kernel
theorem dL_law_524 : decode cL_law 524 = .ok (.iload_n 3, 1) := by decide +kernel
theorem dL_law_525 : decode cL_law 525 = .ok (.iconst 2, 1) := by decide +kernel
theorem dL_law_526 : decode cL_law 526 = .ok (.iadd, 1) := by decide +kernel
theorem dL_law_527 : decode cL_law 527 = .ok (.iaload, 1) := by decide +kernel
theorem dL_law_528 : decode cL_law 528 = .ok (.invokevirtual 64, 3) := by decide +kernel
theorem dL_law_531 : decode cL_law 531 = .ok (.if_icmp .eq 278, 3) := by decide +kernel
theorem dL_law_534 : decode cL_law 534 = .ok (.iconst 0, 1) := by decide +kernel
theorem dL_law_535 : decode cL_law 535 = .ok (.ireturn, 1) := by decide +kernel
theorem dL_law_536 : decode cL_law 536 = .ok (.aload_n 1, 1) := by decide +kernel
theorem dL_law_537 : decode cL_law 537 = .ok (.aload_n 0, 1) := by decide +kernel
theorem dL_law_538 : decode cL_law 538 = .ok (.iload_n 3, 1) := by decide +kernel
theorem dL_law_539 : decode cL_law 539 = .ok (.iconst 1, 1) := by decide +kernel
theorem dL_law_540 : decode cL_law 540 = .ok (.iadd, 1) := by decide +kernel
theorem dL_law_541 : decode cL_law 541 = .ok (.iaload, 1) := by decide +kernel
theorem dL_law_542 : decode cL_law 542 = .ok (.invokevirtual 65, 3) := by decide +kernel
theorem dL_law_545 : decode cL_law 545 = .ok (.aload_n 2, 1) := by decide +kernel
theorem dL_law_546 : decode cL_law 546 = .ok (.aload_n 0, 1) := by decide +kernel
theorem dL_law_547 : decode cL_law 547 = .ok (.iload_n 3, 1) := by decide +kernel
theorem dL_law_548 : decode cL_law 548 = .ok (.iconst 1, 1) := by decide +kernel
theorem dL_law_549 : decode cL_law 549 = .ok (.iadd, 1) := by decide +kernel
theorem dL_law_550 : decode cL_law 550 = .ok (.iaload, 1) := by decide +kernel
theorem dL_law_551 : decode cL_law 551 = .ok (.invokevirtual 68, 3) := by decide +kernel
theorem dL_law_554 : decode cL_law 554 = .ok (.if_icmp .eq 255, 3) := by decide +kernel
theorem dL_law_557 : decode cL_law 557 = .ok (.iconst 0, 1) := by decide +kernel
theorem dL_law_558 : decode cL_law 558 = .ok (.ireturn, 1) := by decide +kernel
theorem dL_law_559 : decode cL_law 559 = .ok (.aload_n 1, 1) := by decide +kernel
theorem dL_law_560 : decode cL_law 560 = .ok (.aload_n 0, 1) := by decide +kernel
theorem dL_law_561 : decode cL_law 561 = .ok (.iload_n 3, 1) := by decide +kernel
theorem dL_law_562 : decode cL_law 562 = .ok (.iconst 1, 1) := by decide +kernel
theorem dL_law_563 : decode cL_law 563 = .ok (.iadd, 1) := by decide +kernel
theorem dL_law_564 : decode cL_law 564 = .ok (.iaload, 1) := by decide +kernel
theorem dL_law_565 : decode cL_law 565 = .ok (.aload_n 0, 1) := by decide +kernel
theorem dL_law_566 : decode cL_law 566 = .ok (.iload_n 3, 1) := by decide +kernel
theorem dL_law_567 : decode cL_law 567 = .ok (.iconst 2, 1) := by decide +kernel
theorem dL_law_568 : decode cL_law 568 = .ok (.iadd, 1) := by decide +kernel
theorem dL_law_569 : decode cL_law 569 = .ok (.iaload, 1) := by decide +kernel
theorem dL_law_570 : decode cL_law 570 = .ok (.aload_n 0, 1) := by decide +kernel
theorem dL_law_571 : decode cL_law 571 = .ok (.iload_n 3, 1) := by decide +kernel
theorem dL_law_572 : decode cL_law 572 = .ok (.iconst 3, 1) := by decide +kernel
theorem dL_law_573 : decode cL_law 573 = .ok (.iadd, 1) := by decide +kernel
theorem dL_law_574 : decode cL_law 574 = .ok (.iaload, 1) := by decide +kernel
theorem dL_law_575 : decode cL_law 575 = .ok (.invokevirtual 69, 3) := by decide +kernel
theorem dL_law_578 : decode cL_law 578 = .ok (.aload_n 2, 1) := by decide +kernel
theorem dL_law_579 : decode cL_law 579 = .ok (.aload_n 0, 1) := by decide +kernel
theorem dL_law_580 : decode cL_law 580 = .ok (.iload_n 3, 1) := by decide +kernel
theorem dL_law_581 : decode cL_law 581 = .ok (.iconst 1, 1) := by decide +kernel
theorem dL_law_582 : decode cL_law 582 = .ok (.iadd, 1) := by decide +kernel
theorem dL_law_583 : decode cL_law 583 = .ok (.iaload, 1) := by decide +kernel
theorem dL_law_584 : decode cL_law 584 = .ok (.aload_n 0, 1) := by decide +kernel
theorem dL_law_585 : decode cL_law 585 = .ok (.iload_n 3, 1) := by decide +kernel
theorem dL_law_586 : decode cL_law 586 = .ok (.iconst 2, 1) := by decide +kernel
theorem dL_law_587 : decode cL_law 587 = .ok (.iadd, 1) := by decide +kernel
theorem dL_law_588 : decode cL_law 588 = .ok (.iaload, 1) := by decide +kernel
theorem dL_law_589 : decode cL_law 589 = .ok (.aload_n 0, 1) := by decide +kernel
theorem dL_law_590 : decode cL_law 590 = .ok (.iload_n 3, 1) := by decide +kernel
theorem dL_law_591 : decode cL_law 591 = .ok (.iconst 3, 1) := by decide +kernel
theorem dL_law_592 : decode cL_law 592 = .ok (.iadd, 1) := by decide +kernel
theorem dL_law_593 : decode cL_law 593 = .ok (.iaload, 1) := by decide +kernel
theorem dL_law_594 : decode cL_law 594 = .ok (.invokevirtual 72, 3) := by decide +kernel
theorem dL_law_597 : decode cL_law 597 = .ok (.if_icmp .eq 212, 3) := by decide +kernel
theorem dL_law_600 : decode cL_law 600 = .ok (.iconst 0, 1) := by decide +kernel
theorem dL_law_601 : decode cL_law 601 = .ok (.ireturn, 1) := by decide +kernel
theorem dL_law_602 : decode cL_law 602 = .ok (.aload_n 1, 1) := by decide +kernel
theorem dL_law_603 : decode cL_law 603 = .ok (.aload_n 0, 1) := by decide +kernel
theorem dL_law_604 : decode cL_law 604 = .ok (.iload_n 3, 1) := by decide +kernel
theorem dL_law_605 : decode cL_law 605 = .ok (.iconst 1, 1) := by decide +kernel
theorem dL_law_606 : decode cL_law 606 = .ok (.iadd, 1) := by decide +kernel
theorem dL_law_607 : decode cL_law 607 = .ok (.iaload, 1) := by decide +kernel
theorem dL_law_608 : decode cL_law 608 = .ok (.aload_n 0, 1) := by decide +kernel
theorem dL_law_609 : decode cL_law 609 = .ok (.iload_n 3, 1) := by decide +kernel
theorem dL_law_610 : decode cL_law 610 = .ok (.iconst 2, 1) := by decide +kernel
theorem dL_law_611 : decode cL_law 611 = .ok (.iadd, 1) := by decide +kernel
theorem dL_law_612 : decode cL_law 612 = .ok (.iaload, 1) := by decide +kernel
theorem dL_law_613 : decode cL_law 613 = .ok (.invokevirtual 73, 3) := by decide +kernel
theorem dL_law_616 : decode cL_law 616 = .ok (.aload_n 2, 1) := by decide +kernel
theorem dL_law_617 : decode cL_law 617 = .ok (.aload_n 0, 1) := by decide +kernel
theorem dL_law_618 : decode cL_law 618 = .ok (.iload_n 3, 1) := by decide +kernel
theorem dL_law_619 : decode cL_law 619 = .ok (.iconst 1, 1) := by decide +kernel
theorem dL_law_620 : decode cL_law 620 = .ok (.iadd, 1) := by decide +kernel
theorem dL_law_621 : decode cL_law 621 = .ok (.iaload, 1) := by decide +kernel
theorem dL_law_622 : decode cL_law 622 = .ok (.aload_n 0, 1) := by decide +kernel
theorem dL_law_623 : decode cL_law 623 = .ok (.iload_n 3, 1) := by decide +kernel
theorem dL_law_624 : decode cL_law 624 = .ok (.iconst 2, 1) := by decide +kernel
theorem dL_law_625 : decode cL_law 625 = .ok (.iadd, 1) := by decide +kernel
theorem dL_law_626 : decode cL_law 626 = .ok (.iaload, 1) := by decide +kernel
theorem dL_law_627 : decode cL_law 627 = .ok (.invokevirtual 76, 3) := by decide +kernel
theorem dL_law_630 : decode cL_law 630 = .ok (.if_icmp .eq 179, 3) := by decide +kernel
theorem dL_law_633 : decode cL_law 633 = .ok (.iconst 0, 1) := by decide +kernel
theorem dL_law_634 : decode cL_law 634 = .ok (.ireturn, 1) := by decide +kernel
theorem dL_law_635 : decode cL_law 635 = .ok (.aload_n 1, 1) := by decide +kernel
theorem dL_law_636 : decode cL_law 636 = .ok (.aload_n 0, 1) := by decide +kernel
theorem dL_law_637 : decode cL_law 637 = .ok (.iload_n 3, 1) := by decide +kernel
theorem dL_law_638 : decode cL_law 638 = .ok (.iconst 1, 1) := by decide +kernel
theorem dL_law_639 : decode cL_law 639 = .ok (.iadd, 1) := by decide +kernel
theorem dL_law_640 : decode cL_law 640 = .ok (.iaload, 1) := by decide +kernel
theorem dL_law_641 : decode cL_law 641 = .ok (.aload_n 0, 1) := by decide +kernel
theorem dL_law_642 : decode cL_law 642 = .ok (.iload_n 3, 1) := by decide +kernel
theorem dL_law_643 : decode cL_law 643 = .ok (.iconst 2, 1) := by decide +kernel
theorem dL_law_644 : decode cL_law 644 = .ok (.iadd, 1) := by decide +kernel
theorem dL_law_645 : decode cL_law 645 = .ok (.iaload, 1) := by decide +kernel
theorem dL_law_646 : decode cL_law 646 = .ok (.invokevirtual 77, 3) := by decide +kernel
theorem dL_law_649 : decode cL_law 649 = .ok (.aload_n 2, 1) := by decide +kernel
theorem dL_law_650 : decode cL_law 650 = .ok (.aload_n 0, 1) := by decide +kernel
theorem dL_law_651 : decode cL_law 651 = .ok (.iload_n 3, 1) := by decide +kernel
theorem dL_law_652 : decode cL_law 652 = .ok (.iconst 1, 1) := by decide +kernel
theorem dL_law_653 : decode cL_law 653 = .ok (.iadd, 1) := by decide +kernel
theorem dL_law_654 : decode cL_law 654 = .ok (.iaload, 1) := by decide +kernel
theorem dL_law_655 : decode cL_law 655 = .ok (.aload_n 0, 1) := by decide +kernel
theorem dL_law_656 : decode cL_law 656 = .ok (.iload_n 3, 1) := by decide +kernel
theorem dL_law_657 : decode cL_law 657 = .ok (.iconst 2, 1) := by decide +kernel
theorem dL_law_658 : decode cL_law 658 = .ok (.iadd, 1) := by decide +kernel
theorem dL_law_659 : decode cL_law 659 = .ok (.iaload, 1) := by decide +kernel
theorem dL_law_660 : decode cL_law 660 = .ok (.invokevirtual 80, 3) := by decide +kernel
theorem dL_law_663 : decode cL_law 663 = .ok (.if_icmp .eq 146, 3) := by decide +kernel
theorem dL_law_666 : decode cL_law 666 = .ok (.iconst 0, 1) := by decide +kernel
theorem dL_law_667 : decode cL_law 667 = .ok (.ireturn, 1) := by decide +kernel
theorem dL_law_668 : decode cL_law 668 = .ok (.aload_n 1, 1) := by decide +kernel
theorem dL_law_669 : decode cL_law 669 = .ok (.aload_n 0, 1) := by decide +kernel
theorem dL_law_670 : decode cL_law 670 = .ok (.iload_n 3, 1) := by decide +kernel
theorem dL_law_671 : decode cL_law 671 = .ok (.iconst 1, 1) := by decide +kernel
theorem dL_law_672 : decode cL_law 672 = .ok (.iadd, 1) := by decide +kernel
theorem dL_law_673 : decode cL_law 673 = .ok (.iaload, 1) := by decide +kernel
theorem dL_law_674 : decode cL_law 674 = .ok (.aload_n 0, 1) := by decide +kernel
theorem dL_law_675 : decode cL_law 675 = .ok (.iload_n 3, 1) := by decide +kernel
theorem dL_law_676 : decode cL_law 676 = .ok (.iconst 2, 1) := by decide +kernel
theorem dL_law_677 : decode cL_law 677 = .ok (.iadd, 1) := by decide +kernel
theorem dL_law_678 : decode cL_law 678 = .ok (.iaload, 1) := by decide +kernel
theorem dL_law_679 : decode cL_law 679 = .ok (.invokevirtual 81, 3) := by decide +kernel
theorem dL_law_682 : decode cL_law 682 = .ok (.aload_n 2, 1) := by decide +kernel
theorem dL_law_683 : decode cL_law 683 = .ok (.aload_n 0, 1) := by decide +kernel
theorem dL_law_684 : decode cL_law 684 = .ok (.iload_n 3, 1) := by decide +kernel
theorem dL_law_685 : decode cL_law 685 = .ok (.iconst 1, 1) := by decide +kernel
theorem dL_law_686 : decode cL_law 686 = .ok (.iadd, 1) := by decide +kernel
theorem dL_law_687 : decode cL_law 687 = .ok (.iaload, 1) := by decide +kernel
theorem dL_law_688 : decode cL_law 688 = .ok (.aload_n 0, 1) := by decide +kernel
theorem dL_law_689 : decode cL_law 689 = .ok (.iload_n 3, 1) := by decide +kernel
theorem dL_law_690 : decode cL_law 690 = .ok (.iconst 2, 1) := by decide +kernel
theorem dL_law_691 : decode cL_law 691 = .ok (.iadd, 1) := by decide +kernel
theorem dL_law_692 : decode cL_law 692 = .ok (.iaload, 1) := by decide +kernel
theorem dL_law_693 : decode cL_law 693 = .ok (.invokevirtual 84, 3) := by decide +kernel
theorem dL_law_696 : decode cL_law 696 = .ok (.if_icmp .eq 113, 3) := by decide +kernel
theorem dL_law_699 : decode cL_law 699 = .ok (.iconst 0, 1) := by decide +kernel
theorem dL_law_700 : decode cL_law 700 = .ok (.ireturn, 1) := by decide +kernel
theorem dL_law_701 : decode cL_law 701 = .ok (.aload_n 1, 1) := by decide +kernel
theorem dL_law_702 : decode cL_law 702 = .ok (.aload_n 0, 1) := by decide +kernel
theorem dL_law_703 : decode cL_law 703 = .ok (.iload_n 3, 1) := by decide +kernel
theorem dL_law_704 : decode cL_law 704 = .ok (.iconst 1, 1) := by decide +kernel
theorem dL_law_705 : decode cL_law 705 = .ok (.iadd, 1) := by decide +kernel
theorem dL_law_706 : decode cL_law 706 = .ok (.iaload, 1) := by decide +kernel
theorem dL_law_707 : decode cL_law 707 = .ok (.invokevirtual 85, 3) := by decide +kernel
theorem dL_law_710 : decode cL_law 710 = .ok (.aload_n 2, 1) := by decide +kernel
theorem dL_law_711 : decode cL_law 711 = .ok (.aload_n 0, 1) := by decide +kernel
theorem dL_law_712 : decode cL_law 712 = .ok (.iload_n 3, 1) := by decide +kernel
theorem dL_law_713 : decode cL_law 713 = .ok (.iconst 1, 1) := by decide +kernel
theorem dL_law_714 : decode cL_law 714 = .ok (.iadd, 1) := by decide +kernel
theorem dL_law_715 : decode cL_law 715 = .ok (.iaload, 1) := by decide +kernel
theorem dL_law_716 : decode cL_law 716 = .ok (.invokevirtual 88, 3) := by decide +kernel
theorem dL_law_719 : decode cL_law 719 = .ok (.if_icmp .eq 90, 3) := by decide +kernel
theorem dL_law_722 : decode cL_law 722 = .ok (.iconst 0, 1) := by decide +kernel
theorem dL_law_723 : decode cL_law 723 = .ok (.ireturn, 1) := by decide +kernel
theorem dL_law_724 : decode cL_law 724 = .ok (.aload_n 1, 1) := by decide +kernel
theorem dL_law_725 : decode cL_law 725 = .ok (.invokevirtual 89, 3) := by decide +kernel
theorem dL_law_728 : decode cL_law 728 = .ok (.aload_n 2, 1) := by decide +kernel
theorem dL_law_729 : decode cL_law 729 = .ok (.invokevirtual 93, 3) := by decide +kernel
theorem dL_law_732 : decode cL_law 732 = .ok (.if_icmp .eq 77, 3) := by decide +kernel
theorem dL_law_735 : decode cL_law 735 = .ok (.iconst 0, 1) := by decide +kernel
theorem dL_law_736 : decode cL_law 736 = .ok (.ireturn, 1) := by decide +kernel
theorem dL_law_737 : decode cL_law 737 = .ok (.aload_n 1, 1) := by decide +kernel
theorem dL_law_738 : decode cL_law 738 = .ok (.aload_n 0, 1) := by decide +kernel
theorem dL_law_739 : decode cL_law 739 = .ok (.iload_n 3, 1) := by decide +kernel
theorem dL_law_740 : decode cL_law 740 = .ok (.iconst 1, 1) := by decide +kernel
theorem dL_law_741 : decode cL_law 741 = .ok (.iadd, 1) := by decide +kernel
theorem dL_law_742 : decode cL_law 742 = .ok (.iaload, 1) := by decide +kernel
theorem dL_law_743 : decode cL_law 743 = .ok (.invokevirtual 94, 3) := by decide +kernel
theorem dL_law_746 : decode cL_law 746 = .ok (.aload_n 2, 1) := by decide +kernel
theorem dL_law_747 : decode cL_law 747 = .ok (.aload_n 0, 1) := by decide +kernel
theorem dL_law_748 : decode cL_law 748 = .ok (.iload_n 3, 1) := by decide +kernel
theorem dL_law_749 : decode cL_law 749 = .ok (.iconst 1, 1) := by decide +kernel
theorem dL_law_750 : decode cL_law 750 = .ok (.iadd, 1) := by decide +kernel
theorem dL_law_751 : decode cL_law 751 = .ok (.iaload, 1) := by decide +kernel
theorem dL_law_752 : decode cL_law 752 = .ok (.invokevirtual 97, 3) := by decide +kernel
theorem dL_law_755 : decode cL_law 755 = .ok (.if_icmp .eq 54, 3) := by decide +kernel
theorem dL_law_758 : decode cL_law 758 = .ok (.iconst 0, 1) := by decide +kernel
theorem dL_law_759 : decode cL_law 759 = .ok (.ireturn, 1) := by decide +kernel
theorem dL_law_760 : decode cL_law 760 = .ok (.aload_n 1, 1) := by decide +kernel
theorem dL_law_761 : decode cL_law 761 = .ok (.invokevirtual 98, 3) := by decide +kernel
theorem dL_law_764 : decode cL_law 764 = .ok (.aload_n 2, 1) := by decide +kernel
theorem dL_law_765 : decode cL_law 765 = .ok (.invokevirtual 101, 3) := by decide +kernel
theorem dL_law_768 : decode cL_law 768 = .ok (.if_icmp .eq 41, 3) := by decide +kernel
theorem dL_law_771 : decode cL_law 771 = .ok (.iconst 0, 1) := by decide +kernel
theorem dL_law_772 : decode cL_law 772 = .ok (.ireturn, 1) := by decide +kernel
theorem dL_law_773 : decode cL_law 773 = .ok (.aload_n 1, 1) := by decide +kernel
theorem dL_law_774 : decode cL_law 774 = .ok (.aload_n 0, 1) := by decide +kernel
theorem dL_law_775 : decode cL_law 775 = .ok (.iload_n 3, 1) := by decide +kernel
theorem dL_law_776 : decode cL_law 776 = .ok (.iconst 1, 1) := by decide +kernel
theorem dL_law_777 : decode cL_law 777 = .ok (.iadd, 1) := by decide +kernel
theorem dL_law_778 : decode cL_law 778 = .ok (.iaload, 1) := by decide +kernel
theorem dL_law_779 : decode cL_law 779 = .ok (.invokevirtual 102, 3) := by decide +kernel
theorem dL_law_782 : decode cL_law 782 = .ok (.aload_n 2, 1) := by decide +kernel
theorem dL_law_783 : decode cL_law 783 = .ok (.aload_n 0, 1) := by decide +kernel
theorem dL_law_784 : decode cL_law 784 = .ok (.iload_n 3, 1) := by decide +kernel
theorem dL_law_785 : decode cL_law 785 = .ok (.iconst 1, 1) := by decide +kernel
theorem dL_law_786 : decode cL_law 786 = .ok (.iadd, 1) := by decide +kernel
theorem dL_law_787 : decode cL_law 787 = .ok (.iaload, 1) := by decide +kernel
theorem dL_law_788 : decode cL_law 788 = .ok (.invokevirtual 105, 3) := by decide +kernel
theorem dL_law_791 : decode cL_law 791 = .ok (.if_icmp .eq 18, 3) := by decide +kernel
theorem dL_law_794 : decode cL_law 794 = .ok (.iconst 0, 1) := by decide +kernel
theorem dL_law_795 : decode cL_law 795 = .ok (.ireturn, 1) := by decide +kernel
theorem dL_law_796 : decode cL_law 796 = .ok (.aload_n 1, 1) := by decide +kernel
theorem dL_law_797 : decode cL_law 797 = .ok (.invokevirtual 106, 3) := by decide +kernel
theorem dL_law_800 : decode cL_law 800 = .ok (.aload_n 2, 1) := by decide +kernel
theorem dL_law_801 : decode cL_law 801 = .ok (.invokevirtual 109, 3) := by decide +kernel
theorem dL_law_804 : decode cL_law 804 = .ok (.if_icmp .eq 5, 3) := by decide +kernel
theorem dL_law_807 : decode cL_law 807 = .ok (.iconst 0, 1) := by decide +kernel
theorem dL_law_808 : decode cL_law 808 = .ok (.ireturn, 1) := by decide +kernel
theorem dL_law_809 : decode cL_law 809 = .ok (.iinc 3 5, 3) := by decide +kernel
theorem dL_law_812 : decode cL_law 812 = .ok (.goto (-794), 3) := by decide +kernel
theorem dL_law_815 : decode cL_law 815 = .ok (.iconst 1, 1) := by decide +kernel
theorem dL_law_816 : decode cL_law 816 = .ok (.ireturn, 1) := by decide +kernel
theorem lw_ix {k c L : Nat} (h : k + c < L) (hL : L ≤ 2560) : vp_in (nI k + nI c) L := by rw [nI_add]; exact vp_in_nI h (by omega)
theorem lw_ge {k L : Nat} (hL : L ≤ 2560) (hk : k ≤ 2600) (h : ¬ (Int32.ofNat L - nI 5 < nI k)) : k + 5 ≤ L := by
  have e1 : (nI L - nI 5).toInt = (L : Int) - (5 : Nat) := pk_sub_toInt (by omega) (by omega)
  have e2 : (nI k).toInt = (k : Int) := nI_toInt (by omega)
  have h2 : ¬ ((nI L - nI 5).toInt < (nI k).toInt) := fun z => h (Int32.lt_iff_toInt_lt.mpr z)
  rw [e1, e2] at h2
  omega
set_option maxHeartbeats 40000000 in
set_option maxRecDepth 100000 in
theorem law_loop {p : Program} {e : Env} {s : State} {m : MethodId} {below : List Frame} {meth : Method} {c : Code} (l : Launch) {b L0 : Nat} {xs : Nat → Int32} (hL : L0 ≤ 2560) (C0 : lw_At p s m meth c b L0 xs) (D : va_G) (cI cC cO : ClassId) (o a g : Nat → Nat) (ga : Nat → Nat → Nat) (f n t r b5 : Nat → Nat) (hK : va_K D classes (tysA cI cC cO) s) (hN : NW s) : ∀ (z k : Nat), L0 ≤ z + k → k ≤ L0 + 5 → ∀ (L K : Mm) (P : Nat → Nat) (Hs : Nat → Mm) (S N T R M : Mm), INV L K P Hs S N T R M → ∀ (H : Heap) (locs : List Loc) (ls : Array Slot), va_P D classes (wX4 o a g ga f n t r cI cC cO L K P Hs S N T R ++ wX5 b5 cI cC cO M) H → va_D (fun q : Nat => s.heap.size ≤ q) (wX4 o a g ga f n t r cI cC cO L K P Hs S N T R ++ wX5 b5 cI cC cO M) → va_S (fun q : Nat => s.heap.size ≤ q) s.heap H locs → lv_has ls 4 [(3, .int (nI k)), (2, .ref (b5 0)), (1, .ref (o 0)), (0, .ref b)] → W p l e room_1 s m #[Value.ref b] below meth c H locs 52 2596 (lw_Z below #[Value.ref b] s) (F0 m 18 ls []) := by
  obtain ⟨hx, hb, hr, hml, hown, hts, hX, hbl, hlocks, hgv⟩ := id C0
  have hown : s.vm.findClass RL = some m.cls := hown
  have ht : ∀ w ∈ lw_g, w.before #[Value.ref b] s = true := fun w hw => hts w (List.mem_filter.mp hw).1
  have hA : ∀ q : Nat, s.heap.size ≤ q → (fun q : Nat => s.heap.size ≤ q) q := fun _ h => h
  have hbA : ¬ (fun q : Nat => s.heap.size ≤ q) b := Nat.not_le.mpr hbl
  intro z
  induction z with
  | zero =>
    intro k hz hk L K P Hs S N T R M hI H locs ls hP hD hS hl
    refine lv_iload_n hx hb dL_law_18 rfl (lv_at hl 0 rfl) ?_
    refine lv_aload_n hx hb dL_law_19 rfl (lv_at hl 3 rfl) ?_
    refine va_slen hx hb hX hbl hbA hS dL_law_20 ?_
    refine lv_iconst (v := nI 5) hx hb dL_law_21 (by decide) ?_
    refine lv_isub hx hb dL_law_22 ?_
    refine lv_icmp_gt (tgt := 815) hx hb dL_law_23 (by decide) (fun c1 => ?_) (fun c1 => ?_)
    · refine lv_iconst (v := (1 : Int32)) hx hb dL_law_815 (by decide) ?_
      refine va_forget (fun q hq => hS.2.2 q hq) ?_
      refine W.widen (k := 600000) (n := 7302249) (Nat.le_of_ble_eq_true rfl) (Nat.le_of_ble_eq_true rfl) ?_
      exact lw_ret hx hb hr hlocks dL_law_816
    · have h5 := lw_ge hL (by omega) c1
      omega
  | succ z ih =>
    intro k hz hk L K P Hs S N T R M hI H locs ls hP hD hS hl
    have tail : ∀ (L K : Mm) (P : Nat → Nat) (Hs : Nat → Mm) (S N T R M : Mm), k + 5 ≤ L0 → INV L K P Hs S N T R M → ∀ (H : Heap) (locs : List Loc) (ls : Array Slot), va_P D classes (wX4 o a g ga f n t r cI cC cO L K P Hs S N T R ++ wX5 b5 cI cC cO M) H → va_D (fun q : Nat => s.heap.size ≤ q) (wX4 o a g ga f n t r cI cC cO L K P Hs S N T R ++ wX5 b5 cI cC cO M) → va_S (fun q : Nat => s.heap.size ≤ q) s.heap H locs → lv_has ls 4 [(3, .int (nI k)), (2, .ref (b5 0)), (1, .ref (o 0)), (0, .ref b)] → W p l e room_1 s m #[Value.ref b] below meth c H locs 52 2596 (lw_Z below #[Value.ref b] s) (F0 m 809 ls []) := by
      intro L K P Hs S N T R M h5 hI H locs ls hP hD hS hl
      refine lv_iinc (v := nI (k + 5)) (lv' := [(3, .int (nI (k + 5))), (2, .ref (b5 0)), (1, .ref (o 0)), (0, .ref b)]) hx hb dL_law_809 hl (k := 0) rfl (by rw [← nI_add]; rfl) (by decide) rfl (fun ls hl => ?_)
      refine lv_goto (tgt := 18) hx hb dL_law_812 (by decide) ?_
      exact ih (k + 5) (by omega) (by omega) _ _ _ _ _ _ _ _ _ hI _ _ _ hP hD hS hl
    refine lv_iload_n hx hb dL_law_18 rfl (lv_at hl 0 rfl) ?_
    refine lv_aload_n hx hb dL_law_19 rfl (lv_at hl 3 rfl) ?_
    refine va_slen hx hb hX hbl hbA hS dL_law_20 ?_
    refine lv_iconst (v := nI 5) hx hb dL_law_21 (by decide) ?_
    refine lv_isub hx hb dL_law_22 ?_
    refine lv_icmp_gt (tgt := 815) hx hb dL_law_23 (by decide) (fun c1 => ?_) (fun c1 => ?_)
    · refine lv_iconst (v := (1 : Int32)) hx hb dL_law_815 (by decide) ?_
      refine va_forget (fun q hq => hS.2.2 q hq) ?_
      refine W.widen (k := 600000) (n := 7302249) (Nat.le_of_ble_eq_true rfl) (Nat.le_of_ble_eq_true rfl) ?_
      exact lw_ret hx hb hr hlocks dL_law_816
    have h5 := lw_ge hL (by omega) c1
    refine lv_aload_n hx hb dL_law_26 rfl (lv_at hl 3 rfl) ?_
    refine lv_iload_n hx hb dL_law_27 rfl (lv_at hl 0 rfl) ?_
    refine va_sld hx hb hX hbl hbA hS (vp_in_nI (by omega) (by omega)) dL_law_28 ?_
    refine lv_bipush (v := (31 : Int32)) hx hb dL_law_29 (by decide) ?_
    refine lv_iand hx hb dL_law_31 ?_
    generalize xs (nI k).toNatClampNeg &&& 31 = v9
    by_cases c10 : v9 = (0 : Int32)
    · refine lv_tableIn (off := 108) (tgt := 140) hx hb dL_law_32 (by rw [c10]; decide) (by rw [c10]; decide) (by rw [c10]; rfl) (by decide) ?_
      obtain ⟨r9, L9, K9, P9, Hs9, M9, ex, em, hI⟩ := st_place hI (xs (nI k + nI 1).toNatClampNeg) (xs (nI k + nI 2).toNatClampNeg)
      refine lv_aload_n hx hb dL_law_140 rfl (lv_at hl 2 rfl) ?_
      refine lv_aload_n hx hb dL_law_141 rfl (lv_at hl 3 rfl) ?_
      refine lv_iload_n hx hb dL_law_142 rfl (lv_at hl 0 rfl) ?_
      refine lv_iconst (v := nI 1) hx hb dL_law_143 (by decide) ?_
      refine lv_iadd hx hb dL_law_144 ?_
      refine va_sld hx hb hX hbl hbA hS (lw_ix (by omega) hL) dL_law_145 ?_
      refine lv_aload_n hx hb dL_law_146 rfl (lv_at hl 3 rfl) ?_
      refine lv_iload_n hx hb dL_law_147 rfl (lv_at hl 0 rfl) ?_
      refine lv_iconst (v := nI 2) hx hb dL_law_148 (by decide) ?_
      refine lv_iadd hx hb dL_law_149 ?_
      refine va_sld hx hb hX hbl hbA hS (lw_ix (by omega) hL) dL_law_150 ?_
      refine cp_Vi (ws' := (wX4 o a g ga f n t r cI cC cO L9 K9 P9 Hs9 S N T R ++ wX5 b5 cI cC cO M)) ⟨hx, hb, hml, hown, ht⟩ (c_X4_place l D cI cC cO o a g ga f n t r L K P Hs S N T R (xs (nI k + nI 1).toNatClampNeg) (xs (nI k + nI 2).toNatClampNeg) _ _ ex) (cwv 2 ht wd_154 wd_1 wd_151 wd_152 wd_153 (by decide +kernel) rfl rfl ⟨Nat.le_of_ble_eq_true rfl, Nat.le_of_ble_eq_true rfl⟩) 4 0 rfl rfl rfl hK hP hD hS hA hN (List.Perm.refl _) (pm_l _ _) rfl hl.1 rfl (Nat.le_of_ble_eq_true rfl) dL_law_151 ⟨Nat.le_of_ble_eq_true rfl, Nat.le_of_ble_eq_true rfl⟩ (fun H locs hP hD hS => ?_)
      refine lv_aload_n hx hb dL_law_154 rfl (lv_at hl 1 rfl) ?_
      refine lv_aload_n hx hb dL_law_155 rfl (lv_at hl 3 rfl) ?_
      refine lv_iload_n hx hb dL_law_156 rfl (lv_at hl 0 rfl) ?_
      refine lv_iconst (v := nI 1) hx hb dL_law_157 (by decide) ?_
      refine lv_iadd hx hb dL_law_158 ?_
      refine va_sld hx hb hX hbl hbA hS (lw_ix (by omega) hL) dL_law_159 ?_
      refine lv_aload_n hx hb dL_law_160 rfl (lv_at hl 3 rfl) ?_
      refine lv_iload_n hx hb dL_law_161 rfl (lv_at hl 0 rfl) ?_
      refine lv_iconst (v := nI 2) hx hb dL_law_162 (by decide) ?_
      refine lv_iadd hx hb dL_law_163 ?_
      refine va_sld hx hb hX hbl hbA hS (lw_ix (by omega) hL) dL_law_164 ?_
      refine cp_Vi (ws' := (wX4 o a g ga f n t r cI cC cO L9 K9 P9 Hs9 S N T R ++ wX5 b5 cI cC cO M9)) ⟨hx, hb, hml, hown, ht⟩ (c_X5_place l D cI cC cO b5 M (xs (nI k + nI 1).toNatClampNeg) (xs (nI k + nI 2).toNatClampNeg) _ _ em) (cwv 2 ht wd_609 wd_6 wd_606 wd_607 wd_608 (by decide +kernel) rfl rfl ⟨Nat.le_of_ble_eq_true rfl, Nat.le_of_ble_eq_true rfl⟩) 5 0 rfl rfl rfl hK hP hD hS hA hN (pm_l _ _) (List.Perm.refl _) rfl hl.1 rfl (Nat.le_of_ble_eq_true rfl) dL_law_165 ⟨Nat.le_of_ble_eq_true rfl, Nat.le_of_ble_eq_true rfl⟩ (fun H locs hP hD hS => ?_)
      refine lv_icmp_eq (tgt := 809) hx hb dL_law_168 (by decide) (fun _ => ?_) (fun c2 => absurd rfl c2)
      exact tail _ _ _ _ _ _ _ _ _ h5 hI _ _ ls hP hD hS hl
    by_cases c11 : v9 = (1 : Int32)
    · refine lv_tableIn (off := 141) (tgt := 173) hx hb dL_law_32 (by rw [c11]; decide) (by rw [c11]; decide) (by rw [c11]; rfl) (by decide) ?_
      obtain ⟨r9, L9, K9, P9, Hs9, M9, ex, em, hI⟩ := st_pipe hI (xs (nI k + nI 1).toNatClampNeg) (xs (nI k + nI 2).toNatClampNeg) (xs (nI k + nI 3).toNatClampNeg) (xs (nI k + nI 4).toNatClampNeg)
      refine lv_aload_n hx hb dL_law_173 rfl (lv_at hl 2 rfl) ?_
      refine lv_aload_n hx hb dL_law_174 rfl (lv_at hl 3 rfl) ?_
      refine lv_iload_n hx hb dL_law_175 rfl (lv_at hl 0 rfl) ?_
      refine lv_iconst (v := nI 1) hx hb dL_law_176 (by decide) ?_
      refine lv_iadd hx hb dL_law_177 ?_
      refine va_sld hx hb hX hbl hbA hS (lw_ix (by omega) hL) dL_law_178 ?_
      refine lv_aload_n hx hb dL_law_179 rfl (lv_at hl 3 rfl) ?_
      refine lv_iload_n hx hb dL_law_180 rfl (lv_at hl 0 rfl) ?_
      refine lv_iconst (v := nI 2) hx hb dL_law_181 (by decide) ?_
      refine lv_iadd hx hb dL_law_182 ?_
      refine va_sld hx hb hX hbl hbA hS (lw_ix (by omega) hL) dL_law_183 ?_
      refine lv_aload_n hx hb dL_law_184 rfl (lv_at hl 3 rfl) ?_
      refine lv_iload_n hx hb dL_law_185 rfl (lv_at hl 0 rfl) ?_
      refine lv_iconst (v := nI 3) hx hb dL_law_186 (by decide) ?_
      refine lv_iadd hx hb dL_law_187 ?_
      refine va_sld hx hb hX hbl hbA hS (lw_ix (by omega) hL) dL_law_188 ?_
      refine lv_aload_n hx hb dL_law_189 rfl (lv_at hl 3 rfl) ?_
      refine lv_iload_n hx hb dL_law_190 rfl (lv_at hl 0 rfl) ?_
      refine lv_iconst (v := nI 4) hx hb dL_law_191 (by decide) ?_
      refine lv_iadd hx hb dL_law_192 ?_
      refine va_sld hx hb hX hbl hbA hS (lw_ix (by omega) hL) dL_law_193 ?_
      refine cp_Vi (ws' := (wX4 o a g ga f n t r cI cC cO L9 K9 P9 Hs9 S N T R ++ wX5 b5 cI cC cO M)) ⟨hx, hb, hml, hown, ht⟩ (c_X4_pipe l D cI cC cO o a g ga f n t r L K P Hs S N T R (xs (nI k + nI 1).toNatClampNeg) (xs (nI k + nI 2).toNatClampNeg) (xs (nI k + nI 3).toNatClampNeg) (xs (nI k + nI 4).toNatClampNeg) _ _ ex) (cwv 4 ht wd_190 wd_1 wd_187 wd_188 wd_189 (by decide +kernel) rfl rfl ⟨Nat.le_of_ble_eq_true rfl, Nat.le_of_ble_eq_true rfl⟩) 4 0 rfl rfl rfl hK hP hD hS hA hN (List.Perm.refl _) (pm_l _ _) rfl hl.1 rfl (Nat.le_of_ble_eq_true rfl) dL_law_194 ⟨Nat.le_of_ble_eq_true rfl, Nat.le_of_ble_eq_true rfl⟩ (fun H locs hP hD hS => ?_)
      refine lv_aload_n hx hb dL_law_197 rfl (lv_at hl 1 rfl) ?_
      refine lv_aload_n hx hb dL_law_198 rfl (lv_at hl 3 rfl) ?_
      refine lv_iload_n hx hb dL_law_199 rfl (lv_at hl 0 rfl) ?_
      refine lv_iconst (v := nI 1) hx hb dL_law_200 (by decide) ?_
      refine lv_iadd hx hb dL_law_201 ?_
      refine va_sld hx hb hX hbl hbA hS (lw_ix (by omega) hL) dL_law_202 ?_
      refine lv_aload_n hx hb dL_law_203 rfl (lv_at hl 3 rfl) ?_
      refine lv_iload_n hx hb dL_law_204 rfl (lv_at hl 0 rfl) ?_
      refine lv_iconst (v := nI 2) hx hb dL_law_205 (by decide) ?_
      refine lv_iadd hx hb dL_law_206 ?_
      refine va_sld hx hb hX hbl hbA hS (lw_ix (by omega) hL) dL_law_207 ?_
      refine lv_aload_n hx hb dL_law_208 rfl (lv_at hl 3 rfl) ?_
      refine lv_iload_n hx hb dL_law_209 rfl (lv_at hl 0 rfl) ?_
      refine lv_iconst (v := nI 3) hx hb dL_law_210 (by decide) ?_
      refine lv_iadd hx hb dL_law_211 ?_
      refine va_sld hx hb hX hbl hbA hS (lw_ix (by omega) hL) dL_law_212 ?_
      refine lv_aload_n hx hb dL_law_213 rfl (lv_at hl 3 rfl) ?_
      refine lv_iload_n hx hb dL_law_214 rfl (lv_at hl 0 rfl) ?_
      refine lv_iconst (v := nI 4) hx hb dL_law_215 (by decide) ?_
      refine lv_iadd hx hb dL_law_216 ?_
      refine va_sld hx hb hX hbl hbA hS (lw_ix (by omega) hL) dL_law_217 ?_
      refine cp_Vi (ws' := (wX4 o a g ga f n t r cI cC cO L9 K9 P9 Hs9 S N T R ++ wX5 b5 cI cC cO M9)) ⟨hx, hb, hml, hown, ht⟩ (c_X5_pipe l D cI cC cO b5 M (xs (nI k + nI 1).toNatClampNeg) (xs (nI k + nI 2).toNatClampNeg) (xs (nI k + nI 3).toNatClampNeg) (xs (nI k + nI 4).toNatClampNeg) _ _ em) (cwv 4 ht wd_630 wd_6 wd_627 wd_628 wd_629 (by decide +kernel) rfl rfl ⟨Nat.le_of_ble_eq_true rfl, Nat.le_of_ble_eq_true rfl⟩) 5 0 rfl rfl rfl hK hP hD hS hA hN (pm_l _ _) (List.Perm.refl _) rfl hl.1 rfl (Nat.le_of_ble_eq_true rfl) dL_law_218 ⟨Nat.le_of_ble_eq_true rfl, Nat.le_of_ble_eq_true rfl⟩ (fun H locs hP hD hS => ?_)
      refine lv_icmp_eq (tgt := 809) hx hb dL_law_221 (by decide) (fun _ => ?_) (fun c2 => absurd rfl c2)
      exact tail _ _ _ _ _ _ _ _ _ h5 hI _ _ ls hP hD hS hl
    by_cases c12 : v9 = (2 : Int32)
    · refine lv_tableIn (off := 194) (tgt := 226) hx hb dL_law_32 (by rw [c12]; decide) (by rw [c12]; decide) (by rw [c12]; rfl) (by decide) ?_
      obtain ⟨r9, L9, K9, P9, Hs9, M9, ex, em, hI⟩ := st_dropPipe hI (xs (nI k + nI 1).toNatClampNeg)
      refine lv_aload_n hx hb dL_law_226 rfl (lv_at hl 2 rfl) ?_
      refine lv_aload_n hx hb dL_law_227 rfl (lv_at hl 3 rfl) ?_
      refine lv_iload_n hx hb dL_law_228 rfl (lv_at hl 0 rfl) ?_
      refine lv_iconst (v := nI 1) hx hb dL_law_229 (by decide) ?_
      refine lv_iadd hx hb dL_law_230 ?_
      refine va_sld hx hb hX hbl hbA hS (lw_ix (by omega) hL) dL_law_231 ?_
      refine cp_Vi (ws' := (wX4 o a g ga f n t r cI cC cO L9 K9 P9 Hs9 S N T R ++ wX5 b5 cI cC cO M)) ⟨hx, hb, hml, hown, ht⟩ (c_X4_dropPipe l D cI cC cO o a g ga f n t r L K P Hs S N T R (xs (nI k + nI 1).toNatClampNeg) _ _ ex) (cwv 1 ht wd_218 wd_1 wd_215 wd_216 wd_217 (by decide +kernel) rfl rfl ⟨Nat.le_of_ble_eq_true rfl, Nat.le_of_ble_eq_true rfl⟩) 4 0 rfl rfl rfl hK hP hD hS hA hN (List.Perm.refl _) (pm_l _ _) rfl hl.1 rfl (Nat.le_of_ble_eq_true rfl) dL_law_232 ⟨Nat.le_of_ble_eq_true rfl, Nat.le_of_ble_eq_true rfl⟩ (fun H locs hP hD hS => ?_)
      refine lv_aload_n hx hb dL_law_235 rfl (lv_at hl 1 rfl) ?_
      refine lv_aload_n hx hb dL_law_236 rfl (lv_at hl 3 rfl) ?_
      refine lv_iload_n hx hb dL_law_237 rfl (lv_at hl 0 rfl) ?_
      refine lv_iconst (v := nI 1) hx hb dL_law_238 (by decide) ?_
      refine lv_iadd hx hb dL_law_239 ?_
      refine va_sld hx hb hX hbl hbA hS (lw_ix (by omega) hL) dL_law_240 ?_
      refine cp_Vi (ws' := (wX4 o a g ga f n t r cI cC cO L9 K9 P9 Hs9 S N T R ++ wX5 b5 cI cC cO M9)) ⟨hx, hb, hml, hown, ht⟩ (c_X5_dropPipe l D cI cC cO b5 M (xs (nI k + nI 1).toNatClampNeg) _ _ em) (cwv 1 ht wd_642 wd_6 wd_639 wd_640 wd_641 (by decide +kernel) rfl rfl ⟨Nat.le_of_ble_eq_true rfl, Nat.le_of_ble_eq_true rfl⟩) 5 0 rfl rfl rfl hK hP hD hS hA hN (pm_l _ _) (List.Perm.refl _) rfl hl.1 rfl (Nat.le_of_ble_eq_true rfl) dL_law_241 ⟨Nat.le_of_ble_eq_true rfl, Nat.le_of_ble_eq_true rfl⟩ (fun H locs hP hD hS => ?_)
      refine lv_icmp_eq (tgt := 809) hx hb dL_law_244 (by decide) (fun _ => ?_) (fun c2 => absurd rfl c2)
      exact tail _ _ _ _ _ _ _ _ _ h5 hI _ _ ls hP hD hS hl
    by_cases c13 : v9 = (3 : Int32)
    · refine lv_tableIn (off := 217) (tgt := 249) hx hb dL_law_32 (by rw [c13]; decide) (by rw [c13]; decide) (by rw [c13]; rfl) (by decide) ?_
      obtain ⟨r9, L9, K9, P9, Hs9, M9, ex, em, hI⟩ := st_open hI (xs (nI k + nI 1).toNatClampNeg) (xs (nI k + nI 2).toNatClampNeg) (xs (nI k + nI 3).toNatClampNeg)
      refine lv_aload_n hx hb dL_law_249 rfl (lv_at hl 2 rfl) ?_
      refine lv_aload_n hx hb dL_law_250 rfl (lv_at hl 3 rfl) ?_
      refine lv_iload_n hx hb dL_law_251 rfl (lv_at hl 0 rfl) ?_
      refine lv_iconst (v := nI 1) hx hb dL_law_252 (by decide) ?_
      refine lv_iadd hx hb dL_law_253 ?_
      refine va_sld hx hb hX hbl hbA hS (lw_ix (by omega) hL) dL_law_254 ?_
      refine lv_aload_n hx hb dL_law_255 rfl (lv_at hl 3 rfl) ?_
      refine lv_iload_n hx hb dL_law_256 rfl (lv_at hl 0 rfl) ?_
      refine lv_iconst (v := nI 2) hx hb dL_law_257 (by decide) ?_
      refine lv_iadd hx hb dL_law_258 ?_
      refine va_sld hx hb hX hbl hbA hS (lw_ix (by omega) hL) dL_law_259 ?_
      refine lv_aload_n hx hb dL_law_260 rfl (lv_at hl 3 rfl) ?_
      refine lv_iload_n hx hb dL_law_261 rfl (lv_at hl 0 rfl) ?_
      refine lv_iconst (v := nI 3) hx hb dL_law_262 (by decide) ?_
      refine lv_iadd hx hb dL_law_263 ?_
      refine va_sld hx hb hX hbl hbA hS (lw_ix (by omega) hL) dL_law_264 ?_
      refine cp_Vi (ws' := (wX4 o a g ga f n t r cI cC cO L9 K9 P9 Hs9 S N T R ++ wX5 b5 cI cC cO M)) ⟨hx, hb, hml, hown, ht⟩ (c_X4_open l D cI cC cO o a g ga f n t r L K P Hs S N T R (xs (nI k + nI 1).toNatClampNeg) (xs (nI k + nI 2).toNatClampNeg) (xs (nI k + nI 3).toNatClampNeg) _ _ ex) (cwv 3 ht wd_230 wd_1 wd_227 wd_228 wd_229 (by decide +kernel) rfl rfl ⟨Nat.le_of_ble_eq_true rfl, Nat.le_of_ble_eq_true rfl⟩) 4 0 rfl rfl rfl hK hP hD hS hA hN (List.Perm.refl _) (pm_l _ _) rfl hl.1 rfl (Nat.le_of_ble_eq_true rfl) dL_law_265 ⟨Nat.le_of_ble_eq_true rfl, Nat.le_of_ble_eq_true rfl⟩ (fun H locs hP hD hS => ?_)
      refine lv_aload_n hx hb dL_law_268 rfl (lv_at hl 1 rfl) ?_
      refine lv_aload_n hx hb dL_law_269 rfl (lv_at hl 3 rfl) ?_
      refine lv_iload_n hx hb dL_law_270 rfl (lv_at hl 0 rfl) ?_
      refine lv_iconst (v := nI 1) hx hb dL_law_271 (by decide) ?_
      refine lv_iadd hx hb dL_law_272 ?_
      refine va_sld hx hb hX hbl hbA hS (lw_ix (by omega) hL) dL_law_273 ?_
      refine lv_aload_n hx hb dL_law_274 rfl (lv_at hl 3 rfl) ?_
      refine lv_iload_n hx hb dL_law_275 rfl (lv_at hl 0 rfl) ?_
      refine lv_iconst (v := nI 2) hx hb dL_law_276 (by decide) ?_
      refine lv_iadd hx hb dL_law_277 ?_
      refine va_sld hx hb hX hbl hbA hS (lw_ix (by omega) hL) dL_law_278 ?_
      refine lv_aload_n hx hb dL_law_279 rfl (lv_at hl 3 rfl) ?_
      refine lv_iload_n hx hb dL_law_280 rfl (lv_at hl 0 rfl) ?_
      refine lv_iconst (v := nI 3) hx hb dL_law_281 (by decide) ?_
      refine lv_iadd hx hb dL_law_282 ?_
      refine va_sld hx hb hX hbl hbA hS (lw_ix (by omega) hL) dL_law_283 ?_
      refine cp_Vi (ws' := (wX4 o a g ga f n t r cI cC cO L9 K9 P9 Hs9 S N T R ++ wX5 b5 cI cC cO M9)) ⟨hx, hb, hml, hown, ht⟩ (c_X5_open l D cI cC cO b5 M (xs (nI k + nI 1).toNatClampNeg) (xs (nI k + nI 2).toNatClampNeg) (xs (nI k + nI 3).toNatClampNeg) _ _ em) (cwv 3 ht wd_650 wd_6 wd_647 wd_648 wd_649 (by decide +kernel) rfl rfl ⟨Nat.le_of_ble_eq_true rfl, Nat.le_of_ble_eq_true rfl⟩) 5 0 rfl rfl rfl hK hP hD hS hA hN (pm_l _ _) (List.Perm.refl _) rfl hl.1 rfl (Nat.le_of_ble_eq_true rfl) dL_law_284 ⟨Nat.le_of_ble_eq_true rfl, Nat.le_of_ble_eq_true rfl⟩ (fun H locs hP hD hS => ?_)
      refine lv_icmp_eq (tgt := 809) hx hb dL_law_287 (by decide) (fun _ => ?_) (fun c2 => absurd rfl c2)
      exact tail _ _ _ _ _ _ _ _ _ h5 hI _ _ ls hP hD hS hl
    by_cases c14 : v9 = (4 : Int32)
    · refine lv_tableIn (off := 260) (tgt := 292) hx hb dL_law_32 (by rw [c14]; decide) (by rw [c14]; decide) (by rw [c14]; rfl) (by decide) ?_
      obtain ⟨r9, L9, K9, P9, Hs9, M9, ex, em, hI⟩ := st_widen hI (xs (nI k + nI 1).toNatClampNeg) (xs (nI k + nI 2).toNatClampNeg)
      refine lv_aload_n hx hb dL_law_292 rfl (lv_at hl 2 rfl) ?_
      refine lv_aload_n hx hb dL_law_293 rfl (lv_at hl 3 rfl) ?_
      refine lv_iload_n hx hb dL_law_294 rfl (lv_at hl 0 rfl) ?_
      refine lv_iconst (v := nI 1) hx hb dL_law_295 (by decide) ?_
      refine lv_iadd hx hb dL_law_296 ?_
      refine va_sld hx hb hX hbl hbA hS (lw_ix (by omega) hL) dL_law_297 ?_
      refine lv_aload_n hx hb dL_law_298 rfl (lv_at hl 3 rfl) ?_
      refine lv_iload_n hx hb dL_law_299 rfl (lv_at hl 0 rfl) ?_
      refine lv_iconst (v := nI 2) hx hb dL_law_300 (by decide) ?_
      refine lv_iadd hx hb dL_law_301 ?_
      refine va_sld hx hb hX hbl hbA hS (lw_ix (by omega) hL) dL_law_302 ?_
      refine cp_Vi (ws' := (wX4 o a g ga f n t r cI cC cO L9 K9 P9 Hs9 S N T R ++ wX5 b5 cI cC cO M)) ⟨hx, hb, hml, hown, ht⟩ (c_X4_widen l D cI cC cO o a g ga f n t r L K P Hs S N T R (xs (nI k + nI 1).toNatClampNeg) (xs (nI k + nI 2).toNatClampNeg) _ _ ex) (cwv 2 ht wd_247 wd_1 wd_244 wd_245 wd_246 (by decide +kernel) rfl rfl ⟨Nat.le_of_ble_eq_true rfl, Nat.le_of_ble_eq_true rfl⟩) 4 0 rfl rfl rfl hK hP hD hS hA hN (List.Perm.refl _) (pm_l _ _) rfl hl.1 rfl (Nat.le_of_ble_eq_true rfl) dL_law_303 ⟨Nat.le_of_ble_eq_true rfl, Nat.le_of_ble_eq_true rfl⟩ (fun H locs hP hD hS => ?_)
      refine lv_aload_n hx hb dL_law_306 rfl (lv_at hl 1 rfl) ?_
      refine lv_aload_n hx hb dL_law_307 rfl (lv_at hl 3 rfl) ?_
      refine lv_iload_n hx hb dL_law_308 rfl (lv_at hl 0 rfl) ?_
      refine lv_iconst (v := nI 1) hx hb dL_law_309 (by decide) ?_
      refine lv_iadd hx hb dL_law_310 ?_
      refine va_sld hx hb hX hbl hbA hS (lw_ix (by omega) hL) dL_law_311 ?_
      refine lv_aload_n hx hb dL_law_312 rfl (lv_at hl 3 rfl) ?_
      refine lv_iload_n hx hb dL_law_313 rfl (lv_at hl 0 rfl) ?_
      refine lv_iconst (v := nI 2) hx hb dL_law_314 (by decide) ?_
      refine lv_iadd hx hb dL_law_315 ?_
      refine va_sld hx hb hX hbl hbA hS (lw_ix (by omega) hL) dL_law_316 ?_
      refine cp_Vi (ws' := (wX4 o a g ga f n t r cI cC cO L9 K9 P9 Hs9 S N T R ++ wX5 b5 cI cC cO M9)) ⟨hx, hb, hml, hown, ht⟩ (c_X5_widen l D cI cC cO b5 M (xs (nI k + nI 1).toNatClampNeg) (xs (nI k + nI 2).toNatClampNeg) _ _ em) (cwv 2 ht wd_658 wd_6 wd_655 wd_656 wd_657 (by decide +kernel) rfl rfl ⟨Nat.le_of_ble_eq_true rfl, Nat.le_of_ble_eq_true rfl⟩) 5 0 rfl rfl rfl hK hP hD hS hA hN (pm_l _ _) (List.Perm.refl _) rfl hl.1 rfl (Nat.le_of_ble_eq_true rfl) dL_law_317 ⟨Nat.le_of_ble_eq_true rfl, Nat.le_of_ble_eq_true rfl⟩ (fun H locs hP hD hS => ?_)
      refine lv_icmp_eq (tgt := 809) hx hb dL_law_320 (by decide) (fun _ => ?_) (fun c2 => absurd rfl c2)
      exact tail _ _ _ _ _ _ _ _ _ h5 hI _ _ ls hP hD hS hl
    by_cases c15 : v9 = (5 : Int32)
    · refine lv_tableIn (off := 293) (tgt := 325) hx hb dL_law_32 (by rw [c15]; decide) (by rw [c15]; decide) (by rw [c15]; rfl) (by decide) ?_
      obtain ⟨r9, L9, K9, P9, Hs9, M9, ex, em, hI⟩ := st_units hI (xs (nI k + nI 1).toNatClampNeg) (xs (nI k + nI 2).toNatClampNeg)
      refine lv_aload_n hx hb dL_law_325 rfl (lv_at hl 2 rfl) ?_
      refine lv_aload_n hx hb dL_law_326 rfl (lv_at hl 3 rfl) ?_
      refine lv_iload_n hx hb dL_law_327 rfl (lv_at hl 0 rfl) ?_
      refine lv_iconst (v := nI 1) hx hb dL_law_328 (by decide) ?_
      refine lv_iadd hx hb dL_law_329 ?_
      refine va_sld hx hb hX hbl hbA hS (lw_ix (by omega) hL) dL_law_330 ?_
      refine lv_aload_n hx hb dL_law_331 rfl (lv_at hl 3 rfl) ?_
      refine lv_iload_n hx hb dL_law_332 rfl (lv_at hl 0 rfl) ?_
      refine lv_iconst (v := nI 2) hx hb dL_law_333 (by decide) ?_
      refine lv_iadd hx hb dL_law_334 ?_
      refine va_sld hx hb hX hbl hbA hS (lw_ix (by omega) hL) dL_law_335 ?_
      refine cp_Vi (ws' := (wX4 o a g ga f n t r cI cC cO L9 K9 P9 Hs9 S N T R ++ wX5 b5 cI cC cO M)) ⟨hx, hb, hml, hown, ht⟩ (c_X4_units l D cI cC cO o a g ga f n t r L K P Hs S N T R (xs (nI k + nI 1).toNatClampNeg) (xs (nI k + nI 2).toNatClampNeg) _ _ ex) (cwv 2 ht wd_256 wd_1 wd_253 wd_254 wd_255 (by decide +kernel) rfl rfl ⟨Nat.le_of_ble_eq_true rfl, Nat.le_of_ble_eq_true rfl⟩) 4 0 rfl rfl rfl hK hP hD hS hA hN (List.Perm.refl _) (pm_l _ _) rfl hl.1 rfl (Nat.le_of_ble_eq_true rfl) dL_law_336 ⟨Nat.le_of_ble_eq_true rfl, Nat.le_of_ble_eq_true rfl⟩ (fun H locs hP hD hS => ?_)
      refine lv_aload_n hx hb dL_law_339 rfl (lv_at hl 1 rfl) ?_
      refine lv_aload_n hx hb dL_law_340 rfl (lv_at hl 3 rfl) ?_
      refine lv_iload_n hx hb dL_law_341 rfl (lv_at hl 0 rfl) ?_
      refine lv_iconst (v := nI 1) hx hb dL_law_342 (by decide) ?_
      refine lv_iadd hx hb dL_law_343 ?_
      refine va_sld hx hb hX hbl hbA hS (lw_ix (by omega) hL) dL_law_344 ?_
      refine lv_aload_n hx hb dL_law_345 rfl (lv_at hl 3 rfl) ?_
      refine lv_iload_n hx hb dL_law_346 rfl (lv_at hl 0 rfl) ?_
      refine lv_iconst (v := nI 2) hx hb dL_law_347 (by decide) ?_
      refine lv_iadd hx hb dL_law_348 ?_
      refine va_sld hx hb hX hbl hbA hS (lw_ix (by omega) hL) dL_law_349 ?_
      refine cp_Vi (ws' := (wX4 o a g ga f n t r cI cC cO L9 K9 P9 Hs9 S N T R ++ wX5 b5 cI cC cO M9)) ⟨hx, hb, hml, hown, ht⟩ (c_X5_units l D cI cC cO b5 M (xs (nI k + nI 1).toNatClampNeg) (xs (nI k + nI 2).toNatClampNeg) _ _ em) (cwv 2 ht wd_666 wd_6 wd_663 wd_664 wd_665 (by decide +kernel) rfl rfl ⟨Nat.le_of_ble_eq_true rfl, Nat.le_of_ble_eq_true rfl⟩) 5 0 rfl rfl rfl hK hP hD hS hA hN (pm_l _ _) (List.Perm.refl _) rfl hl.1 rfl (Nat.le_of_ble_eq_true rfl) dL_law_350 ⟨Nat.le_of_ble_eq_true rfl, Nat.le_of_ble_eq_true rfl⟩ (fun H locs hP hD hS => ?_)
      refine lv_icmp_eq (tgt := 809) hx hb dL_law_353 (by decide) (fun _ => ?_) (fun c2 => absurd rfl c2)
      exact tail _ _ _ _ _ _ _ _ _ h5 hI _ _ ls hP hD hS hl
    by_cases c16 : v9 = (6 : Int32)
    · refine lv_tableIn (off := 326) (tgt := 358) hx hb dL_law_32 (by rw [c16]; decide) (by rw [c16]; decide) (by rw [c16]; rfl) (by decide) ?_
      obtain ⟨r9, L9, K9, P9, Hs9, M9, ex, em, hI⟩ := st_room hI (xs (nI k + nI 1).toNatClampNeg) (xs (nI k + nI 2).toNatClampNeg)
      refine lv_aload_n hx hb dL_law_358 rfl (lv_at hl 2 rfl) ?_
      refine lv_aload_n hx hb dL_law_359 rfl (lv_at hl 3 rfl) ?_
      refine lv_iload_n hx hb dL_law_360 rfl (lv_at hl 0 rfl) ?_
      refine lv_iconst (v := nI 1) hx hb dL_law_361 (by decide) ?_
      refine lv_iadd hx hb dL_law_362 ?_
      refine va_sld hx hb hX hbl hbA hS (lw_ix (by omega) hL) dL_law_363 ?_
      refine lv_aload_n hx hb dL_law_364 rfl (lv_at hl 3 rfl) ?_
      refine lv_iload_n hx hb dL_law_365 rfl (lv_at hl 0 rfl) ?_
      refine lv_iconst (v := nI 2) hx hb dL_law_366 (by decide) ?_
      refine lv_iadd hx hb dL_law_367 ?_
      refine va_sld hx hb hX hbl hbA hS (lw_ix (by omega) hL) dL_law_368 ?_
      refine cp_Vi (ws' := (wX4 o a g ga f n t r cI cC cO L9 K9 P9 Hs9 S N T R ++ wX5 b5 cI cC cO M)) ⟨hx, hb, hml, hown, ht⟩ (c_X4_room l D cI cC cO o a g ga f n t r L K P Hs S N T R (xs (nI k + nI 1).toNatClampNeg) (xs (nI k + nI 2).toNatClampNeg) _ _ ex) (cwv 2 ht wd_264 wd_1 wd_261 wd_262 wd_263 (by decide +kernel) rfl rfl ⟨Nat.le_of_ble_eq_true rfl, Nat.le_of_ble_eq_true rfl⟩) 4 0 rfl rfl rfl hK hP hD hS hA hN (List.Perm.refl _) (pm_l _ _) rfl hl.1 rfl (Nat.le_of_ble_eq_true rfl) dL_law_369 ⟨Nat.le_of_ble_eq_true rfl, Nat.le_of_ble_eq_true rfl⟩ (fun H locs hP hD hS => ?_)
      refine lv_aload_n hx hb dL_law_372 rfl (lv_at hl 1 rfl) ?_
      refine lv_aload_n hx hb dL_law_373 rfl (lv_at hl 3 rfl) ?_
      refine lv_iload_n hx hb dL_law_374 rfl (lv_at hl 0 rfl) ?_
      refine lv_iconst (v := nI 1) hx hb dL_law_375 (by decide) ?_
      refine lv_iadd hx hb dL_law_376 ?_
      refine va_sld hx hb hX hbl hbA hS (lw_ix (by omega) hL) dL_law_377 ?_
      refine lv_aload_n hx hb dL_law_378 rfl (lv_at hl 3 rfl) ?_
      refine lv_iload_n hx hb dL_law_379 rfl (lv_at hl 0 rfl) ?_
      refine lv_iconst (v := nI 2) hx hb dL_law_380 (by decide) ?_
      refine lv_iadd hx hb dL_law_381 ?_
      refine va_sld hx hb hX hbl hbA hS (lw_ix (by omega) hL) dL_law_382 ?_
      refine cp_Vi (ws' := (wX4 o a g ga f n t r cI cC cO L9 K9 P9 Hs9 S N T R ++ wX5 b5 cI cC cO M9)) ⟨hx, hb, hml, hown, ht⟩ (c_X5_room l D cI cC cO b5 M (xs (nI k + nI 1).toNatClampNeg) (xs (nI k + nI 2).toNatClampNeg) _ _ em) (cwv 2 ht wd_670 wd_6 wd_667 wd_668 wd_669 (by decide +kernel) rfl rfl ⟨Nat.le_of_ble_eq_true rfl, Nat.le_of_ble_eq_true rfl⟩) 5 0 rfl rfl rfl hK hP hD hS hA hN (pm_l _ _) (List.Perm.refl _) rfl hl.1 rfl (Nat.le_of_ble_eq_true rfl) dL_law_383 ⟨Nat.le_of_ble_eq_true rfl, Nat.le_of_ble_eq_true rfl⟩ (fun H locs hP hD hS => ?_)
      refine lv_icmp_eq (tgt := 809) hx hb dL_law_386 (by decide) (fun _ => ?_) (fun c2 => absurd rfl c2)
      exact tail _ _ _ _ _ _ _ _ _ h5 hI _ _ ls hP hD hS hl
    by_cases c17 : v9 = (7 : Int32)
    · refine lv_tableIn (off := 359) (tgt := 391) hx hb dL_law_32 (by rw [c17]; decide) (by rw [c17]; decide) (by rw [c17]; rfl) (by decide) ?_
      obtain ⟨r9, ex, em, hI⟩ := st_pipeOf hI (xs (nI k + nI 1).toNatClampNeg) (xs (nI k + nI 2).toNatClampNeg)
      refine lv_aload_n hx hb dL_law_391 rfl (lv_at hl 2 rfl) ?_
      refine lv_aload_n hx hb dL_law_392 rfl (lv_at hl 3 rfl) ?_
      refine lv_iload_n hx hb dL_law_393 rfl (lv_at hl 0 rfl) ?_
      refine lv_iconst (v := nI 1) hx hb dL_law_394 (by decide) ?_
      refine lv_iadd hx hb dL_law_395 ?_
      refine va_sld hx hb hX hbl hbA hS (lw_ix (by omega) hL) dL_law_396 ?_
      refine lv_aload_n hx hb dL_law_397 rfl (lv_at hl 3 rfl) ?_
      refine lv_iload_n hx hb dL_law_398 rfl (lv_at hl 0 rfl) ?_
      refine lv_iconst (v := nI 2) hx hb dL_law_399 (by decide) ?_
      refine lv_iadd hx hb dL_law_400 ?_
      refine va_sld hx hb hX hbl hbA hS (lw_ix (by omega) hL) dL_law_401 ?_
      refine cp_Vi (ws' := (wX4 o a g ga f n t r cI cC cO L K P Hs S N T R ++ wX5 b5 cI cC cO M)) ⟨hx, hb, hml, hown, ht⟩ (c_X4_pipeOf l D cI cC cO o a g ga f n t r L K P Hs S N T R (xs (nI k + nI 1).toNatClampNeg) (xs (nI k + nI 2).toNatClampNeg) _ _ ex) (cwv 2 ht wd_269 wd_1 wd_266 wd_267 wd_268 (by decide +kernel) rfl rfl ⟨Nat.le_of_ble_eq_true rfl, Nat.le_of_ble_eq_true rfl⟩) 4 0 rfl rfl rfl hK hP hD hS hA hN (List.Perm.refl _) (pm_l _ _) rfl hl.1 rfl (Nat.le_of_ble_eq_true rfl) dL_law_402 ⟨Nat.le_of_ble_eq_true rfl, Nat.le_of_ble_eq_true rfl⟩ (fun H locs hP hD hS => ?_)
      refine lv_aload_n hx hb dL_law_405 rfl (lv_at hl 1 rfl) ?_
      refine lv_aload_n hx hb dL_law_406 rfl (lv_at hl 3 rfl) ?_
      refine lv_iload_n hx hb dL_law_407 rfl (lv_at hl 0 rfl) ?_
      refine lv_iconst (v := nI 1) hx hb dL_law_408 (by decide) ?_
      refine lv_iadd hx hb dL_law_409 ?_
      refine va_sld hx hb hX hbl hbA hS (lw_ix (by omega) hL) dL_law_410 ?_
      refine lv_aload_n hx hb dL_law_411 rfl (lv_at hl 3 rfl) ?_
      refine lv_iload_n hx hb dL_law_412 rfl (lv_at hl 0 rfl) ?_
      refine lv_iconst (v := nI 2) hx hb dL_law_413 (by decide) ?_
      refine lv_iadd hx hb dL_law_414 ?_
      refine va_sld hx hb hX hbl hbA hS (lw_ix (by omega) hL) dL_law_415 ?_
      refine cp_Vi (ws' := (wX4 o a g ga f n t r cI cC cO L K P Hs S N T R ++ wX5 b5 cI cC cO M)) ⟨hx, hb, hml, hown, ht⟩ (c_X5_pipeOf l D cI cC cO b5 M (xs (nI k + nI 1).toNatClampNeg) (xs (nI k + nI 2).toNatClampNeg) _ _ em) (cwv 2 ht wd_674 wd_6 wd_671 wd_672 wd_673 (by decide +kernel) rfl rfl ⟨Nat.le_of_ble_eq_true rfl, Nat.le_of_ble_eq_true rfl⟩) 5 0 rfl rfl rfl hK hP hD hS hA hN (pm_l _ _) (List.Perm.refl _) rfl hl.1 rfl (Nat.le_of_ble_eq_true rfl) dL_law_416 ⟨Nat.le_of_ble_eq_true rfl, Nat.le_of_ble_eq_true rfl⟩ (fun H locs hP hD hS => ?_)
      refine lv_icmp_eq (tgt := 809) hx hb dL_law_419 (by decide) (fun _ => ?_) (fun c2 => absurd rfl c2)
      exact tail _ _ _ _ _ _ _ _ _ h5 hI _ _ ls hP hD hS hl
    by_cases c18 : v9 = (8 : Int32)
    · refine lv_tableIn (off := 392) (tgt := 424) hx hb dL_law_32 (by rw [c18]; decide) (by rw [c18]; decide) (by rw [c18]; rfl) (by decide) ?_
      obtain ⟨r9, S9, N9, M9, ex, em, hI⟩ := st_placeOf hI (xs (nI k + nI 1).toNatClampNeg) (xs (nI k + nI 2).toNatClampNeg)
      refine lv_aload_n hx hb dL_law_424 rfl (lv_at hl 2 rfl) ?_
      refine lv_aload_n hx hb dL_law_425 rfl (lv_at hl 3 rfl) ?_
      refine lv_iload_n hx hb dL_law_426 rfl (lv_at hl 0 rfl) ?_
      refine lv_iconst (v := nI 1) hx hb dL_law_427 (by decide) ?_
      refine lv_iadd hx hb dL_law_428 ?_
      refine va_sld hx hb hX hbl hbA hS (lw_ix (by omega) hL) dL_law_429 ?_
      refine lv_aload_n hx hb dL_law_430 rfl (lv_at hl 3 rfl) ?_
      refine lv_iload_n hx hb dL_law_431 rfl (lv_at hl 0 rfl) ?_
      refine lv_iconst (v := nI 2) hx hb dL_law_432 (by decide) ?_
      refine lv_iadd hx hb dL_law_433 ?_
      refine va_sld hx hb hX hbl hbA hS (lw_ix (by omega) hL) dL_law_434 ?_
      refine cp_Vi (ws' := (wX4 o a g ga f n t r cI cC cO L K P Hs S9 N9 T R ++ wX5 b5 cI cC cO M)) ⟨hx, hb, hml, hown, ht⟩ (c_X4_placeOf l D cI cC cO o a g ga f n t r L K P Hs S N T R (xs (nI k + nI 1).toNatClampNeg) (xs (nI k + nI 2).toNatClampNeg) _ _ ex) (cwv 2 ht wd_273 wd_1 wd_270 wd_271 wd_272 (by decide +kernel) rfl rfl ⟨Nat.le_of_ble_eq_true rfl, Nat.le_of_ble_eq_true rfl⟩) 4 0 rfl rfl rfl hK hP hD hS hA hN (List.Perm.refl _) (pm_l _ _) rfl hl.1 rfl (Nat.le_of_ble_eq_true rfl) dL_law_435 ⟨Nat.le_of_ble_eq_true rfl, Nat.le_of_ble_eq_true rfl⟩ (fun H locs hP hD hS => ?_)
      refine lv_aload_n hx hb dL_law_438 rfl (lv_at hl 1 rfl) ?_
      refine lv_aload_n hx hb dL_law_439 rfl (lv_at hl 3 rfl) ?_
      refine lv_iload_n hx hb dL_law_440 rfl (lv_at hl 0 rfl) ?_
      refine lv_iconst (v := nI 1) hx hb dL_law_441 (by decide) ?_
      refine lv_iadd hx hb dL_law_442 ?_
      refine va_sld hx hb hX hbl hbA hS (lw_ix (by omega) hL) dL_law_443 ?_
      refine lv_aload_n hx hb dL_law_444 rfl (lv_at hl 3 rfl) ?_
      refine lv_iload_n hx hb dL_law_445 rfl (lv_at hl 0 rfl) ?_
      refine lv_iconst (v := nI 2) hx hb dL_law_446 (by decide) ?_
      refine lv_iadd hx hb dL_law_447 ?_
      refine va_sld hx hb hX hbl hbA hS (lw_ix (by omega) hL) dL_law_448 ?_
      refine cp_Vi (ws' := (wX4 o a g ga f n t r cI cC cO L K P Hs S9 N9 T R ++ wX5 b5 cI cC cO M9)) ⟨hx, hb, hml, hown, ht⟩ (c_X5_placeOf l D cI cC cO b5 M (xs (nI k + nI 1).toNatClampNeg) (xs (nI k + nI 2).toNatClampNeg) _ _ em) (cwv 2 ht wd_682 wd_6 wd_679 wd_680 wd_681 (by decide +kernel) rfl rfl ⟨Nat.le_of_ble_eq_true rfl, Nat.le_of_ble_eq_true rfl⟩) 5 0 rfl rfl rfl hK hP hD hS hA hN (pm_l _ _) (List.Perm.refl _) rfl hl.1 rfl (Nat.le_of_ble_eq_true rfl) dL_law_449 ⟨Nat.le_of_ble_eq_true rfl, Nat.le_of_ble_eq_true rfl⟩ (fun H locs hP hD hS => ?_)
      refine lv_icmp_eq (tgt := 809) hx hb dL_law_452 (by decide) (fun _ => ?_) (fun c2 => absurd rfl c2)
      exact tail _ _ _ _ _ _ _ _ _ h5 hI _ _ ls hP hD hS hl
    by_cases c19 : v9 = (9 : Int32)
    · refine lv_tableIn (off := 425) (tgt := 457) hx hb dL_law_32 (by rw [c19]; decide) (by rw [c19]; decide) (by rw [c19]; rfl) (by decide) ?_
      obtain ⟨r9, S9, N9, M9, ex, em, hI⟩ := st_come hI (xs (nI k + nI 1).toNatClampNeg)
      refine lv_aload_n hx hb dL_law_457 rfl (lv_at hl 2 rfl) ?_
      refine lv_aload_n hx hb dL_law_458 rfl (lv_at hl 3 rfl) ?_
      refine lv_iload_n hx hb dL_law_459 rfl (lv_at hl 0 rfl) ?_
      refine lv_iconst (v := nI 1) hx hb dL_law_460 (by decide) ?_
      refine lv_iadd hx hb dL_law_461 ?_
      refine va_sld hx hb hX hbl hbA hS (lw_ix (by omega) hL) dL_law_462 ?_
      refine cp_Vi (ws' := (wX4 o a g ga f n t r cI cC cO L K P Hs S9 N9 T R ++ wX5 b5 cI cC cO M)) ⟨hx, hb, hml, hown, ht⟩ (c_X4_come l D cI cC cO o a g ga f n t r L K P Hs S N T R (xs (nI k + nI 1).toNatClampNeg) _ _ ex) (cwv 1 ht wd_344 wd_1 wd_341 wd_342 wd_343 (by decide +kernel) rfl rfl ⟨Nat.le_of_ble_eq_true rfl, Nat.le_of_ble_eq_true rfl⟩) 4 0 rfl rfl rfl hK hP hD hS hA hN (List.Perm.refl _) (pm_l _ _) rfl hl.1 rfl (Nat.le_of_ble_eq_true rfl) dL_law_463 ⟨Nat.le_of_ble_eq_true rfl, Nat.le_of_ble_eq_true rfl⟩ (fun H locs hP hD hS => ?_)
      refine lv_aload_n hx hb dL_law_466 rfl (lv_at hl 1 rfl) ?_
      refine lv_aload_n hx hb dL_law_467 rfl (lv_at hl 3 rfl) ?_
      refine lv_iload_n hx hb dL_law_468 rfl (lv_at hl 0 rfl) ?_
      refine lv_iconst (v := nI 1) hx hb dL_law_469 (by decide) ?_
      refine lv_iadd hx hb dL_law_470 ?_
      refine va_sld hx hb hX hbl hbA hS (lw_ix (by omega) hL) dL_law_471 ?_
      refine cp_Vi (ws' := (wX4 o a g ga f n t r cI cC cO L K P Hs S9 N9 T R ++ wX5 b5 cI cC cO M9)) ⟨hx, hb, hml, hown, ht⟩ (c_X5_come l D cI cC cO b5 M (xs (nI k + nI 1).toNatClampNeg) _ _ em) (cwv 1 ht wd_695 wd_6 wd_692 wd_693 wd_694 (by decide +kernel) rfl rfl ⟨Nat.le_of_ble_eq_true rfl, Nat.le_of_ble_eq_true rfl⟩) 5 0 rfl rfl rfl hK hP hD hS hA hN (pm_l _ _) (List.Perm.refl _) rfl hl.1 rfl (Nat.le_of_ble_eq_true rfl) dL_law_472 ⟨Nat.le_of_ble_eq_true rfl, Nat.le_of_ble_eq_true rfl⟩ (fun H locs hP hD hS => ?_)
      refine lv_icmp_eq (tgt := 809) hx hb dL_law_475 (by decide) (fun _ => ?_) (fun c2 => absurd rfl c2)
      exact tail _ _ _ _ _ _ _ _ _ h5 hI _ _ ls hP hD hS hl
    by_cases c20 : v9 = (10 : Int32)
    · refine lv_tableIn (off := 448) (tgt := 480) hx hb dL_law_32 (by rw [c20]; decide) (by rw [c20]; decide) (by rw [c20]; rfl) (by decide) ?_
      obtain ⟨r9, S9, N9, M9, ex, em, hI⟩ := st_earliest hI (xs (nI k + nI 1).toNatClampNeg)
      refine lv_aload_n hx hb dL_law_480 rfl (lv_at hl 2 rfl) ?_
      refine lv_aload_n hx hb dL_law_481 rfl (lv_at hl 3 rfl) ?_
      refine lv_iload_n hx hb dL_law_482 rfl (lv_at hl 0 rfl) ?_
      refine lv_iconst (v := nI 1) hx hb dL_law_483 (by decide) ?_
      refine lv_iadd hx hb dL_law_484 ?_
      refine va_sld hx hb hX hbl hbA hS (lw_ix (by omega) hL) dL_law_485 ?_
      refine cp_Vi (ws' := (wX4 o a g ga f n t r cI cC cO L K P Hs S9 N9 T R ++ wX5 b5 cI cC cO M)) ⟨hx, hb, hml, hown, ht⟩ (c_X4_earliest l D cI cC cO o a g ga f n t r L K P Hs S N T R (xs (nI k + nI 1).toNatClampNeg) _ _ ex) (cwv 1 ht wd_357 wd_1 wd_354 wd_355 wd_356 (by decide +kernel) rfl rfl ⟨Nat.le_of_ble_eq_true rfl, Nat.le_of_ble_eq_true rfl⟩) 4 0 rfl rfl rfl hK hP hD hS hA hN (List.Perm.refl _) (pm_l _ _) rfl hl.1 rfl (Nat.le_of_ble_eq_true rfl) dL_law_486 ⟨Nat.le_of_ble_eq_true rfl, Nat.le_of_ble_eq_true rfl⟩ (fun H locs hP hD hS => ?_)
      refine lv_aload_n hx hb dL_law_489 rfl (lv_at hl 1 rfl) ?_
      refine lv_aload_n hx hb dL_law_490 rfl (lv_at hl 3 rfl) ?_
      refine lv_iload_n hx hb dL_law_491 rfl (lv_at hl 0 rfl) ?_
      refine lv_iconst (v := nI 1) hx hb dL_law_492 (by decide) ?_
      refine lv_iadd hx hb dL_law_493 ?_
      refine va_sld hx hb hX hbl hbA hS (lw_ix (by omega) hL) dL_law_494 ?_
      refine cp_Vi (ws' := (wX4 o a g ga f n t r cI cC cO L K P Hs S9 N9 T R ++ wX5 b5 cI cC cO M9)) ⟨hx, hb, hml, hown, ht⟩ (c_X5_earliest l D cI cC cO b5 M (xs (nI k + nI 1).toNatClampNeg) _ _ em) (cwv 1 ht wd_732 wd_6 wd_729 wd_730 wd_731 (by decide +kernel) rfl rfl ⟨Nat.le_of_ble_eq_true rfl, Nat.le_of_ble_eq_true rfl⟩) 5 0 rfl rfl rfl hK hP hD hS hA hN (pm_l _ _) (List.Perm.refl _) rfl hl.1 rfl (Nat.le_of_ble_eq_true rfl) dL_law_495 ⟨Nat.le_of_ble_eq_true rfl, Nat.le_of_ble_eq_true rfl⟩ (fun H locs hP hD hS => ?_)
      refine lv_icmp_eq (tgt := 809) hx hb dL_law_498 (by decide) (fun _ => ?_) (fun c2 => absurd rfl c2)
      exact tail _ _ _ _ _ _ _ _ _ h5 hI _ _ ls hP hD hS hl
    by_cases c21 : v9 = (11 : Int32)
    · refine lv_tableIn (off := 471) (tgt := 503) hx hb dL_law_32 (by rw [c21]; decide) (by rw [c21]; decide) (by rw [c21]; rfl) (by decide) ?_
      obtain ⟨r9, S9, N9, M9, ex, em, hI⟩ := st_repeated hI (xs (nI k + nI 1).toNatClampNeg) (xs (nI k + nI 2).toNatClampNeg)
      refine lv_aload_n hx hb dL_law_503 rfl (lv_at hl 2 rfl) ?_
      refine lv_aload_n hx hb dL_law_504 rfl (lv_at hl 3 rfl) ?_
      refine lv_iload_n hx hb dL_law_505 rfl (lv_at hl 0 rfl) ?_
      refine lv_iconst (v := nI 1) hx hb dL_law_506 (by decide) ?_
      refine lv_iadd hx hb dL_law_507 ?_
      refine va_sld hx hb hX hbl hbA hS (lw_ix (by omega) hL) dL_law_508 ?_
      refine lv_aload_n hx hb dL_law_509 rfl (lv_at hl 3 rfl) ?_
      refine lv_iload_n hx hb dL_law_510 rfl (lv_at hl 0 rfl) ?_
      refine lv_iconst (v := nI 2) hx hb dL_law_511 (by decide) ?_
      refine lv_iadd hx hb dL_law_512 ?_
      refine va_sld hx hb hX hbl hbA hS (lw_ix (by omega) hL) dL_law_513 ?_
      refine cp_Vi (ws' := (wX4 o a g ga f n t r cI cC cO L K P Hs S9 N9 T R ++ wX5 b5 cI cC cO M)) ⟨hx, hb, hml, hown, ht⟩ (c_X4_repeated l D cI cC cO o a g ga f n t r L K P Hs S N T R (xs (nI k + nI 1).toNatClampNeg) (xs (nI k + nI 2).toNatClampNeg) _ _ ex) (cwv 2 ht wd_369 wd_1 wd_366 wd_367 wd_368 (by decide +kernel) rfl rfl ⟨Nat.le_of_ble_eq_true rfl, Nat.le_of_ble_eq_true rfl⟩) 4 0 rfl rfl rfl hK hP hD hS hA hN (List.Perm.refl _) (pm_l _ _) rfl hl.1 rfl (Nat.le_of_ble_eq_true rfl) dL_law_514 ⟨Nat.le_of_ble_eq_true rfl, Nat.le_of_ble_eq_true rfl⟩ (fun H locs hP hD hS => ?_)
      refine lv_aload_n hx hb dL_law_517 rfl (lv_at hl 1 rfl) ?_
      refine lv_aload_n hx hb dL_law_518 rfl (lv_at hl 3 rfl) ?_
      refine lv_iload_n hx hb dL_law_519 rfl (lv_at hl 0 rfl) ?_
      refine lv_iconst (v := nI 1) hx hb dL_law_520 (by decide) ?_
      refine lv_iadd hx hb dL_law_521 ?_
      refine va_sld hx hb hX hbl hbA hS (lw_ix (by omega) hL) dL_law_522 ?_
      refine lv_aload_n hx hb dL_law_523 rfl (lv_at hl 3 rfl) ?_
      refine lv_iload_n hx hb dL_law_524 rfl (lv_at hl 0 rfl) ?_
      refine lv_iconst (v := nI 2) hx hb dL_law_525 (by decide) ?_
      refine lv_iadd hx hb dL_law_526 ?_
      refine va_sld hx hb hX hbl hbA hS (lw_ix (by omega) hL) dL_law_527 ?_
      refine cp_Vi (ws' := (wX4 o a g ga f n t r cI cC cO L K P Hs S9 N9 T R ++ wX5 b5 cI cC cO M9)) ⟨hx, hb, hml, hown, ht⟩ (c_X5_repeated l D cI cC cO b5 M (xs (nI k + nI 1).toNatClampNeg) (xs (nI k + nI 2).toNatClampNeg) _ _ em) (cwv 2 ht wd_740 wd_6 wd_737 wd_738 wd_739 (by decide +kernel) rfl rfl ⟨Nat.le_of_ble_eq_true rfl, Nat.le_of_ble_eq_true rfl⟩) 5 0 rfl rfl rfl hK hP hD hS hA hN (pm_l _ _) (List.Perm.refl _) rfl hl.1 rfl (Nat.le_of_ble_eq_true rfl) dL_law_528 ⟨Nat.le_of_ble_eq_true rfl, Nat.le_of_ble_eq_true rfl⟩ (fun H locs hP hD hS => ?_)
      refine lv_icmp_eq (tgt := 809) hx hb dL_law_531 (by decide) (fun _ => ?_) (fun c2 => absurd rfl c2)
      exact tail _ _ _ _ _ _ _ _ _ h5 hI _ _ ls hP hD hS hl
    by_cases c22 : v9 = (12 : Int32)
    · refine lv_tableIn (off := 504) (tgt := 536) hx hb dL_law_32 (by rw [c22]; decide) (by rw [c22]; decide) (by rw [c22]; rfl) (by decide) ?_
      obtain ⟨r9, S9, N9, M9, ex, em, hI⟩ := st_narrow hI (xs (nI k + nI 1).toNatClampNeg)
      refine lv_aload_n hx hb dL_law_536 rfl (lv_at hl 2 rfl) ?_
      refine lv_aload_n hx hb dL_law_537 rfl (lv_at hl 3 rfl) ?_
      refine lv_iload_n hx hb dL_law_538 rfl (lv_at hl 0 rfl) ?_
      refine lv_iconst (v := nI 1) hx hb dL_law_539 (by decide) ?_
      refine lv_iadd hx hb dL_law_540 ?_
      refine va_sld hx hb hX hbl hbA hS (lw_ix (by omega) hL) dL_law_541 ?_
      refine cp_Vi (ws' := (wX4 o a g ga f n t r cI cC cO L K P Hs S9 N9 T R ++ wX5 b5 cI cC cO M)) ⟨hx, hb, hml, hown, ht⟩ (c_X4_narrow l D cI cC cO o a g ga f n t r L K P Hs S N T R (xs (nI k + nI 1).toNatClampNeg) _ _ ex) (cwv 1 ht wd_378 wd_1 wd_375 wd_376 wd_377 (by decide +kernel) rfl rfl ⟨Nat.le_of_ble_eq_true rfl, Nat.le_of_ble_eq_true rfl⟩) 4 0 rfl rfl rfl hK hP hD hS hA hN (List.Perm.refl _) (pm_l _ _) rfl hl.1 rfl (Nat.le_of_ble_eq_true rfl) dL_law_542 ⟨Nat.le_of_ble_eq_true rfl, Nat.le_of_ble_eq_true rfl⟩ (fun H locs hP hD hS => ?_)
      refine lv_aload_n hx hb dL_law_545 rfl (lv_at hl 1 rfl) ?_
      refine lv_aload_n hx hb dL_law_546 rfl (lv_at hl 3 rfl) ?_
      refine lv_iload_n hx hb dL_law_547 rfl (lv_at hl 0 rfl) ?_
      refine lv_iconst (v := nI 1) hx hb dL_law_548 (by decide) ?_
      refine lv_iadd hx hb dL_law_549 ?_
      refine va_sld hx hb hX hbl hbA hS (lw_ix (by omega) hL) dL_law_550 ?_
      refine cp_Vi (ws' := (wX4 o a g ga f n t r cI cC cO L K P Hs S9 N9 T R ++ wX5 b5 cI cC cO M9)) ⟨hx, hb, hml, hown, ht⟩ (c_X5_narrow l D cI cC cO b5 M (xs (nI k + nI 1).toNatClampNeg) _ _ em) (cwv 1 ht wd_744 wd_6 wd_741 wd_742 wd_743 (by decide +kernel) rfl rfl ⟨Nat.le_of_ble_eq_true rfl, Nat.le_of_ble_eq_true rfl⟩) 5 0 rfl rfl rfl hK hP hD hS hA hN (pm_l _ _) (List.Perm.refl _) rfl hl.1 rfl (Nat.le_of_ble_eq_true rfl) dL_law_551 ⟨Nat.le_of_ble_eq_true rfl, Nat.le_of_ble_eq_true rfl⟩ (fun H locs hP hD hS => ?_)
      refine lv_icmp_eq (tgt := 809) hx hb dL_law_554 (by decide) (fun _ => ?_) (fun c2 => absurd rfl c2)
      exact tail _ _ _ _ _ _ _ _ _ h5 hI _ _ ls hP hD hS hl
    by_cases c23 : v9 = (13 : Int32)
    · refine lv_tableIn (off := 527) (tgt := 559) hx hb dL_law_32 (by rw [c23]; decide) (by rw [c23]; decide) (by rw [c23]; rfl) (by decide) ?_
      obtain ⟨r9, S9, N9, M9, ex, em, hI⟩ := st_wanting hI (xs (nI k + nI 1).toNatClampNeg) (xs (nI k + nI 2).toNatClampNeg) (xs (nI k + nI 3).toNatClampNeg)
      refine lv_aload_n hx hb dL_law_559 rfl (lv_at hl 2 rfl) ?_
      refine lv_aload_n hx hb dL_law_560 rfl (lv_at hl 3 rfl) ?_
      refine lv_iload_n hx hb dL_law_561 rfl (lv_at hl 0 rfl) ?_
      refine lv_iconst (v := nI 1) hx hb dL_law_562 (by decide) ?_
      refine lv_iadd hx hb dL_law_563 ?_
      refine va_sld hx hb hX hbl hbA hS (lw_ix (by omega) hL) dL_law_564 ?_
      refine lv_aload_n hx hb dL_law_565 rfl (lv_at hl 3 rfl) ?_
      refine lv_iload_n hx hb dL_law_566 rfl (lv_at hl 0 rfl) ?_
      refine lv_iconst (v := nI 2) hx hb dL_law_567 (by decide) ?_
      refine lv_iadd hx hb dL_law_568 ?_
      refine va_sld hx hb hX hbl hbA hS (lw_ix (by omega) hL) dL_law_569 ?_
      refine lv_aload_n hx hb dL_law_570 rfl (lv_at hl 3 rfl) ?_
      refine lv_iload_n hx hb dL_law_571 rfl (lv_at hl 0 rfl) ?_
      refine lv_iconst (v := nI 3) hx hb dL_law_572 (by decide) ?_
      refine lv_iadd hx hb dL_law_573 ?_
      refine va_sld hx hb hX hbl hbA hS (lw_ix (by omega) hL) dL_law_574 ?_
      refine cp_Vi (ws' := (wX4 o a g ga f n t r cI cC cO L K P Hs S9 N9 T R ++ wX5 b5 cI cC cO M)) ⟨hx, hb, hml, hown, ht⟩ (c_X4_wanting l D cI cC cO o a g ga f n t r L K P Hs S N T R (xs (nI k + nI 1).toNatClampNeg) (xs (nI k + nI 2).toNatClampNeg) (xs (nI k + nI 3).toNatClampNeg) _ _ ex) (cwv 3 ht wd_394 wd_1 wd_391 wd_392 wd_393 (by decide +kernel) rfl rfl ⟨Nat.le_of_ble_eq_true rfl, Nat.le_of_ble_eq_true rfl⟩) 4 0 rfl rfl rfl hK hP hD hS hA hN (List.Perm.refl _) (pm_l _ _) rfl hl.1 rfl (Nat.le_of_ble_eq_true rfl) dL_law_575 ⟨Nat.le_of_ble_eq_true rfl, Nat.le_of_ble_eq_true rfl⟩ (fun H locs hP hD hS => ?_)
      refine lv_aload_n hx hb dL_law_578 rfl (lv_at hl 1 rfl) ?_
      refine lv_aload_n hx hb dL_law_579 rfl (lv_at hl 3 rfl) ?_
      refine lv_iload_n hx hb dL_law_580 rfl (lv_at hl 0 rfl) ?_
      refine lv_iconst (v := nI 1) hx hb dL_law_581 (by decide) ?_
      refine lv_iadd hx hb dL_law_582 ?_
      refine va_sld hx hb hX hbl hbA hS (lw_ix (by omega) hL) dL_law_583 ?_
      refine lv_aload_n hx hb dL_law_584 rfl (lv_at hl 3 rfl) ?_
      refine lv_iload_n hx hb dL_law_585 rfl (lv_at hl 0 rfl) ?_
      refine lv_iconst (v := nI 2) hx hb dL_law_586 (by decide) ?_
      refine lv_iadd hx hb dL_law_587 ?_
      refine va_sld hx hb hX hbl hbA hS (lw_ix (by omega) hL) dL_law_588 ?_
      refine lv_aload_n hx hb dL_law_589 rfl (lv_at hl 3 rfl) ?_
      refine lv_iload_n hx hb dL_law_590 rfl (lv_at hl 0 rfl) ?_
      refine lv_iconst (v := nI 3) hx hb dL_law_591 (by decide) ?_
      refine lv_iadd hx hb dL_law_592 ?_
      refine va_sld hx hb hX hbl hbA hS (lw_ix (by omega) hL) dL_law_593 ?_
      refine cp_Vi (ws' := (wX4 o a g ga f n t r cI cC cO L K P Hs S9 N9 T R ++ wX5 b5 cI cC cO M9)) ⟨hx, hb, hml, hown, ht⟩ (c_X5_wanting l D cI cC cO b5 M (xs (nI k + nI 1).toNatClampNeg) (xs (nI k + nI 2).toNatClampNeg) (xs (nI k + nI 3).toNatClampNeg) _ _ em) (cwv 3 ht wd_752 wd_6 wd_749 wd_750 wd_751 (by decide +kernel) rfl rfl ⟨Nat.le_of_ble_eq_true rfl, Nat.le_of_ble_eq_true rfl⟩) 5 0 rfl rfl rfl hK hP hD hS hA hN (pm_l _ _) (List.Perm.refl _) rfl hl.1 rfl (Nat.le_of_ble_eq_true rfl) dL_law_594 ⟨Nat.le_of_ble_eq_true rfl, Nat.le_of_ble_eq_true rfl⟩ (fun H locs hP hD hS => ?_)
      refine lv_icmp_eq (tgt := 809) hx hb dL_law_597 (by decide) (fun _ => ?_) (fun c2 => absurd rfl c2)
      exact tail _ _ _ _ _ _ _ _ _ h5 hI _ _ ls hP hD hS hl
    by_cases c24 : v9 = (14 : Int32)
    · refine lv_tableIn (off := 570) (tgt := 602) hx hb dL_law_32 (by rw [c24]; decide) (by rw [c24]; decide) (by rw [c24]; rfl) (by decide) ?_
      obtain ⟨r9, S9, N9, M9, ex, em, hI⟩ := st_dearest hI (xs (nI k + nI 1).toNatClampNeg) (xs (nI k + nI 2).toNatClampNeg)
      refine lv_aload_n hx hb dL_law_602 rfl (lv_at hl 2 rfl) ?_
      refine lv_aload_n hx hb dL_law_603 rfl (lv_at hl 3 rfl) ?_
      refine lv_iload_n hx hb dL_law_604 rfl (lv_at hl 0 rfl) ?_
      refine lv_iconst (v := nI 1) hx hb dL_law_605 (by decide) ?_
      refine lv_iadd hx hb dL_law_606 ?_
      refine va_sld hx hb hX hbl hbA hS (lw_ix (by omega) hL) dL_law_607 ?_
      refine lv_aload_n hx hb dL_law_608 rfl (lv_at hl 3 rfl) ?_
      refine lv_iload_n hx hb dL_law_609 rfl (lv_at hl 0 rfl) ?_
      refine lv_iconst (v := nI 2) hx hb dL_law_610 (by decide) ?_
      refine lv_iadd hx hb dL_law_611 ?_
      refine va_sld hx hb hX hbl hbA hS (lw_ix (by omega) hL) dL_law_612 ?_
      refine cp_Vi (ws' := (wX4 o a g ga f n t r cI cC cO L K P Hs S9 N9 T R ++ wX5 b5 cI cC cO M)) ⟨hx, hb, hml, hown, ht⟩ (c_X4_dearest l D cI cC cO o a g ga f n t r L K P Hs S N T R (xs (nI k + nI 1).toNatClampNeg) (xs (nI k + nI 2).toNatClampNeg) _ _ ex) (cwv 2 ht wd_399 wd_1 wd_396 wd_397 wd_398 (by decide +kernel) rfl rfl ⟨Nat.le_of_ble_eq_true rfl, Nat.le_of_ble_eq_true rfl⟩) 4 0 rfl rfl rfl hK hP hD hS hA hN (List.Perm.refl _) (pm_l _ _) rfl hl.1 rfl (Nat.le_of_ble_eq_true rfl) dL_law_613 ⟨Nat.le_of_ble_eq_true rfl, Nat.le_of_ble_eq_true rfl⟩ (fun H locs hP hD hS => ?_)
      refine lv_aload_n hx hb dL_law_616 rfl (lv_at hl 1 rfl) ?_
      refine lv_aload_n hx hb dL_law_617 rfl (lv_at hl 3 rfl) ?_
      refine lv_iload_n hx hb dL_law_618 rfl (lv_at hl 0 rfl) ?_
      refine lv_iconst (v := nI 1) hx hb dL_law_619 (by decide) ?_
      refine lv_iadd hx hb dL_law_620 ?_
      refine va_sld hx hb hX hbl hbA hS (lw_ix (by omega) hL) dL_law_621 ?_
      refine lv_aload_n hx hb dL_law_622 rfl (lv_at hl 3 rfl) ?_
      refine lv_iload_n hx hb dL_law_623 rfl (lv_at hl 0 rfl) ?_
      refine lv_iconst (v := nI 2) hx hb dL_law_624 (by decide) ?_
      refine lv_iadd hx hb dL_law_625 ?_
      refine va_sld hx hb hX hbl hbA hS (lw_ix (by omega) hL) dL_law_626 ?_
      refine cp_Vi (ws' := (wX4 o a g ga f n t r cI cC cO L K P Hs S9 N9 T R ++ wX5 b5 cI cC cO M9)) ⟨hx, hb, hml, hown, ht⟩ (c_X5_dearest l D cI cC cO b5 M (xs (nI k + nI 1).toNatClampNeg) (xs (nI k + nI 2).toNatClampNeg) _ _ em) (cwv 2 ht wd_756 wd_6 wd_753 wd_754 wd_755 (by decide +kernel) rfl rfl ⟨Nat.le_of_ble_eq_true rfl, Nat.le_of_ble_eq_true rfl⟩) 5 0 rfl rfl rfl hK hP hD hS hA hN (pm_l _ _) (List.Perm.refl _) rfl hl.1 rfl (Nat.le_of_ble_eq_true rfl) dL_law_627 ⟨Nat.le_of_ble_eq_true rfl, Nat.le_of_ble_eq_true rfl⟩ (fun H locs hP hD hS => ?_)
      refine lv_icmp_eq (tgt := 809) hx hb dL_law_630 (by decide) (fun _ => ?_) (fun c2 => absurd rfl c2)
      exact tail _ _ _ _ _ _ _ _ _ h5 hI _ _ ls hP hD hS hl
    by_cases c25 : v9 = (15 : Int32)
    · refine lv_tableIn (off := 603) (tgt := 635) hx hb dL_law_32 (by rw [c25]; decide) (by rw [c25]; decide) (by rw [c25]; rfl) (by decide) ?_
      obtain ⟨r9, S9, N9, M9, ex, em, hI⟩ := st_helpful hI (xs (nI k + nI 1).toNatClampNeg) (xs (nI k + nI 2).toNatClampNeg)
      refine lv_aload_n hx hb dL_law_635 rfl (lv_at hl 2 rfl) ?_
      refine lv_aload_n hx hb dL_law_636 rfl (lv_at hl 3 rfl) ?_
      refine lv_iload_n hx hb dL_law_637 rfl (lv_at hl 0 rfl) ?_
      refine lv_iconst (v := nI 1) hx hb dL_law_638 (by decide) ?_
      refine lv_iadd hx hb dL_law_639 ?_
      refine va_sld hx hb hX hbl hbA hS (lw_ix (by omega) hL) dL_law_640 ?_
      refine lv_aload_n hx hb dL_law_641 rfl (lv_at hl 3 rfl) ?_
      refine lv_iload_n hx hb dL_law_642 rfl (lv_at hl 0 rfl) ?_
      refine lv_iconst (v := nI 2) hx hb dL_law_643 (by decide) ?_
      refine lv_iadd hx hb dL_law_644 ?_
      refine va_sld hx hb hX hbl hbA hS (lw_ix (by omega) hL) dL_law_645 ?_
      refine cp_Vi (ws' := (wX4 o a g ga f n t r cI cC cO L K P Hs S9 N9 T R ++ wX5 b5 cI cC cO M)) ⟨hx, hb, hml, hown, ht⟩ (c_X4_helpful l D cI cC cO o a g ga f n t r L K P Hs S N T R (xs (nI k + nI 1).toNatClampNeg) (xs (nI k + nI 2).toNatClampNeg) _ _ ex) (cwv 2 ht wd_416 wd_1 wd_413 wd_414 wd_415 (by decide +kernel) rfl rfl ⟨Nat.le_of_ble_eq_true rfl, Nat.le_of_ble_eq_true rfl⟩) 4 0 rfl rfl rfl hK hP hD hS hA hN (List.Perm.refl _) (pm_l _ _) rfl hl.1 rfl (Nat.le_of_ble_eq_true rfl) dL_law_646 ⟨Nat.le_of_ble_eq_true rfl, Nat.le_of_ble_eq_true rfl⟩ (fun H locs hP hD hS => ?_)
      refine lv_aload_n hx hb dL_law_649 rfl (lv_at hl 1 rfl) ?_
      refine lv_aload_n hx hb dL_law_650 rfl (lv_at hl 3 rfl) ?_
      refine lv_iload_n hx hb dL_law_651 rfl (lv_at hl 0 rfl) ?_
      refine lv_iconst (v := nI 1) hx hb dL_law_652 (by decide) ?_
      refine lv_iadd hx hb dL_law_653 ?_
      refine va_sld hx hb hX hbl hbA hS (lw_ix (by omega) hL) dL_law_654 ?_
      refine lv_aload_n hx hb dL_law_655 rfl (lv_at hl 3 rfl) ?_
      refine lv_iload_n hx hb dL_law_656 rfl (lv_at hl 0 rfl) ?_
      refine lv_iconst (v := nI 2) hx hb dL_law_657 (by decide) ?_
      refine lv_iadd hx hb dL_law_658 ?_
      refine va_sld hx hb hX hbl hbA hS (lw_ix (by omega) hL) dL_law_659 ?_
      refine cp_Vi (ws' := (wX4 o a g ga f n t r cI cC cO L K P Hs S9 N9 T R ++ wX5 b5 cI cC cO M9)) ⟨hx, hb, hml, hown, ht⟩ (c_X5_helpful l D cI cC cO b5 M (xs (nI k + nI 1).toNatClampNeg) (xs (nI k + nI 2).toNatClampNeg) _ _ em) (cwv 2 ht wd_760 wd_6 wd_757 wd_758 wd_759 (by decide +kernel) rfl rfl ⟨Nat.le_of_ble_eq_true rfl, Nat.le_of_ble_eq_true rfl⟩) 5 0 rfl rfl rfl hK hP hD hS hA hN (pm_l _ _) (List.Perm.refl _) rfl hl.1 rfl (Nat.le_of_ble_eq_true rfl) dL_law_660 ⟨Nat.le_of_ble_eq_true rfl, Nat.le_of_ble_eq_true rfl⟩ (fun H locs hP hD hS => ?_)
      refine lv_icmp_eq (tgt := 809) hx hb dL_law_663 (by decide) (fun _ => ?_) (fun c2 => absurd rfl c2)
      exact tail _ _ _ _ _ _ _ _ _ h5 hI _ _ ls hP hD hS hl
    by_cases c26 : v9 = (16 : Int32)
    · refine lv_tableIn (off := 636) (tgt := 668) hx hb dL_law_32 (by rw [c26]; decide) (by rw [c26]; decide) (by rw [c26]; rfl) (by decide) ?_
      obtain ⟨r9, S9, N9, M9, ex, em, hI⟩ := st_withOneMore hI (xs (nI k + nI 1).toNatClampNeg) (xs (nI k + nI 2).toNatClampNeg)
      refine lv_aload_n hx hb dL_law_668 rfl (lv_at hl 2 rfl) ?_
      refine lv_aload_n hx hb dL_law_669 rfl (lv_at hl 3 rfl) ?_
      refine lv_iload_n hx hb dL_law_670 rfl (lv_at hl 0 rfl) ?_
      refine lv_iconst (v := nI 1) hx hb dL_law_671 (by decide) ?_
      refine lv_iadd hx hb dL_law_672 ?_
      refine va_sld hx hb hX hbl hbA hS (lw_ix (by omega) hL) dL_law_673 ?_
      refine lv_aload_n hx hb dL_law_674 rfl (lv_at hl 3 rfl) ?_
      refine lv_iload_n hx hb dL_law_675 rfl (lv_at hl 0 rfl) ?_
      refine lv_iconst (v := nI 2) hx hb dL_law_676 (by decide) ?_
      refine lv_iadd hx hb dL_law_677 ?_
      refine va_sld hx hb hX hbl hbA hS (lw_ix (by omega) hL) dL_law_678 ?_
      refine cp_Vi (ws' := (wX4 o a g ga f n t r cI cC cO L K P Hs S9 N9 T R ++ wX5 b5 cI cC cO M)) ⟨hx, hb, hml, hown, ht⟩ (c_X4_withOneMore l D cI cC cO o a g ga f n t r L K P Hs S N T R (xs (nI k + nI 1).toNatClampNeg) (xs (nI k + nI 2).toNatClampNeg) _ _ ex) (cwv 2 ht wd_424 wd_1 wd_421 wd_422 wd_423 (by decide +kernel) rfl rfl ⟨Nat.le_of_ble_eq_true rfl, Nat.le_of_ble_eq_true rfl⟩) 4 0 rfl rfl rfl hK hP hD hS hA hN (List.Perm.refl _) (pm_l _ _) rfl hl.1 rfl (Nat.le_of_ble_eq_true rfl) dL_law_679 ⟨Nat.le_of_ble_eq_true rfl, Nat.le_of_ble_eq_true rfl⟩ (fun H locs hP hD hS => ?_)
      refine lv_aload_n hx hb dL_law_682 rfl (lv_at hl 1 rfl) ?_
      refine lv_aload_n hx hb dL_law_683 rfl (lv_at hl 3 rfl) ?_
      refine lv_iload_n hx hb dL_law_684 rfl (lv_at hl 0 rfl) ?_
      refine lv_iconst (v := nI 1) hx hb dL_law_685 (by decide) ?_
      refine lv_iadd hx hb dL_law_686 ?_
      refine va_sld hx hb hX hbl hbA hS (lw_ix (by omega) hL) dL_law_687 ?_
      refine lv_aload_n hx hb dL_law_688 rfl (lv_at hl 3 rfl) ?_
      refine lv_iload_n hx hb dL_law_689 rfl (lv_at hl 0 rfl) ?_
      refine lv_iconst (v := nI 2) hx hb dL_law_690 (by decide) ?_
      refine lv_iadd hx hb dL_law_691 ?_
      refine va_sld hx hb hX hbl hbA hS (lw_ix (by omega) hL) dL_law_692 ?_
      refine cp_Vi (ws' := (wX4 o a g ga f n t r cI cC cO L K P Hs S9 N9 T R ++ wX5 b5 cI cC cO M9)) ⟨hx, hb, hml, hown, ht⟩ (c_X5_withOneMore l D cI cC cO b5 M (xs (nI k + nI 1).toNatClampNeg) (xs (nI k + nI 2).toNatClampNeg) _ _ em) (cwv 2 ht wd_764 wd_6 wd_761 wd_762 wd_763 (by decide +kernel) rfl rfl ⟨Nat.le_of_ble_eq_true rfl, Nat.le_of_ble_eq_true rfl⟩) 5 0 rfl rfl rfl hK hP hD hS hA hN (pm_l _ _) (List.Perm.refl _) rfl hl.1 rfl (Nat.le_of_ble_eq_true rfl) dL_law_693 ⟨Nat.le_of_ble_eq_true rfl, Nat.le_of_ble_eq_true rfl⟩ (fun H locs hP hD hS => ?_)
      refine lv_icmp_eq (tgt := 809) hx hb dL_law_696 (by decide) (fun _ => ?_) (fun c2 => absurd rfl c2)
      exact tail _ _ _ _ _ _ _ _ _ h5 hI _ _ ls hP hD hS hl
    by_cases c27 : v9 = (17 : Int32)
    · refine lv_tableIn (off := 669) (tgt := 701) hx hb dL_law_32 (by rw [c27]; decide) (by rw [c27]; decide) (by rw [c27]; rfl) (by decide) ?_
      obtain ⟨r9, ex, em, hI⟩ := st_count hI (xs (nI k + nI 1).toNatClampNeg)
      refine lv_aload_n hx hb dL_law_701 rfl (lv_at hl 2 rfl) ?_
      refine lv_aload_n hx hb dL_law_702 rfl (lv_at hl 3 rfl) ?_
      refine lv_iload_n hx hb dL_law_703 rfl (lv_at hl 0 rfl) ?_
      refine lv_iconst (v := nI 1) hx hb dL_law_704 (by decide) ?_
      refine lv_iadd hx hb dL_law_705 ?_
      refine va_sld hx hb hX hbl hbA hS (lw_ix (by omega) hL) dL_law_706 ?_
      refine cp_Vi (ws' := (wX4 o a g ga f n t r cI cC cO L K P Hs S N T R ++ wX5 b5 cI cC cO M)) ⟨hx, hb, hml, hown, ht⟩ (c_X4_count l D cI cC cO o a g ga f n t r L K P Hs S N T R (xs (nI k + nI 1).toNatClampNeg) _ _ ex) (cwv 1 ht wd_432 wd_1 wd_429 wd_430 wd_431 (by decide +kernel) rfl rfl ⟨Nat.le_of_ble_eq_true rfl, Nat.le_of_ble_eq_true rfl⟩) 4 0 rfl rfl rfl hK hP hD hS hA hN (List.Perm.refl _) (pm_l _ _) rfl hl.1 rfl (Nat.le_of_ble_eq_true rfl) dL_law_707 ⟨Nat.le_of_ble_eq_true rfl, Nat.le_of_ble_eq_true rfl⟩ (fun H locs hP hD hS => ?_)
      refine lv_aload_n hx hb dL_law_710 rfl (lv_at hl 1 rfl) ?_
      refine lv_aload_n hx hb dL_law_711 rfl (lv_at hl 3 rfl) ?_
      refine lv_iload_n hx hb dL_law_712 rfl (lv_at hl 0 rfl) ?_
      refine lv_iconst (v := nI 1) hx hb dL_law_713 (by decide) ?_
      refine lv_iadd hx hb dL_law_714 ?_
      refine va_sld hx hb hX hbl hbA hS (lw_ix (by omega) hL) dL_law_715 ?_
      refine cp_Vi (ws' := (wX4 o a g ga f n t r cI cC cO L K P Hs S N T R ++ wX5 b5 cI cC cO M)) ⟨hx, hb, hml, hown, ht⟩ (c_X5_count l D cI cC cO b5 M (xs (nI k + nI 1).toNatClampNeg) _ _ em) (cwv 1 ht wd_768 wd_6 wd_765 wd_766 wd_767 (by decide +kernel) rfl rfl ⟨Nat.le_of_ble_eq_true rfl, Nat.le_of_ble_eq_true rfl⟩) 5 0 rfl rfl rfl hK hP hD hS hA hN (pm_l _ _) (List.Perm.refl _) rfl hl.1 rfl (Nat.le_of_ble_eq_true rfl) dL_law_716 ⟨Nat.le_of_ble_eq_true rfl, Nat.le_of_ble_eq_true rfl⟩ (fun H locs hP hD hS => ?_)
      refine lv_icmp_eq (tgt := 809) hx hb dL_law_719 (by decide) (fun _ => ?_) (fun c2 => absurd rfl c2)
      exact tail _ _ _ _ _ _ _ _ _ h5 hI _ _ ls hP hD hS hl
    by_cases c28 : v9 = (18 : Int32)
    · refine lv_tableIn (off := 692) (tgt := 724) hx hb dL_law_32 (by rw [c28]; decide) (by rw [c28]; decide) (by rw [c28]; rfl) (by decide) ?_
      obtain ⟨r9, L9, K9, M9, ex, em, hI⟩ := st_undo hI
      refine lv_aload_n hx hb dL_law_724 rfl (lv_at hl 2 rfl) ?_
      refine cp_Vi (ws' := (wX4 o a g ga f n t r cI cC cO L9 K9 P Hs S N T R ++ wX5 b5 cI cC cO M)) ⟨hx, hb, hml, hown, ht⟩ (c_X4_undo l D cI cC cO o a g ga f n t r L K P Hs S N T R _ _ ex) (cwv 0 ht wd_440 wd_1 wd_437 wd_438 wd_439 (by decide +kernel) rfl rfl ⟨Nat.le_of_ble_eq_true rfl, Nat.le_of_ble_eq_true rfl⟩) 4 0 rfl rfl rfl hK hP hD hS hA hN (List.Perm.refl _) (pm_l _ _) rfl hl.1 rfl (Nat.le_of_ble_eq_true rfl) dL_law_725 ⟨Nat.le_of_ble_eq_true rfl, Nat.le_of_ble_eq_true rfl⟩ (fun H locs hP hD hS => ?_)
      refine lv_aload_n hx hb dL_law_728 rfl (lv_at hl 1 rfl) ?_
      refine cp_Vi (ws' := (wX4 o a g ga f n t r cI cC cO L9 K9 P Hs S N T R ++ wX5 b5 cI cC cO M9)) ⟨hx, hb, hml, hown, ht⟩ (c_X5_undo l D cI cC cO b5 M _ _ em) (cwv 0 ht wd_776 wd_6 wd_773 wd_774 wd_775 (by decide +kernel) rfl rfl ⟨Nat.le_of_ble_eq_true rfl, Nat.le_of_ble_eq_true rfl⟩) 5 0 rfl rfl rfl hK hP hD hS hA hN (pm_l _ _) (List.Perm.refl _) rfl hl.1 rfl (Nat.le_of_ble_eq_true rfl) dL_law_729 ⟨Nat.le_of_ble_eq_true rfl, Nat.le_of_ble_eq_true rfl⟩ (fun H locs hP hD hS => ?_)
      refine lv_icmp_eq (tgt := 809) hx hb dL_law_732 (by decide) (fun _ => ?_) (fun c2 => absurd rfl c2)
      exact tail _ _ _ _ _ _ _ _ _ h5 hI _ _ ls hP hD hS hl
    by_cases c29 : v9 = (19 : Int32)
    · refine lv_tableIn (off := 705) (tgt := 737) hx hb dL_law_32 (by rw [c29]; decide) (by rw [c29]; decide) (by rw [c29]; rfl) (by decide) ?_
      obtain ⟨r9, T9, M9, ex, em, hI⟩ := st_type hI (xs (nI k + nI 1).toNatClampNeg)
      refine lv_aload_n hx hb dL_law_737 rfl (lv_at hl 2 rfl) ?_
      refine lv_aload_n hx hb dL_law_738 rfl (lv_at hl 3 rfl) ?_
      refine lv_iload_n hx hb dL_law_739 rfl (lv_at hl 0 rfl) ?_
      refine lv_iconst (v := nI 1) hx hb dL_law_740 (by decide) ?_
      refine lv_iadd hx hb dL_law_741 ?_
      refine va_sld hx hb hX hbl hbA hS (lw_ix (by omega) hL) dL_law_742 ?_
      refine cp_Vi (ws' := (wX4 o a g ga f n t r cI cC cO L K P Hs S N T9 R ++ wX5 b5 cI cC cO M)) ⟨hx, hb, hml, hown, ht⟩ (c_X4_type l D cI cC cO o a g ga f n t r L K P Hs S N T R (xs (nI k + nI 1).toNatClampNeg) _ _ ex) (cwv 1 ht wd_449 wd_1 wd_446 wd_447 wd_448 (by decide +kernel) rfl rfl ⟨Nat.le_of_ble_eq_true rfl, Nat.le_of_ble_eq_true rfl⟩) 4 0 rfl rfl rfl hK hP hD hS hA hN (List.Perm.refl _) (pm_l _ _) rfl hl.1 rfl (Nat.le_of_ble_eq_true rfl) dL_law_743 ⟨Nat.le_of_ble_eq_true rfl, Nat.le_of_ble_eq_true rfl⟩ (fun H locs hP hD hS => ?_)
      refine lv_aload_n hx hb dL_law_746 rfl (lv_at hl 1 rfl) ?_
      refine lv_aload_n hx hb dL_law_747 rfl (lv_at hl 3 rfl) ?_
      refine lv_iload_n hx hb dL_law_748 rfl (lv_at hl 0 rfl) ?_
      refine lv_iconst (v := nI 1) hx hb dL_law_749 (by decide) ?_
      refine lv_iadd hx hb dL_law_750 ?_
      refine va_sld hx hb hX hbl hbA hS (lw_ix (by omega) hL) dL_law_751 ?_
      refine cp_Vi (ws' := (wX4 o a g ga f n t r cI cC cO L K P Hs S N T9 R ++ wX5 b5 cI cC cO M9)) ⟨hx, hb, hml, hown, ht⟩ (c_X5_type l D cI cC cO b5 M (xs (nI k + nI 1).toNatClampNeg) _ _ em) (cwv 1 ht wd_781 wd_6 wd_778 wd_779 wd_780 (by decide +kernel) rfl rfl ⟨Nat.le_of_ble_eq_true rfl, Nat.le_of_ble_eq_true rfl⟩) 5 0 rfl rfl rfl hK hP hD hS hA hN (pm_l _ _) (List.Perm.refl _) rfl hl.1 rfl (Nat.le_of_ble_eq_true rfl) dL_law_752 ⟨Nat.le_of_ble_eq_true rfl, Nat.le_of_ble_eq_true rfl⟩ (fun H locs hP hD hS => ?_)
      refine lv_icmp_eq (tgt := 809) hx hb dL_law_755 (by decide) (fun _ => ?_) (fun c2 => absurd rfl c2)
      exact tail _ _ _ _ _ _ _ _ _ h5 hI _ _ ls hP hD hS hl
    by_cases c30 : v9 = (20 : Int32)
    · refine lv_tableIn (off := 728) (tgt := 760) hx hb dL_law_32 (by rw [c30]; decide) (by rw [c30]; decide) (by rw [c30]; rfl) (by decide) ?_
      obtain ⟨r9, T9, M9, ex, em, hI⟩ := st_clearText hI
      refine lv_aload_n hx hb dL_law_760 rfl (lv_at hl 2 rfl) ?_
      refine cp_Vi (ws' := (wX4 o a g ga f n t r cI cC cO L K P Hs S N T9 R ++ wX5 b5 cI cC cO M)) ⟨hx, hb, hml, hown, ht⟩ (c_X4_clearText l D cI cC cO o a g ga f n t r L K P Hs S N T R _ _ ex) (cwv 0 ht wd_458 wd_1 wd_455 wd_456 wd_457 (by decide +kernel) rfl rfl ⟨Nat.le_of_ble_eq_true rfl, Nat.le_of_ble_eq_true rfl⟩) 4 0 rfl rfl rfl hK hP hD hS hA hN (List.Perm.refl _) (pm_l _ _) rfl hl.1 rfl (Nat.le_of_ble_eq_true rfl) dL_law_761 ⟨Nat.le_of_ble_eq_true rfl, Nat.le_of_ble_eq_true rfl⟩ (fun H locs hP hD hS => ?_)
      refine lv_aload_n hx hb dL_law_764 rfl (lv_at hl 1 rfl) ?_
      refine cp_Vi (ws' := (wX4 o a g ga f n t r cI cC cO L K P Hs S N T9 R ++ wX5 b5 cI cC cO M9)) ⟨hx, hb, hml, hown, ht⟩ (c_X5_clearText l D cI cC cO b5 M _ _ em) (cwv 0 ht wd_785 wd_6 wd_782 wd_783 wd_784 (by decide +kernel) rfl rfl ⟨Nat.le_of_ble_eq_true rfl, Nat.le_of_ble_eq_true rfl⟩) 5 0 rfl rfl rfl hK hP hD hS hA hN (pm_l _ _) (List.Perm.refl _) rfl hl.1 rfl (Nat.le_of_ble_eq_true rfl) dL_law_765 ⟨Nat.le_of_ble_eq_true rfl, Nat.le_of_ble_eq_true rfl⟩ (fun H locs hP hD hS => ?_)
      refine lv_icmp_eq (tgt := 809) hx hb dL_law_768 (by decide) (fun _ => ?_) (fun c2 => absurd rfl c2)
      exact tail _ _ _ _ _ _ _ _ _ h5 hI _ _ ls hP hD hS hl
    by_cases c31 : v9 = (21 : Int32)
    · refine lv_tableIn (off := 741) (tgt := 773) hx hb dL_law_32 (by rw [c31]; decide) (by rw [c31]; decide) (by rw [c31]; rfl) (by decide) ?_
      obtain ⟨r9, T9, R9, M9, ex, em, hI⟩ := st_fault hI (xs (nI k + nI 1).toNatClampNeg)
      refine lv_aload_n hx hb dL_law_773 rfl (lv_at hl 2 rfl) ?_
      refine lv_aload_n hx hb dL_law_774 rfl (lv_at hl 3 rfl) ?_
      refine lv_iload_n hx hb dL_law_775 rfl (lv_at hl 0 rfl) ?_
      refine lv_iconst (v := nI 1) hx hb dL_law_776 (by decide) ?_
      refine lv_iadd hx hb dL_law_777 ?_
      refine va_sld hx hb hX hbl hbA hS (lw_ix (by omega) hL) dL_law_778 ?_
      refine cp_Vi (ws' := (wX4 o a g ga f n t r cI cC cO L K P Hs S N T9 R9 ++ wX5 b5 cI cC cO M)) ⟨hx, hb, hml, hown, ht⟩ (c_X4_fault l D cI cC cO o a g ga f n t r L K P Hs S N T R (xs (nI k + nI 1).toNatClampNeg) _ _ ex) (cwv 1 ht wd_466 wd_1 wd_463 wd_464 wd_465 (by decide +kernel) rfl rfl ⟨Nat.le_of_ble_eq_true rfl, Nat.le_of_ble_eq_true rfl⟩) 4 0 rfl rfl rfl hK hP hD hS hA hN (List.Perm.refl _) (pm_l _ _) rfl hl.1 rfl (Nat.le_of_ble_eq_true rfl) dL_law_779 ⟨Nat.le_of_ble_eq_true rfl, Nat.le_of_ble_eq_true rfl⟩ (fun H locs hP hD hS => ?_)
      refine lv_aload_n hx hb dL_law_782 rfl (lv_at hl 1 rfl) ?_
      refine lv_aload_n hx hb dL_law_783 rfl (lv_at hl 3 rfl) ?_
      refine lv_iload_n hx hb dL_law_784 rfl (lv_at hl 0 rfl) ?_
      refine lv_iconst (v := nI 1) hx hb dL_law_785 (by decide) ?_
      refine lv_iadd hx hb dL_law_786 ?_
      refine va_sld hx hb hX hbl hbA hS (lw_ix (by omega) hL) dL_law_787 ?_
      refine cp_Vi (ws' := (wX4 o a g ga f n t r cI cC cO L K P Hs S N T9 R9 ++ wX5 b5 cI cC cO M9)) ⟨hx, hb, hml, hown, ht⟩ (c_X5_fault l D cI cC cO b5 M (xs (nI k + nI 1).toNatClampNeg) _ _ em) (cwv 1 ht wd_789 wd_6 wd_786 wd_787 wd_788 (by decide +kernel) rfl rfl ⟨Nat.le_of_ble_eq_true rfl, Nat.le_of_ble_eq_true rfl⟩) 5 0 rfl rfl rfl hK hP hD hS hA hN (pm_l _ _) (List.Perm.refl _) rfl hl.1 rfl (Nat.le_of_ble_eq_true rfl) dL_law_788 ⟨Nat.le_of_ble_eq_true rfl, Nat.le_of_ble_eq_true rfl⟩ (fun H locs hP hD hS => ?_)
      refine lv_icmp_eq (tgt := 809) hx hb dL_law_791 (by decide) (fun _ => ?_) (fun c2 => absurd rfl c2)
      exact tail _ _ _ _ _ _ _ _ _ h5 hI _ _ ls hP hD hS hl
    by_cases c32 : v9 = (22 : Int32)
    · refine lv_tableIn (off := 764) (tgt := 796) hx hb dL_law_32 (by rw [c32]; decide) (by rw [c32]; decide) (by rw [c32]; rfl) (by decide) ?_
      obtain ⟨r9, L9, K9, P9, Hs9, T9, R9, M9, ex, em, hI⟩ := st_play hI
      refine lv_aload_n hx hb dL_law_796 rfl (lv_at hl 2 rfl) ?_
      refine cp_Vi (ws' := (wX4 o a g ga f n t r cI cC cO L9 K9 P9 Hs9 S N T9 R9 ++ wX5 b5 cI cC cO M)) ⟨hx, hb, hml, hown, ht⟩ (c_X4_play l D cI cC cO o a g ga f n t r L K P Hs S N T R _ _ ex) (cwv 0 ht wd_524 wd_1 wd_521 wd_522 wd_523 (by decide +kernel) rfl rfl ⟨Nat.le_of_ble_eq_true rfl, Nat.le_of_ble_eq_true rfl⟩) 4 0 rfl rfl rfl hK hP hD hS hA hN (List.Perm.refl _) (pm_l _ _) rfl hl.1 rfl (Nat.le_of_ble_eq_true rfl) dL_law_797 ⟨Nat.le_of_ble_eq_true rfl, Nat.le_of_ble_eq_true rfl⟩ (fun H locs hP hD hS => ?_)
      refine lv_aload_n hx hb dL_law_800 rfl (lv_at hl 1 rfl) ?_
      refine cp_Vi (ws' := (wX4 o a g ga f n t r cI cC cO L9 K9 P9 Hs9 S N T9 R9 ++ wX5 b5 cI cC cO M9)) ⟨hx, hb, hml, hown, ht⟩ (c_X5_play l D cI cC cO b5 M _ _ em) (cwv 0 ht wd_821 wd_6 wd_818 wd_819 wd_820 (by decide +kernel) rfl rfl ⟨Nat.le_of_ble_eq_true rfl, Nat.le_of_ble_eq_true rfl⟩) 5 0 rfl rfl rfl hK hP hD hS hA hN (pm_l _ _) (List.Perm.refl _) rfl hl.1 rfl (Nat.le_of_ble_eq_true rfl) dL_law_801 ⟨Nat.le_of_ble_eq_true rfl, Nat.le_of_ble_eq_true rfl⟩ (fun H locs hP hD hS => ?_)
      refine lv_icmp_eq (tgt := 809) hx hb dL_law_804 (by decide) (fun _ => ?_) (fun c2 => absurd rfl c2)
      exact tail _ _ _ _ _ _ _ _ _ h5 hI _ _ ls hP hD hS hl
    refine lv_tableOut (tgt := 809) hx hb dL_law_32 (sw_out (x := v9) (n := 23) (by decide) (fun k hk => match k, hk with | 0, _ => c10 | 1, _ => c11 | 2, _ => c12 | 3, _ => c13 | 4, _ => c14 | 5, _ => c15 | 6, _ => c16 | 7, _ => c17 | 8, _ => c18 | 9, _ => c19 | 10, _ => c20 | 11, _ => c21 | 12, _ => c22 | 13, _ => c23 | 14, _ => c24 | 15, _ => c25 | 16, _ => c26 | 17, _ => c27 | 18, _ => c28 | 19, _ => c29 | 20, _ => c30 | 21, _ => c31 | 22, _ => c32 | k + 23, hk => absurd hk (by omega))) (by decide) ?_
    exact tail _ _ _ _ _ _ _ _ _ h5 hI _ _ ls hP hD hS hl
