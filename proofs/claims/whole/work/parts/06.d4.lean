theorem d_L_law_0 : decode code 0 = .ok (.new 7, 3) := by decide +kernel
theorem d_L_law_3 : decode code 3 = .ok (.dup, 1) := by decide +kernel
theorem d_L_law_4 : decode code 4 = .ok (.invokespecial 9, 3) := by decide +kernel
theorem d_L_law_7 : decode code 7 = .ok (.astore_n 1, 1) := by decide +kernel
theorem d_L_law_8 : decode code 8 = .ok (.new 10, 3) := by decide +kernel
theorem d_L_law_11 : decode code 11 = .ok (.dup, 1) := by decide +kernel
theorem d_L_law_12 : decode code 12 = .ok (.invokespecial 12, 3) := by decide +kernel
theorem d_L_law_15 : decode code 15 = .ok (.astore_n 2, 1) := by decide +kernel
theorem d_L_law_16 : decode code 16 = .ok (.iconst 0, 1) := by decide +kernel
theorem d_L_law_17 : decode code 17 = .ok (.istore_n 3, 1) := by decide +kernel
theorem d_L_law_18 : decode code 18 = .ok (.iload_n 3, 1) := by decide +kernel
theorem d_L_law_19 : decode code 19 = .ok (.aload_n 0, 1) := by decide +kernel
theorem d_L_law_20 : decode code 20 = .ok (.arraylength, 1) := by decide +kernel
theorem d_L_law_21 : decode code 21 = .ok (.iconst 4, 1) := by decide +kernel
theorem d_L_law_22 : decode code 22 = .ok (.isub, 1) := by decide +kernel
theorem d_L_law_23 : decode code 23 = .ok (.if_icmp .gt 600, 3) := by decide +kernel
theorem d_L_law_26 : decode code 26 = .ok (.aload_n 0, 1) := by decide +kernel
theorem d_L_law_27 : decode code 27 = .ok (.iload_n 3, 1) := by decide +kernel
theorem d_L_law_28 : decode code 28 = .ok (.iaload, 1) := by decide +kernel
theorem d_L_law_29 : decode code 29 = .ok (.bipush 31, 2) := by decide +kernel
theorem d_L_law_31 : decode code 31 = .ok (.iand, 1) := by decide +kernel
theorem d_L_law_32 : decode code 32 = .ok (.tableswitch 585 0 16 #[84, 117, 160, 203, 236, 259, 292, 315, 348, 381, 414, 437, 460, 483, 506, 529, 562], 84) := by decide +kernel
theorem d_L_law_116 : decode code 116 = .ok (.aload_n 1, 1) := by decide +kernel
theorem d_L_law_117 : decode code 117 = .ok (.aload_n 0, 1) := by decide +kernel
theorem d_L_law_118 : decode code 118 = .ok (.iload_n 3, 1) := by decide +kernel
theorem d_L_law_119 : decode code 119 = .ok (.iconst 1, 1) := by decide +kernel
theorem d_L_law_120 : decode code 120 = .ok (.iadd, 1) := by decide +kernel
theorem d_L_law_121 : decode code 121 = .ok (.iaload, 1) := by decide +kernel
theorem d_L_law_122 : decode code 122 = .ok (.aload_n 0, 1) := by decide +kernel
theorem d_L_law_123 : decode code 123 = .ok (.iload_n 3, 1) := by decide +kernel
theorem d_L_law_124 : decode code 124 = .ok (.iconst 2, 1) := by decide +kernel
theorem d_L_law_125 : decode code 125 = .ok (.iadd, 1) := by decide +kernel
theorem d_L_law_126 : decode code 126 = .ok (.iaload, 1) := by decide +kernel
theorem d_L_law_127 : decode code 127 = .ok (.invokevirtual 13, 3) := by decide +kernel
theorem d_L_law_130 : decode code 130 = .ok (.aload_n 2, 1) := by decide +kernel
theorem d_L_law_131 : decode code 131 = .ok (.aload_n 0, 1) := by decide +kernel
theorem d_L_law_132 : decode code 132 = .ok (.iload_n 3, 1) := by decide +kernel
theorem d_L_law_133 : decode code 133 = .ok (.iconst 1, 1) := by decide +kernel
theorem d_L_law_134 : decode code 134 = .ok (.iadd, 1) := by decide +kernel
theorem d_L_law_135 : decode code 135 = .ok (.iaload, 1) := by decide +kernel
theorem d_L_law_136 : decode code 136 = .ok (.aload_n 0, 1) := by decide +kernel
theorem d_L_law_137 : decode code 137 = .ok (.iload_n 3, 1) := by decide +kernel
theorem d_L_law_138 : decode code 138 = .ok (.iconst 2, 1) := by decide +kernel
theorem d_L_law_139 : decode code 139 = .ok (.iadd, 1) := by decide +kernel
theorem d_L_law_140 : decode code 140 = .ok (.iaload, 1) := by decide +kernel
theorem d_L_law_141 : decode code 141 = .ok (.invokevirtual 17, 3) := by decide +kernel
theorem d_L_law_144 : decode code 144 = .ok (.if_icmp .eq 473, 3) := by decide +kernel
theorem d_L_law_147 : decode code 147 = .ok (.iconst 0, 1) := by decide +kernel
theorem d_L_law_148 : decode code 148 = .ok (.ireturn, 1) := by decide +kernel
theorem d_L_law_149 : decode code 149 = .ok (.aload_n 1, 1) := by decide +kernel
theorem d_L_law_150 : decode code 150 = .ok (.aload_n 0, 1) := by decide +kernel
theorem d_L_law_151 : decode code 151 = .ok (.iload_n 3, 1) := by decide +kernel
theorem d_L_law_152 : decode code 152 = .ok (.iconst 1, 1) := by decide +kernel
theorem d_L_law_153 : decode code 153 = .ok (.iadd, 1) := by decide +kernel
theorem d_L_law_154 : decode code 154 = .ok (.iaload, 1) := by decide +kernel
theorem d_L_law_155 : decode code 155 = .ok (.aload_n 0, 1) := by decide +kernel
theorem d_L_law_156 : decode code 156 = .ok (.iload_n 3, 1) := by decide +kernel
theorem d_L_law_157 : decode code 157 = .ok (.iconst 2, 1) := by decide +kernel
theorem d_L_law_158 : decode code 158 = .ok (.iadd, 1) := by decide +kernel
theorem d_L_law_159 : decode code 159 = .ok (.iaload, 1) := by decide +kernel
theorem d_L_law_160 : decode code 160 = .ok (.aload_n 0, 1) := by decide +kernel
theorem d_L_law_161 : decode code 161 = .ok (.iload_n 3, 1) := by decide +kernel
theorem d_L_law_162 : decode code 162 = .ok (.iconst 3, 1) := by decide +kernel
theorem d_L_law_163 : decode code 163 = .ok (.iadd, 1) := by decide +kernel
theorem d_L_law_164 : decode code 164 = .ok (.iaload, 1) := by decide +kernel
theorem d_L_law_165 : decode code 165 = .ok (.invokevirtual 18, 3) := by decide +kernel
theorem d_L_law_168 : decode code 168 = .ok (.aload_n 2, 1) := by decide +kernel
theorem d_L_law_169 : decode code 169 = .ok (.aload_n 0, 1) := by decide +kernel
theorem d_L_law_170 : decode code 170 = .ok (.iload_n 3, 1) := by decide +kernel
theorem d_L_law_171 : decode code 171 = .ok (.iconst 1, 1) := by decide +kernel
theorem d_L_law_172 : decode code 172 = .ok (.iadd, 1) := by decide +kernel
theorem d_L_law_173 : decode code 173 = .ok (.iaload, 1) := by decide +kernel
theorem d_L_law_174 : decode code 174 = .ok (.aload_n 0, 1) := by decide +kernel
theorem d_L_law_175 : decode code 175 = .ok (.iload_n 3, 1) := by decide +kernel
theorem d_L_law_176 : decode code 176 = .ok (.iconst 2, 1) := by decide +kernel
theorem d_L_law_177 : decode code 177 = .ok (.iadd, 1) := by decide +kernel
theorem d_L_law_178 : decode code 178 = .ok (.iaload, 1) := by decide +kernel
theorem d_L_law_179 : decode code 179 = .ok (.aload_n 0, 1) := by decide +kernel
theorem d_L_law_180 : decode code 180 = .ok (.iload_n 3, 1) := by decide +kernel
theorem d_L_law_181 : decode code 181 = .ok (.iconst 3, 1) := by decide +kernel
theorem d_L_law_182 : decode code 182 = .ok (.iadd, 1) := by decide +kernel
theorem d_L_law_183 : decode code 183 = .ok (.iaload, 1) := by decide +kernel
theorem d_L_law_184 : decode code 184 = .ok (.invokevirtual 22, 3) := by decide +kernel
theorem d_L_law_187 : decode code 187 = .ok (.if_icmp .eq 430, 3) := by decide +kernel
theorem d_L_law_190 : decode code 190 = .ok (.iconst 0, 1) := by decide +kernel
theorem d_L_law_191 : decode code 191 = .ok (.ireturn, 1) := by decide +kernel
theorem d_L_law_192 : decode code 192 = .ok (.aload_n 1, 1) := by decide +kernel
theorem d_L_law_193 : decode code 193 = .ok (.aload_n 0, 1) := by decide +kernel
theorem d_L_law_194 : decode code 194 = .ok (.iload_n 3, 1) := by decide +kernel
theorem d_L_law_195 : decode code 195 = .ok (.iconst 1, 1) := by decide +kernel
theorem d_L_law_196 : decode code 196 = .ok (.iadd, 1) := by decide +kernel
theorem d_L_law_197 : decode code 197 = .ok (.iaload, 1) := by decide +kernel
theorem d_L_law_198 : decode code 198 = .ok (.aload_n 0, 1) := by decide +kernel
theorem d_L_law_199 : decode code 199 = .ok (.iload_n 3, 1) := by decide +kernel
theorem d_L_law_200 : decode code 200 = .ok (.iconst 2, 1) := by decide +kernel
theorem d_L_law_201 : decode code 201 = .ok (.iadd, 1) := by decide +kernel
theorem d_L_law_202 : decode code 202 = .ok (.iaload, 1) := by decide +kernel
theorem d_L_law_203 : decode code 203 = .ok (.aload_n 0, 1) := by decide +kernel
theorem d_L_law_204 : decode code 204 = .ok (.iload_n 3, 1) := by decide +kernel
theorem d_L_law_205 : decode code 205 = .ok (.iconst 3, 1) := by decide +kernel
theorem d_L_law_206 : decode code 206 = .ok (.iadd, 1) := by decide +kernel
theorem d_L_law_207 : decode code 207 = .ok (.iaload, 1) := by decide +kernel
theorem d_L_law_208 : decode code 208 = .ok (.invokevirtual 23, 3) := by decide +kernel
theorem d_L_law_211 : decode code 211 = .ok (.aload_n 2, 1) := by decide +kernel
theorem d_L_law_212 : decode code 212 = .ok (.aload_n 0, 1) := by decide +kernel
theorem d_L_law_213 : decode code 213 = .ok (.iload_n 3, 1) := by decide +kernel
theorem d_L_law_214 : decode code 214 = .ok (.iconst 1, 1) := by decide +kernel
theorem d_L_law_215 : decode code 215 = .ok (.iadd, 1) := by decide +kernel
theorem d_L_law_216 : decode code 216 = .ok (.iaload, 1) := by decide +kernel
theorem d_L_law_217 : decode code 217 = .ok (.aload_n 0, 1) := by decide +kernel
theorem d_L_law_218 : decode code 218 = .ok (.iload_n 3, 1) := by decide +kernel
theorem d_L_law_219 : decode code 219 = .ok (.iconst 2, 1) := by decide +kernel
theorem d_L_law_220 : decode code 220 = .ok (.iadd, 1) := by decide +kernel
theorem d_L_law_221 : decode code 221 = .ok (.iaload, 1) := by decide +kernel
theorem d_L_law_222 : decode code 222 = .ok (.aload_n 0, 1) := by decide +kernel
theorem d_L_law_223 : decode code 223 = .ok (.iload_n 3, 1) := by decide +kernel
theorem d_L_law_224 : decode code 224 = .ok (.iconst 3, 1) := by decide +kernel
theorem d_L_law_225 : decode code 225 = .ok (.iadd, 1) := by decide +kernel
theorem d_L_law_226 : decode code 226 = .ok (.iaload, 1) := by decide +kernel
theorem d_L_law_227 : decode code 227 = .ok (.invokevirtual 26, 3) := by decide +kernel
theorem d_L_law_230 : decode code 230 = .ok (.if_icmp .eq 387, 3) := by decide +kernel
theorem d_L_law_233 : decode code 233 = .ok (.iconst 0, 1) := by decide +kernel
theorem d_L_law_234 : decode code 234 = .ok (.ireturn, 1) := by decide +kernel
theorem d_L_law_235 : decode code 235 = .ok (.aload_n 1, 1) := by decide +kernel
theorem d_L_law_236 : decode code 236 = .ok (.aload_n 0, 1) := by decide +kernel
theorem d_L_law_237 : decode code 237 = .ok (.iload_n 3, 1) := by decide +kernel
theorem d_L_law_238 : decode code 238 = .ok (.iconst 1, 1) := by decide +kernel
theorem d_L_law_239 : decode code 239 = .ok (.iadd, 1) := by decide +kernel
theorem d_L_law_240 : decode code 240 = .ok (.iaload, 1) := by decide +kernel
theorem d_L_law_241 : decode code 241 = .ok (.aload_n 0, 1) := by decide +kernel
theorem d_L_law_242 : decode code 242 = .ok (.iload_n 3, 1) := by decide +kernel
theorem d_L_law_243 : decode code 243 = .ok (.iconst 2, 1) := by decide +kernel
theorem d_L_law_244 : decode code 244 = .ok (.iadd, 1) := by decide +kernel
theorem d_L_law_245 : decode code 245 = .ok (.iaload, 1) := by decide +kernel
theorem d_L_law_246 : decode code 246 = .ok (.invokevirtual 27, 3) := by decide +kernel
theorem d_L_law_249 : decode code 249 = .ok (.aload_n 2, 1) := by decide +kernel
theorem d_L_law_250 : decode code 250 = .ok (.aload_n 0, 1) := by decide +kernel
theorem d_L_law_251 : decode code 251 = .ok (.iload_n 3, 1) := by decide +kernel
theorem d_L_law_252 : decode code 252 = .ok (.iconst 1, 1) := by decide +kernel
theorem d_L_law_253 : decode code 253 = .ok (.iadd, 1) := by decide +kernel
theorem d_L_law_254 : decode code 254 = .ok (.iaload, 1) := by decide +kernel
theorem d_L_law_255 : decode code 255 = .ok (.aload_n 0, 1) := by decide +kernel
theorem d_L_law_256 : decode code 256 = .ok (.iload_n 3, 1) := by decide +kernel
theorem d_L_law_257 : decode code 257 = .ok (.iconst 2, 1) := by decide +kernel
theorem d_L_law_258 : decode code 258 = .ok (.iadd, 1) := by decide +kernel
theorem d_L_law_259 : decode code 259 = .ok (.iaload, 1) := by decide +kernel
theorem d_L_law_260 : decode code 260 = .ok (.invokevirtual 30, 3) := by decide +kernel
theorem d_L_law_263 : decode code 263 = .ok (.if_icmp .eq 354, 3) := by decide +kernel
theorem d_L_law_266 : decode code 266 = .ok (.iconst 0, 1) := by decide +kernel
theorem d_L_law_267 : decode code 267 = .ok (.ireturn, 1) := by decide +kernel
theorem d_L_law_268 : decode code 268 = .ok (.aload_n 1, 1) := by decide +kernel
theorem d_L_law_269 : decode code 269 = .ok (.aload_n 0, 1) := by decide +kernel
theorem d_L_law_270 : decode code 270 = .ok (.iload_n 3, 1) := by decide +kernel
theorem d_L_law_271 : decode code 271 = .ok (.iconst 1, 1) := by decide +kernel
theorem d_L_law_272 : decode code 272 = .ok (.iadd, 1) := by decide +kernel
theorem d_L_law_273 : decode code 273 = .ok (.iaload, 1) := by decide +kernel
theorem d_L_law_274 : decode code 274 = .ok (.invokevirtual 31, 3) := by decide +kernel
theorem d_L_law_277 : decode code 277 = .ok (.aload_n 2, 1) := by decide +kernel
theorem d_L_law_278 : decode code 278 = .ok (.aload_n 0, 1) := by decide +kernel
theorem d_L_law_279 : decode code 279 = .ok (.iload_n 3, 1) := by decide +kernel
theorem d_L_law_280 : decode code 280 = .ok (.iconst 1, 1) := by decide +kernel
theorem d_L_law_281 : decode code 281 = .ok (.iadd, 1) := by decide +kernel
theorem d_L_law_282 : decode code 282 = .ok (.iaload, 1) := by decide +kernel
theorem d_L_law_283 : decode code 283 = .ok (.invokevirtual 35, 3) := by decide +kernel
theorem d_L_law_286 : decode code 286 = .ok (.if_icmp .eq 331, 3) := by decide +kernel
theorem d_L_law_289 : decode code 289 = .ok (.iconst 0, 1) := by decide +kernel
theorem d_L_law_290 : decode code 290 = .ok (.ireturn, 1) := by decide +kernel
theorem d_L_law_291 : decode code 291 = .ok (.aload_n 1, 1) := by decide +kernel
theorem d_L_law_292 : decode code 292 = .ok (.aload_n 0, 1) := by decide +kernel
theorem d_L_law_293 : decode code 293 = .ok (.iload_n 3, 1) := by decide +kernel
theorem d_L_law_294 : decode code 294 = .ok (.iconst 1, 1) := by decide +kernel
theorem d_L_law_295 : decode code 295 = .ok (.iadd, 1) := by decide +kernel
theorem d_L_law_296 : decode code 296 = .ok (.iaload, 1) := by decide +kernel
theorem d_L_law_297 : decode code 297 = .ok (.aload_n 0, 1) := by decide +kernel
theorem d_L_law_298 : decode code 298 = .ok (.iload_n 3, 1) := by decide +kernel
theorem d_L_law_299 : decode code 299 = .ok (.iconst 2, 1) := by decide +kernel
theorem d_L_law_300 : decode code 300 = .ok (.iadd, 1) := by decide +kernel
theorem d_L_law_301 : decode code 301 = .ok (.iaload, 1) := by decide +kernel
theorem d_L_law_302 : decode code 302 = .ok (.invokevirtual 36, 3) := by decide +kernel
theorem d_L_law_305 : decode code 305 = .ok (.aload_n 2, 1) := by decide +kernel
theorem d_L_law_306 : decode code 306 = .ok (.aload_n 0, 1) := by decide +kernel
theorem d_L_law_307 : decode code 307 = .ok (.iload_n 3, 1) := by decide +kernel
theorem d_L_law_308 : decode code 308 = .ok (.iconst 1, 1) := by decide +kernel
theorem d_L_law_309 : decode code 309 = .ok (.iadd, 1) := by decide +kernel
theorem d_L_law_310 : decode code 310 = .ok (.iaload, 1) := by decide +kernel
theorem d_L_law_311 : decode code 311 = .ok (.aload_n 0, 1) := by decide +kernel
theorem d_L_law_312 : decode code 312 = .ok (.iload_n 3, 1) := by decide +kernel
theorem d_L_law_313 : decode code 313 = .ok (.iconst 2, 1) := by decide +kernel
theorem d_L_law_314 : decode code 314 = .ok (.iadd, 1) := by decide +kernel
theorem d_L_law_315 : decode code 315 = .ok (.iaload, 1) := by decide +kernel
theorem d_L_law_316 : decode code 316 = .ok (.invokevirtual 39, 3) := by decide +kernel
theorem d_L_law_319 : decode code 319 = .ok (.if_icmp .eq 298, 3) := by decide +kernel
theorem d_L_law_322 : decode code 322 = .ok (.iconst 0, 1) := by decide +kernel
theorem d_L_law_323 : decode code 323 = .ok (.ireturn, 1) := by decide +kernel
theorem d_L_law_324 : decode code 324 = .ok (.aload_n 1, 1) := by decide +kernel
theorem d_L_law_325 : decode code 325 = .ok (.aload_n 0, 1) := by decide +kernel
theorem d_L_law_326 : decode code 326 = .ok (.iload_n 3, 1) := by decide +kernel
theorem d_L_law_327 : decode code 327 = .ok (.iconst 1, 1) := by decide +kernel
theorem d_L_law_328 : decode code 328 = .ok (.iadd, 1) := by decide +kernel
theorem d_L_law_329 : decode code 329 = .ok (.iaload, 1) := by decide +kernel
theorem d_L_law_330 : decode code 330 = .ok (.invokevirtual 40, 3) := by decide +kernel
theorem d_L_law_333 : decode code 333 = .ok (.aload_n 2, 1) := by decide +kernel
theorem d_L_law_334 : decode code 334 = .ok (.aload_n 0, 1) := by decide +kernel
theorem d_L_law_335 : decode code 335 = .ok (.iload_n 3, 1) := by decide +kernel
theorem d_L_law_336 : decode code 336 = .ok (.iconst 1, 1) := by decide +kernel
theorem d_L_law_337 : decode code 337 = .ok (.iadd, 1) := by decide +kernel
theorem d_L_law_338 : decode code 338 = .ok (.iaload, 1) := by decide +kernel
theorem d_L_law_339 : decode code 339 = .ok (.invokevirtual 43, 3) := by decide +kernel
theorem d_L_law_342 : decode code 342 = .ok (.if_icmp .eq 275, 3) := by decide +kernel
theorem d_L_law_345 : decode code 345 = .ok (.iconst 0, 1) := by decide +kernel
theorem d_L_law_346 : decode code 346 = .ok (.ireturn, 1) := by decide +kernel
theorem d_L_law_347 : decode code 347 = .ok (.aload_n 1, 1) := by decide +kernel
theorem d_L_law_348 : decode code 348 = .ok (.aload_n 0, 1) := by decide +kernel
theorem d_L_law_349 : decode code 349 = .ok (.iload_n 3, 1) := by decide +kernel
theorem d_L_law_350 : decode code 350 = .ok (.iconst 1, 1) := by decide +kernel
theorem d_L_law_351 : decode code 351 = .ok (.iadd, 1) := by decide +kernel
theorem d_L_law_352 : decode code 352 = .ok (.iaload, 1) := by decide +kernel
theorem d_L_law_353 : decode code 353 = .ok (.aload_n 0, 1) := by decide +kernel
theorem d_L_law_354 : decode code 354 = .ok (.iload_n 3, 1) := by decide +kernel
theorem d_L_law_355 : decode code 355 = .ok (.iconst 2, 1) := by decide +kernel
theorem d_L_law_356 : decode code 356 = .ok (.iadd, 1) := by decide +kernel
theorem d_L_law_357 : decode code 357 = .ok (.iaload, 1) := by decide +kernel
theorem d_L_law_358 : decode code 358 = .ok (.invokevirtual 44, 3) := by decide +kernel
theorem d_L_law_361 : decode code 361 = .ok (.aload_n 2, 1) := by decide +kernel
theorem d_L_law_362 : decode code 362 = .ok (.aload_n 0, 1) := by decide +kernel
theorem d_L_law_363 : decode code 363 = .ok (.iload_n 3, 1) := by decide +kernel
theorem d_L_law_364 : decode code 364 = .ok (.iconst 1, 1) := by decide +kernel
theorem d_L_law_365 : decode code 365 = .ok (.iadd, 1) := by decide +kernel
theorem d_L_law_366 : decode code 366 = .ok (.iaload, 1) := by decide +kernel
theorem d_L_law_367 : decode code 367 = .ok (.aload_n 0, 1) := by decide +kernel
theorem d_L_law_368 : decode code 368 = .ok (.iload_n 3, 1) := by decide +kernel
theorem d_L_law_369 : decode code 369 = .ok (.iconst 2, 1) := by decide +kernel
theorem d_L_law_370 : decode code 370 = .ok (.iadd, 1) := by decide +kernel
theorem d_L_law_371 : decode code 371 = .ok (.iaload, 1) := by decide +kernel
theorem d_L_law_372 : decode code 372 = .ok (.invokevirtual 47, 3) := by decide +kernel
theorem d_L_law_375 : decode code 375 = .ok (.if_icmp .eq 242, 3) := by decide +kernel
theorem d_L_law_378 : decode code 378 = .ok (.iconst 0, 1) := by decide +kernel
theorem d_L_law_379 : decode code 379 = .ok (.ireturn, 1) := by decide +kernel
theorem d_L_law_380 : decode code 380 = .ok (.aload_n 1, 1) := by decide +kernel
theorem d_L_law_381 : decode code 381 = .ok (.aload_n 0, 1) := by decide +kernel
theorem d_L_law_382 : decode code 382 = .ok (.iload_n 3, 1) := by decide +kernel
theorem d_L_law_383 : decode code 383 = .ok (.iconst 1, 1) := by decide +kernel
theorem d_L_law_384 : decode code 384 = .ok (.iadd, 1) := by decide +kernel
theorem d_L_law_385 : decode code 385 = .ok (.iaload, 1) := by decide +kernel
theorem d_L_law_386 : decode code 386 = .ok (.aload_n 0, 1) := by decide +kernel
theorem d_L_law_387 : decode code 387 = .ok (.iload_n 3, 1) := by decide +kernel
theorem d_L_law_388 : decode code 388 = .ok (.iconst 2, 1) := by decide +kernel
theorem d_L_law_389 : decode code 389 = .ok (.iadd, 1) := by decide +kernel
theorem d_L_law_390 : decode code 390 = .ok (.iaload, 1) := by decide +kernel
theorem d_L_law_391 : decode code 391 = .ok (.invokevirtual 48, 3) := by decide +kernel
theorem d_L_law_394 : decode code 394 = .ok (.aload_n 2, 1) := by decide +kernel
theorem d_L_law_395 : decode code 395 = .ok (.aload_n 0, 1) := by decide +kernel
theorem d_L_law_396 : decode code 396 = .ok (.iload_n 3, 1) := by decide +kernel
theorem d_L_law_397 : decode code 397 = .ok (.iconst 1, 1) := by decide +kernel
theorem d_L_law_398 : decode code 398 = .ok (.iadd, 1) := by decide +kernel
theorem d_L_law_399 : decode code 399 = .ok (.iaload, 1) := by decide +kernel
theorem d_L_law_400 : decode code 400 = .ok (.aload_n 0, 1) := by decide +kernel
theorem d_L_law_401 : decode code 401 = .ok (.iload_n 3, 1) := by decide +kernel
theorem d_L_law_402 : decode code 402 = .ok (.iconst 2, 1) := by decide +kernel
theorem d_L_law_403 : decode code 403 = .ok (.iadd, 1) := by decide +kernel
theorem d_L_law_404 : decode code 404 = .ok (.iaload, 1) := by decide +kernel
theorem d_L_law_405 : decode code 405 = .ok (.invokevirtual 51, 3) := by decide +kernel
theorem d_L_law_408 : decode code 408 = .ok (.if_icmp .eq 209, 3) := by decide +kernel
theorem d_L_law_411 : decode code 411 = .ok (.iconst 0, 1) := by decide +kernel
theorem d_L_law_412 : decode code 412 = .ok (.ireturn, 1) := by decide +kernel
theorem d_L_law_413 : decode code 413 = .ok (.aload_n 1, 1) := by decide +kernel
theorem d_L_law_414 : decode code 414 = .ok (.aload_n 0, 1) := by decide +kernel
theorem d_L_law_415 : decode code 415 = .ok (.iload_n 3, 1) := by decide +kernel
theorem d_L_law_416 : decode code 416 = .ok (.iconst 1, 1) := by decide +kernel
theorem d_L_law_417 : decode code 417 = .ok (.iadd, 1) := by decide +kernel
theorem d_L_law_418 : decode code 418 = .ok (.iaload, 1) := by decide +kernel
theorem d_L_law_419 : decode code 419 = .ok (.aload_n 0, 1) := by decide +kernel
theorem d_L_law_420 : decode code 420 = .ok (.iload_n 3, 1) := by decide +kernel
theorem d_L_law_421 : decode code 421 = .ok (.iconst 2, 1) := by decide +kernel
theorem d_L_law_422 : decode code 422 = .ok (.iadd, 1) := by decide +kernel
theorem d_L_law_423 : decode code 423 = .ok (.iaload, 1) := by decide +kernel
theorem d_L_law_424 : decode code 424 = .ok (.invokevirtual 52, 3) := by decide +kernel
theorem d_L_law_427 : decode code 427 = .ok (.aload_n 2, 1) := by decide +kernel
theorem d_L_law_428 : decode code 428 = .ok (.aload_n 0, 1) := by decide +kernel
theorem d_L_law_429 : decode code 429 = .ok (.iload_n 3, 1) := by decide +kernel
theorem d_L_law_430 : decode code 430 = .ok (.iconst 1, 1) := by decide +kernel
theorem d_L_law_431 : decode code 431 = .ok (.iadd, 1) := by decide +kernel
theorem d_L_law_432 : decode code 432 = .ok (.iaload, 1) := by decide +kernel
theorem d_L_law_433 : decode code 433 = .ok (.aload_n 0, 1) := by decide +kernel
theorem d_L_law_434 : decode code 434 = .ok (.iload_n 3, 1) := by decide +kernel
theorem d_L_law_435 : decode code 435 = .ok (.iconst 2, 1) := by decide +kernel
theorem d_L_law_436 : decode code 436 = .ok (.iadd, 1) := by decide +kernel
theorem d_L_law_437 : decode code 437 = .ok (.iaload, 1) := by decide +kernel
theorem d_L_law_438 : decode code 438 = .ok (.invokevirtual 55, 3) := by decide +kernel
theorem d_L_law_441 : decode code 441 = .ok (.if_icmp .eq 176, 3) := by decide +kernel
theorem d_L_law_444 : decode code 444 = .ok (.iconst 0, 1) := by decide +kernel
theorem d_L_law_445 : decode code 445 = .ok (.ireturn, 1) := by decide +kernel
theorem d_L_law_446 : decode code 446 = .ok (.aload_n 1, 1) := by decide +kernel
theorem d_L_law_447 : decode code 447 = .ok (.aload_n 0, 1) := by decide +kernel
theorem d_L_law_448 : decode code 448 = .ok (.iload_n 3, 1) := by decide +kernel
theorem d_L_law_449 : decode code 449 = .ok (.iconst 1, 1) := by decide +kernel
theorem d_L_law_450 : decode code 450 = .ok (.iadd, 1) := by decide +kernel
theorem d_L_law_451 : decode code 451 = .ok (.iaload, 1) := by decide +kernel
theorem d_L_law_452 : decode code 452 = .ok (.invokevirtual 56, 3) := by decide +kernel
theorem d_L_law_455 : decode code 455 = .ok (.aload_n 2, 1) := by decide +kernel
theorem d_L_law_456 : decode code 456 = .ok (.aload_n 0, 1) := by decide +kernel
theorem d_L_law_457 : decode code 457 = .ok (.iload_n 3, 1) := by decide +kernel
theorem d_L_law_458 : decode code 458 = .ok (.iconst 1, 1) := by decide +kernel
theorem d_L_law_459 : decode code 459 = .ok (.iadd, 1) := by decide +kernel
theorem d_L_law_460 : decode code 460 = .ok (.iaload, 1) := by decide +kernel
theorem d_L_law_461 : decode code 461 = .ok (.invokevirtual 59, 3) := by decide +kernel
theorem d_L_law_464 : decode code 464 = .ok (.if_icmp .eq 153, 3) := by decide +kernel
theorem d_L_law_467 : decode code 467 = .ok (.iconst 0, 1) := by decide +kernel
theorem d_L_law_468 : decode code 468 = .ok (.ireturn, 1) := by decide +kernel
theorem d_L_law_469 : decode code 469 = .ok (.aload_n 1, 1) := by decide +kernel
theorem d_L_law_470 : decode code 470 = .ok (.aload_n 0, 1) := by decide +kernel
theorem d_L_law_471 : decode code 471 = .ok (.iload_n 3, 1) := by decide +kernel
theorem d_L_law_472 : decode code 472 = .ok (.iconst 1, 1) := by decide +kernel
theorem d_L_law_473 : decode code 473 = .ok (.iadd, 1) := by decide +kernel
theorem d_L_law_474 : decode code 474 = .ok (.iaload, 1) := by decide +kernel
theorem d_L_law_475 : decode code 475 = .ok (.invokevirtual 60, 3) := by decide +kernel
theorem d_L_law_478 : decode code 478 = .ok (.aload_n 2, 1) := by decide +kernel
theorem d_L_law_479 : decode code 479 = .ok (.aload_n 0, 1) := by decide +kernel
theorem d_L_law_480 : decode code 480 = .ok (.iload_n 3, 1) := by decide +kernel
theorem d_L_law_481 : decode code 481 = .ok (.iconst 1, 1) := by decide +kernel
theorem d_L_law_482 : decode code 482 = .ok (.iadd, 1) := by decide +kernel
theorem d_L_law_483 : decode code 483 = .ok (.iaload, 1) := by decide +kernel
theorem d_L_law_484 : decode code 484 = .ok (.invokevirtual 63, 3) := by decide +kernel
theorem d_L_law_487 : decode code 487 = .ok (.if_icmp .eq 130, 3) := by decide +kernel
theorem d_L_law_490 : decode code 490 = .ok (.iconst 0, 1) := by decide +kernel
theorem d_L_law_491 : decode code 491 = .ok (.ireturn, 1) := by decide +kernel
theorem d_L_law_492 : decode code 492 = .ok (.aload_n 1, 1) := by decide +kernel
theorem d_L_law_493 : decode code 493 = .ok (.aload_n 0, 1) := by decide +kernel
theorem d_L_law_494 : decode code 494 = .ok (.iload_n 3, 1) := by decide +kernel
theorem d_L_law_495 : decode code 495 = .ok (.iconst 1, 1) := by decide +kernel
theorem d_L_law_496 : decode code 496 = .ok (.iadd, 1) := by decide +kernel
theorem d_L_law_497 : decode code 497 = .ok (.iaload, 1) := by decide +kernel
theorem d_L_law_498 : decode code 498 = .ok (.invokevirtual 64, 3) := by decide +kernel
theorem d_L_law_501 : decode code 501 = .ok (.aload_n 2, 1) := by decide +kernel
theorem d_L_law_502 : decode code 502 = .ok (.aload_n 0, 1) := by decide +kernel
theorem d_L_law_503 : decode code 503 = .ok (.iload_n 3, 1) := by decide +kernel
theorem d_L_law_504 : decode code 504 = .ok (.iconst 1, 1) := by decide +kernel
theorem d_L_law_505 : decode code 505 = .ok (.iadd, 1) := by decide +kernel
theorem d_L_law_506 : decode code 506 = .ok (.iaload, 1) := by decide +kernel
theorem d_L_law_507 : decode code 507 = .ok (.invokevirtual 68, 3) := by decide +kernel
theorem d_L_law_510 : decode code 510 = .ok (.if_icmp .eq 107, 3) := by decide +kernel
theorem d_L_law_513 : decode code 513 = .ok (.iconst 0, 1) := by decide +kernel
theorem d_L_law_514 : decode code 514 = .ok (.ireturn, 1) := by decide +kernel
theorem d_L_law_515 : decode code 515 = .ok (.aload_n 1, 1) := by decide +kernel
theorem d_L_law_516 : decode code 516 = .ok (.aload_n 0, 1) := by decide +kernel
theorem d_L_law_517 : decode code 517 = .ok (.iload_n 3, 1) := by decide +kernel
theorem d_L_law_518 : decode code 518 = .ok (.iconst 1, 1) := by decide +kernel
theorem d_L_law_519 : decode code 519 = .ok (.iadd, 1) := by decide +kernel
theorem d_L_law_520 : decode code 520 = .ok (.iaload, 1) := by decide +kernel
theorem d_L_law_521 : decode code 521 = .ok (.invokevirtual 69, 3) := by decide +kernel
theorem d_L_law_524 : decode code 524 = .ok (.aload_n 2, 1) := by decide +kernel
theorem d_L_law_525 : decode code 525 = .ok (.aload_n 0, 1) := by decide +kernel
theorem d_L_law_526 : decode code 526 = .ok (.iload_n 3, 1) := by decide +kernel
theorem d_L_law_527 : decode code 527 = .ok (.iconst 1, 1) := by decide +kernel
theorem d_L_law_528 : decode code 528 = .ok (.iadd, 1) := by decide +kernel
theorem d_L_law_529 : decode code 529 = .ok (.iaload, 1) := by decide +kernel
theorem d_L_law_530 : decode code 530 = .ok (.invokevirtual 72, 3) := by decide +kernel
theorem d_L_law_533 : decode code 533 = .ok (.if_icmp .eq 84, 3) := by decide +kernel
theorem d_L_law_536 : decode code 536 = .ok (.iconst 0, 1) := by decide +kernel
theorem d_L_law_537 : decode code 537 = .ok (.ireturn, 1) := by decide +kernel
theorem d_L_law_538 : decode code 538 = .ok (.aload_n 1, 1) := by decide +kernel
theorem d_L_law_539 : decode code 539 = .ok (.aload_n 0, 1) := by decide +kernel
theorem d_L_law_540 : decode code 540 = .ok (.iload_n 3, 1) := by decide +kernel
theorem d_L_law_541 : decode code 541 = .ok (.iconst 1, 1) := by decide +kernel
theorem d_L_law_542 : decode code 542 = .ok (.iadd, 1) := by decide +kernel
theorem d_L_law_543 : decode code 543 = .ok (.iaload, 1) := by decide +kernel
theorem d_L_law_544 : decode code 544 = .ok (.invokevirtual 73, 3) := by decide +kernel
theorem d_L_law_547 : decode code 547 = .ok (.aload_n 2, 1) := by decide +kernel
theorem d_L_law_548 : decode code 548 = .ok (.aload_n 0, 1) := by decide +kernel
theorem d_L_law_549 : decode code 549 = .ok (.iload_n 3, 1) := by decide +kernel
theorem d_L_law_550 : decode code 550 = .ok (.iconst 1, 1) := by decide +kernel
theorem d_L_law_551 : decode code 551 = .ok (.iadd, 1) := by decide +kernel
theorem d_L_law_552 : decode code 552 = .ok (.iaload, 1) := by decide +kernel
theorem d_L_law_553 : decode code 553 = .ok (.invokevirtual 76, 3) := by decide +kernel
theorem d_L_law_556 : decode code 556 = .ok (.if_icmp .eq 61, 3) := by decide +kernel
theorem d_L_law_559 : decode code 559 = .ok (.iconst 0, 1) := by decide +kernel
theorem d_L_law_560 : decode code 560 = .ok (.ireturn, 1) := by decide +kernel
theorem d_L_law_561 : decode code 561 = .ok (.aload_n 1, 1) := by decide +kernel
theorem d_L_law_562 : decode code 562 = .ok (.aload_n 0, 1) := by decide +kernel
theorem d_L_law_563 : decode code 563 = .ok (.iload_n 3, 1) := by decide +kernel
theorem d_L_law_564 : decode code 564 = .ok (.iconst 1, 1) := by decide +kernel
theorem d_L_law_565 : decode code 565 = .ok (.iadd, 1) := by decide +kernel
theorem d_L_law_566 : decode code 566 = .ok (.iaload, 1) := by decide +kernel
theorem d_L_law_567 : decode code 567 = .ok (.aload_n 0, 1) := by decide +kernel
theorem d_L_law_568 : decode code 568 = .ok (.iload_n 3, 1) := by decide +kernel
theorem d_L_law_569 : decode code 569 = .ok (.iconst 2, 1) := by decide +kernel
theorem d_L_law_570 : decode code 570 = .ok (.iadd, 1) := by decide +kernel
theorem d_L_law_571 : decode code 571 = .ok (.iaload, 1) := by decide +kernel
theorem d_L_law_572 : decode code 572 = .ok (.invokevirtual 77, 3) := by decide +kernel
theorem d_L_law_575 : decode code 575 = .ok (.aload_n 2, 1) := by decide +kernel
theorem d_L_law_576 : decode code 576 = .ok (.aload_n 0, 1) := by decide +kernel
theorem d_L_law_577 : decode code 577 = .ok (.iload_n 3, 1) := by decide +kernel
theorem d_L_law_578 : decode code 578 = .ok (.iconst 1, 1) := by decide +kernel
theorem d_L_law_579 : decode code 579 = .ok (.iadd, 1) := by decide +kernel
theorem d_L_law_580 : decode code 580 = .ok (.iaload, 1) := by decide +kernel
theorem d_L_law_581 : decode code 581 = .ok (.aload_n 0, 1) := by decide +kernel
theorem d_L_law_582 : decode code 582 = .ok (.iload_n 3, 1) := by decide +kernel
theorem d_L_law_583 : decode code 583 = .ok (.iconst 2, 1) := by decide +kernel
theorem d_L_law_584 : decode code 584 = .ok (.iadd, 1) := by decide +kernel
theorem d_L_law_585 : decode code 585 = .ok (.iaload, 1) := by decide +kernel
theorem d_L_law_586 : decode code 586 = .ok (.invokevirtual 80, 3) := by decide +kernel
theorem d_L_law_589 : decode code 589 = .ok (.if_icmp .eq 28, 3) := by decide +kernel
theorem d_L_law_592 : decode code 592 = .ok (.iconst 0, 1) := by decide +kernel
theorem d_L_law_593 : decode code 593 = .ok (.ireturn, 1) := by decide +kernel
theorem d_L_law_594 : decode code 594 = .ok (.aload_n 1, 1) := by decide +kernel
theorem d_L_law_595 : decode code 595 = .ok (.aload_n 0, 1) := by decide +kernel
theorem d_L_law_596 : decode code 596 = .ok (.iload_n 3, 1) := by decide +kernel
theorem d_L_law_597 : decode code 597 = .ok (.iconst 1, 1) := by decide +kernel
theorem d_L_law_598 : decode code 598 = .ok (.iadd, 1) := by decide +kernel
theorem d_L_law_599 : decode code 599 = .ok (.iaload, 1) := by decide +kernel
theorem d_L_law_600 : decode code 600 = .ok (.invokevirtual 81, 3) := by decide +kernel
theorem d_L_law_603 : decode code 603 = .ok (.aload_n 2, 1) := by decide +kernel
theorem d_L_law_604 : decode code 604 = .ok (.aload_n 0, 1) := by decide +kernel
theorem d_L_law_605 : decode code 605 = .ok (.iload_n 3, 1) := by decide +kernel
theorem d_L_law_606 : decode code 606 = .ok (.iconst 1, 1) := by decide +kernel
theorem d_L_law_607 : decode code 607 = .ok (.iadd, 1) := by decide +kernel
theorem d_L_law_608 : decode code 608 = .ok (.iaload, 1) := by decide +kernel
theorem d_L_law_609 : decode code 609 = .ok (.invokevirtual 84, 3) := by decide +kernel
theorem d_L_law_612 : decode code 612 = .ok (.if_icmp .eq 5, 3) := by decide +kernel
theorem d_L_law_615 : decode code 615 = .ok (.iconst 0, 1) := by decide +kernel
theorem d_L_law_616 : decode code 616 = .ok (.ireturn, 1) := by decide +kernel
theorem d_L_law_617 : decode code 617 = .ok (.iinc 3 4, 3) := by decide +kernel
theorem d_L_law_620 : decode code 620 = .ok (.goto (-602), 3) := by decide +kernel
theorem d_L_law_623 : decode code 623 = .ok (.iconst 1, 1) := by decide +kernel
theorem d_L_law_624 : decode code 624 = .ok (.ireturn, 1) := by decide +kernel
