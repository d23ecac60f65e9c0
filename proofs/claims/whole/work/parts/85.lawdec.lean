theorem d_LW_cell_0 : decode b_LW_cell 0 = .ok (.iload_n 1, 1) := by decide +kernel
theorem d_LW_cell_1 : decode b_LW_cell 1 = .ok (.aload_n 0, 1) := by decide +kernel
theorem d_LW_cell_2 : decode b_LW_cell 2 = .ok (.arraylength, 1) := by decide +kernel
theorem d_LW_cell_3 : decode b_LW_cell 3 = .ok (.if_icmp .ge 9, 3) := by decide +kernel
theorem d_LW_cell_6 : decode b_LW_cell 6 = .ok (.aload_n 0, 1) := by decide +kernel
theorem d_LW_cell_7 : decode b_LW_cell 7 = .ok (.iload_n 1, 1) := by decide +kernel
theorem d_LW_cell_8 : decode b_LW_cell 8 = .ok (.iaload, 1) := by decide +kernel
theorem d_LW_cell_9 : decode b_LW_cell 9 = .ok (.goto 4, 3) := by decide +kernel
theorem d_LW_cell_12 : decode b_LW_cell 12 = .ok (.iconst 0, 1) := by decide +kernel
theorem d_LW_cell_13 : decode b_LW_cell 13 = .ok (.ireturn, 1) := by decide +kernel
theorem d_LW_law_0 : decode code 0 = .ok (.new 7, 3) := by decide +kernel
theorem d_LW_law_3 : decode code 3 = .ok (.dup, 1) := by decide +kernel
theorem d_LW_law_4 : decode code 4 = .ok (.aload_n 0, 1) := by decide +kernel
theorem d_LW_law_5 : decode code 5 = .ok (.iconst 0, 1) := by decide +kernel
theorem d_LW_law_6 : decode code 6 = .ok (.invokestatic 9, 3) := by decide +kernel
theorem d_LW_law_9 : decode code 9 = .ok (.aload_n 0, 1) := by decide +kernel
theorem d_LW_law_10 : decode code 10 = .ok (.iconst 1, 1) := by decide +kernel
theorem d_LW_law_11 : decode code 11 = .ok (.invokestatic 9, 3) := by decide +kernel
theorem d_LW_law_14 : decode code 14 = .ok (.aload_n 0, 1) := by decide +kernel
theorem d_LW_law_15 : decode code 15 = .ok (.iconst 2, 1) := by decide +kernel
theorem d_LW_law_16 : decode code 16 = .ok (.invokestatic 9, 3) := by decide +kernel
theorem d_LW_law_19 : decode code 19 = .ok (.invokespecial 15, 3) := by decide +kernel
theorem d_LW_law_22 : decode code 22 = .ok (.astore_n 1, 1) := by decide +kernel
theorem d_LW_law_23 : decode code 23 = .ok (.new 18, 3) := by decide +kernel
theorem d_LW_law_26 : decode code 26 = .ok (.dup, 1) := by decide +kernel
theorem d_LW_law_27 : decode code 27 = .ok (.aload_n 0, 1) := by decide +kernel
theorem d_LW_law_28 : decode code 28 = .ok (.iconst 0, 1) := by decide +kernel
theorem d_LW_law_29 : decode code 29 = .ok (.invokestatic 9, 3) := by decide +kernel
theorem d_LW_law_32 : decode code 32 = .ok (.aload_n 0, 1) := by decide +kernel
theorem d_LW_law_33 : decode code 33 = .ok (.iconst 1, 1) := by decide +kernel
theorem d_LW_law_34 : decode code 34 = .ok (.invokestatic 9, 3) := by decide +kernel
theorem d_LW_law_37 : decode code 37 = .ok (.aload_n 0, 1) := by decide +kernel
theorem d_LW_law_38 : decode code 38 = .ok (.iconst 2, 1) := by decide +kernel
theorem d_LW_law_39 : decode code 39 = .ok (.invokestatic 9, 3) := by decide +kernel
theorem d_LW_law_42 : decode code 42 = .ok (.invokespecial 20, 3) := by decide +kernel
theorem d_LW_law_45 : decode code 45 = .ok (.astore_n 2, 1) := by decide +kernel
theorem d_LW_law_46 : decode code 46 = .ok (.iconst 3, 1) := by decide +kernel
theorem d_LW_law_47 : decode code 47 = .ok (.istore_n 3, 1) := by decide +kernel
theorem d_LW_law_48 : decode code 48 = .ok (.iload_n 3, 1) := by decide +kernel
theorem d_LW_law_49 : decode code 49 = .ok (.aload_n 0, 1) := by decide +kernel
theorem d_LW_law_50 : decode code 50 = .ok (.arraylength, 1) := by decide +kernel
theorem d_LW_law_51 : decode code 51 = .ok (.iconst 5, 1) := by decide +kernel
theorem d_LW_law_52 : decode code 52 = .ok (.isub, 1) := by decide +kernel
theorem d_LW_law_53 : decode code 53 = .ok (.if_icmp .gt 689, 3) := by decide +kernel
theorem d_LW_law_56 : decode code 56 = .ok (.aload_n 0, 1) := by decide +kernel
theorem d_LW_law_57 : decode code 57 = .ok (.iload_n 3, 1) := by decide +kernel
theorem d_LW_law_58 : decode code 58 = .ok (.iaload, 1) := by decide +kernel
theorem d_LW_law_59 : decode code 59 = .ok (.bipush 31, 2) := by decide +kernel
theorem d_LW_law_61 : decode code 61 = .ok (.iand, 1) := by decide +kernel
theorem d_LW_law_62 : decode code 62 = .ok (.tableswitch 674 0 19 #[94, 137, 190, 223, 266, 309, 332, 375, 398, 411, 434, 457, 490, 523, 556, 579, 602, 625, 638, 651], 94) := by decide +kernel
theorem d_LW_law_156 : decode code 156 = .ok (.aload_n 1, 1) := by decide +kernel
theorem d_LW_law_157 : decode code 157 = .ok (.aload_n 0, 1) := by decide +kernel
theorem d_LW_law_158 : decode code 158 = .ok (.iload_n 3, 1) := by decide +kernel
theorem d_LW_law_159 : decode code 159 = .ok (.iconst 1, 1) := by decide +kernel
theorem d_LW_law_160 : decode code 160 = .ok (.iadd, 1) := by decide +kernel
theorem d_LW_law_161 : decode code 161 = .ok (.iaload, 1) := by decide +kernel
theorem d_LW_law_162 : decode code 162 = .ok (.aload_n 0, 1) := by decide +kernel
theorem d_LW_law_163 : decode code 163 = .ok (.iload_n 3, 1) := by decide +kernel
theorem d_LW_law_164 : decode code 164 = .ok (.iconst 2, 1) := by decide +kernel
theorem d_LW_law_165 : decode code 165 = .ok (.iadd, 1) := by decide +kernel
theorem d_LW_law_166 : decode code 166 = .ok (.iaload, 1) := by decide +kernel
theorem d_LW_law_167 : decode code 167 = .ok (.aload_n 0, 1) := by decide +kernel
theorem d_LW_law_168 : decode code 168 = .ok (.iload_n 3, 1) := by decide +kernel
theorem d_LW_law_169 : decode code 169 = .ok (.iconst 3, 1) := by decide +kernel
theorem d_LW_law_170 : decode code 170 = .ok (.iadd, 1) := by decide +kernel
theorem d_LW_law_171 : decode code 171 = .ok (.iaload, 1) := by decide +kernel
theorem d_LW_law_172 : decode code 172 = .ok (.invokevirtual 21, 3) := by decide +kernel
theorem d_LW_law_175 : decode code 175 = .ok (.aload_n 2, 1) := by decide +kernel
theorem d_LW_law_176 : decode code 176 = .ok (.aload_n 0, 1) := by decide +kernel
theorem d_LW_law_177 : decode code 177 = .ok (.iload_n 3, 1) := by decide +kernel
theorem d_LW_law_178 : decode code 178 = .ok (.iconst 1, 1) := by decide +kernel
theorem d_LW_law_179 : decode code 179 = .ok (.iadd, 1) := by decide +kernel
theorem d_LW_law_180 : decode code 180 = .ok (.iaload, 1) := by decide +kernel
theorem d_LW_law_181 : decode code 181 = .ok (.aload_n 0, 1) := by decide +kernel
theorem d_LW_law_182 : decode code 182 = .ok (.iload_n 3, 1) := by decide +kernel
theorem d_LW_law_183 : decode code 183 = .ok (.iconst 2, 1) := by decide +kernel
theorem d_LW_law_184 : decode code 184 = .ok (.iadd, 1) := by decide +kernel
theorem d_LW_law_185 : decode code 185 = .ok (.iaload, 1) := by decide +kernel
theorem d_LW_law_186 : decode code 186 = .ok (.aload_n 0, 1) := by decide +kernel
theorem d_LW_law_187 : decode code 187 = .ok (.iload_n 3, 1) := by decide +kernel
theorem d_LW_law_188 : decode code 188 = .ok (.iconst 3, 1) := by decide +kernel
theorem d_LW_law_189 : decode code 189 = .ok (.iadd, 1) := by decide +kernel
theorem d_LW_law_190 : decode code 190 = .ok (.iaload, 1) := by decide +kernel
theorem d_LW_law_191 : decode code 191 = .ok (.invokevirtual 25, 3) := by decide +kernel
theorem d_LW_law_194 : decode code 194 = .ok (.if_icmp .eq 542, 3) := by decide +kernel
theorem d_LW_law_197 : decode code 197 = .ok (.iconst 0, 1) := by decide +kernel
theorem d_LW_law_198 : decode code 198 = .ok (.ireturn, 1) := by decide +kernel
theorem d_LW_law_199 : decode code 199 = .ok (.aload_n 1, 1) := by decide +kernel
theorem d_LW_law_200 : decode code 200 = .ok (.aload_n 0, 1) := by decide +kernel
theorem d_LW_law_201 : decode code 201 = .ok (.iload_n 3, 1) := by decide +kernel
theorem d_LW_law_202 : decode code 202 = .ok (.iconst 1, 1) := by decide +kernel
theorem d_LW_law_203 : decode code 203 = .ok (.iadd, 1) := by decide +kernel
theorem d_LW_law_204 : decode code 204 = .ok (.iaload, 1) := by decide +kernel
theorem d_LW_law_205 : decode code 205 = .ok (.aload_n 0, 1) := by decide +kernel
theorem d_LW_law_206 : decode code 206 = .ok (.iload_n 3, 1) := by decide +kernel
theorem d_LW_law_207 : decode code 207 = .ok (.iconst 2, 1) := by decide +kernel
theorem d_LW_law_208 : decode code 208 = .ok (.iadd, 1) := by decide +kernel
theorem d_LW_law_209 : decode code 209 = .ok (.iaload, 1) := by decide +kernel
theorem d_LW_law_210 : decode code 210 = .ok (.aload_n 0, 1) := by decide +kernel
theorem d_LW_law_211 : decode code 211 = .ok (.iload_n 3, 1) := by decide +kernel
theorem d_LW_law_212 : decode code 212 = .ok (.iconst 3, 1) := by decide +kernel
theorem d_LW_law_213 : decode code 213 = .ok (.iadd, 1) := by decide +kernel
theorem d_LW_law_214 : decode code 214 = .ok (.iaload, 1) := by decide +kernel
theorem d_LW_law_215 : decode code 215 = .ok (.aload_n 0, 1) := by decide +kernel
theorem d_LW_law_216 : decode code 216 = .ok (.iload_n 3, 1) := by decide +kernel
theorem d_LW_law_217 : decode code 217 = .ok (.iconst 4, 1) := by decide +kernel
theorem d_LW_law_218 : decode code 218 = .ok (.iadd, 1) := by decide +kernel
theorem d_LW_law_219 : decode code 219 = .ok (.iaload, 1) := by decide +kernel
theorem d_LW_law_220 : decode code 220 = .ok (.invokevirtual 26, 3) := by decide +kernel
theorem d_LW_law_223 : decode code 223 = .ok (.aload_n 2, 1) := by decide +kernel
theorem d_LW_law_224 : decode code 224 = .ok (.aload_n 0, 1) := by decide +kernel
theorem d_LW_law_225 : decode code 225 = .ok (.iload_n 3, 1) := by decide +kernel
theorem d_LW_law_226 : decode code 226 = .ok (.iconst 1, 1) := by decide +kernel
theorem d_LW_law_227 : decode code 227 = .ok (.iadd, 1) := by decide +kernel
theorem d_LW_law_228 : decode code 228 = .ok (.iaload, 1) := by decide +kernel
theorem d_LW_law_229 : decode code 229 = .ok (.aload_n 0, 1) := by decide +kernel
theorem d_LW_law_230 : decode code 230 = .ok (.iload_n 3, 1) := by decide +kernel
theorem d_LW_law_231 : decode code 231 = .ok (.iconst 2, 1) := by decide +kernel
theorem d_LW_law_232 : decode code 232 = .ok (.iadd, 1) := by decide +kernel
theorem d_LW_law_233 : decode code 233 = .ok (.iaload, 1) := by decide +kernel
theorem d_LW_law_234 : decode code 234 = .ok (.aload_n 0, 1) := by decide +kernel
theorem d_LW_law_235 : decode code 235 = .ok (.iload_n 3, 1) := by decide +kernel
theorem d_LW_law_236 : decode code 236 = .ok (.iconst 3, 1) := by decide +kernel
theorem d_LW_law_237 : decode code 237 = .ok (.iadd, 1) := by decide +kernel
theorem d_LW_law_238 : decode code 238 = .ok (.iaload, 1) := by decide +kernel
theorem d_LW_law_239 : decode code 239 = .ok (.aload_n 0, 1) := by decide +kernel
theorem d_LW_law_240 : decode code 240 = .ok (.iload_n 3, 1) := by decide +kernel
theorem d_LW_law_241 : decode code 241 = .ok (.iconst 4, 1) := by decide +kernel
theorem d_LW_law_242 : decode code 242 = .ok (.iadd, 1) := by decide +kernel
theorem d_LW_law_243 : decode code 243 = .ok (.iaload, 1) := by decide +kernel
theorem d_LW_law_244 : decode code 244 = .ok (.invokevirtual 30, 3) := by decide +kernel
theorem d_LW_law_247 : decode code 247 = .ok (.if_icmp .eq 489, 3) := by decide +kernel
theorem d_LW_law_250 : decode code 250 = .ok (.iconst 0, 1) := by decide +kernel
theorem d_LW_law_251 : decode code 251 = .ok (.ireturn, 1) := by decide +kernel
theorem d_LW_law_252 : decode code 252 = .ok (.aload_n 1, 1) := by decide +kernel
theorem d_LW_law_253 : decode code 253 = .ok (.aload_n 0, 1) := by decide +kernel
theorem d_LW_law_254 : decode code 254 = .ok (.iload_n 3, 1) := by decide +kernel
theorem d_LW_law_255 : decode code 255 = .ok (.iconst 1, 1) := by decide +kernel
theorem d_LW_law_256 : decode code 256 = .ok (.iadd, 1) := by decide +kernel
theorem d_LW_law_257 : decode code 257 = .ok (.iaload, 1) := by decide +kernel
theorem d_LW_law_258 : decode code 258 = .ok (.aload_n 0, 1) := by decide +kernel
theorem d_LW_law_259 : decode code 259 = .ok (.iload_n 3, 1) := by decide +kernel
theorem d_LW_law_260 : decode code 260 = .ok (.iconst 2, 1) := by decide +kernel
theorem d_LW_law_261 : decode code 261 = .ok (.iadd, 1) := by decide +kernel
theorem d_LW_law_262 : decode code 262 = .ok (.iaload, 1) := by decide +kernel
theorem d_LW_law_263 : decode code 263 = .ok (.invokevirtual 31, 3) := by decide +kernel
theorem d_LW_law_266 : decode code 266 = .ok (.aload_n 2, 1) := by decide +kernel
theorem d_LW_law_267 : decode code 267 = .ok (.aload_n 0, 1) := by decide +kernel
theorem d_LW_law_268 : decode code 268 = .ok (.iload_n 3, 1) := by decide +kernel
theorem d_LW_law_269 : decode code 269 = .ok (.iconst 1, 1) := by decide +kernel
theorem d_LW_law_270 : decode code 270 = .ok (.iadd, 1) := by decide +kernel
theorem d_LW_law_271 : decode code 271 = .ok (.iaload, 1) := by decide +kernel
theorem d_LW_law_272 : decode code 272 = .ok (.aload_n 0, 1) := by decide +kernel
theorem d_LW_law_273 : decode code 273 = .ok (.iload_n 3, 1) := by decide +kernel
theorem d_LW_law_274 : decode code 274 = .ok (.iconst 2, 1) := by decide +kernel
theorem d_LW_law_275 : decode code 275 = .ok (.iadd, 1) := by decide +kernel
theorem d_LW_law_276 : decode code 276 = .ok (.iaload, 1) := by decide +kernel
theorem d_LW_law_277 : decode code 277 = .ok (.invokevirtual 35, 3) := by decide +kernel
theorem d_LW_law_280 : decode code 280 = .ok (.if_icmp .eq 456, 3) := by decide +kernel
theorem d_LW_law_283 : decode code 283 = .ok (.iconst 0, 1) := by decide +kernel
theorem d_LW_law_284 : decode code 284 = .ok (.ireturn, 1) := by decide +kernel
theorem d_LW_law_285 : decode code 285 = .ok (.aload_n 1, 1) := by decide +kernel
theorem d_LW_law_286 : decode code 286 = .ok (.aload_n 0, 1) := by decide +kernel
theorem d_LW_law_287 : decode code 287 = .ok (.iload_n 3, 1) := by decide +kernel
theorem d_LW_law_288 : decode code 288 = .ok (.iconst 1, 1) := by decide +kernel
theorem d_LW_law_289 : decode code 289 = .ok (.iadd, 1) := by decide +kernel
theorem d_LW_law_290 : decode code 290 = .ok (.iaload, 1) := by decide +kernel
theorem d_LW_law_291 : decode code 291 = .ok (.aload_n 0, 1) := by decide +kernel
theorem d_LW_law_292 : decode code 292 = .ok (.iload_n 3, 1) := by decide +kernel
theorem d_LW_law_293 : decode code 293 = .ok (.iconst 2, 1) := by decide +kernel
theorem d_LW_law_294 : decode code 294 = .ok (.iadd, 1) := by decide +kernel
theorem d_LW_law_295 : decode code 295 = .ok (.iaload, 1) := by decide +kernel
theorem d_LW_law_296 : decode code 296 = .ok (.aload_n 0, 1) := by decide +kernel
theorem d_LW_law_297 : decode code 297 = .ok (.iload_n 3, 1) := by decide +kernel
theorem d_LW_law_298 : decode code 298 = .ok (.iconst 3, 1) := by decide +kernel
theorem d_LW_law_299 : decode code 299 = .ok (.iadd, 1) := by decide +kernel
theorem d_LW_law_300 : decode code 300 = .ok (.iaload, 1) := by decide +kernel
theorem d_LW_law_301 : decode code 301 = .ok (.invokevirtual 36, 3) := by decide +kernel
theorem d_LW_law_304 : decode code 304 = .ok (.aload_n 2, 1) := by decide +kernel
theorem d_LW_law_305 : decode code 305 = .ok (.aload_n 0, 1) := by decide +kernel
theorem d_LW_law_306 : decode code 306 = .ok (.iload_n 3, 1) := by decide +kernel
theorem d_LW_law_307 : decode code 307 = .ok (.iconst 1, 1) := by decide +kernel
theorem d_LW_law_308 : decode code 308 = .ok (.iadd, 1) := by decide +kernel
theorem d_LW_law_309 : decode code 309 = .ok (.iaload, 1) := by decide +kernel
theorem d_LW_law_310 : decode code 310 = .ok (.aload_n 0, 1) := by decide +kernel
theorem d_LW_law_311 : decode code 311 = .ok (.iload_n 3, 1) := by decide +kernel
theorem d_LW_law_312 : decode code 312 = .ok (.iconst 2, 1) := by decide +kernel
theorem d_LW_law_313 : decode code 313 = .ok (.iadd, 1) := by decide +kernel
theorem d_LW_law_314 : decode code 314 = .ok (.iaload, 1) := by decide +kernel
theorem d_LW_law_315 : decode code 315 = .ok (.aload_n 0, 1) := by decide +kernel
theorem d_LW_law_316 : decode code 316 = .ok (.iload_n 3, 1) := by decide +kernel
theorem d_LW_law_317 : decode code 317 = .ok (.iconst 3, 1) := by decide +kernel
theorem d_LW_law_318 : decode code 318 = .ok (.iadd, 1) := by decide +kernel
theorem d_LW_law_319 : decode code 319 = .ok (.iaload, 1) := by decide +kernel
theorem d_LW_law_320 : decode code 320 = .ok (.invokevirtual 39, 3) := by decide +kernel
theorem d_LW_law_323 : decode code 323 = .ok (.if_icmp .eq 413, 3) := by decide +kernel
theorem d_LW_law_326 : decode code 326 = .ok (.iconst 0, 1) := by decide +kernel
theorem d_LW_law_327 : decode code 327 = .ok (.ireturn, 1) := by decide +kernel
theorem d_LW_law_328 : decode code 328 = .ok (.aload_n 1, 1) := by decide +kernel
theorem d_LW_law_329 : decode code 329 = .ok (.aload_n 0, 1) := by decide +kernel
theorem d_LW_law_330 : decode code 330 = .ok (.iload_n 3, 1) := by decide +kernel
theorem d_LW_law_331 : decode code 331 = .ok (.iconst 1, 1) := by decide +kernel
theorem d_LW_law_332 : decode code 332 = .ok (.iadd, 1) := by decide +kernel
theorem d_LW_law_333 : decode code 333 = .ok (.iaload, 1) := by decide +kernel
theorem d_LW_law_334 : decode code 334 = .ok (.aload_n 0, 1) := by decide +kernel
theorem d_LW_law_335 : decode code 335 = .ok (.iload_n 3, 1) := by decide +kernel
theorem d_LW_law_336 : decode code 336 = .ok (.iconst 2, 1) := by decide +kernel
theorem d_LW_law_337 : decode code 337 = .ok (.iadd, 1) := by decide +kernel
theorem d_LW_law_338 : decode code 338 = .ok (.iaload, 1) := by decide +kernel
theorem d_LW_law_339 : decode code 339 = .ok (.aload_n 0, 1) := by decide +kernel
theorem d_LW_law_340 : decode code 340 = .ok (.iload_n 3, 1) := by decide +kernel
theorem d_LW_law_341 : decode code 341 = .ok (.iconst 3, 1) := by decide +kernel
theorem d_LW_law_342 : decode code 342 = .ok (.iadd, 1) := by decide +kernel
theorem d_LW_law_343 : decode code 343 = .ok (.iaload, 1) := by decide +kernel
theorem d_LW_law_344 : decode code 344 = .ok (.invokevirtual 40, 3) := by decide +kernel
theorem d_LW_law_347 : decode code 347 = .ok (.aload_n 2, 1) := by decide +kernel
theorem d_LW_law_348 : decode code 348 = .ok (.aload_n 0, 1) := by decide +kernel
theorem d_LW_law_349 : decode code 349 = .ok (.iload_n 3, 1) := by decide +kernel
theorem d_LW_law_350 : decode code 350 = .ok (.iconst 1, 1) := by decide +kernel
theorem d_LW_law_351 : decode code 351 = .ok (.iadd, 1) := by decide +kernel
theorem d_LW_law_352 : decode code 352 = .ok (.iaload, 1) := by decide +kernel
theorem d_LW_law_353 : decode code 353 = .ok (.aload_n 0, 1) := by decide +kernel
theorem d_LW_law_354 : decode code 354 = .ok (.iload_n 3, 1) := by decide +kernel
theorem d_LW_law_355 : decode code 355 = .ok (.iconst 2, 1) := by decide +kernel
theorem d_LW_law_356 : decode code 356 = .ok (.iadd, 1) := by decide +kernel
theorem d_LW_law_357 : decode code 357 = .ok (.iaload, 1) := by decide +kernel
theorem d_LW_law_358 : decode code 358 = .ok (.aload_n 0, 1) := by decide +kernel
theorem d_LW_law_359 : decode code 359 = .ok (.iload_n 3, 1) := by decide +kernel
theorem d_LW_law_360 : decode code 360 = .ok (.iconst 3, 1) := by decide +kernel
theorem d_LW_law_361 : decode code 361 = .ok (.iadd, 1) := by decide +kernel
theorem d_LW_law_362 : decode code 362 = .ok (.iaload, 1) := by decide +kernel
theorem d_LW_law_363 : decode code 363 = .ok (.invokevirtual 43, 3) := by decide +kernel
theorem d_LW_law_366 : decode code 366 = .ok (.if_icmp .eq 370, 3) := by decide +kernel
theorem d_LW_law_369 : decode code 369 = .ok (.iconst 0, 1) := by decide +kernel
theorem d_LW_law_370 : decode code 370 = .ok (.ireturn, 1) := by decide +kernel
theorem d_LW_law_371 : decode code 371 = .ok (.aload_n 1, 1) := by decide +kernel
theorem d_LW_law_372 : decode code 372 = .ok (.aload_n 0, 1) := by decide +kernel
theorem d_LW_law_373 : decode code 373 = .ok (.iload_n 3, 1) := by decide +kernel
theorem d_LW_law_374 : decode code 374 = .ok (.iconst 1, 1) := by decide +kernel
theorem d_LW_law_375 : decode code 375 = .ok (.iadd, 1) := by decide +kernel
theorem d_LW_law_376 : decode code 376 = .ok (.iaload, 1) := by decide +kernel
theorem d_LW_law_377 : decode code 377 = .ok (.invokevirtual 44, 3) := by decide +kernel
theorem d_LW_law_380 : decode code 380 = .ok (.aload_n 2, 1) := by decide +kernel
theorem d_LW_law_381 : decode code 381 = .ok (.aload_n 0, 1) := by decide +kernel
theorem d_LW_law_382 : decode code 382 = .ok (.iload_n 3, 1) := by decide +kernel
theorem d_LW_law_383 : decode code 383 = .ok (.iconst 1, 1) := by decide +kernel
theorem d_LW_law_384 : decode code 384 = .ok (.iadd, 1) := by decide +kernel
theorem d_LW_law_385 : decode code 385 = .ok (.iaload, 1) := by decide +kernel
theorem d_LW_law_386 : decode code 386 = .ok (.invokevirtual 48, 3) := by decide +kernel
theorem d_LW_law_389 : decode code 389 = .ok (.if_icmp .eq 347, 3) := by decide +kernel
theorem d_LW_law_392 : decode code 392 = .ok (.iconst 0, 1) := by decide +kernel
theorem d_LW_law_393 : decode code 393 = .ok (.ireturn, 1) := by decide +kernel
theorem d_LW_law_394 : decode code 394 = .ok (.aload_n 1, 1) := by decide +kernel
theorem d_LW_law_395 : decode code 395 = .ok (.aload_n 0, 1) := by decide +kernel
theorem d_LW_law_396 : decode code 396 = .ok (.iload_n 3, 1) := by decide +kernel
theorem d_LW_law_397 : decode code 397 = .ok (.iconst 1, 1) := by decide +kernel
theorem d_LW_law_398 : decode code 398 = .ok (.iadd, 1) := by decide +kernel
theorem d_LW_law_399 : decode code 399 = .ok (.iaload, 1) := by decide +kernel
theorem d_LW_law_400 : decode code 400 = .ok (.aload_n 0, 1) := by decide +kernel
theorem d_LW_law_401 : decode code 401 = .ok (.iload_n 3, 1) := by decide +kernel
theorem d_LW_law_402 : decode code 402 = .ok (.iconst 2, 1) := by decide +kernel
theorem d_LW_law_403 : decode code 403 = .ok (.iadd, 1) := by decide +kernel
theorem d_LW_law_404 : decode code 404 = .ok (.iaload, 1) := by decide +kernel
theorem d_LW_law_405 : decode code 405 = .ok (.aload_n 0, 1) := by decide +kernel
theorem d_LW_law_406 : decode code 406 = .ok (.iload_n 3, 1) := by decide +kernel
theorem d_LW_law_407 : decode code 407 = .ok (.iconst 3, 1) := by decide +kernel
theorem d_LW_law_408 : decode code 408 = .ok (.iadd, 1) := by decide +kernel
theorem d_LW_law_409 : decode code 409 = .ok (.iaload, 1) := by decide +kernel
theorem d_LW_law_410 : decode code 410 = .ok (.invokevirtual 49, 3) := by decide +kernel
theorem d_LW_law_413 : decode code 413 = .ok (.aload_n 2, 1) := by decide +kernel
theorem d_LW_law_414 : decode code 414 = .ok (.aload_n 0, 1) := by decide +kernel
theorem d_LW_law_415 : decode code 415 = .ok (.iload_n 3, 1) := by decide +kernel
theorem d_LW_law_416 : decode code 416 = .ok (.iconst 1, 1) := by decide +kernel
theorem d_LW_law_417 : decode code 417 = .ok (.iadd, 1) := by decide +kernel
theorem d_LW_law_418 : decode code 418 = .ok (.iaload, 1) := by decide +kernel
theorem d_LW_law_419 : decode code 419 = .ok (.aload_n 0, 1) := by decide +kernel
theorem d_LW_law_420 : decode code 420 = .ok (.iload_n 3, 1) := by decide +kernel
theorem d_LW_law_421 : decode code 421 = .ok (.iconst 2, 1) := by decide +kernel
theorem d_LW_law_422 : decode code 422 = .ok (.iadd, 1) := by decide +kernel
theorem d_LW_law_423 : decode code 423 = .ok (.iaload, 1) := by decide +kernel
theorem d_LW_law_424 : decode code 424 = .ok (.aload_n 0, 1) := by decide +kernel
theorem d_LW_law_425 : decode code 425 = .ok (.iload_n 3, 1) := by decide +kernel
theorem d_LW_law_426 : decode code 426 = .ok (.iconst 3, 1) := by decide +kernel
theorem d_LW_law_427 : decode code 427 = .ok (.iadd, 1) := by decide +kernel
theorem d_LW_law_428 : decode code 428 = .ok (.iaload, 1) := by decide +kernel
theorem d_LW_law_429 : decode code 429 = .ok (.invokevirtual 52, 3) := by decide +kernel
theorem d_LW_law_432 : decode code 432 = .ok (.if_icmp .eq 304, 3) := by decide +kernel
theorem d_LW_law_435 : decode code 435 = .ok (.iconst 0, 1) := by decide +kernel
theorem d_LW_law_436 : decode code 436 = .ok (.ireturn, 1) := by decide +kernel
theorem d_LW_law_437 : decode code 437 = .ok (.aload_n 1, 1) := by decide +kernel
theorem d_LW_law_438 : decode code 438 = .ok (.aload_n 0, 1) := by decide +kernel
theorem d_LW_law_439 : decode code 439 = .ok (.iload_n 3, 1) := by decide +kernel
theorem d_LW_law_440 : decode code 440 = .ok (.iconst 1, 1) := by decide +kernel
theorem d_LW_law_441 : decode code 441 = .ok (.iadd, 1) := by decide +kernel
theorem d_LW_law_442 : decode code 442 = .ok (.iaload, 1) := by decide +kernel
theorem d_LW_law_443 : decode code 443 = .ok (.invokevirtual 53, 3) := by decide +kernel
theorem d_LW_law_446 : decode code 446 = .ok (.aload_n 2, 1) := by decide +kernel
theorem d_LW_law_447 : decode code 447 = .ok (.aload_n 0, 1) := by decide +kernel
theorem d_LW_law_448 : decode code 448 = .ok (.iload_n 3, 1) := by decide +kernel
theorem d_LW_law_449 : decode code 449 = .ok (.iconst 1, 1) := by decide +kernel
theorem d_LW_law_450 : decode code 450 = .ok (.iadd, 1) := by decide +kernel
theorem d_LW_law_451 : decode code 451 = .ok (.iaload, 1) := by decide +kernel
theorem d_LW_law_452 : decode code 452 = .ok (.invokevirtual 56, 3) := by decide +kernel
theorem d_LW_law_455 : decode code 455 = .ok (.if_icmp .eq 281, 3) := by decide +kernel
theorem d_LW_law_458 : decode code 458 = .ok (.iconst 0, 1) := by decide +kernel
theorem d_LW_law_459 : decode code 459 = .ok (.ireturn, 1) := by decide +kernel
theorem d_LW_law_460 : decode code 460 = .ok (.aload_n 1, 1) := by decide +kernel
theorem d_LW_law_461 : decode code 461 = .ok (.invokevirtual 57, 3) := by decide +kernel
theorem d_LW_law_464 : decode code 464 = .ok (.aload_n 2, 1) := by decide +kernel
theorem d_LW_law_465 : decode code 465 = .ok (.invokevirtual 61, 3) := by decide +kernel
theorem d_LW_law_468 : decode code 468 = .ok (.if_icmp .eq 268, 3) := by decide +kernel
theorem d_LW_law_471 : decode code 471 = .ok (.iconst 0, 1) := by decide +kernel
theorem d_LW_law_472 : decode code 472 = .ok (.ireturn, 1) := by decide +kernel
theorem d_LW_law_473 : decode code 473 = .ok (.aload_n 1, 1) := by decide +kernel
theorem d_LW_law_474 : decode code 474 = .ok (.aload_n 0, 1) := by decide +kernel
theorem d_LW_law_475 : decode code 475 = .ok (.iload_n 3, 1) := by decide +kernel
theorem d_LW_law_476 : decode code 476 = .ok (.iconst 1, 1) := by decide +kernel
theorem d_LW_law_477 : decode code 477 = .ok (.iadd, 1) := by decide +kernel
theorem d_LW_law_478 : decode code 478 = .ok (.iaload, 1) := by decide +kernel
theorem d_LW_law_479 : decode code 479 = .ok (.invokevirtual 62, 3) := by decide +kernel
theorem d_LW_law_482 : decode code 482 = .ok (.aload_n 2, 1) := by decide +kernel
theorem d_LW_law_483 : decode code 483 = .ok (.aload_n 0, 1) := by decide +kernel
theorem d_LW_law_484 : decode code 484 = .ok (.iload_n 3, 1) := by decide +kernel
theorem d_LW_law_485 : decode code 485 = .ok (.iconst 1, 1) := by decide +kernel
theorem d_LW_law_486 : decode code 486 = .ok (.iadd, 1) := by decide +kernel
theorem d_LW_law_487 : decode code 487 = .ok (.iaload, 1) := by decide +kernel
theorem d_LW_law_488 : decode code 488 = .ok (.invokevirtual 65, 3) := by decide +kernel
theorem d_LW_law_491 : decode code 491 = .ok (.if_icmp .eq 245, 3) := by decide +kernel
theorem d_LW_law_494 : decode code 494 = .ok (.iconst 0, 1) := by decide +kernel
theorem d_LW_law_495 : decode code 495 = .ok (.ireturn, 1) := by decide +kernel
theorem d_LW_law_496 : decode code 496 = .ok (.aload_n 1, 1) := by decide +kernel
theorem d_LW_law_497 : decode code 497 = .ok (.aload_n 0, 1) := by decide +kernel
theorem d_LW_law_498 : decode code 498 = .ok (.iload_n 3, 1) := by decide +kernel
theorem d_LW_law_499 : decode code 499 = .ok (.iconst 1, 1) := by decide +kernel
theorem d_LW_law_500 : decode code 500 = .ok (.iadd, 1) := by decide +kernel
theorem d_LW_law_501 : decode code 501 = .ok (.iaload, 1) := by decide +kernel
theorem d_LW_law_502 : decode code 502 = .ok (.invokevirtual 66, 3) := by decide +kernel
theorem d_LW_law_505 : decode code 505 = .ok (.aload_n 2, 1) := by decide +kernel
theorem d_LW_law_506 : decode code 506 = .ok (.aload_n 0, 1) := by decide +kernel
theorem d_LW_law_507 : decode code 507 = .ok (.iload_n 3, 1) := by decide +kernel
theorem d_LW_law_508 : decode code 508 = .ok (.iconst 1, 1) := by decide +kernel
theorem d_LW_law_509 : decode code 509 = .ok (.iadd, 1) := by decide +kernel
theorem d_LW_law_510 : decode code 510 = .ok (.iaload, 1) := by decide +kernel
theorem d_LW_law_511 : decode code 511 = .ok (.invokevirtual 69, 3) := by decide +kernel
theorem d_LW_law_514 : decode code 514 = .ok (.if_icmp .eq 222, 3) := by decide +kernel
theorem d_LW_law_517 : decode code 517 = .ok (.iconst 0, 1) := by decide +kernel
theorem d_LW_law_518 : decode code 518 = .ok (.ireturn, 1) := by decide +kernel
theorem d_LW_law_519 : decode code 519 = .ok (.aload_n 1, 1) := by decide +kernel
theorem d_LW_law_520 : decode code 520 = .ok (.aload_n 0, 1) := by decide +kernel
theorem d_LW_law_521 : decode code 521 = .ok (.iload_n 3, 1) := by decide +kernel
theorem d_LW_law_522 : decode code 522 = .ok (.iconst 1, 1) := by decide +kernel
theorem d_LW_law_523 : decode code 523 = .ok (.iadd, 1) := by decide +kernel
theorem d_LW_law_524 : decode code 524 = .ok (.iaload, 1) := by decide +kernel
theorem d_LW_law_525 : decode code 525 = .ok (.aload_n 0, 1) := by decide +kernel
theorem d_LW_law_526 : decode code 526 = .ok (.iload_n 3, 1) := by decide +kernel
theorem d_LW_law_527 : decode code 527 = .ok (.iconst 2, 1) := by decide +kernel
theorem d_LW_law_528 : decode code 528 = .ok (.iadd, 1) := by decide +kernel
theorem d_LW_law_529 : decode code 529 = .ok (.iaload, 1) := by decide +kernel
theorem d_LW_law_530 : decode code 530 = .ok (.invokevirtual 70, 3) := by decide +kernel
theorem d_LW_law_533 : decode code 533 = .ok (.aload_n 2, 1) := by decide +kernel
theorem d_LW_law_534 : decode code 534 = .ok (.aload_n 0, 1) := by decide +kernel
theorem d_LW_law_535 : decode code 535 = .ok (.iload_n 3, 1) := by decide +kernel
theorem d_LW_law_536 : decode code 536 = .ok (.iconst 1, 1) := by decide +kernel
theorem d_LW_law_537 : decode code 537 = .ok (.iadd, 1) := by decide +kernel
theorem d_LW_law_538 : decode code 538 = .ok (.iaload, 1) := by decide +kernel
theorem d_LW_law_539 : decode code 539 = .ok (.aload_n 0, 1) := by decide +kernel
theorem d_LW_law_540 : decode code 540 = .ok (.iload_n 3, 1) := by decide +kernel
theorem d_LW_law_541 : decode code 541 = .ok (.iconst 2, 1) := by decide +kernel
theorem d_LW_law_542 : decode code 542 = .ok (.iadd, 1) := by decide +kernel
theorem d_LW_law_543 : decode code 543 = .ok (.iaload, 1) := by decide +kernel
theorem d_LW_law_544 : decode code 544 = .ok (.invokevirtual 74, 3) := by decide +kernel
theorem d_LW_law_547 : decode code 547 = .ok (.if_icmp .eq 189, 3) := by decide +kernel
theorem d_LW_law_550 : decode code 550 = .ok (.iconst 0, 1) := by decide +kernel
theorem d_LW_law_551 : decode code 551 = .ok (.ireturn, 1) := by decide +kernel
theorem d_LW_law_552 : decode code 552 = .ok (.aload_n 1, 1) := by decide +kernel
theorem d_LW_law_553 : decode code 553 = .ok (.aload_n 0, 1) := by decide +kernel
theorem d_LW_law_554 : decode code 554 = .ok (.iload_n 3, 1) := by decide +kernel
theorem d_LW_law_555 : decode code 555 = .ok (.iconst 1, 1) := by decide +kernel
theorem d_LW_law_556 : decode code 556 = .ok (.iadd, 1) := by decide +kernel
theorem d_LW_law_557 : decode code 557 = .ok (.iaload, 1) := by decide +kernel
theorem d_LW_law_558 : decode code 558 = .ok (.aload_n 0, 1) := by decide +kernel
theorem d_LW_law_559 : decode code 559 = .ok (.iload_n 3, 1) := by decide +kernel
theorem d_LW_law_560 : decode code 560 = .ok (.iconst 2, 1) := by decide +kernel
theorem d_LW_law_561 : decode code 561 = .ok (.iadd, 1) := by decide +kernel
theorem d_LW_law_562 : decode code 562 = .ok (.iaload, 1) := by decide +kernel
theorem d_LW_law_563 : decode code 563 = .ok (.invokevirtual 75, 3) := by decide +kernel
theorem d_LW_law_566 : decode code 566 = .ok (.aload_n 2, 1) := by decide +kernel
theorem d_LW_law_567 : decode code 567 = .ok (.aload_n 0, 1) := by decide +kernel
theorem d_LW_law_568 : decode code 568 = .ok (.iload_n 3, 1) := by decide +kernel
theorem d_LW_law_569 : decode code 569 = .ok (.iconst 1, 1) := by decide +kernel
theorem d_LW_law_570 : decode code 570 = .ok (.iadd, 1) := by decide +kernel
theorem d_LW_law_571 : decode code 571 = .ok (.iaload, 1) := by decide +kernel
theorem d_LW_law_572 : decode code 572 = .ok (.aload_n 0, 1) := by decide +kernel
theorem d_LW_law_573 : decode code 573 = .ok (.iload_n 3, 1) := by decide +kernel
theorem d_LW_law_574 : decode code 574 = .ok (.iconst 2, 1) := by decide +kernel
theorem d_LW_law_575 : decode code 575 = .ok (.iadd, 1) := by decide +kernel
theorem d_LW_law_576 : decode code 576 = .ok (.iaload, 1) := by decide +kernel
theorem d_LW_law_577 : decode code 577 = .ok (.invokevirtual 78, 3) := by decide +kernel
theorem d_LW_law_580 : decode code 580 = .ok (.if_icmp .eq 156, 3) := by decide +kernel
theorem d_LW_law_583 : decode code 583 = .ok (.iconst 0, 1) := by decide +kernel
theorem d_LW_law_584 : decode code 584 = .ok (.ireturn, 1) := by decide +kernel
theorem d_LW_law_585 : decode code 585 = .ok (.aload_n 1, 1) := by decide +kernel
theorem d_LW_law_586 : decode code 586 = .ok (.aload_n 0, 1) := by decide +kernel
theorem d_LW_law_587 : decode code 587 = .ok (.iload_n 3, 1) := by decide +kernel
theorem d_LW_law_588 : decode code 588 = .ok (.iconst 1, 1) := by decide +kernel
theorem d_LW_law_589 : decode code 589 = .ok (.iadd, 1) := by decide +kernel
theorem d_LW_law_590 : decode code 590 = .ok (.iaload, 1) := by decide +kernel
theorem d_LW_law_591 : decode code 591 = .ok (.aload_n 0, 1) := by decide +kernel
theorem d_LW_law_592 : decode code 592 = .ok (.iload_n 3, 1) := by decide +kernel
theorem d_LW_law_593 : decode code 593 = .ok (.iconst 2, 1) := by decide +kernel
theorem d_LW_law_594 : decode code 594 = .ok (.iadd, 1) := by decide +kernel
theorem d_LW_law_595 : decode code 595 = .ok (.iaload, 1) := by decide +kernel
theorem d_LW_law_596 : decode code 596 = .ok (.invokevirtual 79, 3) := by decide +kernel
theorem d_LW_law_599 : decode code 599 = .ok (.aload_n 2, 1) := by decide +kernel
theorem d_LW_law_600 : decode code 600 = .ok (.aload_n 0, 1) := by decide +kernel
theorem d_LW_law_601 : decode code 601 = .ok (.iload_n 3, 1) := by decide +kernel
theorem d_LW_law_602 : decode code 602 = .ok (.iconst 1, 1) := by decide +kernel
theorem d_LW_law_603 : decode code 603 = .ok (.iadd, 1) := by decide +kernel
theorem d_LW_law_604 : decode code 604 = .ok (.iaload, 1) := by decide +kernel
theorem d_LW_law_605 : decode code 605 = .ok (.aload_n 0, 1) := by decide +kernel
theorem d_LW_law_606 : decode code 606 = .ok (.iload_n 3, 1) := by decide +kernel
theorem d_LW_law_607 : decode code 607 = .ok (.iconst 2, 1) := by decide +kernel
theorem d_LW_law_608 : decode code 608 = .ok (.iadd, 1) := by decide +kernel
theorem d_LW_law_609 : decode code 609 = .ok (.iaload, 1) := by decide +kernel
theorem d_LW_law_610 : decode code 610 = .ok (.invokevirtual 82, 3) := by decide +kernel
theorem d_LW_law_613 : decode code 613 = .ok (.if_icmp .eq 123, 3) := by decide +kernel
theorem d_LW_law_616 : decode code 616 = .ok (.iconst 0, 1) := by decide +kernel
theorem d_LW_law_617 : decode code 617 = .ok (.ireturn, 1) := by decide +kernel
theorem d_LW_law_618 : decode code 618 = .ok (.aload_n 1, 1) := by decide +kernel
theorem d_LW_law_619 : decode code 619 = .ok (.aload_n 0, 1) := by decide +kernel
theorem d_LW_law_620 : decode code 620 = .ok (.iload_n 3, 1) := by decide +kernel
theorem d_LW_law_621 : decode code 621 = .ok (.iconst 1, 1) := by decide +kernel
theorem d_LW_law_622 : decode code 622 = .ok (.iadd, 1) := by decide +kernel
theorem d_LW_law_623 : decode code 623 = .ok (.iaload, 1) := by decide +kernel
theorem d_LW_law_624 : decode code 624 = .ok (.invokevirtual 83, 3) := by decide +kernel
theorem d_LW_law_627 : decode code 627 = .ok (.aload_n 2, 1) := by decide +kernel
theorem d_LW_law_628 : decode code 628 = .ok (.aload_n 0, 1) := by decide +kernel
theorem d_LW_law_629 : decode code 629 = .ok (.iload_n 3, 1) := by decide +kernel
theorem d_LW_law_630 : decode code 630 = .ok (.iconst 1, 1) := by decide +kernel
theorem d_LW_law_631 : decode code 631 = .ok (.iadd, 1) := by decide +kernel
theorem d_LW_law_632 : decode code 632 = .ok (.iaload, 1) := by decide +kernel
theorem d_LW_law_633 : decode code 633 = .ok (.invokevirtual 86, 3) := by decide +kernel
theorem d_LW_law_636 : decode code 636 = .ok (.if_icmp .eq 100, 3) := by decide +kernel
theorem d_LW_law_639 : decode code 639 = .ok (.iconst 0, 1) := by decide +kernel
theorem d_LW_law_640 : decode code 640 = .ok (.ireturn, 1) := by decide +kernel
theorem d_LW_law_641 : decode code 641 = .ok (.aload_n 1, 1) := by decide +kernel
theorem d_LW_law_642 : decode code 642 = .ok (.aload_n 0, 1) := by decide +kernel
theorem d_LW_law_643 : decode code 643 = .ok (.iload_n 3, 1) := by decide +kernel
theorem d_LW_law_644 : decode code 644 = .ok (.iconst 1, 1) := by decide +kernel
theorem d_LW_law_645 : decode code 645 = .ok (.iadd, 1) := by decide +kernel
theorem d_LW_law_646 : decode code 646 = .ok (.iaload, 1) := by decide +kernel
theorem d_LW_law_647 : decode code 647 = .ok (.invokevirtual 87, 3) := by decide +kernel
theorem d_LW_law_650 : decode code 650 = .ok (.aload_n 2, 1) := by decide +kernel
theorem d_LW_law_651 : decode code 651 = .ok (.aload_n 0, 1) := by decide +kernel
theorem d_LW_law_652 : decode code 652 = .ok (.iload_n 3, 1) := by decide +kernel
theorem d_LW_law_653 : decode code 653 = .ok (.iconst 1, 1) := by decide +kernel
theorem d_LW_law_654 : decode code 654 = .ok (.iadd, 1) := by decide +kernel
theorem d_LW_law_655 : decode code 655 = .ok (.iaload, 1) := by decide +kernel
theorem d_LW_law_656 : decode code 656 = .ok (.invokevirtual 90, 3) := by decide +kernel
theorem d_LW_law_659 : decode code 659 = .ok (.if_icmp .eq 77, 3) := by decide +kernel
theorem d_LW_law_662 : decode code 662 = .ok (.iconst 0, 1) := by decide +kernel
theorem d_LW_law_663 : decode code 663 = .ok (.ireturn, 1) := by decide +kernel
theorem d_LW_law_664 : decode code 664 = .ok (.aload_n 1, 1) := by decide +kernel
theorem d_LW_law_665 : decode code 665 = .ok (.aload_n 0, 1) := by decide +kernel
theorem d_LW_law_666 : decode code 666 = .ok (.iload_n 3, 1) := by decide +kernel
theorem d_LW_law_667 : decode code 667 = .ok (.iconst 1, 1) := by decide +kernel
theorem d_LW_law_668 : decode code 668 = .ok (.iadd, 1) := by decide +kernel
theorem d_LW_law_669 : decode code 669 = .ok (.iaload, 1) := by decide +kernel
theorem d_LW_law_670 : decode code 670 = .ok (.invokevirtual 91, 3) := by decide +kernel
theorem d_LW_law_673 : decode code 673 = .ok (.aload_n 2, 1) := by decide +kernel
theorem d_LW_law_674 : decode code 674 = .ok (.aload_n 0, 1) := by decide +kernel
theorem d_LW_law_675 : decode code 675 = .ok (.iload_n 3, 1) := by decide +kernel
theorem d_LW_law_676 : decode code 676 = .ok (.iconst 1, 1) := by decide +kernel
theorem d_LW_law_677 : decode code 677 = .ok (.iadd, 1) := by decide +kernel
theorem d_LW_law_678 : decode code 678 = .ok (.iaload, 1) := by decide +kernel
theorem d_LW_law_679 : decode code 679 = .ok (.invokevirtual 94, 3) := by decide +kernel
theorem d_LW_law_682 : decode code 682 = .ok (.if_icmp .eq 54, 3) := by decide +kernel
theorem d_LW_law_685 : decode code 685 = .ok (.iconst 0, 1) := by decide +kernel
theorem d_LW_law_686 : decode code 686 = .ok (.ireturn, 1) := by decide +kernel
theorem d_LW_law_687 : decode code 687 = .ok (.aload_n 1, 1) := by decide +kernel
theorem d_LW_law_688 : decode code 688 = .ok (.invokevirtual 95, 3) := by decide +kernel
theorem d_LW_law_691 : decode code 691 = .ok (.aload_n 2, 1) := by decide +kernel
theorem d_LW_law_692 : decode code 692 = .ok (.invokevirtual 98, 3) := by decide +kernel
theorem d_LW_law_695 : decode code 695 = .ok (.if_icmp .eq 41, 3) := by decide +kernel
theorem d_LW_law_698 : decode code 698 = .ok (.iconst 0, 1) := by decide +kernel
theorem d_LW_law_699 : decode code 699 = .ok (.ireturn, 1) := by decide +kernel
theorem d_LW_law_700 : decode code 700 = .ok (.aload_n 1, 1) := by decide +kernel
theorem d_LW_law_701 : decode code 701 = .ok (.invokevirtual 99, 3) := by decide +kernel
theorem d_LW_law_704 : decode code 704 = .ok (.aload_n 2, 1) := by decide +kernel
theorem d_LW_law_705 : decode code 705 = .ok (.invokevirtual 103, 3) := by decide +kernel
theorem d_LW_law_708 : decode code 708 = .ok (.if_icmp .eq 28, 3) := by decide +kernel
theorem d_LW_law_711 : decode code 711 = .ok (.iconst 0, 1) := by decide +kernel
theorem d_LW_law_712 : decode code 712 = .ok (.ireturn, 1) := by decide +kernel
theorem d_LW_law_713 : decode code 713 = .ok (.aload_n 1, 1) := by decide +kernel
theorem d_LW_law_714 : decode code 714 = .ok (.aload_n 0, 1) := by decide +kernel
theorem d_LW_law_715 : decode code 715 = .ok (.iload_n 3, 1) := by decide +kernel
theorem d_LW_law_716 : decode code 716 = .ok (.iconst 1, 1) := by decide +kernel
theorem d_LW_law_717 : decode code 717 = .ok (.iadd, 1) := by decide +kernel
theorem d_LW_law_718 : decode code 718 = .ok (.iaload, 1) := by decide +kernel
theorem d_LW_law_719 : decode code 719 = .ok (.invokevirtual 104, 3) := by decide +kernel
theorem d_LW_law_722 : decode code 722 = .ok (.aload_n 2, 1) := by decide +kernel
theorem d_LW_law_723 : decode code 723 = .ok (.aload_n 0, 1) := by decide +kernel
theorem d_LW_law_724 : decode code 724 = .ok (.iload_n 3, 1) := by decide +kernel
theorem d_LW_law_725 : decode code 725 = .ok (.iconst 1, 1) := by decide +kernel
theorem d_LW_law_726 : decode code 726 = .ok (.iadd, 1) := by decide +kernel
theorem d_LW_law_727 : decode code 727 = .ok (.iaload, 1) := by decide +kernel
theorem d_LW_law_728 : decode code 728 = .ok (.invokevirtual 107, 3) := by decide +kernel
theorem d_LW_law_731 : decode code 731 = .ok (.if_icmp .eq 5, 3) := by decide +kernel
theorem d_LW_law_734 : decode code 734 = .ok (.iconst 0, 1) := by decide +kernel
theorem d_LW_law_735 : decode code 735 = .ok (.ireturn, 1) := by decide +kernel
theorem d_LW_law_736 : decode code 736 = .ok (.iinc 3 5, 3) := by decide +kernel
theorem d_LW_law_739 : decode code 739 = .ok (.goto (-691), 3) := by decide +kernel
theorem d_LW_law_742 : decode code 742 = .ok (.iconst 1, 1) := by decide +kernel
theorem d_LW_law_743 : decode code 743 = .ok (.ireturn, 1) := by decide +kernel
