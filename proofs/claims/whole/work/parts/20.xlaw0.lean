theorem d1200_0 : decode (mb 1200) 0 = .ok (.new 7, 3) := by decide +kernel
theorem d1200_3 : decode (mb 1200) 3 = .ok (.dup, 1) := by decide +kernel
theorem d1200_4 : decode (mb 1200) 4 = .ok (.invokespecial 9, 3) := by decide +kernel
theorem d1200_7 : decode (mb 1200) 7 = .ok (.astore_n 1, 1) := by decide +kernel
theorem d1200_8 : decode (mb 1200) 8 = .ok (.new 10, 3) := by decide +kernel
theorem d1200_11 : decode (mb 1200) 11 = .ok (.dup, 1) := by decide +kernel
theorem d1200_12 : decode (mb 1200) 12 = .ok (.invokespecial 12, 3) := by decide +kernel
theorem d1200_15 : decode (mb 1200) 15 = .ok (.astore_n 2, 1) := by decide +kernel
theorem d1200_16 : decode (mb 1200) 16 = .ok (.iconst 0, 1) := by decide +kernel
theorem d1200_17 : decode (mb 1200) 17 = .ok (.istore_n 3, 1) := by decide +kernel
theorem d1200_18 : decode (mb 1200) 18 = .ok (.iload_n 3, 1) := by decide +kernel
theorem d1200_19 : decode (mb 1200) 19 = .ok (.aload_n 0, 1) := by decide +kernel
theorem d1200_20 : decode (mb 1200) 20 = .ok (.arraylength, 1) := by decide +kernel
theorem d1200_21 : decode (mb 1200) 21 = .ok (.bipush 6, 2) := by decide +kernel
theorem d1200_23 : decode (mb 1200) 23 = .ok (.isub, 1) := by decide +kernel
theorem d1200_24 : decode (mb 1200) 24 = .ok (.if_icmp .gt 791, 3) := by decide +kernel
theorem d1200_27 : decode (mb 1200) 27 = .ok (.aload_n 0, 1) := by decide +kernel
theorem d1200_28 : decode (mb 1200) 28 = .ok (.iload_n 3, 1) := by decide +kernel
theorem d1200_29 : decode (mb 1200) 29 = .ok (.iaload, 1) := by decide +kernel
theorem d1200_30 : decode (mb 1200) 30 = .ok (.bipush 31, 2) := by decide +kernel
theorem d1200_32 : decode (mb 1200) 32 = .ok (.iand, 1) := by decide +kernel
theorem d1200_33 : decode (mb 1200) 33 = .ok (.tableswitch 776 0 22 #[107, 130, 193, 256, 279, 312, 335, 368, 401, 424, 467, 500, 523, 546, 569, 592, 615, 628, 661, 684, 707, 740, 753], 107) := by decide +kernel
theorem d1200_140 : decode (mb 1200) 140 = .ok (.aload_n 1, 1) := by decide +kernel
theorem d1200_141 : decode (mb 1200) 141 = .ok (.aload_n 0, 1) := by decide +kernel
theorem d1200_142 : decode (mb 1200) 142 = .ok (.iload_n 3, 1) := by decide +kernel
theorem d1200_143 : decode (mb 1200) 143 = .ok (.iconst 1, 1) := by decide +kernel
theorem d1200_144 : decode (mb 1200) 144 = .ok (.iadd, 1) := by decide +kernel
theorem d1200_145 : decode (mb 1200) 145 = .ok (.iaload, 1) := by decide +kernel
theorem d1200_146 : decode (mb 1200) 146 = .ok (.invokevirtual 13, 3) := by decide +kernel
theorem d1200_149 : decode (mb 1200) 149 = .ok (.aload_n 2, 1) := by decide +kernel
theorem d1200_150 : decode (mb 1200) 150 = .ok (.aload_n 0, 1) := by decide +kernel
theorem d1200_151 : decode (mb 1200) 151 = .ok (.iload_n 3, 1) := by decide +kernel
theorem d1200_152 : decode (mb 1200) 152 = .ok (.iconst 1, 1) := by decide +kernel
theorem d1200_153 : decode (mb 1200) 153 = .ok (.iadd, 1) := by decide +kernel
theorem d1200_154 : decode (mb 1200) 154 = .ok (.iaload, 1) := by decide +kernel
theorem d1200_155 : decode (mb 1200) 155 = .ok (.invokevirtual 17, 3) := by decide +kernel
theorem d1200_158 : decode (mb 1200) 158 = .ok (.if_icmp .eq 651, 3) := by decide +kernel
theorem d1200_161 : decode (mb 1200) 161 = .ok (.iconst 0, 1) := by decide +kernel
theorem d1200_162 : decode (mb 1200) 162 = .ok (.ireturn, 1) := by decide +kernel
theorem d1200_163 : decode (mb 1200) 163 = .ok (.aload_n 1, 1) := by decide +kernel
theorem d1200_164 : decode (mb 1200) 164 = .ok (.aload_n 0, 1) := by decide +kernel
theorem d1200_165 : decode (mb 1200) 165 = .ok (.iload_n 3, 1) := by decide +kernel
theorem d1200_166 : decode (mb 1200) 166 = .ok (.iconst 1, 1) := by decide +kernel
theorem d1200_167 : decode (mb 1200) 167 = .ok (.iadd, 1) := by decide +kernel
theorem d1200_168 : decode (mb 1200) 168 = .ok (.iaload, 1) := by decide +kernel
theorem d1200_169 : decode (mb 1200) 169 = .ok (.aload_n 0, 1) := by decide +kernel
theorem d1200_170 : decode (mb 1200) 170 = .ok (.iload_n 3, 1) := by decide +kernel
theorem d1200_171 : decode (mb 1200) 171 = .ok (.iconst 2, 1) := by decide +kernel
theorem d1200_172 : decode (mb 1200) 172 = .ok (.iadd, 1) := by decide +kernel
theorem d1200_173 : decode (mb 1200) 173 = .ok (.iaload, 1) := by decide +kernel
theorem d1200_174 : decode (mb 1200) 174 = .ok (.aload_n 0, 1) := by decide +kernel
theorem d1200_175 : decode (mb 1200) 175 = .ok (.iload_n 3, 1) := by decide +kernel
theorem d1200_176 : decode (mb 1200) 176 = .ok (.iconst 3, 1) := by decide +kernel
theorem d1200_177 : decode (mb 1200) 177 = .ok (.iadd, 1) := by decide +kernel
theorem d1200_178 : decode (mb 1200) 178 = .ok (.iaload, 1) := by decide +kernel
theorem d1200_179 : decode (mb 1200) 179 = .ok (.aload_n 0, 1) := by decide +kernel
theorem d1200_180 : decode (mb 1200) 180 = .ok (.iload_n 3, 1) := by decide +kernel
theorem d1200_181 : decode (mb 1200) 181 = .ok (.iconst 4, 1) := by decide +kernel
theorem d1200_182 : decode (mb 1200) 182 = .ok (.iadd, 1) := by decide +kernel
theorem d1200_183 : decode (mb 1200) 183 = .ok (.iaload, 1) := by decide +kernel
theorem d1200_184 : decode (mb 1200) 184 = .ok (.aload_n 0, 1) := by decide +kernel
theorem d1200_185 : decode (mb 1200) 185 = .ok (.iload_n 3, 1) := by decide +kernel
theorem d1200_186 : decode (mb 1200) 186 = .ok (.iconst 5, 1) := by decide +kernel
theorem d1200_187 : decode (mb 1200) 187 = .ok (.iadd, 1) := by decide +kernel
theorem d1200_188 : decode (mb 1200) 188 = .ok (.iaload, 1) := by decide +kernel
theorem d1200_189 : decode (mb 1200) 189 = .ok (.invokevirtual 18, 3) := by decide +kernel
theorem d1200_192 : decode (mb 1200) 192 = .ok (.aload_n 2, 1) := by decide +kernel
theorem d1200_193 : decode (mb 1200) 193 = .ok (.aload_n 0, 1) := by decide +kernel
theorem d1200_194 : decode (mb 1200) 194 = .ok (.iload_n 3, 1) := by decide +kernel
theorem d1200_195 : decode (mb 1200) 195 = .ok (.iconst 1, 1) := by decide +kernel
theorem d1200_196 : decode (mb 1200) 196 = .ok (.iadd, 1) := by decide +kernel
theorem d1200_197 : decode (mb 1200) 197 = .ok (.iaload, 1) := by decide +kernel
theorem d1200_198 : decode (mb 1200) 198 = .ok (.aload_n 0, 1) := by decide +kernel
theorem d1200_199 : decode (mb 1200) 199 = .ok (.iload_n 3, 1) := by decide +kernel
theorem d1200_200 : decode (mb 1200) 200 = .ok (.iconst 2, 1) := by decide +kernel
theorem d1200_201 : decode (mb 1200) 201 = .ok (.iadd, 1) := by decide +kernel
theorem d1200_202 : decode (mb 1200) 202 = .ok (.iaload, 1) := by decide +kernel
theorem d1200_203 : decode (mb 1200) 203 = .ok (.aload_n 0, 1) := by decide +kernel
theorem d1200_204 : decode (mb 1200) 204 = .ok (.iload_n 3, 1) := by decide +kernel
theorem d1200_205 : decode (mb 1200) 205 = .ok (.iconst 3, 1) := by decide +kernel
theorem d1200_206 : decode (mb 1200) 206 = .ok (.iadd, 1) := by decide +kernel
theorem d1200_207 : decode (mb 1200) 207 = .ok (.iaload, 1) := by decide +kernel
theorem d1200_208 : decode (mb 1200) 208 = .ok (.aload_n 0, 1) := by decide +kernel
theorem d1200_209 : decode (mb 1200) 209 = .ok (.iload_n 3, 1) := by decide +kernel
theorem d1200_210 : decode (mb 1200) 210 = .ok (.iconst 4, 1) := by decide +kernel
theorem d1200_211 : decode (mb 1200) 211 = .ok (.iadd, 1) := by decide +kernel
theorem d1200_212 : decode (mb 1200) 212 = .ok (.iaload, 1) := by decide +kernel
theorem d1200_213 : decode (mb 1200) 213 = .ok (.aload_n 0, 1) := by decide +kernel
theorem d1200_214 : decode (mb 1200) 214 = .ok (.iload_n 3, 1) := by decide +kernel
theorem d1200_215 : decode (mb 1200) 215 = .ok (.iconst 5, 1) := by decide +kernel
theorem d1200_216 : decode (mb 1200) 216 = .ok (.iadd, 1) := by decide +kernel
theorem d1200_217 : decode (mb 1200) 217 = .ok (.iaload, 1) := by decide +kernel
theorem d1200_218 : decode (mb 1200) 218 = .ok (.invokevirtual 22, 3) := by decide +kernel
theorem d1200_221 : decode (mb 1200) 221 = .ok (.if_icmp .eq 588, 3) := by decide +kernel
theorem d1200_224 : decode (mb 1200) 224 = .ok (.iconst 0, 1) := by decide +kernel
theorem d1200_225 : decode (mb 1200) 225 = .ok (.ireturn, 1) := by decide +kernel
theorem d1200_226 : decode (mb 1200) 226 = .ok (.aload_n 1, 1) := by decide +kernel
theorem d1200_227 : decode (mb 1200) 227 = .ok (.aload_n 0, 1) := by decide +kernel
theorem d1200_228 : decode (mb 1200) 228 = .ok (.iload_n 3, 1) := by decide +kernel
theorem d1200_229 : decode (mb 1200) 229 = .ok (.iconst 1, 1) := by decide +kernel
theorem d1200_230 : decode (mb 1200) 230 = .ok (.iadd, 1) := by decide +kernel
theorem d1200_231 : decode (mb 1200) 231 = .ok (.iaload, 1) := by decide +kernel
theorem d1200_232 : decode (mb 1200) 232 = .ok (.aload_n 0, 1) := by decide +kernel
theorem d1200_233 : decode (mb 1200) 233 = .ok (.iload_n 3, 1) := by decide +kernel
theorem d1200_234 : decode (mb 1200) 234 = .ok (.iconst 2, 1) := by decide +kernel
theorem d1200_235 : decode (mb 1200) 235 = .ok (.iadd, 1) := by decide +kernel
theorem d1200_236 : decode (mb 1200) 236 = .ok (.iaload, 1) := by decide +kernel
theorem d1200_237 : decode (mb 1200) 237 = .ok (.aload_n 0, 1) := by decide +kernel
theorem d1200_238 : decode (mb 1200) 238 = .ok (.iload_n 3, 1) := by decide +kernel
theorem d1200_239 : decode (mb 1200) 239 = .ok (.iconst 3, 1) := by decide +kernel
theorem d1200_240 : decode (mb 1200) 240 = .ok (.iadd, 1) := by decide +kernel
theorem d1200_241 : decode (mb 1200) 241 = .ok (.iaload, 1) := by decide +kernel
theorem d1200_242 : decode (mb 1200) 242 = .ok (.aload_n 0, 1) := by decide +kernel
theorem d1200_243 : decode (mb 1200) 243 = .ok (.iload_n 3, 1) := by decide +kernel
theorem d1200_244 : decode (mb 1200) 244 = .ok (.iconst 4, 1) := by decide +kernel
theorem d1200_245 : decode (mb 1200) 245 = .ok (.iadd, 1) := by decide +kernel
theorem d1200_246 : decode (mb 1200) 246 = .ok (.iaload, 1) := by decide +kernel
theorem d1200_247 : decode (mb 1200) 247 = .ok (.aload_n 0, 1) := by decide +kernel
theorem d1200_248 : decode (mb 1200) 248 = .ok (.iload_n 3, 1) := by decide +kernel
theorem d1200_249 : decode (mb 1200) 249 = .ok (.iconst 5, 1) := by decide +kernel
theorem d1200_250 : decode (mb 1200) 250 = .ok (.iadd, 1) := by decide +kernel
theorem d1200_251 : decode (mb 1200) 251 = .ok (.iaload, 1) := by decide +kernel
theorem d1200_252 : decode (mb 1200) 252 = .ok (.invokevirtual 23, 3) := by decide +kernel
theorem d1200_255 : decode (mb 1200) 255 = .ok (.aload_n 2, 1) := by decide +kernel
theorem d1200_256 : decode (mb 1200) 256 = .ok (.aload_n 0, 1) := by decide +kernel
theorem d1200_257 : decode (mb 1200) 257 = .ok (.iload_n 3, 1) := by decide +kernel
theorem d1200_258 : decode (mb 1200) 258 = .ok (.iconst 1, 1) := by decide +kernel
theorem d1200_259 : decode (mb 1200) 259 = .ok (.iadd, 1) := by decide +kernel
theorem d1200_260 : decode (mb 1200) 260 = .ok (.iaload, 1) := by decide +kernel
theorem d1200_261 : decode (mb 1200) 261 = .ok (.aload_n 0, 1) := by decide +kernel
theorem d1200_262 : decode (mb 1200) 262 = .ok (.iload_n 3, 1) := by decide +kernel
theorem d1200_263 : decode (mb 1200) 263 = .ok (.iconst 2, 1) := by decide +kernel
theorem d1200_264 : decode (mb 1200) 264 = .ok (.iadd, 1) := by decide +kernel
theorem d1200_265 : decode (mb 1200) 265 = .ok (.iaload, 1) := by decide +kernel
theorem d1200_266 : decode (mb 1200) 266 = .ok (.aload_n 0, 1) := by decide +kernel
theorem d1200_267 : decode (mb 1200) 267 = .ok (.iload_n 3, 1) := by decide +kernel
theorem d1200_268 : decode (mb 1200) 268 = .ok (.iconst 3, 1) := by decide +kernel
theorem d1200_269 : decode (mb 1200) 269 = .ok (.iadd, 1) := by decide +kernel
theorem d1200_270 : decode (mb 1200) 270 = .ok (.iaload, 1) := by decide +kernel
theorem d1200_271 : decode (mb 1200) 271 = .ok (.aload_n 0, 1) := by decide +kernel
theorem d1200_272 : decode (mb 1200) 272 = .ok (.iload_n 3, 1) := by decide +kernel
theorem d1200_273 : decode (mb 1200) 273 = .ok (.iconst 4, 1) := by decide +kernel
theorem d1200_274 : decode (mb 1200) 274 = .ok (.iadd, 1) := by decide +kernel
theorem d1200_275 : decode (mb 1200) 275 = .ok (.iaload, 1) := by decide +kernel
theorem d1200_276 : decode (mb 1200) 276 = .ok (.aload_n 0, 1) := by decide +kernel
theorem d1200_277 : decode (mb 1200) 277 = .ok (.iload_n 3, 1) := by decide +kernel
theorem d1200_278 : decode (mb 1200) 278 = .ok (.iconst 5, 1) := by decide +kernel
theorem d1200_279 : decode (mb 1200) 279 = .ok (.iadd, 1) := by decide +kernel
theorem d1200_280 : decode (mb 1200) 280 = .ok (.iaload, 1) := by decide +kernel
theorem d1200_281 : decode (mb 1200) 281 = .ok (.invokevirtual 26, 3) := by decide +kernel
theorem d1200_284 : decode (mb 1200) 284 = .ok (.if_icmp .eq 525, 3) := by decide +kernel
theorem d1200_287 : decode (mb 1200) 287 = .ok (.iconst 0, 1) := by decide +kernel
theorem d1200_288 : decode (mb 1200) 288 = .ok (.ireturn, 1) := by decide +kernel
theorem d1200_289 : decode (mb 1200) 289 = .ok (.aload_n 1, 1) := by decide +kernel
theorem d1200_290 : decode (mb 1200) 290 = .ok (.aload_n 0, 1) := by decide +kernel
theorem d1200_291 : decode (mb 1200) 291 = .ok (.iload_n 3, 1) := by decide +kernel
theorem d1200_292 : decode (mb 1200) 292 = .ok (.iconst 1, 1) := by decide +kernel
theorem d1200_293 : decode (mb 1200) 293 = .ok (.iadd, 1) := by decide +kernel
theorem d1200_294 : decode (mb 1200) 294 = .ok (.iaload, 1) := by decide +kernel
theorem d1200_295 : decode (mb 1200) 295 = .ok (.invokevirtual 27, 3) := by decide +kernel
theorem d1200_298 : decode (mb 1200) 298 = .ok (.aload_n 2, 1) := by decide +kernel
theorem d1200_299 : decode (mb 1200) 299 = .ok (.aload_n 0, 1) := by decide +kernel
theorem d1200_300 : decode (mb 1200) 300 = .ok (.iload_n 3, 1) := by decide +kernel
theorem d1200_301 : decode (mb 1200) 301 = .ok (.iconst 1, 1) := by decide +kernel
theorem d1200_302 : decode (mb 1200) 302 = .ok (.iadd, 1) := by decide +kernel
theorem d1200_303 : decode (mb 1200) 303 = .ok (.iaload, 1) := by decide +kernel
theorem d1200_304 : decode (mb 1200) 304 = .ok (.invokevirtual 30, 3) := by decide +kernel
theorem d1200_307 : decode (mb 1200) 307 = .ok (.if_icmp .eq 502, 3) := by decide +kernel
theorem d1200_310 : decode (mb 1200) 310 = .ok (.iconst 0, 1) := by decide +kernel
theorem d1200_311 : decode (mb 1200) 311 = .ok (.ireturn, 1) := by decide +kernel
theorem d1200_312 : decode (mb 1200) 312 = .ok (.aload_n 1, 1) := by decide +kernel
theorem d1200_313 : decode (mb 1200) 313 = .ok (.aload_n 0, 1) := by decide +kernel
theorem d1200_314 : decode (mb 1200) 314 = .ok (.iload_n 3, 1) := by decide +kernel
theorem d1200_315 : decode (mb 1200) 315 = .ok (.iconst 1, 1) := by decide +kernel
theorem d1200_316 : decode (mb 1200) 316 = .ok (.iadd, 1) := by decide +kernel
theorem d1200_317 : decode (mb 1200) 317 = .ok (.iaload, 1) := by decide +kernel
theorem d1200_318 : decode (mb 1200) 318 = .ok (.aload_n 0, 1) := by decide +kernel
theorem d1200_319 : decode (mb 1200) 319 = .ok (.iload_n 3, 1) := by decide +kernel
theorem d1200_320 : decode (mb 1200) 320 = .ok (.iconst 2, 1) := by decide +kernel
theorem d1200_321 : decode (mb 1200) 321 = .ok (.iadd, 1) := by decide +kernel
theorem d1200_322 : decode (mb 1200) 322 = .ok (.iaload, 1) := by decide +kernel
theorem d1200_323 : decode (mb 1200) 323 = .ok (.invokevirtual 31, 3) := by decide +kernel
theorem d1200_326 : decode (mb 1200) 326 = .ok (.aload_n 2, 1) := by decide +kernel
theorem d1200_327 : decode (mb 1200) 327 = .ok (.aload_n 0, 1) := by decide +kernel
theorem d1200_328 : decode (mb 1200) 328 = .ok (.iload_n 3, 1) := by decide +kernel
theorem d1200_329 : decode (mb 1200) 329 = .ok (.iconst 1, 1) := by decide +kernel
theorem d1200_330 : decode (mb 1200) 330 = .ok (.iadd, 1) := by decide +kernel
theorem d1200_331 : decode (mb 1200) 331 = .ok (.iaload, 1) := by decide +kernel
theorem d1200_332 : decode (mb 1200) 332 = .ok (.aload_n 0, 1) := by decide +kernel
theorem d1200_333 : decode (mb 1200) 333 = .ok (.iload_n 3, 1) := by decide +kernel
theorem d1200_334 : decode (mb 1200) 334 = .ok (.iconst 2, 1) := by decide +kernel
theorem d1200_335 : decode (mb 1200) 335 = .ok (.iadd, 1) := by decide +kernel
theorem d1200_336 : decode (mb 1200) 336 = .ok (.iaload, 1) := by decide +kernel
theorem d1200_337 : decode (mb 1200) 337 = .ok (.invokevirtual 35, 3) := by decide +kernel
theorem d1200_340 : decode (mb 1200) 340 = .ok (.if_icmp .eq 469, 3) := by decide +kernel
theorem d1200_343 : decode (mb 1200) 343 = .ok (.iconst 0, 1) := by decide +kernel
theorem d1200_344 : decode (mb 1200) 344 = .ok (.ireturn, 1) := by decide +kernel
theorem d1200_345 : decode (mb 1200) 345 = .ok (.aload_n 1, 1) := by decide +kernel
theorem d1200_346 : decode (mb 1200) 346 = .ok (.aload_n 0, 1) := by decide +kernel
theorem d1200_347 : decode (mb 1200) 347 = .ok (.iload_n 3, 1) := by decide +kernel
theorem d1200_348 : decode (mb 1200) 348 = .ok (.iconst 1, 1) := by decide +kernel
theorem d1200_349 : decode (mb 1200) 349 = .ok (.iadd, 1) := by decide +kernel
theorem d1200_350 : decode (mb 1200) 350 = .ok (.iaload, 1) := by decide +kernel
theorem d1200_351 : decode (mb 1200) 351 = .ok (.invokevirtual 36, 3) := by decide +kernel
theorem d1200_354 : decode (mb 1200) 354 = .ok (.aload_n 2, 1) := by decide +kernel
theorem d1200_355 : decode (mb 1200) 355 = .ok (.aload_n 0, 1) := by decide +kernel
theorem d1200_356 : decode (mb 1200) 356 = .ok (.iload_n 3, 1) := by decide +kernel
theorem d1200_357 : decode (mb 1200) 357 = .ok (.iconst 1, 1) := by decide +kernel
theorem d1200_358 : decode (mb 1200) 358 = .ok (.iadd, 1) := by decide +kernel
theorem d1200_359 : decode (mb 1200) 359 = .ok (.iaload, 1) := by decide +kernel
theorem d1200_360 : decode (mb 1200) 360 = .ok (.invokevirtual 39, 3) := by decide +kernel
theorem d1200_363 : decode (mb 1200) 363 = .ok (.if_icmp .eq 446, 3) := by decide +kernel
theorem d1200_366 : decode (mb 1200) 366 = .ok (.iconst 0, 1) := by decide +kernel
theorem d1200_367 : decode (mb 1200) 367 = .ok (.ireturn, 1) := by decide +kernel
theorem d1200_368 : decode (mb 1200) 368 = .ok (.aload_n 1, 1) := by decide +kernel
theorem d1200_369 : decode (mb 1200) 369 = .ok (.aload_n 0, 1) := by decide +kernel
theorem d1200_370 : decode (mb 1200) 370 = .ok (.iload_n 3, 1) := by decide +kernel
theorem d1200_371 : decode (mb 1200) 371 = .ok (.iconst 1, 1) := by decide +kernel
theorem d1200_372 : decode (mb 1200) 372 = .ok (.iadd, 1) := by decide +kernel
theorem d1200_373 : decode (mb 1200) 373 = .ok (.iaload, 1) := by decide +kernel
theorem d1200_374 : decode (mb 1200) 374 = .ok (.aload_n 0, 1) := by decide +kernel
theorem d1200_375 : decode (mb 1200) 375 = .ok (.iload_n 3, 1) := by decide +kernel
theorem d1200_376 : decode (mb 1200) 376 = .ok (.iconst 2, 1) := by decide +kernel
theorem d1200_377 : decode (mb 1200) 377 = .ok (.iadd, 1) := by decide +kernel
theorem d1200_378 : decode (mb 1200) 378 = .ok (.iaload, 1) := by decide +kernel
theorem d1200_379 : decode (mb 1200) 379 = .ok (.invokevirtual 40, 3) := by decide +kernel
theorem d1200_382 : decode (mb 1200) 382 = .ok (.aload_n 2, 1) := by decide +kernel
theorem d1200_383 : decode (mb 1200) 383 = .ok (.aload_n 0, 1) := by decide +kernel
theorem d1200_384 : decode (mb 1200) 384 = .ok (.iload_n 3, 1) := by decide +kernel
theorem d1200_385 : decode (mb 1200) 385 = .ok (.iconst 1, 1) := by decide +kernel
theorem d1200_386 : decode (mb 1200) 386 = .ok (.iadd, 1) := by decide +kernel
theorem d1200_387 : decode (mb 1200) 387 = .ok (.iaload, 1) := by decide +kernel
theorem d1200_388 : decode (mb 1200) 388 = .ok (.aload_n 0, 1) := by decide +kernel
theorem d1200_389 : decode (mb 1200) 389 = .ok (.iload_n 3, 1) := by decide +kernel
theorem d1200_390 : decode (mb 1200) 390 = .ok (.iconst 2, 1) := by decide +kernel
theorem d1200_391 : decode (mb 1200) 391 = .ok (.iadd, 1) := by decide +kernel
theorem d1200_392 : decode (mb 1200) 392 = .ok (.iaload, 1) := by decide +kernel
theorem d1200_393 : decode (mb 1200) 393 = .ok (.invokevirtual 43, 3) := by decide +kernel
theorem d1200_396 : decode (mb 1200) 396 = .ok (.if_icmp .eq 413, 3) := by decide +kernel
theorem d1200_399 : decode (mb 1200) 399 = .ok (.iconst 0, 1) := by decide +kernel
theorem d1200_400 : decode (mb 1200) 400 = .ok (.ireturn, 1) := by decide +kernel
theorem d1200_401 : decode (mb 1200) 401 = .ok (.aload_n 1, 1) := by decide +kernel
theorem d1200_402 : decode (mb 1200) 402 = .ok (.aload_n 0, 1) := by decide +kernel
theorem d1200_403 : decode (mb 1200) 403 = .ok (.iload_n 3, 1) := by decide +kernel
theorem d1200_404 : decode (mb 1200) 404 = .ok (.iconst 1, 1) := by decide +kernel
theorem d1200_405 : decode (mb 1200) 405 = .ok (.iadd, 1) := by decide +kernel
theorem d1200_406 : decode (mb 1200) 406 = .ok (.iaload, 1) := by decide +kernel
theorem d1200_407 : decode (mb 1200) 407 = .ok (.aload_n 0, 1) := by decide +kernel
theorem d1200_408 : decode (mb 1200) 408 = .ok (.iload_n 3, 1) := by decide +kernel
theorem d1200_409 : decode (mb 1200) 409 = .ok (.iconst 2, 1) := by decide +kernel
theorem d1200_410 : decode (mb 1200) 410 = .ok (.iadd, 1) := by decide +kernel
theorem d1200_411 : decode (mb 1200) 411 = .ok (.iaload, 1) := by decide +kernel
theorem d1200_412 : decode (mb 1200) 412 = .ok (.invokevirtual 44, 3) := by decide +kernel
theorem d1200_415 : decode (mb 1200) 415 = .ok (.aload_n 2, 1) := by decide +kernel
theorem d1200_416 : decode (mb 1200) 416 = .ok (.aload_n 0, 1) := by decide +kernel
theorem d1200_417 : decode (mb 1200) 417 = .ok (.iload_n 3, 1) := by decide +kernel
theorem d1200_418 : decode (mb 1200) 418 = .ok (.iconst 1, 1) := by decide +kernel
theorem d1200_419 : decode (mb 1200) 419 = .ok (.iadd, 1) := by decide +kernel
theorem d1200_420 : decode (mb 1200) 420 = .ok (.iaload, 1) := by decide +kernel
theorem d1200_421 : decode (mb 1200) 421 = .ok (.aload_n 0, 1) := by decide +kernel
theorem d1200_422 : decode (mb 1200) 422 = .ok (.iload_n 3, 1) := by decide +kernel
theorem d1200_423 : decode (mb 1200) 423 = .ok (.iconst 2, 1) := by decide +kernel
theorem d1200_424 : decode (mb 1200) 424 = .ok (.iadd, 1) := by decide +kernel
theorem d1200_425 : decode (mb 1200) 425 = .ok (.iaload, 1) := by decide +kernel
theorem d1200_426 : decode (mb 1200) 426 = .ok (.invokevirtual 47, 3) := by decide +kernel
theorem d1200_429 : decode (mb 1200) 429 = .ok (.if_icmp .eq 380, 3) := by decide +kernel
theorem d1200_432 : decode (mb 1200) 432 = .ok (.iconst 0, 1) := by decide +kernel
theorem d1200_433 : decode (mb 1200) 433 = .ok (.ireturn, 1) := by decide +kernel
theorem d1200_434 : decode (mb 1200) 434 = .ok (.aload_n 1, 1) := by decide +kernel
theorem d1200_435 : decode (mb 1200) 435 = .ok (.aload_n 0, 1) := by decide +kernel
theorem d1200_436 : decode (mb 1200) 436 = .ok (.iload_n 3, 1) := by decide +kernel
theorem d1200_437 : decode (mb 1200) 437 = .ok (.iconst 1, 1) := by decide +kernel
theorem d1200_438 : decode (mb 1200) 438 = .ok (.iadd, 1) := by decide +kernel
theorem d1200_439 : decode (mb 1200) 439 = .ok (.iaload, 1) := by decide +kernel
theorem d1200_440 : decode (mb 1200) 440 = .ok (.invokevirtual 48, 3) := by decide +kernel
theorem d1200_443 : decode (mb 1200) 443 = .ok (.aload_n 2, 1) := by decide +kernel
theorem d1200_444 : decode (mb 1200) 444 = .ok (.aload_n 0, 1) := by decide +kernel
theorem d1200_445 : decode (mb 1200) 445 = .ok (.iload_n 3, 1) := by decide +kernel
theorem d1200_446 : decode (mb 1200) 446 = .ok (.iconst 1, 1) := by decide +kernel
theorem d1200_447 : decode (mb 1200) 447 = .ok (.iadd, 1) := by decide +kernel
theorem d1200_448 : decode (mb 1200) 448 = .ok (.iaload, 1) := by decide +kernel
theorem d1200_449 : decode (mb 1200) 449 = .ok (.invokevirtual 51, 3) := by decide +kernel
theorem d1200_452 : decode (mb 1200) 452 = .ok (.if_icmp .eq 357, 3) := by decide +kernel
theorem d1200_455 : decode (mb 1200) 455 = .ok (.iconst 0, 1) := by decide +kernel
theorem d1200_456 : decode (mb 1200) 456 = .ok (.ireturn, 1) := by decide +kernel
theorem d1200_457 : decode (mb 1200) 457 = .ok (.aload_n 1, 1) := by decide +kernel
theorem d1200_458 : decode (mb 1200) 458 = .ok (.aload_n 0, 1) := by decide +kernel
theorem d1200_459 : decode (mb 1200) 459 = .ok (.iload_n 3, 1) := by decide +kernel
theorem d1200_460 : decode (mb 1200) 460 = .ok (.iconst 1, 1) := by decide +kernel
theorem d1200_461 : decode (mb 1200) 461 = .ok (.iadd, 1) := by decide +kernel
theorem d1200_462 : decode (mb 1200) 462 = .ok (.iaload, 1) := by decide +kernel
theorem d1200_463 : decode (mb 1200) 463 = .ok (.aload_n 0, 1) := by decide +kernel
theorem d1200_464 : decode (mb 1200) 464 = .ok (.iload_n 3, 1) := by decide +kernel
theorem d1200_465 : decode (mb 1200) 465 = .ok (.iconst 2, 1) := by decide +kernel
theorem d1200_466 : decode (mb 1200) 466 = .ok (.iadd, 1) := by decide +kernel
theorem d1200_467 : decode (mb 1200) 467 = .ok (.iaload, 1) := by decide +kernel
theorem d1200_468 : decode (mb 1200) 468 = .ok (.aload_n 0, 1) := by decide +kernel
theorem d1200_469 : decode (mb 1200) 469 = .ok (.iload_n 3, 1) := by decide +kernel
theorem d1200_470 : decode (mb 1200) 470 = .ok (.iconst 3, 1) := by decide +kernel
theorem d1200_471 : decode (mb 1200) 471 = .ok (.iadd, 1) := by decide +kernel
theorem d1200_472 : decode (mb 1200) 472 = .ok (.iaload, 1) := by decide +kernel
theorem d1200_473 : decode (mb 1200) 473 = .ok (.invokevirtual 52, 3) := by decide +kernel
theorem d1200_476 : decode (mb 1200) 476 = .ok (.aload_n 2, 1) := by decide +kernel
theorem d1200_477 : decode (mb 1200) 477 = .ok (.aload_n 0, 1) := by decide +kernel
theorem d1200_478 : decode (mb 1200) 478 = .ok (.iload_n 3, 1) := by decide +kernel
theorem d1200_479 : decode (mb 1200) 479 = .ok (.iconst 1, 1) := by decide +kernel
theorem d1200_480 : decode (mb 1200) 480 = .ok (.iadd, 1) := by decide +kernel
theorem d1200_481 : decode (mb 1200) 481 = .ok (.iaload, 1) := by decide +kernel
theorem d1200_482 : decode (mb 1200) 482 = .ok (.aload_n 0, 1) := by decide +kernel
theorem d1200_483 : decode (mb 1200) 483 = .ok (.iload_n 3, 1) := by decide +kernel
theorem d1200_484 : decode (mb 1200) 484 = .ok (.iconst 2, 1) := by decide +kernel
theorem d1200_485 : decode (mb 1200) 485 = .ok (.iadd, 1) := by decide +kernel
theorem d1200_486 : decode (mb 1200) 486 = .ok (.iaload, 1) := by decide +kernel
theorem d1200_487 : decode (mb 1200) 487 = .ok (.aload_n 0, 1) := by decide +kernel
theorem d1200_488 : decode (mb 1200) 488 = .ok (.iload_n 3, 1) := by decide +kernel
theorem d1200_489 : decode (mb 1200) 489 = .ok (.iconst 3, 1) := by decide +kernel
theorem d1200_490 : decode (mb 1200) 490 = .ok (.iadd, 1) := by decide +kernel
theorem d1200_491 : decode (mb 1200) 491 = .ok (.iaload, 1) := by decide +kernel
theorem d1200_492 : decode (mb 1200) 492 = .ok (.invokevirtual 56, 3) := by decide +kernel
theorem d1200_495 : decode (mb 1200) 495 = .ok (.if_icmp .eq 314, 3) := by decide +kernel
theorem d1200_498 : decode (mb 1200) 498 = .ok (.iconst 0, 1) := by decide +kernel
theorem d1200_499 : decode (mb 1200) 499 = .ok (.ireturn, 1) := by decide +kernel
theorem d1200_500 : decode (mb 1200) 500 = .ok (.aload_n 1, 1) := by decide +kernel
theorem d1200_501 : decode (mb 1200) 501 = .ok (.aload_n 0, 1) := by decide +kernel
theorem d1200_502 : decode (mb 1200) 502 = .ok (.iload_n 3, 1) := by decide +kernel
theorem d1200_503 : decode (mb 1200) 503 = .ok (.iconst 1, 1) := by decide +kernel
theorem d1200_504 : decode (mb 1200) 504 = .ok (.iadd, 1) := by decide +kernel
theorem d1200_505 : decode (mb 1200) 505 = .ok (.iaload, 1) := by decide +kernel
theorem d1200_506 : decode (mb 1200) 506 = .ok (.aload_n 0, 1) := by decide +kernel
theorem d1200_507 : decode (mb 1200) 507 = .ok (.iload_n 3, 1) := by decide +kernel
theorem d1200_508 : decode (mb 1200) 508 = .ok (.iconst 2, 1) := by decide +kernel
theorem d1200_509 : decode (mb 1200) 509 = .ok (.iadd, 1) := by decide +kernel
theorem d1200_510 : decode (mb 1200) 510 = .ok (.iaload, 1) := by decide +kernel
theorem d1200_511 : decode (mb 1200) 511 = .ok (.invokevirtual 57, 3) := by decide +kernel
theorem d1200_514 : decode (mb 1200) 514 = .ok (.aload_n 2, 1) := by decide +kernel
theorem d1200_515 : decode (mb 1200) 515 = .ok (.aload_n 0, 1) := by decide +kernel
theorem d1200_516 : decode (mb 1200) 516 = .ok (.iload_n 3, 1) := by decide +kernel
theorem d1200_517 : decode (mb 1200) 517 = .ok (.iconst 1, 1) := by decide +kernel
theorem d1200_518 : decode (mb 1200) 518 = .ok (.iadd, 1) := by decide +kernel
theorem d1200_519 : decode (mb 1200) 519 = .ok (.iaload, 1) := by decide +kernel
theorem d1200_520 : decode (mb 1200) 520 = .ok (.aload_n 0, 1) := by decide +kernel
theorem d1200_521 : decode (mb 1200) 521 = .ok (.iload_n 3, 1) := by decide +kernel
theorem d1200_522 : decode (mb 1200) 522 = .ok (.iconst 2, 1) := by decide +kernel
theorem d1200_523 : decode (mb 1200) 523 = .ok (.iadd, 1) := by decide +kernel
theorem d1200_524 : decode (mb 1200) 524 = .ok (.iaload, 1) := by decide +kernel
theorem d1200_525 : decode (mb 1200) 525 = .ok (.invokevirtual 60, 3) := by decide +kernel
theorem d1200_528 : decode (mb 1200) 528 = .ok (.if_icmp .eq 281, 3) := by decide +kernel
theorem d1200_531 : decode (mb 1200) 531 = .ok (.iconst 0, 1) := by decide +kernel
theorem d1200_532 : decode (mb 1200) 532 = .ok (.ireturn, 1) := by decide +kernel
theorem d1200_533 : decode (mb 1200) 533 = .ok (.aload_n 1, 1) := by decide +kernel
theorem d1200_534 : decode (mb 1200) 534 = .ok (.aload_n 0, 1) := by decide +kernel
theorem d1200_535 : decode (mb 1200) 535 = .ok (.iload_n 3, 1) := by decide +kernel
theorem d1200_536 : decode (mb 1200) 536 = .ok (.iconst 1, 1) := by decide +kernel
theorem d1200_537 : decode (mb 1200) 537 = .ok (.iadd, 1) := by decide +kernel
theorem d1200_538 : decode (mb 1200) 538 = .ok (.iaload, 1) := by decide +kernel
theorem d1200_539 : decode (mb 1200) 539 = .ok (.invokevirtual 61, 3) := by decide +kernel
theorem d1200_542 : decode (mb 1200) 542 = .ok (.aload_n 2, 1) := by decide +kernel
theorem d1200_543 : decode (mb 1200) 543 = .ok (.aload_n 0, 1) := by decide +kernel
theorem d1200_544 : decode (mb 1200) 544 = .ok (.iload_n 3, 1) := by decide +kernel
theorem d1200_545 : decode (mb 1200) 545 = .ok (.iconst 1, 1) := by decide +kernel
theorem d1200_546 : decode (mb 1200) 546 = .ok (.iadd, 1) := by decide +kernel
theorem d1200_547 : decode (mb 1200) 547 = .ok (.iaload, 1) := by decide +kernel
theorem d1200_548 : decode (mb 1200) 548 = .ok (.invokevirtual 64, 3) := by decide +kernel
theorem d1200_551 : decode (mb 1200) 551 = .ok (.if_icmp .eq 258, 3) := by decide +kernel
theorem d1200_554 : decode (mb 1200) 554 = .ok (.iconst 0, 1) := by decide +kernel
theorem d1200_555 : decode (mb 1200) 555 = .ok (.ireturn, 1) := by decide +kernel
theorem d1200_556 : decode (mb 1200) 556 = .ok (.aload_n 1, 1) := by decide +kernel
theorem d1200_557 : decode (mb 1200) 557 = .ok (.aload_n 0, 1) := by decide +kernel
theorem d1200_558 : decode (mb 1200) 558 = .ok (.iload_n 3, 1) := by decide +kernel
theorem d1200_559 : decode (mb 1200) 559 = .ok (.iconst 1, 1) := by decide +kernel
theorem d1200_560 : decode (mb 1200) 560 = .ok (.iadd, 1) := by decide +kernel
theorem d1200_561 : decode (mb 1200) 561 = .ok (.iaload, 1) := by decide +kernel
theorem d1200_562 : decode (mb 1200) 562 = .ok (.invokevirtual 65, 3) := by decide +kernel
theorem d1200_565 : decode (mb 1200) 565 = .ok (.aload_n 2, 1) := by decide +kernel
theorem d1200_566 : decode (mb 1200) 566 = .ok (.aload_n 0, 1) := by decide +kernel
theorem d1200_567 : decode (mb 1200) 567 = .ok (.iload_n 3, 1) := by decide +kernel
theorem d1200_568 : decode (mb 1200) 568 = .ok (.iconst 1, 1) := by decide +kernel
theorem d1200_569 : decode (mb 1200) 569 = .ok (.iadd, 1) := by decide +kernel
theorem d1200_570 : decode (mb 1200) 570 = .ok (.iaload, 1) := by decide +kernel
theorem d1200_571 : decode (mb 1200) 571 = .ok (.invokevirtual 68, 3) := by decide +kernel
theorem d1200_574 : decode (mb 1200) 574 = .ok (.if_icmp .eq 235, 3) := by decide +kernel
theorem d1200_577 : decode (mb 1200) 577 = .ok (.iconst 0, 1) := by decide +kernel
theorem d1200_578 : decode (mb 1200) 578 = .ok (.ireturn, 1) := by decide +kernel
theorem d1200_579 : decode (mb 1200) 579 = .ok (.aload_n 1, 1) := by decide +kernel
theorem d1200_580 : decode (mb 1200) 580 = .ok (.aload_n 0, 1) := by decide +kernel
theorem d1200_581 : decode (mb 1200) 581 = .ok (.iload_n 3, 1) := by decide +kernel
theorem d1200_582 : decode (mb 1200) 582 = .ok (.iconst 1, 1) := by decide +kernel
theorem d1200_583 : decode (mb 1200) 583 = .ok (.iadd, 1) := by decide +kernel
theorem d1200_584 : decode (mb 1200) 584 = .ok (.iaload, 1) := by decide +kernel
theorem d1200_585 : decode (mb 1200) 585 = .ok (.invokevirtual 69, 3) := by decide +kernel
theorem d1200_588 : decode (mb 1200) 588 = .ok (.aload_n 2, 1) := by decide +kernel
theorem d1200_589 : decode (mb 1200) 589 = .ok (.aload_n 0, 1) := by decide +kernel
theorem d1200_590 : decode (mb 1200) 590 = .ok (.iload_n 3, 1) := by decide +kernel
theorem d1200_591 : decode (mb 1200) 591 = .ok (.iconst 1, 1) := by decide +kernel
theorem d1200_592 : decode (mb 1200) 592 = .ok (.iadd, 1) := by decide +kernel
theorem d1200_593 : decode (mb 1200) 593 = .ok (.iaload, 1) := by decide +kernel
theorem d1200_594 : decode (mb 1200) 594 = .ok (.invokevirtual 72, 3) := by decide +kernel
theorem d1200_597 : decode (mb 1200) 597 = .ok (.if_icmp .eq 212, 3) := by decide +kernel
theorem d1200_600 : decode (mb 1200) 600 = .ok (.iconst 0, 1) := by decide +kernel
theorem d1200_601 : decode (mb 1200) 601 = .ok (.ireturn, 1) := by decide +kernel
theorem d1200_602 : decode (mb 1200) 602 = .ok (.aload_n 1, 1) := by decide +kernel
theorem d1200_603 : decode (mb 1200) 603 = .ok (.aload_n 0, 1) := by decide +kernel
theorem d1200_604 : decode (mb 1200) 604 = .ok (.iload_n 3, 1) := by decide +kernel
theorem d1200_605 : decode (mb 1200) 605 = .ok (.iconst 1, 1) := by decide +kernel
theorem d1200_606 : decode (mb 1200) 606 = .ok (.iadd, 1) := by decide +kernel
theorem d1200_607 : decode (mb 1200) 607 = .ok (.iaload, 1) := by decide +kernel
theorem d1200_608 : decode (mb 1200) 608 = .ok (.invokevirtual 73, 3) := by decide +kernel
theorem d1200_611 : decode (mb 1200) 611 = .ok (.aload_n 2, 1) := by decide +kernel
theorem d1200_612 : decode (mb 1200) 612 = .ok (.aload_n 0, 1) := by decide +kernel
theorem d1200_613 : decode (mb 1200) 613 = .ok (.iload_n 3, 1) := by decide +kernel
theorem d1200_614 : decode (mb 1200) 614 = .ok (.iconst 1, 1) := by decide +kernel
theorem d1200_615 : decode (mb 1200) 615 = .ok (.iadd, 1) := by decide +kernel
theorem d1200_616 : decode (mb 1200) 616 = .ok (.iaload, 1) := by decide +kernel
theorem d1200_617 : decode (mb 1200) 617 = .ok (.invokevirtual 76, 3) := by decide +kernel
theorem d1200_620 : decode (mb 1200) 620 = .ok (.if_icmp .eq 189, 3) := by decide +kernel
theorem d1200_623 : decode (mb 1200) 623 = .ok (.iconst 0, 1) := by decide +kernel
theorem d1200_624 : decode (mb 1200) 624 = .ok (.ireturn, 1) := by decide +kernel
theorem d1200_625 : decode (mb 1200) 625 = .ok (.aload_n 1, 1) := by decide +kernel
theorem d1200_626 : decode (mb 1200) 626 = .ok (.aload_n 0, 1) := by decide +kernel
theorem d1200_627 : decode (mb 1200) 627 = .ok (.iload_n 3, 1) := by decide +kernel
theorem d1200_628 : decode (mb 1200) 628 = .ok (.iconst 1, 1) := by decide +kernel
theorem d1200_629 : decode (mb 1200) 629 = .ok (.iadd, 1) := by decide +kernel
theorem d1200_630 : decode (mb 1200) 630 = .ok (.iaload, 1) := by decide +kernel
theorem d1200_631 : decode (mb 1200) 631 = .ok (.invokevirtual 77, 3) := by decide +kernel
theorem d1200_634 : decode (mb 1200) 634 = .ok (.aload_n 2, 1) := by decide +kernel
theorem d1200_635 : decode (mb 1200) 635 = .ok (.aload_n 0, 1) := by decide +kernel
theorem d1200_636 : decode (mb 1200) 636 = .ok (.iload_n 3, 1) := by decide +kernel
theorem d1200_637 : decode (mb 1200) 637 = .ok (.iconst 1, 1) := by decide +kernel
theorem d1200_638 : decode (mb 1200) 638 = .ok (.iadd, 1) := by decide +kernel
theorem d1200_639 : decode (mb 1200) 639 = .ok (.iaload, 1) := by decide +kernel
theorem d1200_640 : decode (mb 1200) 640 = .ok (.invokevirtual 80, 3) := by decide +kernel
theorem d1200_643 : decode (mb 1200) 643 = .ok (.if_icmp .eq 166, 3) := by decide +kernel
theorem d1200_646 : decode (mb 1200) 646 = .ok (.iconst 0, 1) := by decide +kernel
theorem d1200_647 : decode (mb 1200) 647 = .ok (.ireturn, 1) := by decide +kernel
theorem d1200_648 : decode (mb 1200) 648 = .ok (.aload_n 1, 1) := by decide +kernel
theorem d1200_649 : decode (mb 1200) 649 = .ok (.invokevirtual 81, 3) := by decide +kernel
theorem d1200_652 : decode (mb 1200) 652 = .ok (.aload_n 2, 1) := by decide +kernel
theorem d1200_653 : decode (mb 1200) 653 = .ok (.invokevirtual 85, 3) := by decide +kernel
theorem d1200_656 : decode (mb 1200) 656 = .ok (.if_icmp .eq 153, 3) := by decide +kernel
theorem d1200_659 : decode (mb 1200) 659 = .ok (.iconst 0, 1) := by decide +kernel
theorem d1200_660 : decode (mb 1200) 660 = .ok (.ireturn, 1) := by decide +kernel
theorem d1200_661 : decode (mb 1200) 661 = .ok (.aload_n 1, 1) := by decide +kernel
theorem d1200_662 : decode (mb 1200) 662 = .ok (.aload_n 0, 1) := by decide +kernel
theorem d1200_663 : decode (mb 1200) 663 = .ok (.iload_n 3, 1) := by decide +kernel
theorem d1200_664 : decode (mb 1200) 664 = .ok (.iconst 1, 1) := by decide +kernel
theorem d1200_665 : decode (mb 1200) 665 = .ok (.iadd, 1) := by decide +kernel
theorem d1200_666 : decode (mb 1200) 666 = .ok (.iaload, 1) := by decide +kernel
theorem d1200_667 : decode (mb 1200) 667 = .ok (.aload_n 0, 1) := by decide +kernel
theorem d1200_668 : decode (mb 1200) 668 = .ok (.iload_n 3, 1) := by decide +kernel
theorem d1200_669 : decode (mb 1200) 669 = .ok (.iconst 2, 1) := by decide +kernel
theorem d1200_670 : decode (mb 1200) 670 = .ok (.iadd, 1) := by decide +kernel
theorem d1200_671 : decode (mb 1200) 671 = .ok (.iaload, 1) := by decide +kernel
theorem d1200_672 : decode (mb 1200) 672 = .ok (.invokevirtual 86, 3) := by decide +kernel
theorem d1200_675 : decode (mb 1200) 675 = .ok (.aload_n 2, 1) := by decide +kernel
theorem d1200_676 : decode (mb 1200) 676 = .ok (.aload_n 0, 1) := by decide +kernel
theorem d1200_677 : decode (mb 1200) 677 = .ok (.iload_n 3, 1) := by decide +kernel
theorem d1200_678 : decode (mb 1200) 678 = .ok (.iconst 1, 1) := by decide +kernel
theorem d1200_679 : decode (mb 1200) 679 = .ok (.iadd, 1) := by decide +kernel
theorem d1200_680 : decode (mb 1200) 680 = .ok (.iaload, 1) := by decide +kernel
theorem d1200_681 : decode (mb 1200) 681 = .ok (.aload_n 0, 1) := by decide +kernel
theorem d1200_682 : decode (mb 1200) 682 = .ok (.iload_n 3, 1) := by decide +kernel
theorem d1200_683 : decode (mb 1200) 683 = .ok (.iconst 2, 1) := by decide +kernel
theorem d1200_684 : decode (mb 1200) 684 = .ok (.iadd, 1) := by decide +kernel
theorem d1200_685 : decode (mb 1200) 685 = .ok (.iaload, 1) := by decide +kernel
theorem d1200_686 : decode (mb 1200) 686 = .ok (.invokevirtual 89, 3) := by decide +kernel
theorem d1200_689 : decode (mb 1200) 689 = .ok (.if_icmp .eq 120, 3) := by decide +kernel
theorem d1200_692 : decode (mb 1200) 692 = .ok (.iconst 0, 1) := by decide +kernel
theorem d1200_693 : decode (mb 1200) 693 = .ok (.ireturn, 1) := by decide +kernel
theorem d1200_694 : decode (mb 1200) 694 = .ok (.aload_n 1, 1) := by decide +kernel
theorem d1200_695 : decode (mb 1200) 695 = .ok (.aload_n 0, 1) := by decide +kernel
theorem d1200_696 : decode (mb 1200) 696 = .ok (.iload_n 3, 1) := by decide +kernel
theorem d1200_697 : decode (mb 1200) 697 = .ok (.iconst 1, 1) := by decide +kernel
theorem d1200_698 : decode (mb 1200) 698 = .ok (.iadd, 1) := by decide +kernel
theorem d1200_699 : decode (mb 1200) 699 = .ok (.iaload, 1) := by decide +kernel
theorem d1200_700 : decode (mb 1200) 700 = .ok (.invokevirtual 90, 3) := by decide +kernel
theorem d1200_703 : decode (mb 1200) 703 = .ok (.aload_n 2, 1) := by decide +kernel
theorem d1200_704 : decode (mb 1200) 704 = .ok (.aload_n 0, 1) := by decide +kernel
theorem d1200_705 : decode (mb 1200) 705 = .ok (.iload_n 3, 1) := by decide +kernel
theorem d1200_706 : decode (mb 1200) 706 = .ok (.iconst 1, 1) := by decide +kernel
theorem d1200_707 : decode (mb 1200) 707 = .ok (.iadd, 1) := by decide +kernel
theorem d1200_708 : decode (mb 1200) 708 = .ok (.iaload, 1) := by decide +kernel
theorem d1200_709 : decode (mb 1200) 709 = .ok (.invokevirtual 93, 3) := by decide +kernel
theorem d1200_712 : decode (mb 1200) 712 = .ok (.if_icmp .eq 97, 3) := by decide +kernel
theorem d1200_715 : decode (mb 1200) 715 = .ok (.iconst 0, 1) := by decide +kernel
theorem d1200_716 : decode (mb 1200) 716 = .ok (.ireturn, 1) := by decide +kernel
theorem d1200_717 : decode (mb 1200) 717 = .ok (.aload_n 1, 1) := by decide +kernel
theorem d1200_718 : decode (mb 1200) 718 = .ok (.aload_n 0, 1) := by decide +kernel
theorem d1200_719 : decode (mb 1200) 719 = .ok (.iload_n 3, 1) := by decide +kernel
theorem d1200_720 : decode (mb 1200) 720 = .ok (.iconst 1, 1) := by decide +kernel
theorem d1200_721 : decode (mb 1200) 721 = .ok (.iadd, 1) := by decide +kernel
theorem d1200_722 : decode (mb 1200) 722 = .ok (.iaload, 1) := by decide +kernel
theorem d1200_723 : decode (mb 1200) 723 = .ok (.invokevirtual 94, 3) := by decide +kernel
theorem d1200_726 : decode (mb 1200) 726 = .ok (.aload_n 2, 1) := by decide +kernel
theorem d1200_727 : decode (mb 1200) 727 = .ok (.aload_n 0, 1) := by decide +kernel
theorem d1200_728 : decode (mb 1200) 728 = .ok (.iload_n 3, 1) := by decide +kernel
theorem d1200_729 : decode (mb 1200) 729 = .ok (.iconst 1, 1) := by decide +kernel
theorem d1200_730 : decode (mb 1200) 730 = .ok (.iadd, 1) := by decide +kernel
theorem d1200_731 : decode (mb 1200) 731 = .ok (.iaload, 1) := by decide +kernel
theorem d1200_732 : decode (mb 1200) 732 = .ok (.invokevirtual 97, 3) := by decide +kernel
theorem d1200_735 : decode (mb 1200) 735 = .ok (.if_icmp .eq 74, 3) := by decide +kernel
theorem d1200_738 : decode (mb 1200) 738 = .ok (.iconst 0, 1) := by decide +kernel
theorem d1200_739 : decode (mb 1200) 739 = .ok (.ireturn, 1) := by decide +kernel
theorem d1200_740 : decode (mb 1200) 740 = .ok (.aload_n 1, 1) := by decide +kernel
theorem d1200_741 : decode (mb 1200) 741 = .ok (.aload_n 0, 1) := by decide +kernel
theorem d1200_742 : decode (mb 1200) 742 = .ok (.iload_n 3, 1) := by decide +kernel
theorem d1200_743 : decode (mb 1200) 743 = .ok (.iconst 1, 1) := by decide +kernel
theorem d1200_744 : decode (mb 1200) 744 = .ok (.iadd, 1) := by decide +kernel
theorem d1200_745 : decode (mb 1200) 745 = .ok (.iaload, 1) := by decide +kernel
theorem d1200_746 : decode (mb 1200) 746 = .ok (.aload_n 0, 1) := by decide +kernel
theorem d1200_747 : decode (mb 1200) 747 = .ok (.iload_n 3, 1) := by decide +kernel
theorem d1200_748 : decode (mb 1200) 748 = .ok (.iconst 2, 1) := by decide +kernel
theorem d1200_749 : decode (mb 1200) 749 = .ok (.iadd, 1) := by decide +kernel
theorem d1200_750 : decode (mb 1200) 750 = .ok (.iaload, 1) := by decide +kernel
theorem d1200_751 : decode (mb 1200) 751 = .ok (.invokevirtual 98, 3) := by decide +kernel
theorem d1200_754 : decode (mb 1200) 754 = .ok (.aload_n 2, 1) := by decide +kernel
theorem d1200_755 : decode (mb 1200) 755 = .ok (.aload_n 0, 1) := by decide +kernel
theorem d1200_756 : decode (mb 1200) 756 = .ok (.iload_n 3, 1) := by decide +kernel
theorem d1200_757 : decode (mb 1200) 757 = .ok (.iconst 1, 1) := by decide +kernel
theorem d1200_758 : decode (mb 1200) 758 = .ok (.iadd, 1) := by decide +kernel
theorem d1200_759 : decode (mb 1200) 759 = .ok (.iaload, 1) := by decide +kernel
theorem d1200_760 : decode (mb 1200) 760 = .ok (.aload_n 0, 1) := by decide +kernel
theorem d1200_761 : decode (mb 1200) 761 = .ok (.iload_n 3, 1) := by decide +kernel
theorem d1200_762 : decode (mb 1200) 762 = .ok (.iconst 2, 1) := by decide +kernel
theorem d1200_763 : decode (mb 1200) 763 = .ok (.iadd, 1) := by decide +kernel
theorem d1200_764 : decode (mb 1200) 764 = .ok (.iaload, 1) := by decide +kernel
theorem d1200_765 : decode (mb 1200) 765 = .ok (.invokevirtual 101, 3) := by decide +kernel
theorem d1200_768 : decode (mb 1200) 768 = .ok (.if_icmp .eq 41, 3) := by decide +kernel
theorem d1200_771 : decode (mb 1200) 771 = .ok (.iconst 0, 1) := by decide +kernel
theorem d1200_772 : decode (mb 1200) 772 = .ok (.ireturn, 1) := by decide +kernel
theorem d1200_773 : decode (mb 1200) 773 = .ok (.aload_n 1, 1) := by decide +kernel
theorem d1200_774 : decode (mb 1200) 774 = .ok (.invokevirtual 102, 3) := by decide +kernel
theorem d1200_777 : decode (mb 1200) 777 = .ok (.aload_n 2, 1) := by decide +kernel
theorem d1200_778 : decode (mb 1200) 778 = .ok (.invokevirtual 105, 3) := by decide +kernel
theorem d1200_781 : decode (mb 1200) 781 = .ok (.if_icmp .eq 28, 3) := by decide +kernel
theorem d1200_784 : decode (mb 1200) 784 = .ok (.iconst 0, 1) := by decide +kernel
theorem d1200_785 : decode (mb 1200) 785 = .ok (.ireturn, 1) := by decide +kernel
theorem d1200_786 : decode (mb 1200) 786 = .ok (.aload_n 1, 1) := by decide +kernel
theorem d1200_787 : decode (mb 1200) 787 = .ok (.aload_n 0, 1) := by decide +kernel
theorem d1200_788 : decode (mb 1200) 788 = .ok (.iload_n 3, 1) := by decide +kernel
theorem d1200_789 : decode (mb 1200) 789 = .ok (.iconst 1, 1) := by decide +kernel
theorem d1200_790 : decode (mb 1200) 790 = .ok (.iadd, 1) := by decide +kernel
theorem d1200_791 : decode (mb 1200) 791 = .ok (.iaload, 1) := by decide +kernel
theorem d1200_792 : decode (mb 1200) 792 = .ok (.invokevirtual 106, 3) := by decide +kernel
theorem d1200_795 : decode (mb 1200) 795 = .ok (.aload_n 2, 1) := by decide +kernel
theorem d1200_796 : decode (mb 1200) 796 = .ok (.aload_n 0, 1) := by decide +kernel
theorem d1200_797 : decode (mb 1200) 797 = .ok (.iload_n 3, 1) := by decide +kernel
theorem d1200_798 : decode (mb 1200) 798 = .ok (.iconst 1, 1) := by decide +kernel
theorem d1200_799 : decode (mb 1200) 799 = .ok (.iadd, 1) := by decide +kernel
theorem d1200_800 : decode (mb 1200) 800 = .ok (.iaload, 1) := by decide +kernel
theorem d1200_801 : decode (mb 1200) 801 = .ok (.invokevirtual 109, 3) := by decide +kernel
theorem d1200_804 : decode (mb 1200) 804 = .ok (.if_icmp .eq 5, 3) := by decide +kernel
theorem d1200_807 : decode (mb 1200) 807 = .ok (.iconst 0, 1) := by decide +kernel
theorem d1200_808 : decode (mb 1200) 808 = .ok (.ireturn, 1) := by decide +kernel
theorem d1200_809 : decode (mb 1200) 809 = .ok (.iinc 3 6, 3) := by decide +kernel
theorem d1200_812 : decode (mb 1200) 812 = .ok (.goto (-794), 3) := by decide +kernel
theorem d1200_815 : decode (mb 1200) 815 = .ok (.iconst 1, 1) := by decide +kernel
theorem d1200_816 : decode (mb 1200) 816 = .ok (.ireturn, 1) := by decide +kernel
theorem x1200_0 {L S : List Value} {h : HP} : pX 1200 0 L S h = pX 1200 3 L (.ref (hp_n h) :: S) (hp_mk h 11 0 3) := pX_new d1200_0 rfl
theorem x1200_3 {L S : List Value} {h : HP} {a0 : Nat} : pX 1200 3 L (.ref a0 :: S) h = pX 1200 4 L (.ref a0 :: .ref a0 :: S) h := pX_stp d1200_3 rfl rfl rfl
theorem x1200_4 {L : List Value} {h : HP} {a0 : Nat} {a1 : Nat} (hk : hp_k h a0 = 11) : pX 1200 4 L [.ref a0, .ref a1] h = (pX 1000 0 [.ref a0, .retAddr 0] [] h).bind (fun q => pX 1200 7 L (q.1.toList ++ [.ref a1]) q.2) := pX_inv (a := a0) (t := 11) 1000 [.ref a0] [.ref a1] d1200_4 rfl rfl rfl hk
theorem x1200_7 {S : List Value} {h : HP} {l0 l1 l2 l3 : Value} {a0 : Nat} : pX 1200 7 [l0, l1, l2, l3] (.ref a0 :: S) h = pX 1200 8 [l0, .ref a0, l2, l3] S h := pX_stp d1200_7 rfl rfl rfl
theorem x1200_8 {L S : List Value} {h : HP} : pX 1200 8 L S h = pX 1200 11 L (.ref (hp_n h) :: S) (hp_mk h 12 0 49) := pX_new d1200_8 rfl
theorem x1200_11 {L S : List Value} {h : HP} {a0 : Nat} : pX 1200 11 L (.ref a0 :: S) h = pX 1200 12 L (.ref a0 :: .ref a0 :: S) h := pX_stp d1200_11 rfl rfl rfl
theorem x1200_12 {L : List Value} {h : HP} {a0 : Nat} {a1 : Nat} (hk : hp_k h a0 = 12) : pX 1200 12 L [.ref a0, .ref a1] h = (pX 1100 0 [.ref a0, .retAddr 0] [] h).bind (fun q => pX 1200 15 L (q.1.toList ++ [.ref a1]) q.2) := pX_inv (a := a0) (t := 12) 1100 [.ref a0] [.ref a1] d1200_12 rfl rfl rfl hk
theorem x1200_15 {S : List Value} {h : HP} {l0 l1 l2 l3 : Value} {a0 : Nat} : pX 1200 15 [l0, l1, l2, l3] (.ref a0 :: S) h = pX 1200 16 [l0, l1, .ref a0, l3] S h := pX_stp d1200_15 rfl rfl rfl
theorem x1200_16 {L S : List Value} {h : HP} : pX 1200 16 L S h = pX 1200 17 L (.int 0 :: S) h := pX_iconst d1200_16 (by decide)
theorem x1200_17 {S : List Value} {h : HP} {l0 l1 l2 l3 : Value} {x0 : Int32} : pX 1200 17 [l0, l1, l2, l3] (.int x0 :: S) h = pX 1200 18 [l0, l1, l2, .int x0] S h := pX_stp d1200_17 rfl rfl rfl
theorem x1200_18 {S : List Value} {h : HP} {l0 l1 l2 : Value} {x0 : Int32} : pX 1200 18 [l0, l1, l2, .int x0] S h = pX 1200 19 [l0, l1, l2, .int x0] (.int x0 :: S) h := pX_stp d1200_18 rfl rfl rfl
theorem x1200_19 {S : List Value} {h : HP} {l1 l2 l3 : Value} {a0 : Nat} : pX 1200 19 [.ref a0, l1, l2, l3] S h = pX 1200 20 [.ref a0, l1, l2, l3] (.ref a0 :: S) h := pX_stp d1200_19 rfl rfl rfl
theorem x1200_20 {L S : List Value} {h : HP} {a : Nat} (hk : 99 ≤ hp_k h a) : pX 1200 20 L (.ref a :: S) h = pX 1200 21 L (.int (Int32.ofNat (hp_l h a)) :: S) h := pX_len d1200_20 hk
theorem x1200_21 {L S : List Value} {h : HP} : pX 1200 21 L S h = pX 1200 23 L (.int 6 :: S) h := pX_bipush d1200_21 (by decide)
theorem x1200_23 {L S : List Value} {h : HP} {x y : Int32} : pX 1200 23 L (.int y :: .int x :: S) h = pX 1200 24 L (.int (x - y) :: S) h := pX_stp d1200_23 rfl rfl rfl
theorem x1200_24 {L S : List Value} {h : HP} {x y : Int32} : pX 1200 24 L (.int y :: .int x :: S) h = if y < x then pX 1200 815 L S h else pX 1200 27 L S h := pX_icmp_gt d1200_24 (by decide)
theorem x1200_27 {S : List Value} {h : HP} {l1 l2 l3 : Value} {a0 : Nat} : pX 1200 27 [.ref a0, l1, l2, l3] S h = pX 1200 28 [.ref a0, l1, l2, l3] (.ref a0 :: S) h := pX_stp d1200_27 rfl rfl rfl
theorem x1200_28 {S : List Value} {h : HP} {l0 l1 l2 : Value} {x0 : Int32} : pX 1200 28 [l0, l1, l2, .int x0] S h = pX 1200 29 [l0, l1, l2, .int x0] (.int x0 :: S) h := pX_stp d1200_28 rfl rfl rfl
theorem x1200_29 {L S : List Value} {h : HP} {a : Nat} {j : Int32} (hk : hp_k h a = 99) (hj : inb j (hp_l h a) = true) : pX 1200 29 L (.int j :: .ref a :: S) h = pX 1200 30 L (.int (hp_i h a (ix j)) :: S) h := pX_ildR d1200_29 hk hj
theorem x1200_30 {L S : List Value} {h : HP} : pX 1200 30 L S h = pX 1200 32 L (.int 31 :: S) h := pX_bipush d1200_30 (by decide)
theorem x1200_32 {L S : List Value} {h : HP} {x y : Int32} : pX 1200 32 L (.int y :: .int x :: S) h = pX 1200 33 L (.int (x &&& y) :: S) h := pX_stp d1200_32 rfl rfl rfl
theorem x1200_33_0 {L S : List Value} {h : HP} : pX 1200 33 L (.int 0 :: S) h = pX 1200 140 L S h := pX_tabIn (off := 107) d1200_33 (by decide) (by decide) (by decide) (by decide)
theorem x1200_33_1 {L S : List Value} {h : HP} : pX 1200 33 L (.int 1 :: S) h = pX 1200 163 L S h := pX_tabIn (off := 130) d1200_33 (by decide) (by decide) (by decide) (by decide)
theorem x1200_33_2 {L S : List Value} {h : HP} : pX 1200 33 L (.int 2 :: S) h = pX 1200 226 L S h := pX_tabIn (off := 193) d1200_33 (by decide) (by decide) (by decide) (by decide)
theorem x1200_33_3 {L S : List Value} {h : HP} : pX 1200 33 L (.int 3 :: S) h = pX 1200 289 L S h := pX_tabIn (off := 256) d1200_33 (by decide) (by decide) (by decide) (by decide)
theorem x1200_33_4 {L S : List Value} {h : HP} : pX 1200 33 L (.int 4 :: S) h = pX 1200 312 L S h := pX_tabIn (off := 279) d1200_33 (by decide) (by decide) (by decide) (by decide)
theorem x1200_33_5 {L S : List Value} {h : HP} : pX 1200 33 L (.int 5 :: S) h = pX 1200 345 L S h := pX_tabIn (off := 312) d1200_33 (by decide) (by decide) (by decide) (by decide)
theorem x1200_33_6 {L S : List Value} {h : HP} : pX 1200 33 L (.int 6 :: S) h = pX 1200 368 L S h := pX_tabIn (off := 335) d1200_33 (by decide) (by decide) (by decide) (by decide)
theorem x1200_33_7 {L S : List Value} {h : HP} : pX 1200 33 L (.int 7 :: S) h = pX 1200 401 L S h := pX_tabIn (off := 368) d1200_33 (by decide) (by decide) (by decide) (by decide)
theorem x1200_33_8 {L S : List Value} {h : HP} : pX 1200 33 L (.int 8 :: S) h = pX 1200 434 L S h := pX_tabIn (off := 401) d1200_33 (by decide) (by decide) (by decide) (by decide)
theorem x1200_33_9 {L S : List Value} {h : HP} : pX 1200 33 L (.int 9 :: S) h = pX 1200 457 L S h := pX_tabIn (off := 424) d1200_33 (by decide) (by decide) (by decide) (by decide)
theorem x1200_33_10 {L S : List Value} {h : HP} : pX 1200 33 L (.int 10 :: S) h = pX 1200 500 L S h := pX_tabIn (off := 467) d1200_33 (by decide) (by decide) (by decide) (by decide)
theorem x1200_33_11 {L S : List Value} {h : HP} : pX 1200 33 L (.int 11 :: S) h = pX 1200 533 L S h := pX_tabIn (off := 500) d1200_33 (by decide) (by decide) (by decide) (by decide)
theorem x1200_33_12 {L S : List Value} {h : HP} : pX 1200 33 L (.int 12 :: S) h = pX 1200 556 L S h := pX_tabIn (off := 523) d1200_33 (by decide) (by decide) (by decide) (by decide)
theorem x1200_33_13 {L S : List Value} {h : HP} : pX 1200 33 L (.int 13 :: S) h = pX 1200 579 L S h := pX_tabIn (off := 546) d1200_33 (by decide) (by decide) (by decide) (by decide)
theorem x1200_33_14 {L S : List Value} {h : HP} : pX 1200 33 L (.int 14 :: S) h = pX 1200 602 L S h := pX_tabIn (off := 569) d1200_33 (by decide) (by decide) (by decide) (by decide)
theorem x1200_33_15 {L S : List Value} {h : HP} : pX 1200 33 L (.int 15 :: S) h = pX 1200 625 L S h := pX_tabIn (off := 592) d1200_33 (by decide) (by decide) (by decide) (by decide)
theorem x1200_33_16 {L S : List Value} {h : HP} : pX 1200 33 L (.int 16 :: S) h = pX 1200 648 L S h := pX_tabIn (off := 615) d1200_33 (by decide) (by decide) (by decide) (by decide)
theorem x1200_33_17 {L S : List Value} {h : HP} : pX 1200 33 L (.int 17 :: S) h = pX 1200 661 L S h := pX_tabIn (off := 628) d1200_33 (by decide) (by decide) (by decide) (by decide)
theorem x1200_33_18 {L S : List Value} {h : HP} : pX 1200 33 L (.int 18 :: S) h = pX 1200 694 L S h := pX_tabIn (off := 661) d1200_33 (by decide) (by decide) (by decide) (by decide)
theorem x1200_33_19 {L S : List Value} {h : HP} : pX 1200 33 L (.int 19 :: S) h = pX 1200 717 L S h := pX_tabIn (off := 684) d1200_33 (by decide) (by decide) (by decide) (by decide)
theorem x1200_33_20 {L S : List Value} {h : HP} : pX 1200 33 L (.int 20 :: S) h = pX 1200 740 L S h := pX_tabIn (off := 707) d1200_33 (by decide) (by decide) (by decide) (by decide)
theorem x1200_33_21 {L S : List Value} {h : HP} : pX 1200 33 L (.int 21 :: S) h = pX 1200 773 L S h := pX_tabIn (off := 740) d1200_33 (by decide) (by decide) (by decide) (by decide)
theorem x1200_33_22 {L S : List Value} {h : HP} : pX 1200 33 L (.int 22 :: S) h = pX 1200 786 L S h := pX_tabIn (off := 753) d1200_33 (by decide) (by decide) (by decide) (by decide)
theorem x1200_33_d {L S : List Value} {h : HP} {x : Int32} (hx : x.toInt < 0 ∨ 22 < x.toInt) : pX 1200 33 L (.int x :: S) h = pX 1200 809 L S h := pX_tabOut d1200_33 hx (by decide)
theorem x1200_140 {S : List Value} {h : HP} {l0 l2 l3 : Value} {a0 : Nat} : pX 1200 140 [l0, .ref a0, l2, l3] S h = pX 1200 141 [l0, .ref a0, l2, l3] (.ref a0 :: S) h := pX_stp d1200_140 rfl rfl rfl
theorem x1200_141 {S : List Value} {h : HP} {l1 l2 l3 : Value} {a0 : Nat} : pX 1200 141 [.ref a0, l1, l2, l3] S h = pX 1200 142 [.ref a0, l1, l2, l3] (.ref a0 :: S) h := pX_stp d1200_141 rfl rfl rfl
theorem x1200_142 {S : List Value} {h : HP} {l0 l1 l2 : Value} {x0 : Int32} : pX 1200 142 [l0, l1, l2, .int x0] S h = pX 1200 143 [l0, l1, l2, .int x0] (.int x0 :: S) h := pX_stp d1200_142 rfl rfl rfl
theorem x1200_143 {L S : List Value} {h : HP} : pX 1200 143 L S h = pX 1200 144 L (.int 1 :: S) h := pX_iconst d1200_143 (by decide)
theorem x1200_144 {L S : List Value} {h : HP} {x y : Int32} : pX 1200 144 L (.int y :: .int x :: S) h = pX 1200 145 L (.int (x + y) :: S) h := pX_stp d1200_144 rfl rfl rfl
theorem x1200_145 {L S : List Value} {h : HP} {a : Nat} {j : Int32} (hk : hp_k h a = 99) (hj : inb j (hp_l h a) = true) : pX 1200 145 L (.int j :: .ref a :: S) h = pX 1200 146 L (.int (hp_i h a (ix j)) :: S) h := pX_ildR d1200_145 hk hj
theorem x1200_146 {L : List Value} {h : HP} {x0 : Int32} {a0 : Nat} (hk : hp_k h a0 = 11) : pX 1200 146 L [.int x0, .ref a0] h = (pX 1001 0 [.ref a0, .int x0, .retAddr 0] [] h).bind (fun q => pX 1200 149 L (q.1.toList ++ []) q.2) := pX_inv (a := a0) (t := 11) 1001 [.ref a0, .int x0] [] d1200_146 rfl rfl rfl hk
theorem x1200_149 {S : List Value} {h : HP} {l0 l1 l3 : Value} {a0 : Nat} : pX 1200 149 [l0, l1, .ref a0, l3] S h = pX 1200 150 [l0, l1, .ref a0, l3] (.ref a0 :: S) h := pX_stp d1200_149 rfl rfl rfl
theorem x1200_150 {S : List Value} {h : HP} {l1 l2 l3 : Value} {a0 : Nat} : pX 1200 150 [.ref a0, l1, l2, l3] S h = pX 1200 151 [.ref a0, l1, l2, l3] (.ref a0 :: S) h := pX_stp d1200_150 rfl rfl rfl
theorem x1200_151 {S : List Value} {h : HP} {l0 l1 l2 : Value} {x0 : Int32} : pX 1200 151 [l0, l1, l2, .int x0] S h = pX 1200 152 [l0, l1, l2, .int x0] (.int x0 :: S) h := pX_stp d1200_151 rfl rfl rfl
theorem x1200_152 {L S : List Value} {h : HP} : pX 1200 152 L S h = pX 1200 153 L (.int 1 :: S) h := pX_iconst d1200_152 (by decide)
theorem x1200_153 {L S : List Value} {h : HP} {x y : Int32} : pX 1200 153 L (.int y :: .int x :: S) h = pX 1200 154 L (.int (x + y) :: S) h := pX_stp d1200_153 rfl rfl rfl
theorem x1200_154 {L S : List Value} {h : HP} {a : Nat} {j : Int32} (hk : hp_k h a = 99) (hj : inb j (hp_l h a) = true) : pX 1200 154 L (.int j :: .ref a :: S) h = pX 1200 155 L (.int (hp_i h a (ix j)) :: S) h := pX_ildR d1200_154 hk hj
theorem x1200_155 {L : List Value} {h : HP} {x0 : Int32} {a0 : Nat} {x1 : Int32} (hk : hp_k h a0 = 12) : pX 1200 155 L [.int x0, .ref a0, .int x1] h = (pX 1103 0 [.ref a0, .int x0] [] h).bind (fun q => pX 1200 158 L (q.1.toList ++ [.int x1]) q.2) := pX_inv (a := a0) (t := 12) 1103 [.ref a0, .int x0] [.int x1] d1200_155 rfl rfl rfl hk
theorem x1200_158 {L S : List Value} {h : HP} {x y : Int32} : pX 1200 158 L (.int y :: .int x :: S) h = if x = y then pX 1200 809 L S h else pX 1200 161 L S h := pX_icmp_eq d1200_158 (by decide)
theorem x1200_161 {L S : List Value} {h : HP} : pX 1200 161 L S h = pX 1200 162 L (.int 0 :: S) h := pX_iconst d1200_161 (by decide)
theorem x1200_162 {L : List Value} {h : HP} {x : Int32} (hx : x = 0 ∨ x = 1) : pX 1200 162 L [.int x] h = some (some (.int x), h) := pX_ret d1200_162 (by rcases hx with rfl | rfl <;> rfl)
theorem x1200_163 {S : List Value} {h : HP} {l0 l2 l3 : Value} {a0 : Nat} : pX 1200 163 [l0, .ref a0, l2, l3] S h = pX 1200 164 [l0, .ref a0, l2, l3] (.ref a0 :: S) h := pX_stp d1200_163 rfl rfl rfl
theorem x1200_164 {S : List Value} {h : HP} {l1 l2 l3 : Value} {a0 : Nat} : pX 1200 164 [.ref a0, l1, l2, l3] S h = pX 1200 165 [.ref a0, l1, l2, l3] (.ref a0 :: S) h := pX_stp d1200_164 rfl rfl rfl
theorem x1200_165 {S : List Value} {h : HP} {l0 l1 l2 : Value} {x0 : Int32} : pX 1200 165 [l0, l1, l2, .int x0] S h = pX 1200 166 [l0, l1, l2, .int x0] (.int x0 :: S) h := pX_stp d1200_165 rfl rfl rfl
theorem x1200_166 {L S : List Value} {h : HP} : pX 1200 166 L S h = pX 1200 167 L (.int 1 :: S) h := pX_iconst d1200_166 (by decide)
theorem x1200_167 {L S : List Value} {h : HP} {x y : Int32} : pX 1200 167 L (.int y :: .int x :: S) h = pX 1200 168 L (.int (x + y) :: S) h := pX_stp d1200_167 rfl rfl rfl
theorem x1200_168 {L S : List Value} {h : HP} {a : Nat} {j : Int32} (hk : hp_k h a = 99) (hj : inb j (hp_l h a) = true) : pX 1200 168 L (.int j :: .ref a :: S) h = pX 1200 169 L (.int (hp_i h a (ix j)) :: S) h := pX_ildR d1200_168 hk hj
theorem x1200_169 {S : List Value} {h : HP} {l1 l2 l3 : Value} {a0 : Nat} : pX 1200 169 [.ref a0, l1, l2, l3] S h = pX 1200 170 [.ref a0, l1, l2, l3] (.ref a0 :: S) h := pX_stp d1200_169 rfl rfl rfl
theorem x1200_170 {S : List Value} {h : HP} {l0 l1 l2 : Value} {x0 : Int32} : pX 1200 170 [l0, l1, l2, .int x0] S h = pX 1200 171 [l0, l1, l2, .int x0] (.int x0 :: S) h := pX_stp d1200_170 rfl rfl rfl
theorem x1200_171 {L S : List Value} {h : HP} : pX 1200 171 L S h = pX 1200 172 L (.int 2 :: S) h := pX_iconst d1200_171 (by decide)
theorem x1200_172 {L S : List Value} {h : HP} {x y : Int32} : pX 1200 172 L (.int y :: .int x :: S) h = pX 1200 173 L (.int (x + y) :: S) h := pX_stp d1200_172 rfl rfl rfl
theorem x1200_173 {L S : List Value} {h : HP} {a : Nat} {j : Int32} (hk : hp_k h a = 99) (hj : inb j (hp_l h a) = true) : pX 1200 173 L (.int j :: .ref a :: S) h = pX 1200 174 L (.int (hp_i h a (ix j)) :: S) h := pX_ildR d1200_173 hk hj
theorem x1200_174 {S : List Value} {h : HP} {l1 l2 l3 : Value} {a0 : Nat} : pX 1200 174 [.ref a0, l1, l2, l3] S h = pX 1200 175 [.ref a0, l1, l2, l3] (.ref a0 :: S) h := pX_stp d1200_174 rfl rfl rfl
theorem x1200_175 {S : List Value} {h : HP} {l0 l1 l2 : Value} {x0 : Int32} : pX 1200 175 [l0, l1, l2, .int x0] S h = pX 1200 176 [l0, l1, l2, .int x0] (.int x0 :: S) h := pX_stp d1200_175 rfl rfl rfl
theorem x1200_176 {L S : List Value} {h : HP} : pX 1200 176 L S h = pX 1200 177 L (.int 3 :: S) h := pX_iconst d1200_176 (by decide)
theorem x1200_177 {L S : List Value} {h : HP} {x y : Int32} : pX 1200 177 L (.int y :: .int x :: S) h = pX 1200 178 L (.int (x + y) :: S) h := pX_stp d1200_177 rfl rfl rfl
theorem x1200_178 {L S : List Value} {h : HP} {a : Nat} {j : Int32} (hk : hp_k h a = 99) (hj : inb j (hp_l h a) = true) : pX 1200 178 L (.int j :: .ref a :: S) h = pX 1200 179 L (.int (hp_i h a (ix j)) :: S) h := pX_ildR d1200_178 hk hj
theorem x1200_179 {S : List Value} {h : HP} {l1 l2 l3 : Value} {a0 : Nat} : pX 1200 179 [.ref a0, l1, l2, l3] S h = pX 1200 180 [.ref a0, l1, l2, l3] (.ref a0 :: S) h := pX_stp d1200_179 rfl rfl rfl
theorem x1200_180 {S : List Value} {h : HP} {l0 l1 l2 : Value} {x0 : Int32} : pX 1200 180 [l0, l1, l2, .int x0] S h = pX 1200 181 [l0, l1, l2, .int x0] (.int x0 :: S) h := pX_stp d1200_180 rfl rfl rfl
theorem x1200_181 {L S : List Value} {h : HP} : pX 1200 181 L S h = pX 1200 182 L (.int 4 :: S) h := pX_iconst d1200_181 (by decide)
theorem x1200_182 {L S : List Value} {h : HP} {x y : Int32} : pX 1200 182 L (.int y :: .int x :: S) h = pX 1200 183 L (.int (x + y) :: S) h := pX_stp d1200_182 rfl rfl rfl
theorem x1200_183 {L S : List Value} {h : HP} {a : Nat} {j : Int32} (hk : hp_k h a = 99) (hj : inb j (hp_l h a) = true) : pX 1200 183 L (.int j :: .ref a :: S) h = pX 1200 184 L (.int (hp_i h a (ix j)) :: S) h := pX_ildR d1200_183 hk hj
theorem x1200_184 {S : List Value} {h : HP} {l1 l2 l3 : Value} {a0 : Nat} : pX 1200 184 [.ref a0, l1, l2, l3] S h = pX 1200 185 [.ref a0, l1, l2, l3] (.ref a0 :: S) h := pX_stp d1200_184 rfl rfl rfl
theorem x1200_185 {S : List Value} {h : HP} {l0 l1 l2 : Value} {x0 : Int32} : pX 1200 185 [l0, l1, l2, .int x0] S h = pX 1200 186 [l0, l1, l2, .int x0] (.int x0 :: S) h := pX_stp d1200_185 rfl rfl rfl
theorem x1200_186 {L S : List Value} {h : HP} : pX 1200 186 L S h = pX 1200 187 L (.int 5 :: S) h := pX_iconst d1200_186 (by decide)
theorem x1200_187 {L S : List Value} {h : HP} {x y : Int32} : pX 1200 187 L (.int y :: .int x :: S) h = pX 1200 188 L (.int (x + y) :: S) h := pX_stp d1200_187 rfl rfl rfl
theorem x1200_188 {L S : List Value} {h : HP} {a : Nat} {j : Int32} (hk : hp_k h a = 99) (hj : inb j (hp_l h a) = true) : pX 1200 188 L (.int j :: .ref a :: S) h = pX 1200 189 L (.int (hp_i h a (ix j)) :: S) h := pX_ildR d1200_188 hk hj
theorem x1200_189 {L : List Value} {h : HP} {x0 : Int32} {x1 : Int32} {x2 : Int32} {x3 : Int32} {x4 : Int32} {a0 : Nat} (hk : hp_k h a0 = 11) : pX 1200 189 L [.int x0, .int x1, .int x2, .int x3, .int x4, .ref a0] h = (pX 1002 0 [.ref a0, .int x4, .int x3, .int x2, .int x1, .int x0, .retAddr 0] [] h).bind (fun q => pX 1200 192 L (q.1.toList ++ []) q.2) := pX_inv (a := a0) (t := 11) 1002 [.ref a0, .int x4, .int x3, .int x2, .int x1, .int x0] [] d1200_189 rfl rfl rfl hk
theorem x1200_192 {S : List Value} {h : HP} {l0 l1 l3 : Value} {a0 : Nat} : pX 1200 192 [l0, l1, .ref a0, l3] S h = pX 1200 193 [l0, l1, .ref a0, l3] (.ref a0 :: S) h := pX_stp d1200_192 rfl rfl rfl
theorem x1200_193 {S : List Value} {h : HP} {l1 l2 l3 : Value} {a0 : Nat} : pX 1200 193 [.ref a0, l1, l2, l3] S h = pX 1200 194 [.ref a0, l1, l2, l3] (.ref a0 :: S) h := pX_stp d1200_193 rfl rfl rfl
theorem x1200_194 {S : List Value} {h : HP} {l0 l1 l2 : Value} {x0 : Int32} : pX 1200 194 [l0, l1, l2, .int x0] S h = pX 1200 195 [l0, l1, l2, .int x0] (.int x0 :: S) h := pX_stp d1200_194 rfl rfl rfl
theorem x1200_195 {L S : List Value} {h : HP} : pX 1200 195 L S h = pX 1200 196 L (.int 1 :: S) h := pX_iconst d1200_195 (by decide)
theorem x1200_196 {L S : List Value} {h : HP} {x y : Int32} : pX 1200 196 L (.int y :: .int x :: S) h = pX 1200 197 L (.int (x + y) :: S) h := pX_stp d1200_196 rfl rfl rfl
theorem x1200_197 {L S : List Value} {h : HP} {a : Nat} {j : Int32} (hk : hp_k h a = 99) (hj : inb j (hp_l h a) = true) : pX 1200 197 L (.int j :: .ref a :: S) h = pX 1200 198 L (.int (hp_i h a (ix j)) :: S) h := pX_ildR d1200_197 hk hj
theorem x1200_198 {S : List Value} {h : HP} {l1 l2 l3 : Value} {a0 : Nat} : pX 1200 198 [.ref a0, l1, l2, l3] S h = pX 1200 199 [.ref a0, l1, l2, l3] (.ref a0 :: S) h := pX_stp d1200_198 rfl rfl rfl
theorem x1200_199 {S : List Value} {h : HP} {l0 l1 l2 : Value} {x0 : Int32} : pX 1200 199 [l0, l1, l2, .int x0] S h = pX 1200 200 [l0, l1, l2, .int x0] (.int x0 :: S) h := pX_stp d1200_199 rfl rfl rfl
theorem x1200_200 {L S : List Value} {h : HP} : pX 1200 200 L S h = pX 1200 201 L (.int 2 :: S) h := pX_iconst d1200_200 (by decide)
theorem x1200_201 {L S : List Value} {h : HP} {x y : Int32} : pX 1200 201 L (.int y :: .int x :: S) h = pX 1200 202 L (.int (x + y) :: S) h := pX_stp d1200_201 rfl rfl rfl
theorem x1200_202 {L S : List Value} {h : HP} {a : Nat} {j : Int32} (hk : hp_k h a = 99) (hj : inb j (hp_l h a) = true) : pX 1200 202 L (.int j :: .ref a :: S) h = pX 1200 203 L (.int (hp_i h a (ix j)) :: S) h := pX_ildR d1200_202 hk hj
theorem x1200_203 {S : List Value} {h : HP} {l1 l2 l3 : Value} {a0 : Nat} : pX 1200 203 [.ref a0, l1, l2, l3] S h = pX 1200 204 [.ref a0, l1, l2, l3] (.ref a0 :: S) h := pX_stp d1200_203 rfl rfl rfl
theorem x1200_204 {S : List Value} {h : HP} {l0 l1 l2 : Value} {x0 : Int32} : pX 1200 204 [l0, l1, l2, .int x0] S h = pX 1200 205 [l0, l1, l2, .int x0] (.int x0 :: S) h := pX_stp d1200_204 rfl rfl rfl
theorem x1200_205 {L S : List Value} {h : HP} : pX 1200 205 L S h = pX 1200 206 L (.int 3 :: S) h := pX_iconst d1200_205 (by decide)
theorem x1200_206 {L S : List Value} {h : HP} {x y : Int32} : pX 1200 206 L (.int y :: .int x :: S) h = pX 1200 207 L (.int (x + y) :: S) h := pX_stp d1200_206 rfl rfl rfl
theorem x1200_207 {L S : List Value} {h : HP} {a : Nat} {j : Int32} (hk : hp_k h a = 99) (hj : inb j (hp_l h a) = true) : pX 1200 207 L (.int j :: .ref a :: S) h = pX 1200 208 L (.int (hp_i h a (ix j)) :: S) h := pX_ildR d1200_207 hk hj
theorem x1200_208 {S : List Value} {h : HP} {l1 l2 l3 : Value} {a0 : Nat} : pX 1200 208 [.ref a0, l1, l2, l3] S h = pX 1200 209 [.ref a0, l1, l2, l3] (.ref a0 :: S) h := pX_stp d1200_208 rfl rfl rfl
theorem x1200_209 {S : List Value} {h : HP} {l0 l1 l2 : Value} {x0 : Int32} : pX 1200 209 [l0, l1, l2, .int x0] S h = pX 1200 210 [l0, l1, l2, .int x0] (.int x0 :: S) h := pX_stp d1200_209 rfl rfl rfl
theorem x1200_210 {L S : List Value} {h : HP} : pX 1200 210 L S h = pX 1200 211 L (.int 4 :: S) h := pX_iconst d1200_210 (by decide)
theorem x1200_211 {L S : List Value} {h : HP} {x y : Int32} : pX 1200 211 L (.int y :: .int x :: S) h = pX 1200 212 L (.int (x + y) :: S) h := pX_stp d1200_211 rfl rfl rfl
theorem x1200_212 {L S : List Value} {h : HP} {a : Nat} {j : Int32} (hk : hp_k h a = 99) (hj : inb j (hp_l h a) = true) : pX 1200 212 L (.int j :: .ref a :: S) h = pX 1200 213 L (.int (hp_i h a (ix j)) :: S) h := pX_ildR d1200_212 hk hj
theorem x1200_213 {S : List Value} {h : HP} {l1 l2 l3 : Value} {a0 : Nat} : pX 1200 213 [.ref a0, l1, l2, l3] S h = pX 1200 214 [.ref a0, l1, l2, l3] (.ref a0 :: S) h := pX_stp d1200_213 rfl rfl rfl
theorem x1200_214 {S : List Value} {h : HP} {l0 l1 l2 : Value} {x0 : Int32} : pX 1200 214 [l0, l1, l2, .int x0] S h = pX 1200 215 [l0, l1, l2, .int x0] (.int x0 :: S) h := pX_stp d1200_214 rfl rfl rfl
theorem x1200_215 {L S : List Value} {h : HP} : pX 1200 215 L S h = pX 1200 216 L (.int 5 :: S) h := pX_iconst d1200_215 (by decide)
theorem x1200_216 {L S : List Value} {h : HP} {x y : Int32} : pX 1200 216 L (.int y :: .int x :: S) h = pX 1200 217 L (.int (x + y) :: S) h := pX_stp d1200_216 rfl rfl rfl
theorem x1200_217 {L S : List Value} {h : HP} {a : Nat} {j : Int32} (hk : hp_k h a = 99) (hj : inb j (hp_l h a) = true) : pX 1200 217 L (.int j :: .ref a :: S) h = pX 1200 218 L (.int (hp_i h a (ix j)) :: S) h := pX_ildR d1200_217 hk hj
theorem x1200_218 {L : List Value} {h : HP} {x0 : Int32} {x1 : Int32} {x2 : Int32} {x3 : Int32} {x4 : Int32} {a0 : Nat} {x5 : Int32} (hk : hp_k h a0 = 12) : pX 1200 218 L [.int x0, .int x1, .int x2, .int x3, .int x4, .ref a0, .int x5] h = (pX 1106 0 [.ref a0, .int x4, .int x3, .int x2, .int x1, .int x0, .retAddr 0] [] h).bind (fun q => pX 1200 221 L (q.1.toList ++ [.int x5]) q.2) := pX_inv (a := a0) (t := 12) 1106 [.ref a0, .int x4, .int x3, .int x2, .int x1, .int x0] [.int x5] d1200_218 rfl rfl rfl hk
theorem x1200_221 {L S : List Value} {h : HP} {x y : Int32} : pX 1200 221 L (.int y :: .int x :: S) h = if x = y then pX 1200 809 L S h else pX 1200 224 L S h := pX_icmp_eq d1200_221 (by decide)
theorem x1200_224 {L S : List Value} {h : HP} : pX 1200 224 L S h = pX 1200 225 L (.int 0 :: S) h := pX_iconst d1200_224 (by decide)
theorem x1200_225 {L : List Value} {h : HP} {x : Int32} (hx : x = 0 ∨ x = 1) : pX 1200 225 L [.int x] h = some (some (.int x), h) := pX_ret d1200_225 (by rcases hx with rfl | rfl <;> rfl)
theorem x1200_226 {S : List Value} {h : HP} {l0 l2 l3 : Value} {a0 : Nat} : pX 1200 226 [l0, .ref a0, l2, l3] S h = pX 1200 227 [l0, .ref a0, l2, l3] (.ref a0 :: S) h := pX_stp d1200_226 rfl rfl rfl
theorem x1200_227 {S : List Value} {h : HP} {l1 l2 l3 : Value} {a0 : Nat} : pX 1200 227 [.ref a0, l1, l2, l3] S h = pX 1200 228 [.ref a0, l1, l2, l3] (.ref a0 :: S) h := pX_stp d1200_227 rfl rfl rfl
theorem x1200_228 {S : List Value} {h : HP} {l0 l1 l2 : Value} {x0 : Int32} : pX 1200 228 [l0, l1, l2, .int x0] S h = pX 1200 229 [l0, l1, l2, .int x0] (.int x0 :: S) h := pX_stp d1200_228 rfl rfl rfl
theorem x1200_229 {L S : List Value} {h : HP} : pX 1200 229 L S h = pX 1200 230 L (.int 1 :: S) h := pX_iconst d1200_229 (by decide)
theorem x1200_230 {L S : List Value} {h : HP} {x y : Int32} : pX 1200 230 L (.int y :: .int x :: S) h = pX 1200 231 L (.int (x + y) :: S) h := pX_stp d1200_230 rfl rfl rfl
theorem x1200_231 {L S : List Value} {h : HP} {a : Nat} {j : Int32} (hk : hp_k h a = 99) (hj : inb j (hp_l h a) = true) : pX 1200 231 L (.int j :: .ref a :: S) h = pX 1200 232 L (.int (hp_i h a (ix j)) :: S) h := pX_ildR d1200_231 hk hj
theorem x1200_232 {S : List Value} {h : HP} {l1 l2 l3 : Value} {a0 : Nat} : pX 1200 232 [.ref a0, l1, l2, l3] S h = pX 1200 233 [.ref a0, l1, l2, l3] (.ref a0 :: S) h := pX_stp d1200_232 rfl rfl rfl
theorem x1200_233 {S : List Value} {h : HP} {l0 l1 l2 : Value} {x0 : Int32} : pX 1200 233 [l0, l1, l2, .int x0] S h = pX 1200 234 [l0, l1, l2, .int x0] (.int x0 :: S) h := pX_stp d1200_233 rfl rfl rfl
theorem x1200_234 {L S : List Value} {h : HP} : pX 1200 234 L S h = pX 1200 235 L (.int 2 :: S) h := pX_iconst d1200_234 (by decide)
theorem x1200_235 {L S : List Value} {h : HP} {x y : Int32} : pX 1200 235 L (.int y :: .int x :: S) h = pX 1200 236 L (.int (x + y) :: S) h := pX_stp d1200_235 rfl rfl rfl
theorem x1200_236 {L S : List Value} {h : HP} {a : Nat} {j : Int32} (hk : hp_k h a = 99) (hj : inb j (hp_l h a) = true) : pX 1200 236 L (.int j :: .ref a :: S) h = pX 1200 237 L (.int (hp_i h a (ix j)) :: S) h := pX_ildR d1200_236 hk hj
theorem x1200_237 {S : List Value} {h : HP} {l1 l2 l3 : Value} {a0 : Nat} : pX 1200 237 [.ref a0, l1, l2, l3] S h = pX 1200 238 [.ref a0, l1, l2, l3] (.ref a0 :: S) h := pX_stp d1200_237 rfl rfl rfl
theorem x1200_238 {S : List Value} {h : HP} {l0 l1 l2 : Value} {x0 : Int32} : pX 1200 238 [l0, l1, l2, .int x0] S h = pX 1200 239 [l0, l1, l2, .int x0] (.int x0 :: S) h := pX_stp d1200_238 rfl rfl rfl
theorem x1200_239 {L S : List Value} {h : HP} : pX 1200 239 L S h = pX 1200 240 L (.int 3 :: S) h := pX_iconst d1200_239 (by decide)
theorem x1200_240 {L S : List Value} {h : HP} {x y : Int32} : pX 1200 240 L (.int y :: .int x :: S) h = pX 1200 241 L (.int (x + y) :: S) h := pX_stp d1200_240 rfl rfl rfl
theorem x1200_241 {L S : List Value} {h : HP} {a : Nat} {j : Int32} (hk : hp_k h a = 99) (hj : inb j (hp_l h a) = true) : pX 1200 241 L (.int j :: .ref a :: S) h = pX 1200 242 L (.int (hp_i h a (ix j)) :: S) h := pX_ildR d1200_241 hk hj
theorem x1200_242 {S : List Value} {h : HP} {l1 l2 l3 : Value} {a0 : Nat} : pX 1200 242 [.ref a0, l1, l2, l3] S h = pX 1200 243 [.ref a0, l1, l2, l3] (.ref a0 :: S) h := pX_stp d1200_242 rfl rfl rfl
theorem x1200_243 {S : List Value} {h : HP} {l0 l1 l2 : Value} {x0 : Int32} : pX 1200 243 [l0, l1, l2, .int x0] S h = pX 1200 244 [l0, l1, l2, .int x0] (.int x0 :: S) h := pX_stp d1200_243 rfl rfl rfl
theorem x1200_244 {L S : List Value} {h : HP} : pX 1200 244 L S h = pX 1200 245 L (.int 4 :: S) h := pX_iconst d1200_244 (by decide)
theorem x1200_245 {L S : List Value} {h : HP} {x y : Int32} : pX 1200 245 L (.int y :: .int x :: S) h = pX 1200 246 L (.int (x + y) :: S) h := pX_stp d1200_245 rfl rfl rfl
theorem x1200_246 {L S : List Value} {h : HP} {a : Nat} {j : Int32} (hk : hp_k h a = 99) (hj : inb j (hp_l h a) = true) : pX 1200 246 L (.int j :: .ref a :: S) h = pX 1200 247 L (.int (hp_i h a (ix j)) :: S) h := pX_ildR d1200_246 hk hj
theorem x1200_247 {S : List Value} {h : HP} {l1 l2 l3 : Value} {a0 : Nat} : pX 1200 247 [.ref a0, l1, l2, l3] S h = pX 1200 248 [.ref a0, l1, l2, l3] (.ref a0 :: S) h := pX_stp d1200_247 rfl rfl rfl
theorem x1200_248 {S : List Value} {h : HP} {l0 l1 l2 : Value} {x0 : Int32} : pX 1200 248 [l0, l1, l2, .int x0] S h = pX 1200 249 [l0, l1, l2, .int x0] (.int x0 :: S) h := pX_stp d1200_248 rfl rfl rfl
theorem x1200_249 {L S : List Value} {h : HP} : pX 1200 249 L S h = pX 1200 250 L (.int 5 :: S) h := pX_iconst d1200_249 (by decide)
theorem x1200_250 {L S : List Value} {h : HP} {x y : Int32} : pX 1200 250 L (.int y :: .int x :: S) h = pX 1200 251 L (.int (x + y) :: S) h := pX_stp d1200_250 rfl rfl rfl
theorem x1200_251 {L S : List Value} {h : HP} {a : Nat} {j : Int32} (hk : hp_k h a = 99) (hj : inb j (hp_l h a) = true) : pX 1200 251 L (.int j :: .ref a :: S) h = pX 1200 252 L (.int (hp_i h a (ix j)) :: S) h := pX_ildR d1200_251 hk hj
theorem x1200_252 {L : List Value} {h : HP} {x0 : Int32} {x1 : Int32} {x2 : Int32} {x3 : Int32} {x4 : Int32} {a0 : Nat} (hk : hp_k h a0 = 11) : pX 1200 252 L [.int x0, .int x1, .int x2, .int x3, .int x4, .ref a0] h = (pX 1003 0 [.ref a0, .int x4, .int x3, .int x2, .int x1, .int x0, .retAddr 0] [] h).bind (fun q => pX 1200 255 L (q.1.toList ++ []) q.2) := pX_inv (a := a0) (t := 11) 1003 [.ref a0, .int x4, .int x3, .int x2, .int x1, .int x0] [] d1200_252 rfl rfl rfl hk
theorem x1200_255 {S : List Value} {h : HP} {l0 l1 l3 : Value} {a0 : Nat} : pX 1200 255 [l0, l1, .ref a0, l3] S h = pX 1200 256 [l0, l1, .ref a0, l3] (.ref a0 :: S) h := pX_stp d1200_255 rfl rfl rfl
theorem x1200_256 {S : List Value} {h : HP} {l1 l2 l3 : Value} {a0 : Nat} : pX 1200 256 [.ref a0, l1, l2, l3] S h = pX 1200 257 [.ref a0, l1, l2, l3] (.ref a0 :: S) h := pX_stp d1200_256 rfl rfl rfl
theorem x1200_257 {S : List Value} {h : HP} {l0 l1 l2 : Value} {x0 : Int32} : pX 1200 257 [l0, l1, l2, .int x0] S h = pX 1200 258 [l0, l1, l2, .int x0] (.int x0 :: S) h := pX_stp d1200_257 rfl rfl rfl
theorem x1200_258 {L S : List Value} {h : HP} : pX 1200 258 L S h = pX 1200 259 L (.int 1 :: S) h := pX_iconst d1200_258 (by decide)
theorem x1200_259 {L S : List Value} {h : HP} {x y : Int32} : pX 1200 259 L (.int y :: .int x :: S) h = pX 1200 260 L (.int (x + y) :: S) h := pX_stp d1200_259 rfl rfl rfl
theorem x1200_260 {L S : List Value} {h : HP} {a : Nat} {j : Int32} (hk : hp_k h a = 99) (hj : inb j (hp_l h a) = true) : pX 1200 260 L (.int j :: .ref a :: S) h = pX 1200 261 L (.int (hp_i h a (ix j)) :: S) h := pX_ildR d1200_260 hk hj
theorem x1200_261 {S : List Value} {h : HP} {l1 l2 l3 : Value} {a0 : Nat} : pX 1200 261 [.ref a0, l1, l2, l3] S h = pX 1200 262 [.ref a0, l1, l2, l3] (.ref a0 :: S) h := pX_stp d1200_261 rfl rfl rfl
theorem x1200_262 {S : List Value} {h : HP} {l0 l1 l2 : Value} {x0 : Int32} : pX 1200 262 [l0, l1, l2, .int x0] S h = pX 1200 263 [l0, l1, l2, .int x0] (.int x0 :: S) h := pX_stp d1200_262 rfl rfl rfl
theorem x1200_263 {L S : List Value} {h : HP} : pX 1200 263 L S h = pX 1200 264 L (.int 2 :: S) h := pX_iconst d1200_263 (by decide)
theorem x1200_264 {L S : List Value} {h : HP} {x y : Int32} : pX 1200 264 L (.int y :: .int x :: S) h = pX 1200 265 L (.int (x + y) :: S) h := pX_stp d1200_264 rfl rfl rfl
theorem x1200_265 {L S : List Value} {h : HP} {a : Nat} {j : Int32} (hk : hp_k h a = 99) (hj : inb j (hp_l h a) = true) : pX 1200 265 L (.int j :: .ref a :: S) h = pX 1200 266 L (.int (hp_i h a (ix j)) :: S) h := pX_ildR d1200_265 hk hj
theorem x1200_266 {S : List Value} {h : HP} {l1 l2 l3 : Value} {a0 : Nat} : pX 1200 266 [.ref a0, l1, l2, l3] S h = pX 1200 267 [.ref a0, l1, l2, l3] (.ref a0 :: S) h := pX_stp d1200_266 rfl rfl rfl
theorem x1200_267 {S : List Value} {h : HP} {l0 l1 l2 : Value} {x0 : Int32} : pX 1200 267 [l0, l1, l2, .int x0] S h = pX 1200 268 [l0, l1, l2, .int x0] (.int x0 :: S) h := pX_stp d1200_267 rfl rfl rfl
theorem x1200_268 {L S : List Value} {h : HP} : pX 1200 268 L S h = pX 1200 269 L (.int 3 :: S) h := pX_iconst d1200_268 (by decide)
theorem x1200_269 {L S : List Value} {h : HP} {x y : Int32} : pX 1200 269 L (.int y :: .int x :: S) h = pX 1200 270 L (.int (x + y) :: S) h := pX_stp d1200_269 rfl rfl rfl
theorem x1200_270 {L S : List Value} {h : HP} {a : Nat} {j : Int32} (hk : hp_k h a = 99) (hj : inb j (hp_l h a) = true) : pX 1200 270 L (.int j :: .ref a :: S) h = pX 1200 271 L (.int (hp_i h a (ix j)) :: S) h := pX_ildR d1200_270 hk hj
theorem x1200_271 {S : List Value} {h : HP} {l1 l2 l3 : Value} {a0 : Nat} : pX 1200 271 [.ref a0, l1, l2, l3] S h = pX 1200 272 [.ref a0, l1, l2, l3] (.ref a0 :: S) h := pX_stp d1200_271 rfl rfl rfl
theorem x1200_272 {S : List Value} {h : HP} {l0 l1 l2 : Value} {x0 : Int32} : pX 1200 272 [l0, l1, l2, .int x0] S h = pX 1200 273 [l0, l1, l2, .int x0] (.int x0 :: S) h := pX_stp d1200_272 rfl rfl rfl
theorem x1200_273 {L S : List Value} {h : HP} : pX 1200 273 L S h = pX 1200 274 L (.int 4 :: S) h := pX_iconst d1200_273 (by decide)
theorem x1200_274 {L S : List Value} {h : HP} {x y : Int32} : pX 1200 274 L (.int y :: .int x :: S) h = pX 1200 275 L (.int (x + y) :: S) h := pX_stp d1200_274 rfl rfl rfl
theorem x1200_275 {L S : List Value} {h : HP} {a : Nat} {j : Int32} (hk : hp_k h a = 99) (hj : inb j (hp_l h a) = true) : pX 1200 275 L (.int j :: .ref a :: S) h = pX 1200 276 L (.int (hp_i h a (ix j)) :: S) h := pX_ildR d1200_275 hk hj
theorem x1200_276 {S : List Value} {h : HP} {l1 l2 l3 : Value} {a0 : Nat} : pX 1200 276 [.ref a0, l1, l2, l3] S h = pX 1200 277 [.ref a0, l1, l2, l3] (.ref a0 :: S) h := pX_stp d1200_276 rfl rfl rfl
theorem x1200_277 {S : List Value} {h : HP} {l0 l1 l2 : Value} {x0 : Int32} : pX 1200 277 [l0, l1, l2, .int x0] S h = pX 1200 278 [l0, l1, l2, .int x0] (.int x0 :: S) h := pX_stp d1200_277 rfl rfl rfl
theorem x1200_278 {L S : List Value} {h : HP} : pX 1200 278 L S h = pX 1200 279 L (.int 5 :: S) h := pX_iconst d1200_278 (by decide)
theorem x1200_279 {L S : List Value} {h : HP} {x y : Int32} : pX 1200 279 L (.int y :: .int x :: S) h = pX 1200 280 L (.int (x + y) :: S) h := pX_stp d1200_279 rfl rfl rfl
theorem x1200_280 {L S : List Value} {h : HP} {a : Nat} {j : Int32} (hk : hp_k h a = 99) (hj : inb j (hp_l h a) = true) : pX 1200 280 L (.int j :: .ref a :: S) h = pX 1200 281 L (.int (hp_i h a (ix j)) :: S) h := pX_ildR d1200_280 hk hj
theorem x1200_281 {L : List Value} {h : HP} {x0 : Int32} {x1 : Int32} {x2 : Int32} {x3 : Int32} {x4 : Int32} {a0 : Nat} {x5 : Int32} (hk : hp_k h a0 = 12) : pX 1200 281 L [.int x0, .int x1, .int x2, .int x3, .int x4, .ref a0, .int x5] h = (pX 1107 0 [.ref a0, .int x4, .int x3, .int x2, .int x1, .int x0, .retAddr 0] [] h).bind (fun q => pX 1200 284 L (q.1.toList ++ [.int x5]) q.2) := pX_inv (a := a0) (t := 12) 1107 [.ref a0, .int x4, .int x3, .int x2, .int x1, .int x0] [.int x5] d1200_281 rfl rfl rfl hk
theorem x1200_284 {L S : List Value} {h : HP} {x y : Int32} : pX 1200 284 L (.int y :: .int x :: S) h = if x = y then pX 1200 809 L S h else pX 1200 287 L S h := pX_icmp_eq d1200_284 (by decide)
theorem x1200_287 {L S : List Value} {h : HP} : pX 1200 287 L S h = pX 1200 288 L (.int 0 :: S) h := pX_iconst d1200_287 (by decide)
theorem x1200_288 {L : List Value} {h : HP} {x : Int32} (hx : x = 0 ∨ x = 1) : pX 1200 288 L [.int x] h = some (some (.int x), h) := pX_ret d1200_288 (by rcases hx with rfl | rfl <;> rfl)
theorem x1200_289 {S : List Value} {h : HP} {l0 l2 l3 : Value} {a0 : Nat} : pX 1200 289 [l0, .ref a0, l2, l3] S h = pX 1200 290 [l0, .ref a0, l2, l3] (.ref a0 :: S) h := pX_stp d1200_289 rfl rfl rfl
theorem x1200_290 {S : List Value} {h : HP} {l1 l2 l3 : Value} {a0 : Nat} : pX 1200 290 [.ref a0, l1, l2, l3] S h = pX 1200 291 [.ref a0, l1, l2, l3] (.ref a0 :: S) h := pX_stp d1200_290 rfl rfl rfl
theorem x1200_291 {S : List Value} {h : HP} {l0 l1 l2 : Value} {x0 : Int32} : pX 1200 291 [l0, l1, l2, .int x0] S h = pX 1200 292 [l0, l1, l2, .int x0] (.int x0 :: S) h := pX_stp d1200_291 rfl rfl rfl
theorem x1200_292 {L S : List Value} {h : HP} : pX 1200 292 L S h = pX 1200 293 L (.int 1 :: S) h := pX_iconst d1200_292 (by decide)
theorem x1200_293 {L S : List Value} {h : HP} {x y : Int32} : pX 1200 293 L (.int y :: .int x :: S) h = pX 1200 294 L (.int (x + y) :: S) h := pX_stp d1200_293 rfl rfl rfl
theorem x1200_294 {L S : List Value} {h : HP} {a : Nat} {j : Int32} (hk : hp_k h a = 99) (hj : inb j (hp_l h a) = true) : pX 1200 294 L (.int j :: .ref a :: S) h = pX 1200 295 L (.int (hp_i h a (ix j)) :: S) h := pX_ildR d1200_294 hk hj
theorem x1200_295 {L : List Value} {h : HP} {x0 : Int32} {a0 : Nat} (hk : hp_k h a0 = 11) : pX 1200 295 L [.int x0, .ref a0] h = (pX 1004 0 [.ref a0, .int x0, .retAddr 0] [] h).bind (fun q => pX 1200 298 L (q.1.toList ++ []) q.2) := pX_inv (a := a0) (t := 11) 1004 [.ref a0, .int x0] [] d1200_295 rfl rfl rfl hk
theorem x1200_298 {S : List Value} {h : HP} {l0 l1 l3 : Value} {a0 : Nat} : pX 1200 298 [l0, l1, .ref a0, l3] S h = pX 1200 299 [l0, l1, .ref a0, l3] (.ref a0 :: S) h := pX_stp d1200_298 rfl rfl rfl
theorem x1200_299 {S : List Value} {h : HP} {l1 l2 l3 : Value} {a0 : Nat} : pX 1200 299 [.ref a0, l1, l2, l3] S h = pX 1200 300 [.ref a0, l1, l2, l3] (.ref a0 :: S) h := pX_stp d1200_299 rfl rfl rfl
theorem x1200_300 {S : List Value} {h : HP} {l0 l1 l2 : Value} {x0 : Int32} : pX 1200 300 [l0, l1, l2, .int x0] S h = pX 1200 301 [l0, l1, l2, .int x0] (.int x0 :: S) h := pX_stp d1200_300 rfl rfl rfl
theorem x1200_301 {L S : List Value} {h : HP} : pX 1200 301 L S h = pX 1200 302 L (.int 1 :: S) h := pX_iconst d1200_301 (by decide)
theorem x1200_302 {L S : List Value} {h : HP} {x y : Int32} : pX 1200 302 L (.int y :: .int x :: S) h = pX 1200 303 L (.int (x + y) :: S) h := pX_stp d1200_302 rfl rfl rfl
theorem x1200_303 {L S : List Value} {h : HP} {a : Nat} {j : Int32} (hk : hp_k h a = 99) (hj : inb j (hp_l h a) = true) : pX 1200 303 L (.int j :: .ref a :: S) h = pX 1200 304 L (.int (hp_i h a (ix j)) :: S) h := pX_ildR d1200_303 hk hj
theorem x1200_304 {L : List Value} {h : HP} {x0 : Int32} {a0 : Nat} {x1 : Int32} (hk : hp_k h a0 = 12) : pX 1200 304 L [.int x0, .ref a0, .int x1] h = (pX 1108 0 [.ref a0, .int x0] [] h).bind (fun q => pX 1200 307 L (q.1.toList ++ [.int x1]) q.2) := pX_inv (a := a0) (t := 12) 1108 [.ref a0, .int x0] [.int x1] d1200_304 rfl rfl rfl hk
theorem x1200_307 {L S : List Value} {h : HP} {x y : Int32} : pX 1200 307 L (.int y :: .int x :: S) h = if x = y then pX 1200 809 L S h else pX 1200 310 L S h := pX_icmp_eq d1200_307 (by decide)
theorem x1200_310 {L S : List Value} {h : HP} : pX 1200 310 L S h = pX 1200 311 L (.int 0 :: S) h := pX_iconst d1200_310 (by decide)
theorem x1200_311 {L : List Value} {h : HP} {x : Int32} (hx : x = 0 ∨ x = 1) : pX 1200 311 L [.int x] h = some (some (.int x), h) := pX_ret d1200_311 (by rcases hx with rfl | rfl <;> rfl)
theorem x1200_312 {S : List Value} {h : HP} {l0 l2 l3 : Value} {a0 : Nat} : pX 1200 312 [l0, .ref a0, l2, l3] S h = pX 1200 313 [l0, .ref a0, l2, l3] (.ref a0 :: S) h := pX_stp d1200_312 rfl rfl rfl
theorem x1200_313 {S : List Value} {h : HP} {l1 l2 l3 : Value} {a0 : Nat} : pX 1200 313 [.ref a0, l1, l2, l3] S h = pX 1200 314 [.ref a0, l1, l2, l3] (.ref a0 :: S) h := pX_stp d1200_313 rfl rfl rfl
theorem x1200_314 {S : List Value} {h : HP} {l0 l1 l2 : Value} {x0 : Int32} : pX 1200 314 [l0, l1, l2, .int x0] S h = pX 1200 315 [l0, l1, l2, .int x0] (.int x0 :: S) h := pX_stp d1200_314 rfl rfl rfl
theorem x1200_315 {L S : List Value} {h : HP} : pX 1200 315 L S h = pX 1200 316 L (.int 1 :: S) h := pX_iconst d1200_315 (by decide)
theorem x1200_316 {L S : List Value} {h : HP} {x y : Int32} : pX 1200 316 L (.int y :: .int x :: S) h = pX 1200 317 L (.int (x + y) :: S) h := pX_stp d1200_316 rfl rfl rfl
theorem x1200_317 {L S : List Value} {h : HP} {a : Nat} {j : Int32} (hk : hp_k h a = 99) (hj : inb j (hp_l h a) = true) : pX 1200 317 L (.int j :: .ref a :: S) h = pX 1200 318 L (.int (hp_i h a (ix j)) :: S) h := pX_ildR d1200_317 hk hj
theorem x1200_318 {S : List Value} {h : HP} {l1 l2 l3 : Value} {a0 : Nat} : pX 1200 318 [.ref a0, l1, l2, l3] S h = pX 1200 319 [.ref a0, l1, l2, l3] (.ref a0 :: S) h := pX_stp d1200_318 rfl rfl rfl
theorem x1200_319 {S : List Value} {h : HP} {l0 l1 l2 : Value} {x0 : Int32} : pX 1200 319 [l0, l1, l2, .int x0] S h = pX 1200 320 [l0, l1, l2, .int x0] (.int x0 :: S) h := pX_stp d1200_319 rfl rfl rfl
theorem x1200_320 {L S : List Value} {h : HP} : pX 1200 320 L S h = pX 1200 321 L (.int 2 :: S) h := pX_iconst d1200_320 (by decide)
theorem x1200_321 {L S : List Value} {h : HP} {x y : Int32} : pX 1200 321 L (.int y :: .int x :: S) h = pX 1200 322 L (.int (x + y) :: S) h := pX_stp d1200_321 rfl rfl rfl
theorem x1200_322 {L S : List Value} {h : HP} {a : Nat} {j : Int32} (hk : hp_k h a = 99) (hj : inb j (hp_l h a) = true) : pX 1200 322 L (.int j :: .ref a :: S) h = pX 1200 323 L (.int (hp_i h a (ix j)) :: S) h := pX_ildR d1200_322 hk hj
theorem x1200_323 {L : List Value} {h : HP} {x0 : Int32} {x1 : Int32} {a0 : Nat} (hk : hp_k h a0 = 11) : pX 1200 323 L [.int x0, .int x1, .ref a0] h = (pX 1005 0 [.ref a0, .int x1, .int x0, .retAddr 0] [] h).bind (fun q => pX 1200 326 L (q.1.toList ++ []) q.2) := pX_inv (a := a0) (t := 11) 1005 [.ref a0, .int x1, .int x0] [] d1200_323 rfl rfl rfl hk
theorem x1200_326 {S : List Value} {h : HP} {l0 l1 l3 : Value} {a0 : Nat} : pX 1200 326 [l0, l1, .ref a0, l3] S h = pX 1200 327 [l0, l1, .ref a0, l3] (.ref a0 :: S) h := pX_stp d1200_326 rfl rfl rfl
theorem x1200_327 {S : List Value} {h : HP} {l1 l2 l3 : Value} {a0 : Nat} : pX 1200 327 [.ref a0, l1, l2, l3] S h = pX 1200 328 [.ref a0, l1, l2, l3] (.ref a0 :: S) h := pX_stp d1200_327 rfl rfl rfl
theorem x1200_328 {S : List Value} {h : HP} {l0 l1 l2 : Value} {x0 : Int32} : pX 1200 328 [l0, l1, l2, .int x0] S h = pX 1200 329 [l0, l1, l2, .int x0] (.int x0 :: S) h := pX_stp d1200_328 rfl rfl rfl
theorem x1200_329 {L S : List Value} {h : HP} : pX 1200 329 L S h = pX 1200 330 L (.int 1 :: S) h := pX_iconst d1200_329 (by decide)
theorem x1200_330 {L S : List Value} {h : HP} {x y : Int32} : pX 1200 330 L (.int y :: .int x :: S) h = pX 1200 331 L (.int (x + y) :: S) h := pX_stp d1200_330 rfl rfl rfl
theorem x1200_331 {L S : List Value} {h : HP} {a : Nat} {j : Int32} (hk : hp_k h a = 99) (hj : inb j (hp_l h a) = true) : pX 1200 331 L (.int j :: .ref a :: S) h = pX 1200 332 L (.int (hp_i h a (ix j)) :: S) h := pX_ildR d1200_331 hk hj
theorem x1200_332 {S : List Value} {h : HP} {l1 l2 l3 : Value} {a0 : Nat} : pX 1200 332 [.ref a0, l1, l2, l3] S h = pX 1200 333 [.ref a0, l1, l2, l3] (.ref a0 :: S) h := pX_stp d1200_332 rfl rfl rfl
theorem x1200_333 {S : List Value} {h : HP} {l0 l1 l2 : Value} {x0 : Int32} : pX 1200 333 [l0, l1, l2, .int x0] S h = pX 1200 334 [l0, l1, l2, .int x0] (.int x0 :: S) h := pX_stp d1200_333 rfl rfl rfl
theorem x1200_334 {L S : List Value} {h : HP} : pX 1200 334 L S h = pX 1200 335 L (.int 2 :: S) h := pX_iconst d1200_334 (by decide)
theorem x1200_335 {L S : List Value} {h : HP} {x y : Int32} : pX 1200 335 L (.int y :: .int x :: S) h = pX 1200 336 L (.int (x + y) :: S) h := pX_stp d1200_335 rfl rfl rfl
theorem x1200_336 {L S : List Value} {h : HP} {a : Nat} {j : Int32} (hk : hp_k h a = 99) (hj : inb j (hp_l h a) = true) : pX 1200 336 L (.int j :: .ref a :: S) h = pX 1200 337 L (.int (hp_i h a (ix j)) :: S) h := pX_ildR d1200_336 hk hj
theorem x1200_337 {L : List Value} {h : HP} {x0 : Int32} {x1 : Int32} {a0 : Nat} {x2 : Int32} (hk : hp_k h a0 = 12) : pX 1200 337 L [.int x0, .int x1, .ref a0, .int x2] h = (pX 1109 0 [.ref a0, .int x1, .int x0, .retAddr 0] [] h).bind (fun q => pX 1200 340 L (q.1.toList ++ [.int x2]) q.2) := pX_inv (a := a0) (t := 12) 1109 [.ref a0, .int x1, .int x0] [.int x2] d1200_337 rfl rfl rfl hk
theorem x1200_340 {L S : List Value} {h : HP} {x y : Int32} : pX 1200 340 L (.int y :: .int x :: S) h = if x = y then pX 1200 809 L S h else pX 1200 343 L S h := pX_icmp_eq d1200_340 (by decide)
theorem x1200_343 {L S : List Value} {h : HP} : pX 1200 343 L S h = pX 1200 344 L (.int 0 :: S) h := pX_iconst d1200_343 (by decide)
theorem x1200_344 {L : List Value} {h : HP} {x : Int32} (hx : x = 0 ∨ x = 1) : pX 1200 344 L [.int x] h = some (some (.int x), h) := pX_ret d1200_344 (by rcases hx with rfl | rfl <;> rfl)
theorem x1200_345 {S : List Value} {h : HP} {l0 l2 l3 : Value} {a0 : Nat} : pX 1200 345 [l0, .ref a0, l2, l3] S h = pX 1200 346 [l0, .ref a0, l2, l3] (.ref a0 :: S) h := pX_stp d1200_345 rfl rfl rfl
theorem x1200_346 {S : List Value} {h : HP} {l1 l2 l3 : Value} {a0 : Nat} : pX 1200 346 [.ref a0, l1, l2, l3] S h = pX 1200 347 [.ref a0, l1, l2, l3] (.ref a0 :: S) h := pX_stp d1200_346 rfl rfl rfl
theorem x1200_347 {S : List Value} {h : HP} {l0 l1 l2 : Value} {x0 : Int32} : pX 1200 347 [l0, l1, l2, .int x0] S h = pX 1200 348 [l0, l1, l2, .int x0] (.int x0 :: S) h := pX_stp d1200_347 rfl rfl rfl
theorem x1200_348 {L S : List Value} {h : HP} : pX 1200 348 L S h = pX 1200 349 L (.int 1 :: S) h := pX_iconst d1200_348 (by decide)
theorem x1200_349 {L S : List Value} {h : HP} {x y : Int32} : pX 1200 349 L (.int y :: .int x :: S) h = pX 1200 350 L (.int (x + y) :: S) h := pX_stp d1200_349 rfl rfl rfl
theorem x1200_350 {L S : List Value} {h : HP} {a : Nat} {j : Int32} (hk : hp_k h a = 99) (hj : inb j (hp_l h a) = true) : pX 1200 350 L (.int j :: .ref a :: S) h = pX 1200 351 L (.int (hp_i h a (ix j)) :: S) h := pX_ildR d1200_350 hk hj
theorem x1200_351 {L : List Value} {h : HP} {x0 : Int32} {a0 : Nat} (hk : hp_k h a0 = 11) : pX 1200 351 L [.int x0, .ref a0] h = (pX 1006 0 [.ref a0, .int x0] [] h).bind (fun q => pX 1200 354 L (q.1.toList ++ []) q.2) := pX_inv (a := a0) (t := 11) 1006 [.ref a0, .int x0] [] d1200_351 rfl rfl rfl hk
theorem x1200_354 {S : List Value} {h : HP} {l0 l1 l3 : Value} {a0 : Nat} : pX 1200 354 [l0, l1, .ref a0, l3] S h = pX 1200 355 [l0, l1, .ref a0, l3] (.ref a0 :: S) h := pX_stp d1200_354 rfl rfl rfl
theorem x1200_355 {S : List Value} {h : HP} {l1 l2 l3 : Value} {a0 : Nat} : pX 1200 355 [.ref a0, l1, l2, l3] S h = pX 1200 356 [.ref a0, l1, l2, l3] (.ref a0 :: S) h := pX_stp d1200_355 rfl rfl rfl
theorem x1200_356 {S : List Value} {h : HP} {l0 l1 l2 : Value} {x0 : Int32} : pX 1200 356 [l0, l1, l2, .int x0] S h = pX 1200 357 [l0, l1, l2, .int x0] (.int x0 :: S) h := pX_stp d1200_356 rfl rfl rfl
theorem x1200_357 {L S : List Value} {h : HP} : pX 1200 357 L S h = pX 1200 358 L (.int 1 :: S) h := pX_iconst d1200_357 (by decide)
theorem x1200_358 {L S : List Value} {h : HP} {x y : Int32} : pX 1200 358 L (.int y :: .int x :: S) h = pX 1200 359 L (.int (x + y) :: S) h := pX_stp d1200_358 rfl rfl rfl
theorem x1200_359 {L S : List Value} {h : HP} {a : Nat} {j : Int32} (hk : hp_k h a = 99) (hj : inb j (hp_l h a) = true) : pX 1200 359 L (.int j :: .ref a :: S) h = pX 1200 360 L (.int (hp_i h a (ix j)) :: S) h := pX_ildR d1200_359 hk hj
theorem x1200_360 {L : List Value} {h : HP} {x0 : Int32} {a0 : Nat} {x1 : Int32} (hk : hp_k h a0 = 12) : pX 1200 360 L [.int x0, .ref a0, .int x1] h = (pX 1114 0 [.ref a0, .int x0, .retAddr 0] [] h).bind (fun q => pX 1200 363 L (q.1.toList ++ [.int x1]) q.2) := pX_inv (a := a0) (t := 12) 1114 [.ref a0, .int x0] [.int x1] d1200_360 rfl rfl rfl hk
theorem x1200_363 {L S : List Value} {h : HP} {x y : Int32} : pX 1200 363 L (.int y :: .int x :: S) h = if x = y then pX 1200 809 L S h else pX 1200 366 L S h := pX_icmp_eq d1200_363 (by decide)
theorem x1200_366 {L S : List Value} {h : HP} : pX 1200 366 L S h = pX 1200 367 L (.int 0 :: S) h := pX_iconst d1200_366 (by decide)
theorem x1200_367 {L : List Value} {h : HP} {x : Int32} (hx : x = 0 ∨ x = 1) : pX 1200 367 L [.int x] h = some (some (.int x), h) := pX_ret d1200_367 (by rcases hx with rfl | rfl <;> rfl)
theorem x1200_368 {S : List Value} {h : HP} {l0 l2 l3 : Value} {a0 : Nat} : pX 1200 368 [l0, .ref a0, l2, l3] S h = pX 1200 369 [l0, .ref a0, l2, l3] (.ref a0 :: S) h := pX_stp d1200_368 rfl rfl rfl
theorem x1200_369 {S : List Value} {h : HP} {l1 l2 l3 : Value} {a0 : Nat} : pX 1200 369 [.ref a0, l1, l2, l3] S h = pX 1200 370 [.ref a0, l1, l2, l3] (.ref a0 :: S) h := pX_stp d1200_369 rfl rfl rfl
theorem x1200_370 {S : List Value} {h : HP} {l0 l1 l2 : Value} {x0 : Int32} : pX 1200 370 [l0, l1, l2, .int x0] S h = pX 1200 371 [l0, l1, l2, .int x0] (.int x0 :: S) h := pX_stp d1200_370 rfl rfl rfl
theorem x1200_371 {L S : List Value} {h : HP} : pX 1200 371 L S h = pX 1200 372 L (.int 1 :: S) h := pX_iconst d1200_371 (by decide)
theorem x1200_372 {L S : List Value} {h : HP} {x y : Int32} : pX 1200 372 L (.int y :: .int x :: S) h = pX 1200 373 L (.int (x + y) :: S) h := pX_stp d1200_372 rfl rfl rfl
theorem x1200_373 {L S : List Value} {h : HP} {a : Nat} {j : Int32} (hk : hp_k h a = 99) (hj : inb j (hp_l h a) = true) : pX 1200 373 L (.int j :: .ref a :: S) h = pX 1200 374 L (.int (hp_i h a (ix j)) :: S) h := pX_ildR d1200_373 hk hj
theorem x1200_374 {S : List Value} {h : HP} {l1 l2 l3 : Value} {a0 : Nat} : pX 1200 374 [.ref a0, l1, l2, l3] S h = pX 1200 375 [.ref a0, l1, l2, l3] (.ref a0 :: S) h := pX_stp d1200_374 rfl rfl rfl
theorem x1200_375 {S : List Value} {h : HP} {l0 l1 l2 : Value} {x0 : Int32} : pX 1200 375 [l0, l1, l2, .int x0] S h = pX 1200 376 [l0, l1, l2, .int x0] (.int x0 :: S) h := pX_stp d1200_375 rfl rfl rfl
theorem x1200_376 {L S : List Value} {h : HP} : pX 1200 376 L S h = pX 1200 377 L (.int 2 :: S) h := pX_iconst d1200_376 (by decide)
theorem x1200_377 {L S : List Value} {h : HP} {x y : Int32} : pX 1200 377 L (.int y :: .int x :: S) h = pX 1200 378 L (.int (x + y) :: S) h := pX_stp d1200_377 rfl rfl rfl
theorem x1200_378 {L S : List Value} {h : HP} {a : Nat} {j : Int32} (hk : hp_k h a = 99) (hj : inb j (hp_l h a) = true) : pX 1200 378 L (.int j :: .ref a :: S) h = pX 1200 379 L (.int (hp_i h a (ix j)) :: S) h := pX_ildR d1200_378 hk hj
theorem x1200_379 {L : List Value} {h : HP} {x0 : Int32} {x1 : Int32} {a0 : Nat} (hk : hp_k h a0 = 11) : pX 1200 379 L [.int x0, .int x1, .ref a0] h = (pX 1007 0 [.ref a0, .int x1, .int x0, .retAddr 0] [] h).bind (fun q => pX 1200 382 L (q.1.toList ++ []) q.2) := pX_inv (a := a0) (t := 11) 1007 [.ref a0, .int x1, .int x0] [] d1200_379 rfl rfl rfl hk
theorem x1200_382 {S : List Value} {h : HP} {l0 l1 l3 : Value} {a0 : Nat} : pX 1200 382 [l0, l1, .ref a0, l3] S h = pX 1200 383 [l0, l1, .ref a0, l3] (.ref a0 :: S) h := pX_stp d1200_382 rfl rfl rfl
theorem x1200_383 {S : List Value} {h : HP} {l1 l2 l3 : Value} {a0 : Nat} : pX 1200 383 [.ref a0, l1, l2, l3] S h = pX 1200 384 [.ref a0, l1, l2, l3] (.ref a0 :: S) h := pX_stp d1200_383 rfl rfl rfl
theorem x1200_384 {S : List Value} {h : HP} {l0 l1 l2 : Value} {x0 : Int32} : pX 1200 384 [l0, l1, l2, .int x0] S h = pX 1200 385 [l0, l1, l2, .int x0] (.int x0 :: S) h := pX_stp d1200_384 rfl rfl rfl
theorem x1200_385 {L S : List Value} {h : HP} : pX 1200 385 L S h = pX 1200 386 L (.int 1 :: S) h := pX_iconst d1200_385 (by decide)
theorem x1200_386 {L S : List Value} {h : HP} {x y : Int32} : pX 1200 386 L (.int y :: .int x :: S) h = pX 1200 387 L (.int (x + y) :: S) h := pX_stp d1200_386 rfl rfl rfl
theorem x1200_387 {L S : List Value} {h : HP} {a : Nat} {j : Int32} (hk : hp_k h a = 99) (hj : inb j (hp_l h a) = true) : pX 1200 387 L (.int j :: .ref a :: S) h = pX 1200 388 L (.int (hp_i h a (ix j)) :: S) h := pX_ildR d1200_387 hk hj
theorem x1200_388 {S : List Value} {h : HP} {l1 l2 l3 : Value} {a0 : Nat} : pX 1200 388 [.ref a0, l1, l2, l3] S h = pX 1200 389 [.ref a0, l1, l2, l3] (.ref a0 :: S) h := pX_stp d1200_388 rfl rfl rfl
theorem x1200_389 {S : List Value} {h : HP} {l0 l1 l2 : Value} {x0 : Int32} : pX 1200 389 [l0, l1, l2, .int x0] S h = pX 1200 390 [l0, l1, l2, .int x0] (.int x0 :: S) h := pX_stp d1200_389 rfl rfl rfl
theorem x1200_390 {L S : List Value} {h : HP} : pX 1200 390 L S h = pX 1200 391 L (.int 2 :: S) h := pX_iconst d1200_390 (by decide)
theorem x1200_391 {L S : List Value} {h : HP} {x y : Int32} : pX 1200 391 L (.int y :: .int x :: S) h = pX 1200 392 L (.int (x + y) :: S) h := pX_stp d1200_391 rfl rfl rfl
theorem x1200_392 {L S : List Value} {h : HP} {a : Nat} {j : Int32} (hk : hp_k h a = 99) (hj : inb j (hp_l h a) = true) : pX 1200 392 L (.int j :: .ref a :: S) h = pX 1200 393 L (.int (hp_i h a (ix j)) :: S) h := pX_ildR d1200_392 hk hj
theorem x1200_393 {L : List Value} {h : HP} {x0 : Int32} {x1 : Int32} {a0 : Nat} {x2 : Int32} (hk : hp_k h a0 = 12) : pX 1200 393 L [.int x0, .int x1, .ref a0, .int x2] h = (pX 1115 0 [.ref a0, .int x1, .int x0] [] h).bind (fun q => pX 1200 396 L (q.1.toList ++ [.int x2]) q.2) := pX_inv (a := a0) (t := 12) 1115 [.ref a0, .int x1, .int x0] [.int x2] d1200_393 rfl rfl rfl hk
theorem x1200_396 {L S : List Value} {h : HP} {x y : Int32} : pX 1200 396 L (.int y :: .int x :: S) h = if x = y then pX 1200 809 L S h else pX 1200 399 L S h := pX_icmp_eq d1200_396 (by decide)
theorem x1200_399 {L S : List Value} {h : HP} : pX 1200 399 L S h = pX 1200 400 L (.int 0 :: S) h := pX_iconst d1200_399 (by decide)
theorem x1200_400 {L : List Value} {h : HP} {x : Int32} (hx : x = 0 ∨ x = 1) : pX 1200 400 L [.int x] h = some (some (.int x), h) := pX_ret d1200_400 (by rcases hx with rfl | rfl <;> rfl)
theorem x1200_401 {S : List Value} {h : HP} {l0 l2 l3 : Value} {a0 : Nat} : pX 1200 401 [l0, .ref a0, l2, l3] S h = pX 1200 402 [l0, .ref a0, l2, l3] (.ref a0 :: S) h := pX_stp d1200_401 rfl rfl rfl
theorem x1200_402 {S : List Value} {h : HP} {l1 l2 l3 : Value} {a0 : Nat} : pX 1200 402 [.ref a0, l1, l2, l3] S h = pX 1200 403 [.ref a0, l1, l2, l3] (.ref a0 :: S) h := pX_stp d1200_402 rfl rfl rfl
theorem x1200_403 {S : List Value} {h : HP} {l0 l1 l2 : Value} {x0 : Int32} : pX 1200 403 [l0, l1, l2, .int x0] S h = pX 1200 404 [l0, l1, l2, .int x0] (.int x0 :: S) h := pX_stp d1200_403 rfl rfl rfl
theorem x1200_404 {L S : List Value} {h : HP} : pX 1200 404 L S h = pX 1200 405 L (.int 1 :: S) h := pX_iconst d1200_404 (by decide)
theorem x1200_405 {L S : List Value} {h : HP} {x y : Int32} : pX 1200 405 L (.int y :: .int x :: S) h = pX 1200 406 L (.int (x + y) :: S) h := pX_stp d1200_405 rfl rfl rfl
theorem x1200_406 {L S : List Value} {h : HP} {a : Nat} {j : Int32} (hk : hp_k h a = 99) (hj : inb j (hp_l h a) = true) : pX 1200 406 L (.int j :: .ref a :: S) h = pX 1200 407 L (.int (hp_i h a (ix j)) :: S) h := pX_ildR d1200_406 hk hj
theorem x1200_407 {S : List Value} {h : HP} {l1 l2 l3 : Value} {a0 : Nat} : pX 1200 407 [.ref a0, l1, l2, l3] S h = pX 1200 408 [.ref a0, l1, l2, l3] (.ref a0 :: S) h := pX_stp d1200_407 rfl rfl rfl
theorem x1200_408 {S : List Value} {h : HP} {l0 l1 l2 : Value} {x0 : Int32} : pX 1200 408 [l0, l1, l2, .int x0] S h = pX 1200 409 [l0, l1, l2, .int x0] (.int x0 :: S) h := pX_stp d1200_408 rfl rfl rfl
theorem x1200_409 {L S : List Value} {h : HP} : pX 1200 409 L S h = pX 1200 410 L (.int 2 :: S) h := pX_iconst d1200_409 (by decide)
theorem x1200_410 {L S : List Value} {h : HP} {x y : Int32} : pX 1200 410 L (.int y :: .int x :: S) h = pX 1200 411 L (.int (x + y) :: S) h := pX_stp d1200_410 rfl rfl rfl
theorem x1200_411 {L S : List Value} {h : HP} {a : Nat} {j : Int32} (hk : hp_k h a = 99) (hj : inb j (hp_l h a) = true) : pX 1200 411 L (.int j :: .ref a :: S) h = pX 1200 412 L (.int (hp_i h a (ix j)) :: S) h := pX_ildR d1200_411 hk hj
theorem x1200_412 {L : List Value} {h : HP} {x0 : Int32} {x1 : Int32} {a0 : Nat} (hk : hp_k h a0 = 11) : pX 1200 412 L [.int x0, .int x1, .ref a0] h = (pX 1008 0 [.ref a0, .int x1, .int x0, .retAddr 0] [] h).bind (fun q => pX 1200 415 L (q.1.toList ++ []) q.2) := pX_inv (a := a0) (t := 11) 1008 [.ref a0, .int x1, .int x0] [] d1200_412 rfl rfl rfl hk
theorem x1200_415 {S : List Value} {h : HP} {l0 l1 l3 : Value} {a0 : Nat} : pX 1200 415 [l0, l1, .ref a0, l3] S h = pX 1200 416 [l0, l1, .ref a0, l3] (.ref a0 :: S) h := pX_stp d1200_415 rfl rfl rfl
theorem x1200_416 {S : List Value} {h : HP} {l1 l2 l3 : Value} {a0 : Nat} : pX 1200 416 [.ref a0, l1, l2, l3] S h = pX 1200 417 [.ref a0, l1, l2, l3] (.ref a0 :: S) h := pX_stp d1200_416 rfl rfl rfl
theorem x1200_417 {S : List Value} {h : HP} {l0 l1 l2 : Value} {x0 : Int32} : pX 1200 417 [l0, l1, l2, .int x0] S h = pX 1200 418 [l0, l1, l2, .int x0] (.int x0 :: S) h := pX_stp d1200_417 rfl rfl rfl
theorem x1200_418 {L S : List Value} {h : HP} : pX 1200 418 L S h = pX 1200 419 L (.int 1 :: S) h := pX_iconst d1200_418 (by decide)
theorem x1200_419 {L S : List Value} {h : HP} {x y : Int32} : pX 1200 419 L (.int y :: .int x :: S) h = pX 1200 420 L (.int (x + y) :: S) h := pX_stp d1200_419 rfl rfl rfl
theorem x1200_420 {L S : List Value} {h : HP} {a : Nat} {j : Int32} (hk : hp_k h a = 99) (hj : inb j (hp_l h a) = true) : pX 1200 420 L (.int j :: .ref a :: S) h = pX 1200 421 L (.int (hp_i h a (ix j)) :: S) h := pX_ildR d1200_420 hk hj
theorem x1200_421 {S : List Value} {h : HP} {l1 l2 l3 : Value} {a0 : Nat} : pX 1200 421 [.ref a0, l1, l2, l3] S h = pX 1200 422 [.ref a0, l1, l2, l3] (.ref a0 :: S) h := pX_stp d1200_421 rfl rfl rfl
theorem x1200_422 {S : List Value} {h : HP} {l0 l1 l2 : Value} {x0 : Int32} : pX 1200 422 [l0, l1, l2, .int x0] S h = pX 1200 423 [l0, l1, l2, .int x0] (.int x0 :: S) h := pX_stp d1200_422 rfl rfl rfl
theorem x1200_423 {L S : List Value} {h : HP} : pX 1200 423 L S h = pX 1200 424 L (.int 2 :: S) h := pX_iconst d1200_423 (by decide)
theorem x1200_424 {L S : List Value} {h : HP} {x y : Int32} : pX 1200 424 L (.int y :: .int x :: S) h = pX 1200 425 L (.int (x + y) :: S) h := pX_stp d1200_424 rfl rfl rfl
theorem x1200_425 {L S : List Value} {h : HP} {a : Nat} {j : Int32} (hk : hp_k h a = 99) (hj : inb j (hp_l h a) = true) : pX 1200 425 L (.int j :: .ref a :: S) h = pX 1200 426 L (.int (hp_i h a (ix j)) :: S) h := pX_ildR d1200_425 hk hj
theorem x1200_426 {L : List Value} {h : HP} {x0 : Int32} {x1 : Int32} {a0 : Nat} {x2 : Int32} (hk : hp_k h a0 = 12) : pX 1200 426 L [.int x0, .int x1, .ref a0, .int x2] h = (pX 1116 0 [.ref a0, .int x1, .int x0, .retAddr 0] [] h).bind (fun q => pX 1200 429 L (q.1.toList ++ [.int x2]) q.2) := pX_inv (a := a0) (t := 12) 1116 [.ref a0, .int x1, .int x0] [.int x2] d1200_426 rfl rfl rfl hk
theorem x1200_429 {L S : List Value} {h : HP} {x y : Int32} : pX 1200 429 L (.int y :: .int x :: S) h = if x = y then pX 1200 809 L S h else pX 1200 432 L S h := pX_icmp_eq d1200_429 (by decide)
theorem x1200_432 {L S : List Value} {h : HP} : pX 1200 432 L S h = pX 1200 433 L (.int 0 :: S) h := pX_iconst d1200_432 (by decide)
theorem x1200_433 {L : List Value} {h : HP} {x : Int32} (hx : x = 0 ∨ x = 1) : pX 1200 433 L [.int x] h = some (some (.int x), h) := pX_ret d1200_433 (by rcases hx with rfl | rfl <;> rfl)
theorem x1200_434 {S : List Value} {h : HP} {l0 l2 l3 : Value} {a0 : Nat} : pX 1200 434 [l0, .ref a0, l2, l3] S h = pX 1200 435 [l0, .ref a0, l2, l3] (.ref a0 :: S) h := pX_stp d1200_434 rfl rfl rfl
theorem x1200_435 {S : List Value} {h : HP} {l1 l2 l3 : Value} {a0 : Nat} : pX 1200 435 [.ref a0, l1, l2, l3] S h = pX 1200 436 [.ref a0, l1, l2, l3] (.ref a0 :: S) h := pX_stp d1200_435 rfl rfl rfl
theorem x1200_436 {S : List Value} {h : HP} {l0 l1 l2 : Value} {x0 : Int32} : pX 1200 436 [l0, l1, l2, .int x0] S h = pX 1200 437 [l0, l1, l2, .int x0] (.int x0 :: S) h := pX_stp d1200_436 rfl rfl rfl
theorem x1200_437 {L S : List Value} {h : HP} : pX 1200 437 L S h = pX 1200 438 L (.int 1 :: S) h := pX_iconst d1200_437 (by decide)
theorem x1200_438 {L S : List Value} {h : HP} {x y : Int32} : pX 1200 438 L (.int y :: .int x :: S) h = pX 1200 439 L (.int (x + y) :: S) h := pX_stp d1200_438 rfl rfl rfl
theorem x1200_439 {L S : List Value} {h : HP} {a : Nat} {j : Int32} (hk : hp_k h a = 99) (hj : inb j (hp_l h a) = true) : pX 1200 439 L (.int j :: .ref a :: S) h = pX 1200 440 L (.int (hp_i h a (ix j)) :: S) h := pX_ildR d1200_439 hk hj
theorem x1200_440 {L : List Value} {h : HP} {x0 : Int32} {a0 : Nat} (hk : hp_k h a0 = 11) : pX 1200 440 L [.int x0, .ref a0] h = (pX 1009 0 [.ref a0, .int x0] [] h).bind (fun q => pX 1200 443 L (q.1.toList ++ []) q.2) := pX_inv (a := a0) (t := 11) 1009 [.ref a0, .int x0] [] d1200_440 rfl rfl rfl hk
theorem x1200_443 {S : List Value} {h : HP} {l0 l1 l3 : Value} {a0 : Nat} : pX 1200 443 [l0, l1, .ref a0, l3] S h = pX 1200 444 [l0, l1, .ref a0, l3] (.ref a0 :: S) h := pX_stp d1200_443 rfl rfl rfl
theorem x1200_444 {S : List Value} {h : HP} {l1 l2 l3 : Value} {a0 : Nat} : pX 1200 444 [.ref a0, l1, l2, l3] S h = pX 1200 445 [.ref a0, l1, l2, l3] (.ref a0 :: S) h := pX_stp d1200_444 rfl rfl rfl
theorem x1200_445 {S : List Value} {h : HP} {l0 l1 l2 : Value} {x0 : Int32} : pX 1200 445 [l0, l1, l2, .int x0] S h = pX 1200 446 [l0, l1, l2, .int x0] (.int x0 :: S) h := pX_stp d1200_445 rfl rfl rfl
theorem x1200_446 {L S : List Value} {h : HP} : pX 1200 446 L S h = pX 1200 447 L (.int 1 :: S) h := pX_iconst d1200_446 (by decide)
theorem x1200_447 {L S : List Value} {h : HP} {x y : Int32} : pX 1200 447 L (.int y :: .int x :: S) h = pX 1200 448 L (.int (x + y) :: S) h := pX_stp d1200_447 rfl rfl rfl
theorem x1200_448 {L S : List Value} {h : HP} {a : Nat} {j : Int32} (hk : hp_k h a = 99) (hj : inb j (hp_l h a) = true) : pX 1200 448 L (.int j :: .ref a :: S) h = pX 1200 449 L (.int (hp_i h a (ix j)) :: S) h := pX_ildR d1200_448 hk hj
theorem x1200_449 {L : List Value} {h : HP} {x0 : Int32} {a0 : Nat} {x1 : Int32} (hk : hp_k h a0 = 12) : pX 1200 449 L [.int x0, .ref a0, .int x1] h = (pX 1117 0 [.ref a0, .int x0] [] h).bind (fun q => pX 1200 452 L (q.1.toList ++ [.int x1]) q.2) := pX_inv (a := a0) (t := 12) 1117 [.ref a0, .int x0] [.int x1] d1200_449 rfl rfl rfl hk
theorem x1200_452 {L S : List Value} {h : HP} {x y : Int32} : pX 1200 452 L (.int y :: .int x :: S) h = if x = y then pX 1200 809 L S h else pX 1200 455 L S h := pX_icmp_eq d1200_452 (by decide)
theorem x1200_455 {L S : List Value} {h : HP} : pX 1200 455 L S h = pX 1200 456 L (.int 0 :: S) h := pX_iconst d1200_455 (by decide)
theorem x1200_456 {L : List Value} {h : HP} {x : Int32} (hx : x = 0 ∨ x = 1) : pX 1200 456 L [.int x] h = some (some (.int x), h) := pX_ret d1200_456 (by rcases hx with rfl | rfl <;> rfl)
theorem x1200_457 {S : List Value} {h : HP} {l0 l2 l3 : Value} {a0 : Nat} : pX 1200 457 [l0, .ref a0, l2, l3] S h = pX 1200 458 [l0, .ref a0, l2, l3] (.ref a0 :: S) h := pX_stp d1200_457 rfl rfl rfl
theorem x1200_458 {S : List Value} {h : HP} {l1 l2 l3 : Value} {a0 : Nat} : pX 1200 458 [.ref a0, l1, l2, l3] S h = pX 1200 459 [.ref a0, l1, l2, l3] (.ref a0 :: S) h := pX_stp d1200_458 rfl rfl rfl
theorem x1200_459 {S : List Value} {h : HP} {l0 l1 l2 : Value} {x0 : Int32} : pX 1200 459 [l0, l1, l2, .int x0] S h = pX 1200 460 [l0, l1, l2, .int x0] (.int x0 :: S) h := pX_stp d1200_459 rfl rfl rfl
theorem x1200_460 {L S : List Value} {h : HP} : pX 1200 460 L S h = pX 1200 461 L (.int 1 :: S) h := pX_iconst d1200_460 (by decide)
theorem x1200_461 {L S : List Value} {h : HP} {x y : Int32} : pX 1200 461 L (.int y :: .int x :: S) h = pX 1200 462 L (.int (x + y) :: S) h := pX_stp d1200_461 rfl rfl rfl
theorem x1200_462 {L S : List Value} {h : HP} {a : Nat} {j : Int32} (hk : hp_k h a = 99) (hj : inb j (hp_l h a) = true) : pX 1200 462 L (.int j :: .ref a :: S) h = pX 1200 463 L (.int (hp_i h a (ix j)) :: S) h := pX_ildR d1200_462 hk hj
theorem x1200_463 {S : List Value} {h : HP} {l1 l2 l3 : Value} {a0 : Nat} : pX 1200 463 [.ref a0, l1, l2, l3] S h = pX 1200 464 [.ref a0, l1, l2, l3] (.ref a0 :: S) h := pX_stp d1200_463 rfl rfl rfl
theorem x1200_464 {S : List Value} {h : HP} {l0 l1 l2 : Value} {x0 : Int32} : pX 1200 464 [l0, l1, l2, .int x0] S h = pX 1200 465 [l0, l1, l2, .int x0] (.int x0 :: S) h := pX_stp d1200_464 rfl rfl rfl
theorem x1200_465 {L S : List Value} {h : HP} : pX 1200 465 L S h = pX 1200 466 L (.int 2 :: S) h := pX_iconst d1200_465 (by decide)
theorem x1200_466 {L S : List Value} {h : HP} {x y : Int32} : pX 1200 466 L (.int y :: .int x :: S) h = pX 1200 467 L (.int (x + y) :: S) h := pX_stp d1200_466 rfl rfl rfl
theorem x1200_467 {L S : List Value} {h : HP} {a : Nat} {j : Int32} (hk : hp_k h a = 99) (hj : inb j (hp_l h a) = true) : pX 1200 467 L (.int j :: .ref a :: S) h = pX 1200 468 L (.int (hp_i h a (ix j)) :: S) h := pX_ildR d1200_467 hk hj
theorem x1200_468 {S : List Value} {h : HP} {l1 l2 l3 : Value} {a0 : Nat} : pX 1200 468 [.ref a0, l1, l2, l3] S h = pX 1200 469 [.ref a0, l1, l2, l3] (.ref a0 :: S) h := pX_stp d1200_468 rfl rfl rfl
theorem x1200_469 {S : List Value} {h : HP} {l0 l1 l2 : Value} {x0 : Int32} : pX 1200 469 [l0, l1, l2, .int x0] S h = pX 1200 470 [l0, l1, l2, .int x0] (.int x0 :: S) h := pX_stp d1200_469 rfl rfl rfl
theorem x1200_470 {L S : List Value} {h : HP} : pX 1200 470 L S h = pX 1200 471 L (.int 3 :: S) h := pX_iconst d1200_470 (by decide)
theorem x1200_471 {L S : List Value} {h : HP} {x y : Int32} : pX 1200 471 L (.int y :: .int x :: S) h = pX 1200 472 L (.int (x + y) :: S) h := pX_stp d1200_471 rfl rfl rfl
theorem x1200_472 {L S : List Value} {h : HP} {a : Nat} {j : Int32} (hk : hp_k h a = 99) (hj : inb j (hp_l h a) = true) : pX 1200 472 L (.int j :: .ref a :: S) h = pX 1200 473 L (.int (hp_i h a (ix j)) :: S) h := pX_ildR d1200_472 hk hj
theorem x1200_473 {L : List Value} {h : HP} {x0 : Int32} {x1 : Int32} {x2 : Int32} {a0 : Nat} (hk : hp_k h a0 = 11) : pX 1200 473 L [.int x0, .int x1, .int x2, .ref a0] h = (pX 1010 0 [.ref a0, .int x2, .int x1, .int x0] [] h).bind (fun q => pX 1200 476 L (q.1.toList ++ []) q.2) := pX_inv (a := a0) (t := 11) 1010 [.ref a0, .int x2, .int x1, .int x0] [] d1200_473 rfl rfl rfl hk
theorem x1200_476 {S : List Value} {h : HP} {l0 l1 l3 : Value} {a0 : Nat} : pX 1200 476 [l0, l1, .ref a0, l3] S h = pX 1200 477 [l0, l1, .ref a0, l3] (.ref a0 :: S) h := pX_stp d1200_476 rfl rfl rfl
theorem x1200_477 {S : List Value} {h : HP} {l1 l2 l3 : Value} {a0 : Nat} : pX 1200 477 [.ref a0, l1, l2, l3] S h = pX 1200 478 [.ref a0, l1, l2, l3] (.ref a0 :: S) h := pX_stp d1200_477 rfl rfl rfl
theorem x1200_478 {S : List Value} {h : HP} {l0 l1 l2 : Value} {x0 : Int32} : pX 1200 478 [l0, l1, l2, .int x0] S h = pX 1200 479 [l0, l1, l2, .int x0] (.int x0 :: S) h := pX_stp d1200_478 rfl rfl rfl
theorem x1200_479 {L S : List Value} {h : HP} : pX 1200 479 L S h = pX 1200 480 L (.int 1 :: S) h := pX_iconst d1200_479 (by decide)
theorem x1200_480 {L S : List Value} {h : HP} {x y : Int32} : pX 1200 480 L (.int y :: .int x :: S) h = pX 1200 481 L (.int (x + y) :: S) h := pX_stp d1200_480 rfl rfl rfl
theorem x1200_481 {L S : List Value} {h : HP} {a : Nat} {j : Int32} (hk : hp_k h a = 99) (hj : inb j (hp_l h a) = true) : pX 1200 481 L (.int j :: .ref a :: S) h = pX 1200 482 L (.int (hp_i h a (ix j)) :: S) h := pX_ildR d1200_481 hk hj
theorem x1200_482 {S : List Value} {h : HP} {l1 l2 l3 : Value} {a0 : Nat} : pX 1200 482 [.ref a0, l1, l2, l3] S h = pX 1200 483 [.ref a0, l1, l2, l3] (.ref a0 :: S) h := pX_stp d1200_482 rfl rfl rfl
theorem x1200_483 {S : List Value} {h : HP} {l0 l1 l2 : Value} {x0 : Int32} : pX 1200 483 [l0, l1, l2, .int x0] S h = pX 1200 484 [l0, l1, l2, .int x0] (.int x0 :: S) h := pX_stp d1200_483 rfl rfl rfl
theorem x1200_484 {L S : List Value} {h : HP} : pX 1200 484 L S h = pX 1200 485 L (.int 2 :: S) h := pX_iconst d1200_484 (by decide)
theorem x1200_485 {L S : List Value} {h : HP} {x y : Int32} : pX 1200 485 L (.int y :: .int x :: S) h = pX 1200 486 L (.int (x + y) :: S) h := pX_stp d1200_485 rfl rfl rfl
theorem x1200_486 {L S : List Value} {h : HP} {a : Nat} {j : Int32} (hk : hp_k h a = 99) (hj : inb j (hp_l h a) = true) : pX 1200 486 L (.int j :: .ref a :: S) h = pX 1200 487 L (.int (hp_i h a (ix j)) :: S) h := pX_ildR d1200_486 hk hj
theorem x1200_487 {S : List Value} {h : HP} {l1 l2 l3 : Value} {a0 : Nat} : pX 1200 487 [.ref a0, l1, l2, l3] S h = pX 1200 488 [.ref a0, l1, l2, l3] (.ref a0 :: S) h := pX_stp d1200_487 rfl rfl rfl
theorem x1200_488 {S : List Value} {h : HP} {l0 l1 l2 : Value} {x0 : Int32} : pX 1200 488 [l0, l1, l2, .int x0] S h = pX 1200 489 [l0, l1, l2, .int x0] (.int x0 :: S) h := pX_stp d1200_488 rfl rfl rfl
theorem x1200_489 {L S : List Value} {h : HP} : pX 1200 489 L S h = pX 1200 490 L (.int 3 :: S) h := pX_iconst d1200_489 (by decide)
theorem x1200_490 {L S : List Value} {h : HP} {x y : Int32} : pX 1200 490 L (.int y :: .int x :: S) h = pX 1200 491 L (.int (x + y) :: S) h := pX_stp d1200_490 rfl rfl rfl
theorem x1200_491 {L S : List Value} {h : HP} {a : Nat} {j : Int32} (hk : hp_k h a = 99) (hj : inb j (hp_l h a) = true) : pX 1200 491 L (.int j :: .ref a :: S) h = pX 1200 492 L (.int (hp_i h a (ix j)) :: S) h := pX_ildR d1200_491 hk hj
theorem x1200_492 {L : List Value} {h : HP} {x0 : Int32} {x1 : Int32} {x2 : Int32} {a0 : Nat} {x3 : Int32} (hk : hp_k h a0 = 12) : pX 1200 492 L [.int x0, .int x1, .int x2, .ref a0, .int x3] h = (pX 1118 0 [.ref a0, .int x2, .int x1, .int x0] [] h).bind (fun q => pX 1200 495 L (q.1.toList ++ [.int x3]) q.2) := pX_inv (a := a0) (t := 12) 1118 [.ref a0, .int x2, .int x1, .int x0] [.int x3] d1200_492 rfl rfl rfl hk
theorem x1200_495 {L S : List Value} {h : HP} {x y : Int32} : pX 1200 495 L (.int y :: .int x :: S) h = if x = y then pX 1200 809 L S h else pX 1200 498 L S h := pX_icmp_eq d1200_495 (by decide)
theorem x1200_498 {L S : List Value} {h : HP} : pX 1200 498 L S h = pX 1200 499 L (.int 0 :: S) h := pX_iconst d1200_498 (by decide)
theorem x1200_499 {L : List Value} {h : HP} {x : Int32} (hx : x = 0 ∨ x = 1) : pX 1200 499 L [.int x] h = some (some (.int x), h) := pX_ret d1200_499 (by rcases hx with rfl | rfl <;> rfl)
theorem x1200_500 {S : List Value} {h : HP} {l0 l2 l3 : Value} {a0 : Nat} : pX 1200 500 [l0, .ref a0, l2, l3] S h = pX 1200 501 [l0, .ref a0, l2, l3] (.ref a0 :: S) h := pX_stp d1200_500 rfl rfl rfl
theorem x1200_501 {S : List Value} {h : HP} {l1 l2 l3 : Value} {a0 : Nat} : pX 1200 501 [.ref a0, l1, l2, l3] S h = pX 1200 502 [.ref a0, l1, l2, l3] (.ref a0 :: S) h := pX_stp d1200_501 rfl rfl rfl
theorem x1200_502 {S : List Value} {h : HP} {l0 l1 l2 : Value} {x0 : Int32} : pX 1200 502 [l0, l1, l2, .int x0] S h = pX 1200 503 [l0, l1, l2, .int x0] (.int x0 :: S) h := pX_stp d1200_502 rfl rfl rfl
theorem x1200_503 {L S : List Value} {h : HP} : pX 1200 503 L S h = pX 1200 504 L (.int 1 :: S) h := pX_iconst d1200_503 (by decide)
theorem x1200_504 {L S : List Value} {h : HP} {x y : Int32} : pX 1200 504 L (.int y :: .int x :: S) h = pX 1200 505 L (.int (x + y) :: S) h := pX_stp d1200_504 rfl rfl rfl
theorem x1200_505 {L S : List Value} {h : HP} {a : Nat} {j : Int32} (hk : hp_k h a = 99) (hj : inb j (hp_l h a) = true) : pX 1200 505 L (.int j :: .ref a :: S) h = pX 1200 506 L (.int (hp_i h a (ix j)) :: S) h := pX_ildR d1200_505 hk hj
theorem x1200_506 {S : List Value} {h : HP} {l1 l2 l3 : Value} {a0 : Nat} : pX 1200 506 [.ref a0, l1, l2, l3] S h = pX 1200 507 [.ref a0, l1, l2, l3] (.ref a0 :: S) h := pX_stp d1200_506 rfl rfl rfl
theorem x1200_507 {S : List Value} {h : HP} {l0 l1 l2 : Value} {x0 : Int32} : pX 1200 507 [l0, l1, l2, .int x0] S h = pX 1200 508 [l0, l1, l2, .int x0] (.int x0 :: S) h := pX_stp d1200_507 rfl rfl rfl
theorem x1200_508 {L S : List Value} {h : HP} : pX 1200 508 L S h = pX 1200 509 L (.int 2 :: S) h := pX_iconst d1200_508 (by decide)
theorem x1200_509 {L S : List Value} {h : HP} {x y : Int32} : pX 1200 509 L (.int y :: .int x :: S) h = pX 1200 510 L (.int (x + y) :: S) h := pX_stp d1200_509 rfl rfl rfl
theorem x1200_510 {L S : List Value} {h : HP} {a : Nat} {j : Int32} (hk : hp_k h a = 99) (hj : inb j (hp_l h a) = true) : pX 1200 510 L (.int j :: .ref a :: S) h = pX 1200 511 L (.int (hp_i h a (ix j)) :: S) h := pX_ildR d1200_510 hk hj
theorem x1200_511 {L : List Value} {h : HP} {x0 : Int32} {x1 : Int32} {a0 : Nat} (hk : hp_k h a0 = 11) : pX 1200 511 L [.int x0, .int x1, .ref a0] h = (pX 1011 0 [.ref a0, .int x1, .int x0, .retAddr 0, .retAddr 0] [] h).bind (fun q => pX 1200 514 L (q.1.toList ++ []) q.2) := pX_inv (a := a0) (t := 11) 1011 [.ref a0, .int x1, .int x0] [] d1200_511 rfl rfl rfl hk
theorem x1200_514 {S : List Value} {h : HP} {l0 l1 l3 : Value} {a0 : Nat} : pX 1200 514 [l0, l1, .ref a0, l3] S h = pX 1200 515 [l0, l1, .ref a0, l3] (.ref a0 :: S) h := pX_stp d1200_514 rfl rfl rfl
theorem x1200_515 {S : List Value} {h : HP} {l1 l2 l3 : Value} {a0 : Nat} : pX 1200 515 [.ref a0, l1, l2, l3] S h = pX 1200 516 [.ref a0, l1, l2, l3] (.ref a0 :: S) h := pX_stp d1200_515 rfl rfl rfl
theorem x1200_516 {S : List Value} {h : HP} {l0 l1 l2 : Value} {x0 : Int32} : pX 1200 516 [l0, l1, l2, .int x0] S h = pX 1200 517 [l0, l1, l2, .int x0] (.int x0 :: S) h := pX_stp d1200_516 rfl rfl rfl
theorem x1200_517 {L S : List Value} {h : HP} : pX 1200 517 L S h = pX 1200 518 L (.int 1 :: S) h := pX_iconst d1200_517 (by decide)
theorem x1200_518 {L S : List Value} {h : HP} {x y : Int32} : pX 1200 518 L (.int y :: .int x :: S) h = pX 1200 519 L (.int (x + y) :: S) h := pX_stp d1200_518 rfl rfl rfl
theorem x1200_519 {L S : List Value} {h : HP} {a : Nat} {j : Int32} (hk : hp_k h a = 99) (hj : inb j (hp_l h a) = true) : pX 1200 519 L (.int j :: .ref a :: S) h = pX 1200 520 L (.int (hp_i h a (ix j)) :: S) h := pX_ildR d1200_519 hk hj
theorem x1200_520 {S : List Value} {h : HP} {l1 l2 l3 : Value} {a0 : Nat} : pX 1200 520 [.ref a0, l1, l2, l3] S h = pX 1200 521 [.ref a0, l1, l2, l3] (.ref a0 :: S) h := pX_stp d1200_520 rfl rfl rfl
theorem x1200_521 {S : List Value} {h : HP} {l0 l1 l2 : Value} {x0 : Int32} : pX 1200 521 [l0, l1, l2, .int x0] S h = pX 1200 522 [l0, l1, l2, .int x0] (.int x0 :: S) h := pX_stp d1200_521 rfl rfl rfl
theorem x1200_522 {L S : List Value} {h : HP} : pX 1200 522 L S h = pX 1200 523 L (.int 2 :: S) h := pX_iconst d1200_522 (by decide)
theorem x1200_523 {L S : List Value} {h : HP} {x y : Int32} : pX 1200 523 L (.int y :: .int x :: S) h = pX 1200 524 L (.int (x + y) :: S) h := pX_stp d1200_523 rfl rfl rfl
theorem x1200_524 {L S : List Value} {h : HP} {a : Nat} {j : Int32} (hk : hp_k h a = 99) (hj : inb j (hp_l h a) = true) : pX 1200 524 L (.int j :: .ref a :: S) h = pX 1200 525 L (.int (hp_i h a (ix j)) :: S) h := pX_ildR d1200_524 hk hj
theorem x1200_525 {L : List Value} {h : HP} {x0 : Int32} {x1 : Int32} {a0 : Nat} {x2 : Int32} (hk : hp_k h a0 = 12) : pX 1200 525 L [.int x0, .int x1, .ref a0, .int x2] h = (pX 1154 0 [.ref a0, .int x1, .int x0] [] h).bind (fun q => pX 1200 528 L (q.1.toList ++ [.int x2]) q.2) := pX_inv (a := a0) (t := 12) 1154 [.ref a0, .int x1, .int x0] [.int x2] d1200_525 rfl rfl rfl hk
theorem x1200_528 {L S : List Value} {h : HP} {x y : Int32} : pX 1200 528 L (.int y :: .int x :: S) h = if x = y then pX 1200 809 L S h else pX 1200 531 L S h := pX_icmp_eq d1200_528 (by decide)
theorem x1200_531 {L S : List Value} {h : HP} : pX 1200 531 L S h = pX 1200 532 L (.int 0 :: S) h := pX_iconst d1200_531 (by decide)
theorem x1200_532 {L : List Value} {h : HP} {x : Int32} (hx : x = 0 ∨ x = 1) : pX 1200 532 L [.int x] h = some (some (.int x), h) := pX_ret d1200_532 (by rcases hx with rfl | rfl <;> rfl)
theorem x1200_533 {S : List Value} {h : HP} {l0 l2 l3 : Value} {a0 : Nat} : pX 1200 533 [l0, .ref a0, l2, l3] S h = pX 1200 534 [l0, .ref a0, l2, l3] (.ref a0 :: S) h := pX_stp d1200_533 rfl rfl rfl
theorem x1200_534 {S : List Value} {h : HP} {l1 l2 l3 : Value} {a0 : Nat} : pX 1200 534 [.ref a0, l1, l2, l3] S h = pX 1200 535 [.ref a0, l1, l2, l3] (.ref a0 :: S) h := pX_stp d1200_534 rfl rfl rfl
theorem x1200_535 {S : List Value} {h : HP} {l0 l1 l2 : Value} {x0 : Int32} : pX 1200 535 [l0, l1, l2, .int x0] S h = pX 1200 536 [l0, l1, l2, .int x0] (.int x0 :: S) h := pX_stp d1200_535 rfl rfl rfl
theorem x1200_536 {L S : List Value} {h : HP} : pX 1200 536 L S h = pX 1200 537 L (.int 1 :: S) h := pX_iconst d1200_536 (by decide)
theorem x1200_537 {L S : List Value} {h : HP} {x y : Int32} : pX 1200 537 L (.int y :: .int x :: S) h = pX 1200 538 L (.int (x + y) :: S) h := pX_stp d1200_537 rfl rfl rfl
theorem x1200_538 {L S : List Value} {h : HP} {a : Nat} {j : Int32} (hk : hp_k h a = 99) (hj : inb j (hp_l h a) = true) : pX 1200 538 L (.int j :: .ref a :: S) h = pX 1200 539 L (.int (hp_i h a (ix j)) :: S) h := pX_ildR d1200_538 hk hj
theorem x1200_539 {L : List Value} {h : HP} {x0 : Int32} {a0 : Nat} (hk : hp_k h a0 = 11) : pX 1200 539 L [.int x0, .ref a0] h = (pX 1012 0 [.ref a0, .int x0, .retAddr 0] [] h).bind (fun q => pX 1200 542 L (q.1.toList ++ []) q.2) := pX_inv (a := a0) (t := 11) 1012 [.ref a0, .int x0] [] d1200_539 rfl rfl rfl hk
theorem x1200_542 {S : List Value} {h : HP} {l0 l1 l3 : Value} {a0 : Nat} : pX 1200 542 [l0, l1, .ref a0, l3] S h = pX 1200 543 [l0, l1, .ref a0, l3] (.ref a0 :: S) h := pX_stp d1200_542 rfl rfl rfl
theorem x1200_543 {S : List Value} {h : HP} {l1 l2 l3 : Value} {a0 : Nat} : pX 1200 543 [.ref a0, l1, l2, l3] S h = pX 1200 544 [.ref a0, l1, l2, l3] (.ref a0 :: S) h := pX_stp d1200_543 rfl rfl rfl
theorem x1200_544 {S : List Value} {h : HP} {l0 l1 l2 : Value} {x0 : Int32} : pX 1200 544 [l0, l1, l2, .int x0] S h = pX 1200 545 [l0, l1, l2, .int x0] (.int x0 :: S) h := pX_stp d1200_544 rfl rfl rfl
theorem x1200_545 {L S : List Value} {h : HP} : pX 1200 545 L S h = pX 1200 546 L (.int 1 :: S) h := pX_iconst d1200_545 (by decide)
theorem x1200_546 {L S : List Value} {h : HP} {x y : Int32} : pX 1200 546 L (.int y :: .int x :: S) h = pX 1200 547 L (.int (x + y) :: S) h := pX_stp d1200_546 rfl rfl rfl
theorem x1200_547 {L S : List Value} {h : HP} {a : Nat} {j : Int32} (hk : hp_k h a = 99) (hj : inb j (hp_l h a) = true) : pX 1200 547 L (.int j :: .ref a :: S) h = pX 1200 548 L (.int (hp_i h a (ix j)) :: S) h := pX_ildR d1200_547 hk hj
theorem x1200_548 {L : List Value} {h : HP} {x0 : Int32} {a0 : Nat} {x1 : Int32} (hk : hp_k h a0 = 12) : pX 1200 548 L [.int x0, .ref a0, .int x1] h = (pX 1155 0 [.ref a0, .int x0] [] h).bind (fun q => pX 1200 551 L (q.1.toList ++ [.int x1]) q.2) := pX_inv (a := a0) (t := 12) 1155 [.ref a0, .int x0] [.int x1] d1200_548 rfl rfl rfl hk
theorem x1200_551 {L S : List Value} {h : HP} {x y : Int32} : pX 1200 551 L (.int y :: .int x :: S) h = if x = y then pX 1200 809 L S h else pX 1200 554 L S h := pX_icmp_eq d1200_551 (by decide)
theorem x1200_554 {L S : List Value} {h : HP} : pX 1200 554 L S h = pX 1200 555 L (.int 0 :: S) h := pX_iconst d1200_554 (by decide)
theorem x1200_555 {L : List Value} {h : HP} {x : Int32} (hx : x = 0 ∨ x = 1) : pX 1200 555 L [.int x] h = some (some (.int x), h) := pX_ret d1200_555 (by rcases hx with rfl | rfl <;> rfl)
theorem x1200_556 {S : List Value} {h : HP} {l0 l2 l3 : Value} {a0 : Nat} : pX 1200 556 [l0, .ref a0, l2, l3] S h = pX 1200 557 [l0, .ref a0, l2, l3] (.ref a0 :: S) h := pX_stp d1200_556 rfl rfl rfl
theorem x1200_557 {S : List Value} {h : HP} {l1 l2 l3 : Value} {a0 : Nat} : pX 1200 557 [.ref a0, l1, l2, l3] S h = pX 1200 558 [.ref a0, l1, l2, l3] (.ref a0 :: S) h := pX_stp d1200_557 rfl rfl rfl
theorem x1200_558 {S : List Value} {h : HP} {l0 l1 l2 : Value} {x0 : Int32} : pX 1200 558 [l0, l1, l2, .int x0] S h = pX 1200 559 [l0, l1, l2, .int x0] (.int x0 :: S) h := pX_stp d1200_558 rfl rfl rfl
theorem x1200_559 {L S : List Value} {h : HP} : pX 1200 559 L S h = pX 1200 560 L (.int 1 :: S) h := pX_iconst d1200_559 (by decide)
theorem x1200_560 {L S : List Value} {h : HP} {x y : Int32} : pX 1200 560 L (.int y :: .int x :: S) h = pX 1200 561 L (.int (x + y) :: S) h := pX_stp d1200_560 rfl rfl rfl
theorem x1200_561 {L S : List Value} {h : HP} {a : Nat} {j : Int32} (hk : hp_k h a = 99) (hj : inb j (hp_l h a) = true) : pX 1200 561 L (.int j :: .ref a :: S) h = pX 1200 562 L (.int (hp_i h a (ix j)) :: S) h := pX_ildR d1200_561 hk hj
theorem x1200_562 {L : List Value} {h : HP} {x0 : Int32} {a0 : Nat} (hk : hp_k h a0 = 11) : pX 1200 562 L [.int x0, .ref a0] h = (pX 1013 0 [.ref a0, .int x0, .retAddr 0, .retAddr 0, .retAddr 0] [] h).bind (fun q => pX 1200 565 L (q.1.toList ++ []) q.2) := pX_inv (a := a0) (t := 11) 1013 [.ref a0, .int x0] [] d1200_562 rfl rfl rfl hk
theorem x1200_565 {S : List Value} {h : HP} {l0 l1 l3 : Value} {a0 : Nat} : pX 1200 565 [l0, l1, .ref a0, l3] S h = pX 1200 566 [l0, l1, .ref a0, l3] (.ref a0 :: S) h := pX_stp d1200_565 rfl rfl rfl
theorem x1200_566 {S : List Value} {h : HP} {l1 l2 l3 : Value} {a0 : Nat} : pX 1200 566 [.ref a0, l1, l2, l3] S h = pX 1200 567 [.ref a0, l1, l2, l3] (.ref a0 :: S) h := pX_stp d1200_566 rfl rfl rfl
theorem x1200_567 {S : List Value} {h : HP} {l0 l1 l2 : Value} {x0 : Int32} : pX 1200 567 [l0, l1, l2, .int x0] S h = pX 1200 568 [l0, l1, l2, .int x0] (.int x0 :: S) h := pX_stp d1200_567 rfl rfl rfl
theorem x1200_568 {L S : List Value} {h : HP} : pX 1200 568 L S h = pX 1200 569 L (.int 1 :: S) h := pX_iconst d1200_568 (by decide)
theorem x1200_569 {L S : List Value} {h : HP} {x y : Int32} : pX 1200 569 L (.int y :: .int x :: S) h = pX 1200 570 L (.int (x + y) :: S) h := pX_stp d1200_569 rfl rfl rfl
theorem x1200_570 {L S : List Value} {h : HP} {a : Nat} {j : Int32} (hk : hp_k h a = 99) (hj : inb j (hp_l h a) = true) : pX 1200 570 L (.int j :: .ref a :: S) h = pX 1200 571 L (.int (hp_i h a (ix j)) :: S) h := pX_ildR d1200_570 hk hj
theorem x1200_571 {L : List Value} {h : HP} {x0 : Int32} {a0 : Nat} {x1 : Int32} (hk : hp_k h a0 = 12) : pX 1200 571 L [.int x0, .ref a0, .int x1] h = (pX 1156 0 [.ref a0, .int x0, .retAddr 0] [] h).bind (fun q => pX 1200 574 L (q.1.toList ++ [.int x1]) q.2) := pX_inv (a := a0) (t := 12) 1156 [.ref a0, .int x0] [.int x1] d1200_571 rfl rfl rfl hk
theorem x1200_574 {L S : List Value} {h : HP} {x y : Int32} : pX 1200 574 L (.int y :: .int x :: S) h = if x = y then pX 1200 809 L S h else pX 1200 577 L S h := pX_icmp_eq d1200_574 (by decide)
theorem x1200_577 {L S : List Value} {h : HP} : pX 1200 577 L S h = pX 1200 578 L (.int 0 :: S) h := pX_iconst d1200_577 (by decide)
theorem x1200_578 {L : List Value} {h : HP} {x : Int32} (hx : x = 0 ∨ x = 1) : pX 1200 578 L [.int x] h = some (some (.int x), h) := pX_ret d1200_578 (by rcases hx with rfl | rfl <;> rfl)
theorem x1200_579 {S : List Value} {h : HP} {l0 l2 l3 : Value} {a0 : Nat} : pX 1200 579 [l0, .ref a0, l2, l3] S h = pX 1200 580 [l0, .ref a0, l2, l3] (.ref a0 :: S) h := pX_stp d1200_579 rfl rfl rfl
theorem x1200_580 {S : List Value} {h : HP} {l1 l2 l3 : Value} {a0 : Nat} : pX 1200 580 [.ref a0, l1, l2, l3] S h = pX 1200 581 [.ref a0, l1, l2, l3] (.ref a0 :: S) h := pX_stp d1200_580 rfl rfl rfl
theorem x1200_581 {S : List Value} {h : HP} {l0 l1 l2 : Value} {x0 : Int32} : pX 1200 581 [l0, l1, l2, .int x0] S h = pX 1200 582 [l0, l1, l2, .int x0] (.int x0 :: S) h := pX_stp d1200_581 rfl rfl rfl
theorem x1200_582 {L S : List Value} {h : HP} : pX 1200 582 L S h = pX 1200 583 L (.int 1 :: S) h := pX_iconst d1200_582 (by decide)
theorem x1200_583 {L S : List Value} {h : HP} {x y : Int32} : pX 1200 583 L (.int y :: .int x :: S) h = pX 1200 584 L (.int (x + y) :: S) h := pX_stp d1200_583 rfl rfl rfl
theorem x1200_584 {L S : List Value} {h : HP} {a : Nat} {j : Int32} (hk : hp_k h a = 99) (hj : inb j (hp_l h a) = true) : pX 1200 584 L (.int j :: .ref a :: S) h = pX 1200 585 L (.int (hp_i h a (ix j)) :: S) h := pX_ildR d1200_584 hk hj
theorem x1200_585 {L : List Value} {h : HP} {x0 : Int32} {a0 : Nat} (hk : hp_k h a0 = 11) : pX 1200 585 L [.int x0, .ref a0] h = (pX 1014 0 [.ref a0, .int x0, .retAddr 0] [] h).bind (fun q => pX 1200 588 L (q.1.toList ++ []) q.2) := pX_inv (a := a0) (t := 11) 1014 [.ref a0, .int x0] [] d1200_585 rfl rfl rfl hk
theorem x1200_588 {S : List Value} {h : HP} {l0 l1 l3 : Value} {a0 : Nat} : pX 1200 588 [l0, l1, .ref a0, l3] S h = pX 1200 589 [l0, l1, .ref a0, l3] (.ref a0 :: S) h := pX_stp d1200_588 rfl rfl rfl
theorem x1200_589 {S : List Value} {h : HP} {l1 l2 l3 : Value} {a0 : Nat} : pX 1200 589 [.ref a0, l1, l2, l3] S h = pX 1200 590 [.ref a0, l1, l2, l3] (.ref a0 :: S) h := pX_stp d1200_589 rfl rfl rfl
theorem x1200_590 {S : List Value} {h : HP} {l0 l1 l2 : Value} {x0 : Int32} : pX 1200 590 [l0, l1, l2, .int x0] S h = pX 1200 591 [l0, l1, l2, .int x0] (.int x0 :: S) h := pX_stp d1200_590 rfl rfl rfl
theorem x1200_591 {L S : List Value} {h : HP} : pX 1200 591 L S h = pX 1200 592 L (.int 1 :: S) h := pX_iconst d1200_591 (by decide)
theorem x1200_592 {L S : List Value} {h : HP} {x y : Int32} : pX 1200 592 L (.int y :: .int x :: S) h = pX 1200 593 L (.int (x + y) :: S) h := pX_stp d1200_592 rfl rfl rfl
theorem x1200_593 {L S : List Value} {h : HP} {a : Nat} {j : Int32} (hk : hp_k h a = 99) (hj : inb j (hp_l h a) = true) : pX 1200 593 L (.int j :: .ref a :: S) h = pX 1200 594 L (.int (hp_i h a (ix j)) :: S) h := pX_ildR d1200_593 hk hj
theorem x1200_594 {L : List Value} {h : HP} {x0 : Int32} {a0 : Nat} {x1 : Int32} (hk : hp_k h a0 = 12) : pX 1200 594 L [.int x0, .ref a0, .int x1] h = (pX 1157 0 [.ref a0, .int x0] [] h).bind (fun q => pX 1200 597 L (q.1.toList ++ [.int x1]) q.2) := pX_inv (a := a0) (t := 12) 1157 [.ref a0, .int x0] [.int x1] d1200_594 rfl rfl rfl hk
theorem x1200_597 {L S : List Value} {h : HP} {x y : Int32} : pX 1200 597 L (.int y :: .int x :: S) h = if x = y then pX 1200 809 L S h else pX 1200 600 L S h := pX_icmp_eq d1200_597 (by decide)
theorem x1200_600 {L S : List Value} {h : HP} : pX 1200 600 L S h = pX 1200 601 L (.int 0 :: S) h := pX_iconst d1200_600 (by decide)
theorem x1200_601 {L : List Value} {h : HP} {x : Int32} (hx : x = 0 ∨ x = 1) : pX 1200 601 L [.int x] h = some (some (.int x), h) := pX_ret d1200_601 (by rcases hx with rfl | rfl <;> rfl)
theorem x1200_602 {S : List Value} {h : HP} {l0 l2 l3 : Value} {a0 : Nat} : pX 1200 602 [l0, .ref a0, l2, l3] S h = pX 1200 603 [l0, .ref a0, l2, l3] (.ref a0 :: S) h := pX_stp d1200_602 rfl rfl rfl
theorem x1200_603 {S : List Value} {h : HP} {l1 l2 l3 : Value} {a0 : Nat} : pX 1200 603 [.ref a0, l1, l2, l3] S h = pX 1200 604 [.ref a0, l1, l2, l3] (.ref a0 :: S) h := pX_stp d1200_603 rfl rfl rfl
theorem x1200_604 {S : List Value} {h : HP} {l0 l1 l2 : Value} {x0 : Int32} : pX 1200 604 [l0, l1, l2, .int x0] S h = pX 1200 605 [l0, l1, l2, .int x0] (.int x0 :: S) h := pX_stp d1200_604 rfl rfl rfl
theorem x1200_605 {L S : List Value} {h : HP} : pX 1200 605 L S h = pX 1200 606 L (.int 1 :: S) h := pX_iconst d1200_605 (by decide)
theorem x1200_606 {L S : List Value} {h : HP} {x y : Int32} : pX 1200 606 L (.int y :: .int x :: S) h = pX 1200 607 L (.int (x + y) :: S) h := pX_stp d1200_606 rfl rfl rfl
theorem x1200_607 {L S : List Value} {h : HP} {a : Nat} {j : Int32} (hk : hp_k h a = 99) (hj : inb j (hp_l h a) = true) : pX 1200 607 L (.int j :: .ref a :: S) h = pX 1200 608 L (.int (hp_i h a (ix j)) :: S) h := pX_ildR d1200_607 hk hj
theorem x1200_608 {L : List Value} {h : HP} {x0 : Int32} {a0 : Nat} (hk : hp_k h a0 = 11) : pX 1200 608 L [.int x0, .ref a0] h = (pX 1015 0 [.ref a0, .int x0] [] h).bind (fun q => pX 1200 611 L (q.1.toList ++ []) q.2) := pX_inv (a := a0) (t := 11) 1015 [.ref a0, .int x0] [] d1200_608 rfl rfl rfl hk
theorem x1200_611 {S : List Value} {h : HP} {l0 l1 l3 : Value} {a0 : Nat} : pX 1200 611 [l0, l1, .ref a0, l3] S h = pX 1200 612 [l0, l1, .ref a0, l3] (.ref a0 :: S) h := pX_stp d1200_611 rfl rfl rfl
theorem x1200_612 {S : List Value} {h : HP} {l1 l2 l3 : Value} {a0 : Nat} : pX 1200 612 [.ref a0, l1, l2, l3] S h = pX 1200 613 [.ref a0, l1, l2, l3] (.ref a0 :: S) h := pX_stp d1200_612 rfl rfl rfl
theorem x1200_613 {S : List Value} {h : HP} {l0 l1 l2 : Value} {x0 : Int32} : pX 1200 613 [l0, l1, l2, .int x0] S h = pX 1200 614 [l0, l1, l2, .int x0] (.int x0 :: S) h := pX_stp d1200_613 rfl rfl rfl
theorem x1200_614 {L S : List Value} {h : HP} : pX 1200 614 L S h = pX 1200 615 L (.int 1 :: S) h := pX_iconst d1200_614 (by decide)
theorem x1200_615 {L S : List Value} {h : HP} {x y : Int32} : pX 1200 615 L (.int y :: .int x :: S) h = pX 1200 616 L (.int (x + y) :: S) h := pX_stp d1200_615 rfl rfl rfl
theorem x1200_616 {L S : List Value} {h : HP} {a : Nat} {j : Int32} (hk : hp_k h a = 99) (hj : inb j (hp_l h a) = true) : pX 1200 616 L (.int j :: .ref a :: S) h = pX 1200 617 L (.int (hp_i h a (ix j)) :: S) h := pX_ildR d1200_616 hk hj
theorem x1200_617 {L : List Value} {h : HP} {x0 : Int32} {a0 : Nat} {x1 : Int32} (hk : hp_k h a0 = 12) : pX 1200 617 L [.int x0, .ref a0, .int x1] h = (pX 1158 0 [.ref a0, .int x0] [] h).bind (fun q => pX 1200 620 L (q.1.toList ++ [.int x1]) q.2) := pX_inv (a := a0) (t := 12) 1158 [.ref a0, .int x0] [.int x1] d1200_617 rfl rfl rfl hk
theorem x1200_620 {L S : List Value} {h : HP} {x y : Int32} : pX 1200 620 L (.int y :: .int x :: S) h = if x = y then pX 1200 809 L S h else pX 1200 623 L S h := pX_icmp_eq d1200_620 (by decide)
theorem x1200_623 {L S : List Value} {h : HP} : pX 1200 623 L S h = pX 1200 624 L (.int 0 :: S) h := pX_iconst d1200_623 (by decide)
theorem x1200_624 {L : List Value} {h : HP} {x : Int32} (hx : x = 0 ∨ x = 1) : pX 1200 624 L [.int x] h = some (some (.int x), h) := pX_ret d1200_624 (by rcases hx with rfl | rfl <;> rfl)
theorem x1200_625 {S : List Value} {h : HP} {l0 l2 l3 : Value} {a0 : Nat} : pX 1200 625 [l0, .ref a0, l2, l3] S h = pX 1200 626 [l0, .ref a0, l2, l3] (.ref a0 :: S) h := pX_stp d1200_625 rfl rfl rfl
theorem x1200_626 {S : List Value} {h : HP} {l1 l2 l3 : Value} {a0 : Nat} : pX 1200 626 [.ref a0, l1, l2, l3] S h = pX 1200 627 [.ref a0, l1, l2, l3] (.ref a0 :: S) h := pX_stp d1200_626 rfl rfl rfl
theorem x1200_627 {S : List Value} {h : HP} {l0 l1 l2 : Value} {x0 : Int32} : pX 1200 627 [l0, l1, l2, .int x0] S h = pX 1200 628 [l0, l1, l2, .int x0] (.int x0 :: S) h := pX_stp d1200_627 rfl rfl rfl
theorem x1200_628 {L S : List Value} {h : HP} : pX 1200 628 L S h = pX 1200 629 L (.int 1 :: S) h := pX_iconst d1200_628 (by decide)
theorem x1200_629 {L S : List Value} {h : HP} {x y : Int32} : pX 1200 629 L (.int y :: .int x :: S) h = pX 1200 630 L (.int (x + y) :: S) h := pX_stp d1200_629 rfl rfl rfl
theorem x1200_630 {L S : List Value} {h : HP} {a : Nat} {j : Int32} (hk : hp_k h a = 99) (hj : inb j (hp_l h a) = true) : pX 1200 630 L (.int j :: .ref a :: S) h = pX 1200 631 L (.int (hp_i h a (ix j)) :: S) h := pX_ildR d1200_630 hk hj
theorem x1200_631 {L : List Value} {h : HP} {x0 : Int32} {a0 : Nat} (hk : hp_k h a0 = 11) : pX 1200 631 L [.int x0, .ref a0] h = (pX 1016 0 [.ref a0, .int x0] [] h).bind (fun q => pX 1200 634 L (q.1.toList ++ []) q.2) := pX_inv (a := a0) (t := 11) 1016 [.ref a0, .int x0] [] d1200_631 rfl rfl rfl hk
theorem x1200_634 {S : List Value} {h : HP} {l0 l1 l3 : Value} {a0 : Nat} : pX 1200 634 [l0, l1, .ref a0, l3] S h = pX 1200 635 [l0, l1, .ref a0, l3] (.ref a0 :: S) h := pX_stp d1200_634 rfl rfl rfl
theorem x1200_635 {S : List Value} {h : HP} {l1 l2 l3 : Value} {a0 : Nat} : pX 1200 635 [.ref a0, l1, l2, l3] S h = pX 1200 636 [.ref a0, l1, l2, l3] (.ref a0 :: S) h := pX_stp d1200_635 rfl rfl rfl
theorem x1200_636 {S : List Value} {h : HP} {l0 l1 l2 : Value} {x0 : Int32} : pX 1200 636 [l0, l1, l2, .int x0] S h = pX 1200 637 [l0, l1, l2, .int x0] (.int x0 :: S) h := pX_stp d1200_636 rfl rfl rfl
theorem x1200_637 {L S : List Value} {h : HP} : pX 1200 637 L S h = pX 1200 638 L (.int 1 :: S) h := pX_iconst d1200_637 (by decide)
theorem x1200_638 {L S : List Value} {h : HP} {x y : Int32} : pX 1200 638 L (.int y :: .int x :: S) h = pX 1200 639 L (.int (x + y) :: S) h := pX_stp d1200_638 rfl rfl rfl
theorem x1200_639 {L S : List Value} {h : HP} {a : Nat} {j : Int32} (hk : hp_k h a = 99) (hj : inb j (hp_l h a) = true) : pX 1200 639 L (.int j :: .ref a :: S) h = pX 1200 640 L (.int (hp_i h a (ix j)) :: S) h := pX_ildR d1200_639 hk hj
theorem x1200_640 {L : List Value} {h : HP} {x0 : Int32} {a0 : Nat} {x1 : Int32} (hk : hp_k h a0 = 12) : pX 1200 640 L [.int x0, .ref a0, .int x1] h = (pX 1159 0 [.ref a0, .int x0] [] h).bind (fun q => pX 1200 643 L (q.1.toList ++ [.int x1]) q.2) := pX_inv (a := a0) (t := 12) 1159 [.ref a0, .int x0] [.int x1] d1200_640 rfl rfl rfl hk
theorem x1200_643 {L S : List Value} {h : HP} {x y : Int32} : pX 1200 643 L (.int y :: .int x :: S) h = if x = y then pX 1200 809 L S h else pX 1200 646 L S h := pX_icmp_eq d1200_643 (by decide)
theorem x1200_646 {L S : List Value} {h : HP} : pX 1200 646 L S h = pX 1200 647 L (.int 0 :: S) h := pX_iconst d1200_646 (by decide)
theorem x1200_647 {L : List Value} {h : HP} {x : Int32} (hx : x = 0 ∨ x = 1) : pX 1200 647 L [.int x] h = some (some (.int x), h) := pX_ret d1200_647 (by rcases hx with rfl | rfl <;> rfl)
theorem x1200_648 {S : List Value} {h : HP} {l0 l2 l3 : Value} {a0 : Nat} : pX 1200 648 [l0, .ref a0, l2, l3] S h = pX 1200 649 [l0, .ref a0, l2, l3] (.ref a0 :: S) h := pX_stp d1200_648 rfl rfl rfl
theorem x1200_649 {L : List Value} {h : HP} {a0 : Nat} (hk : hp_k h a0 = 11) : pX 1200 649 L [.ref a0] h = (pX 1017 0 [.ref a0] [] h).bind (fun q => pX 1200 652 L (q.1.toList ++ []) q.2) := pX_inv (a := a0) (t := 11) 1017 [.ref a0] [] d1200_649 rfl rfl rfl hk
theorem x1200_652 {S : List Value} {h : HP} {l0 l1 l3 : Value} {a0 : Nat} : pX 1200 652 [l0, l1, .ref a0, l3] S h = pX 1200 653 [l0, l1, .ref a0, l3] (.ref a0 :: S) h := pX_stp d1200_652 rfl rfl rfl
theorem x1200_653 {L : List Value} {h : HP} {a0 : Nat} {x0 : Int32} (hk : hp_k h a0 = 12) : pX 1200 653 L [.ref a0, .int x0] h = (pX 1160 0 [.ref a0] [] h).bind (fun q => pX 1200 656 L (q.1.toList ++ [.int x0]) q.2) := pX_inv (a := a0) (t := 12) 1160 [.ref a0] [.int x0] d1200_653 rfl rfl rfl hk
theorem x1200_656 {L S : List Value} {h : HP} {x y : Int32} : pX 1200 656 L (.int y :: .int x :: S) h = if x = y then pX 1200 809 L S h else pX 1200 659 L S h := pX_icmp_eq d1200_656 (by decide)
theorem x1200_659 {L S : List Value} {h : HP} : pX 1200 659 L S h = pX 1200 660 L (.int 0 :: S) h := pX_iconst d1200_659 (by decide)
theorem x1200_660 {L : List Value} {h : HP} {x : Int32} (hx : x = 0 ∨ x = 1) : pX 1200 660 L [.int x] h = some (some (.int x), h) := pX_ret d1200_660 (by rcases hx with rfl | rfl <;> rfl)
theorem x1200_661 {S : List Value} {h : HP} {l0 l2 l3 : Value} {a0 : Nat} : pX 1200 661 [l0, .ref a0, l2, l3] S h = pX 1200 662 [l0, .ref a0, l2, l3] (.ref a0 :: S) h := pX_stp d1200_661 rfl rfl rfl
theorem x1200_662 {S : List Value} {h : HP} {l1 l2 l3 : Value} {a0 : Nat} : pX 1200 662 [.ref a0, l1, l2, l3] S h = pX 1200 663 [.ref a0, l1, l2, l3] (.ref a0 :: S) h := pX_stp d1200_662 rfl rfl rfl
theorem x1200_663 {S : List Value} {h : HP} {l0 l1 l2 : Value} {x0 : Int32} : pX 1200 663 [l0, l1, l2, .int x0] S h = pX 1200 664 [l0, l1, l2, .int x0] (.int x0 :: S) h := pX_stp d1200_663 rfl rfl rfl
theorem x1200_664 {L S : List Value} {h : HP} : pX 1200 664 L S h = pX 1200 665 L (.int 1 :: S) h := pX_iconst d1200_664 (by decide)
theorem x1200_665 {L S : List Value} {h : HP} {x y : Int32} : pX 1200 665 L (.int y :: .int x :: S) h = pX 1200 666 L (.int (x + y) :: S) h := pX_stp d1200_665 rfl rfl rfl
theorem x1200_666 {L S : List Value} {h : HP} {a : Nat} {j : Int32} (hk : hp_k h a = 99) (hj : inb j (hp_l h a) = true) : pX 1200 666 L (.int j :: .ref a :: S) h = pX 1200 667 L (.int (hp_i h a (ix j)) :: S) h := pX_ildR d1200_666 hk hj
theorem x1200_667 {S : List Value} {h : HP} {l1 l2 l3 : Value} {a0 : Nat} : pX 1200 667 [.ref a0, l1, l2, l3] S h = pX 1200 668 [.ref a0, l1, l2, l3] (.ref a0 :: S) h := pX_stp d1200_667 rfl rfl rfl
theorem x1200_668 {S : List Value} {h : HP} {l0 l1 l2 : Value} {x0 : Int32} : pX 1200 668 [l0, l1, l2, .int x0] S h = pX 1200 669 [l0, l1, l2, .int x0] (.int x0 :: S) h := pX_stp d1200_668 rfl rfl rfl
theorem x1200_669 {L S : List Value} {h : HP} : pX 1200 669 L S h = pX 1200 670 L (.int 2 :: S) h := pX_iconst d1200_669 (by decide)
theorem x1200_670 {L S : List Value} {h : HP} {x y : Int32} : pX 1200 670 L (.int y :: .int x :: S) h = pX 1200 671 L (.int (x + y) :: S) h := pX_stp d1200_670 rfl rfl rfl
theorem x1200_671 {L S : List Value} {h : HP} {a : Nat} {j : Int32} (hk : hp_k h a = 99) (hj : inb j (hp_l h a) = true) : pX 1200 671 L (.int j :: .ref a :: S) h = pX 1200 672 L (.int (hp_i h a (ix j)) :: S) h := pX_ildR d1200_671 hk hj
theorem x1200_672 {L : List Value} {h : HP} {x0 : Int32} {x1 : Int32} {a0 : Nat} (hk : hp_k h a0 = 11) : pX 1200 672 L [.int x0, .int x1, .ref a0] h = (pX 1018 0 [.ref a0, .int x1, .int x0, .retAddr 0] [] h).bind (fun q => pX 1200 675 L (q.1.toList ++ []) q.2) := pX_inv (a := a0) (t := 11) 1018 [.ref a0, .int x1, .int x0] [] d1200_672 rfl rfl rfl hk
theorem x1200_675 {S : List Value} {h : HP} {l0 l1 l3 : Value} {a0 : Nat} : pX 1200 675 [l0, l1, .ref a0, l3] S h = pX 1200 676 [l0, l1, .ref a0, l3] (.ref a0 :: S) h := pX_stp d1200_675 rfl rfl rfl
theorem x1200_676 {S : List Value} {h : HP} {l1 l2 l3 : Value} {a0 : Nat} : pX 1200 676 [.ref a0, l1, l2, l3] S h = pX 1200 677 [.ref a0, l1, l2, l3] (.ref a0 :: S) h := pX_stp d1200_676 rfl rfl rfl
theorem x1200_677 {S : List Value} {h : HP} {l0 l1 l2 : Value} {x0 : Int32} : pX 1200 677 [l0, l1, l2, .int x0] S h = pX 1200 678 [l0, l1, l2, .int x0] (.int x0 :: S) h := pX_stp d1200_677 rfl rfl rfl
theorem x1200_678 {L S : List Value} {h : HP} : pX 1200 678 L S h = pX 1200 679 L (.int 1 :: S) h := pX_iconst d1200_678 (by decide)
theorem x1200_679 {L S : List Value} {h : HP} {x y : Int32} : pX 1200 679 L (.int y :: .int x :: S) h = pX 1200 680 L (.int (x + y) :: S) h := pX_stp d1200_679 rfl rfl rfl
theorem x1200_680 {L S : List Value} {h : HP} {a : Nat} {j : Int32} (hk : hp_k h a = 99) (hj : inb j (hp_l h a) = true) : pX 1200 680 L (.int j :: .ref a :: S) h = pX 1200 681 L (.int (hp_i h a (ix j)) :: S) h := pX_ildR d1200_680 hk hj
theorem x1200_681 {S : List Value} {h : HP} {l1 l2 l3 : Value} {a0 : Nat} : pX 1200 681 [.ref a0, l1, l2, l3] S h = pX 1200 682 [.ref a0, l1, l2, l3] (.ref a0 :: S) h := pX_stp d1200_681 rfl rfl rfl
theorem x1200_682 {S : List Value} {h : HP} {l0 l1 l2 : Value} {x0 : Int32} : pX 1200 682 [l0, l1, l2, .int x0] S h = pX 1200 683 [l0, l1, l2, .int x0] (.int x0 :: S) h := pX_stp d1200_682 rfl rfl rfl
theorem x1200_683 {L S : List Value} {h : HP} : pX 1200 683 L S h = pX 1200 684 L (.int 2 :: S) h := pX_iconst d1200_683 (by decide)
theorem x1200_684 {L S : List Value} {h : HP} {x y : Int32} : pX 1200 684 L (.int y :: .int x :: S) h = pX 1200 685 L (.int (x + y) :: S) h := pX_stp d1200_684 rfl rfl rfl
theorem x1200_685 {L S : List Value} {h : HP} {a : Nat} {j : Int32} (hk : hp_k h a = 99) (hj : inb j (hp_l h a) = true) : pX 1200 685 L (.int j :: .ref a :: S) h = pX 1200 686 L (.int (hp_i h a (ix j)) :: S) h := pX_ildR d1200_685 hk hj
theorem x1200_686 {L : List Value} {h : HP} {x0 : Int32} {x1 : Int32} {a0 : Nat} {x2 : Int32} (hk : hp_k h a0 = 12) : pX 1200 686 L [.int x0, .int x1, .ref a0, .int x2] h = (pX 1161 0 [.ref a0, .int x1, .int x0] [] h).bind (fun q => pX 1200 689 L (q.1.toList ++ [.int x2]) q.2) := pX_inv (a := a0) (t := 12) 1161 [.ref a0, .int x1, .int x0] [.int x2] d1200_686 rfl rfl rfl hk
theorem x1200_689 {L S : List Value} {h : HP} {x y : Int32} : pX 1200 689 L (.int y :: .int x :: S) h = if x = y then pX 1200 809 L S h else pX 1200 692 L S h := pX_icmp_eq d1200_689 (by decide)
theorem x1200_692 {L S : List Value} {h : HP} : pX 1200 692 L S h = pX 1200 693 L (.int 0 :: S) h := pX_iconst d1200_692 (by decide)
theorem x1200_693 {L : List Value} {h : HP} {x : Int32} (hx : x = 0 ∨ x = 1) : pX 1200 693 L [.int x] h = some (some (.int x), h) := pX_ret d1200_693 (by rcases hx with rfl | rfl <;> rfl)
theorem x1200_694 {S : List Value} {h : HP} {l0 l2 l3 : Value} {a0 : Nat} : pX 1200 694 [l0, .ref a0, l2, l3] S h = pX 1200 695 [l0, .ref a0, l2, l3] (.ref a0 :: S) h := pX_stp d1200_694 rfl rfl rfl
theorem x1200_695 {S : List Value} {h : HP} {l1 l2 l3 : Value} {a0 : Nat} : pX 1200 695 [.ref a0, l1, l2, l3] S h = pX 1200 696 [.ref a0, l1, l2, l3] (.ref a0 :: S) h := pX_stp d1200_695 rfl rfl rfl
theorem x1200_696 {S : List Value} {h : HP} {l0 l1 l2 : Value} {x0 : Int32} : pX 1200 696 [l0, l1, l2, .int x0] S h = pX 1200 697 [l0, l1, l2, .int x0] (.int x0 :: S) h := pX_stp d1200_696 rfl rfl rfl
theorem x1200_697 {L S : List Value} {h : HP} : pX 1200 697 L S h = pX 1200 698 L (.int 1 :: S) h := pX_iconst d1200_697 (by decide)
theorem x1200_698 {L S : List Value} {h : HP} {x y : Int32} : pX 1200 698 L (.int y :: .int x :: S) h = pX 1200 699 L (.int (x + y) :: S) h := pX_stp d1200_698 rfl rfl rfl
theorem x1200_699 {L S : List Value} {h : HP} {a : Nat} {j : Int32} (hk : hp_k h a = 99) (hj : inb j (hp_l h a) = true) : pX 1200 699 L (.int j :: .ref a :: S) h = pX 1200 700 L (.int (hp_i h a (ix j)) :: S) h := pX_ildR d1200_699 hk hj
theorem x1200_700 {L : List Value} {h : HP} {x0 : Int32} {a0 : Nat} (hk : hp_k h a0 = 11) : pX 1200 700 L [.int x0, .ref a0] h = (pX 1019 0 [.ref a0, .int x0] [] h).bind (fun q => pX 1200 703 L (q.1.toList ++ []) q.2) := pX_inv (a := a0) (t := 11) 1019 [.ref a0, .int x0] [] d1200_700 rfl rfl rfl hk
theorem x1200_703 {S : List Value} {h : HP} {l0 l1 l3 : Value} {a0 : Nat} : pX 1200 703 [l0, l1, .ref a0, l3] S h = pX 1200 704 [l0, l1, .ref a0, l3] (.ref a0 :: S) h := pX_stp d1200_703 rfl rfl rfl
theorem x1200_704 {S : List Value} {h : HP} {l1 l2 l3 : Value} {a0 : Nat} : pX 1200 704 [.ref a0, l1, l2, l3] S h = pX 1200 705 [.ref a0, l1, l2, l3] (.ref a0 :: S) h := pX_stp d1200_704 rfl rfl rfl
theorem x1200_705 {S : List Value} {h : HP} {l0 l1 l2 : Value} {x0 : Int32} : pX 1200 705 [l0, l1, l2, .int x0] S h = pX 1200 706 [l0, l1, l2, .int x0] (.int x0 :: S) h := pX_stp d1200_705 rfl rfl rfl
theorem x1200_706 {L S : List Value} {h : HP} : pX 1200 706 L S h = pX 1200 707 L (.int 1 :: S) h := pX_iconst d1200_706 (by decide)
theorem x1200_707 {L S : List Value} {h : HP} {x y : Int32} : pX 1200 707 L (.int y :: .int x :: S) h = pX 1200 708 L (.int (x + y) :: S) h := pX_stp d1200_707 rfl rfl rfl
theorem x1200_708 {L S : List Value} {h : HP} {a : Nat} {j : Int32} (hk : hp_k h a = 99) (hj : inb j (hp_l h a) = true) : pX 1200 708 L (.int j :: .ref a :: S) h = pX 1200 709 L (.int (hp_i h a (ix j)) :: S) h := pX_ildR d1200_708 hk hj
theorem x1200_709 {L : List Value} {h : HP} {x0 : Int32} {a0 : Nat} {x1 : Int32} (hk : hp_k h a0 = 12) : pX 1200 709 L [.int x0, .ref a0, .int x1] h = (pX 1162 0 [.ref a0, .int x0, .retAddr 0] [] h).bind (fun q => pX 1200 712 L (q.1.toList ++ [.int x1]) q.2) := pX_inv (a := a0) (t := 12) 1162 [.ref a0, .int x0] [.int x1] d1200_709 rfl rfl rfl hk
theorem x1200_712 {L S : List Value} {h : HP} {x y : Int32} : pX 1200 712 L (.int y :: .int x :: S) h = if x = y then pX 1200 809 L S h else pX 1200 715 L S h := pX_icmp_eq d1200_712 (by decide)
theorem x1200_715 {L S : List Value} {h : HP} : pX 1200 715 L S h = pX 1200 716 L (.int 0 :: S) h := pX_iconst d1200_715 (by decide)
theorem x1200_716 {L : List Value} {h : HP} {x : Int32} (hx : x = 0 ∨ x = 1) : pX 1200 716 L [.int x] h = some (some (.int x), h) := pX_ret d1200_716 (by rcases hx with rfl | rfl <;> rfl)
theorem x1200_717 {S : List Value} {h : HP} {l0 l2 l3 : Value} {a0 : Nat} : pX 1200 717 [l0, .ref a0, l2, l3] S h = pX 1200 718 [l0, .ref a0, l2, l3] (.ref a0 :: S) h := pX_stp d1200_717 rfl rfl rfl
theorem x1200_718 {S : List Value} {h : HP} {l1 l2 l3 : Value} {a0 : Nat} : pX 1200 718 [.ref a0, l1, l2, l3] S h = pX 1200 719 [.ref a0, l1, l2, l3] (.ref a0 :: S) h := pX_stp d1200_718 rfl rfl rfl
theorem x1200_719 {S : List Value} {h : HP} {l0 l1 l2 : Value} {x0 : Int32} : pX 1200 719 [l0, l1, l2, .int x0] S h = pX 1200 720 [l0, l1, l2, .int x0] (.int x0 :: S) h := pX_stp d1200_719 rfl rfl rfl
theorem x1200_720 {L S : List Value} {h : HP} : pX 1200 720 L S h = pX 1200 721 L (.int 1 :: S) h := pX_iconst d1200_720 (by decide)
theorem x1200_721 {L S : List Value} {h : HP} {x y : Int32} : pX 1200 721 L (.int y :: .int x :: S) h = pX 1200 722 L (.int (x + y) :: S) h := pX_stp d1200_721 rfl rfl rfl
theorem x1200_722 {L S : List Value} {h : HP} {a : Nat} {j : Int32} (hk : hp_k h a = 99) (hj : inb j (hp_l h a) = true) : pX 1200 722 L (.int j :: .ref a :: S) h = pX 1200 723 L (.int (hp_i h a (ix j)) :: S) h := pX_ildR d1200_722 hk hj
theorem x1200_723 {L : List Value} {h : HP} {x0 : Int32} {a0 : Nat} (hk : hp_k h a0 = 11) : pX 1200 723 L [.int x0, .ref a0] h = (pX 1020 0 [.ref a0, .int x0, .retAddr 0] [] h).bind (fun q => pX 1200 726 L (q.1.toList ++ []) q.2) := pX_inv (a := a0) (t := 11) 1020 [.ref a0, .int x0] [] d1200_723 rfl rfl rfl hk
theorem x1200_726 {S : List Value} {h : HP} {l0 l1 l3 : Value} {a0 : Nat} : pX 1200 726 [l0, l1, .ref a0, l3] S h = pX 1200 727 [l0, l1, .ref a0, l3] (.ref a0 :: S) h := pX_stp d1200_726 rfl rfl rfl
theorem x1200_727 {S : List Value} {h : HP} {l1 l2 l3 : Value} {a0 : Nat} : pX 1200 727 [.ref a0, l1, l2, l3] S h = pX 1200 728 [.ref a0, l1, l2, l3] (.ref a0 :: S) h := pX_stp d1200_727 rfl rfl rfl
theorem x1200_728 {S : List Value} {h : HP} {l0 l1 l2 : Value} {x0 : Int32} : pX 1200 728 [l0, l1, l2, .int x0] S h = pX 1200 729 [l0, l1, l2, .int x0] (.int x0 :: S) h := pX_stp d1200_728 rfl rfl rfl
theorem x1200_729 {L S : List Value} {h : HP} : pX 1200 729 L S h = pX 1200 730 L (.int 1 :: S) h := pX_iconst d1200_729 (by decide)
theorem x1200_730 {L S : List Value} {h : HP} {x y : Int32} : pX 1200 730 L (.int y :: .int x :: S) h = pX 1200 731 L (.int (x + y) :: S) h := pX_stp d1200_730 rfl rfl rfl
theorem x1200_731 {L S : List Value} {h : HP} {a : Nat} {j : Int32} (hk : hp_k h a = 99) (hj : inb j (hp_l h a) = true) : pX 1200 731 L (.int j :: .ref a :: S) h = pX 1200 732 L (.int (hp_i h a (ix j)) :: S) h := pX_ildR d1200_731 hk hj
theorem x1200_732 {L : List Value} {h : HP} {x0 : Int32} {a0 : Nat} {x1 : Int32} (hk : hp_k h a0 = 12) : pX 1200 732 L [.int x0, .ref a0, .int x1] h = (pX 1163 0 [.ref a0, .int x0, .retAddr 0, .retAddr 0] [] h).bind (fun q => pX 1200 735 L (q.1.toList ++ [.int x1]) q.2) := pX_inv (a := a0) (t := 12) 1163 [.ref a0, .int x0] [.int x1] d1200_732 rfl rfl rfl hk
theorem x1200_735 {L S : List Value} {h : HP} {x y : Int32} : pX 1200 735 L (.int y :: .int x :: S) h = if x = y then pX 1200 809 L S h else pX 1200 738 L S h := pX_icmp_eq d1200_735 (by decide)
theorem x1200_738 {L S : List Value} {h : HP} : pX 1200 738 L S h = pX 1200 739 L (.int 0 :: S) h := pX_iconst d1200_738 (by decide)
theorem x1200_739 {L : List Value} {h : HP} {x : Int32} (hx : x = 0 ∨ x = 1) : pX 1200 739 L [.int x] h = some (some (.int x), h) := pX_ret d1200_739 (by rcases hx with rfl | rfl <;> rfl)
theorem x1200_740 {S : List Value} {h : HP} {l0 l2 l3 : Value} {a0 : Nat} : pX 1200 740 [l0, .ref a0, l2, l3] S h = pX 1200 741 [l0, .ref a0, l2, l3] (.ref a0 :: S) h := pX_stp d1200_740 rfl rfl rfl
theorem x1200_741 {S : List Value} {h : HP} {l1 l2 l3 : Value} {a0 : Nat} : pX 1200 741 [.ref a0, l1, l2, l3] S h = pX 1200 742 [.ref a0, l1, l2, l3] (.ref a0 :: S) h := pX_stp d1200_741 rfl rfl rfl
theorem x1200_742 {S : List Value} {h : HP} {l0 l1 l2 : Value} {x0 : Int32} : pX 1200 742 [l0, l1, l2, .int x0] S h = pX 1200 743 [l0, l1, l2, .int x0] (.int x0 :: S) h := pX_stp d1200_742 rfl rfl rfl
theorem x1200_743 {L S : List Value} {h : HP} : pX 1200 743 L S h = pX 1200 744 L (.int 1 :: S) h := pX_iconst d1200_743 (by decide)
theorem x1200_744 {L S : List Value} {h : HP} {x y : Int32} : pX 1200 744 L (.int y :: .int x :: S) h = pX 1200 745 L (.int (x + y) :: S) h := pX_stp d1200_744 rfl rfl rfl
theorem x1200_745 {L S : List Value} {h : HP} {a : Nat} {j : Int32} (hk : hp_k h a = 99) (hj : inb j (hp_l h a) = true) : pX 1200 745 L (.int j :: .ref a :: S) h = pX 1200 746 L (.int (hp_i h a (ix j)) :: S) h := pX_ildR d1200_745 hk hj
theorem x1200_746 {S : List Value} {h : HP} {l1 l2 l3 : Value} {a0 : Nat} : pX 1200 746 [.ref a0, l1, l2, l3] S h = pX 1200 747 [.ref a0, l1, l2, l3] (.ref a0 :: S) h := pX_stp d1200_746 rfl rfl rfl
theorem x1200_747 {S : List Value} {h : HP} {l0 l1 l2 : Value} {x0 : Int32} : pX 1200 747 [l0, l1, l2, .int x0] S h = pX 1200 748 [l0, l1, l2, .int x0] (.int x0 :: S) h := pX_stp d1200_747 rfl rfl rfl
theorem x1200_748 {L S : List Value} {h : HP} : pX 1200 748 L S h = pX 1200 749 L (.int 2 :: S) h := pX_iconst d1200_748 (by decide)
theorem x1200_749 {L S : List Value} {h : HP} {x y : Int32} : pX 1200 749 L (.int y :: .int x :: S) h = pX 1200 750 L (.int (x + y) :: S) h := pX_stp d1200_749 rfl rfl rfl
theorem x1200_750 {L S : List Value} {h : HP} {a : Nat} {j : Int32} (hk : hp_k h a = 99) (hj : inb j (hp_l h a) = true) : pX 1200 750 L (.int j :: .ref a :: S) h = pX 1200 751 L (.int (hp_i h a (ix j)) :: S) h := pX_ildR d1200_750 hk hj
theorem x1200_751 {L : List Value} {h : HP} {x0 : Int32} {x1 : Int32} {a0 : Nat} (hk : hp_k h a0 = 11) : pX 1200 751 L [.int x0, .int x1, .ref a0] h = (pX 1021 0 [.ref a0, .int x1, .int x0, .retAddr 0] [] h).bind (fun q => pX 1200 754 L (q.1.toList ++ []) q.2) := pX_inv (a := a0) (t := 11) 1021 [.ref a0, .int x1, .int x0] [] d1200_751 rfl rfl rfl hk
theorem x1200_754 {S : List Value} {h : HP} {l0 l1 l3 : Value} {a0 : Nat} : pX 1200 754 [l0, l1, .ref a0, l3] S h = pX 1200 755 [l0, l1, .ref a0, l3] (.ref a0 :: S) h := pX_stp d1200_754 rfl rfl rfl
theorem x1200_755 {S : List Value} {h : HP} {l1 l2 l3 : Value} {a0 : Nat} : pX 1200 755 [.ref a0, l1, l2, l3] S h = pX 1200 756 [.ref a0, l1, l2, l3] (.ref a0 :: S) h := pX_stp d1200_755 rfl rfl rfl
theorem x1200_756 {S : List Value} {h : HP} {l0 l1 l2 : Value} {x0 : Int32} : pX 1200 756 [l0, l1, l2, .int x0] S h = pX 1200 757 [l0, l1, l2, .int x0] (.int x0 :: S) h := pX_stp d1200_756 rfl rfl rfl
theorem x1200_757 {L S : List Value} {h : HP} : pX 1200 757 L S h = pX 1200 758 L (.int 1 :: S) h := pX_iconst d1200_757 (by decide)
theorem x1200_758 {L S : List Value} {h : HP} {x y : Int32} : pX 1200 758 L (.int y :: .int x :: S) h = pX 1200 759 L (.int (x + y) :: S) h := pX_stp d1200_758 rfl rfl rfl
theorem x1200_759 {L S : List Value} {h : HP} {a : Nat} {j : Int32} (hk : hp_k h a = 99) (hj : inb j (hp_l h a) = true) : pX 1200 759 L (.int j :: .ref a :: S) h = pX 1200 760 L (.int (hp_i h a (ix j)) :: S) h := pX_ildR d1200_759 hk hj
theorem x1200_760 {S : List Value} {h : HP} {l1 l2 l3 : Value} {a0 : Nat} : pX 1200 760 [.ref a0, l1, l2, l3] S h = pX 1200 761 [.ref a0, l1, l2, l3] (.ref a0 :: S) h := pX_stp d1200_760 rfl rfl rfl
theorem x1200_761 {S : List Value} {h : HP} {l0 l1 l2 : Value} {x0 : Int32} : pX 1200 761 [l0, l1, l2, .int x0] S h = pX 1200 762 [l0, l1, l2, .int x0] (.int x0 :: S) h := pX_stp d1200_761 rfl rfl rfl
theorem x1200_762 {L S : List Value} {h : HP} : pX 1200 762 L S h = pX 1200 763 L (.int 2 :: S) h := pX_iconst d1200_762 (by decide)
theorem x1200_763 {L S : List Value} {h : HP} {x y : Int32} : pX 1200 763 L (.int y :: .int x :: S) h = pX 1200 764 L (.int (x + y) :: S) h := pX_stp d1200_763 rfl rfl rfl
theorem x1200_764 {L S : List Value} {h : HP} {a : Nat} {j : Int32} (hk : hp_k h a = 99) (hj : inb j (hp_l h a) = true) : pX 1200 764 L (.int j :: .ref a :: S) h = pX 1200 765 L (.int (hp_i h a (ix j)) :: S) h := pX_ildR d1200_764 hk hj
theorem x1200_765 {L : List Value} {h : HP} {x0 : Int32} {x1 : Int32} {a0 : Nat} {x2 : Int32} (hk : hp_k h a0 = 12) : pX 1200 765 L [.int x0, .int x1, .ref a0, .int x2] h = (pX 1164 0 [.ref a0, .int x1, .int x0, .retAddr 0] [] h).bind (fun q => pX 1200 768 L (q.1.toList ++ [.int x2]) q.2) := pX_inv (a := a0) (t := 12) 1164 [.ref a0, .int x1, .int x0] [.int x2] d1200_765 rfl rfl rfl hk
theorem x1200_768 {L S : List Value} {h : HP} {x y : Int32} : pX 1200 768 L (.int y :: .int x :: S) h = if x = y then pX 1200 809 L S h else pX 1200 771 L S h := pX_icmp_eq d1200_768 (by decide)
theorem x1200_771 {L S : List Value} {h : HP} : pX 1200 771 L S h = pX 1200 772 L (.int 0 :: S) h := pX_iconst d1200_771 (by decide)
theorem x1200_772 {L : List Value} {h : HP} {x : Int32} (hx : x = 0 ∨ x = 1) : pX 1200 772 L [.int x] h = some (some (.int x), h) := pX_ret d1200_772 (by rcases hx with rfl | rfl <;> rfl)
theorem x1200_773 {S : List Value} {h : HP} {l0 l2 l3 : Value} {a0 : Nat} : pX 1200 773 [l0, .ref a0, l2, l3] S h = pX 1200 774 [l0, .ref a0, l2, l3] (.ref a0 :: S) h := pX_stp d1200_773 rfl rfl rfl
theorem x1200_774 {L : List Value} {h : HP} {a0 : Nat} (hk : hp_k h a0 = 11) : pX 1200 774 L [.ref a0] h = (pX 1022 0 [.ref a0] [] h).bind (fun q => pX 1200 777 L (q.1.toList ++ []) q.2) := pX_inv (a := a0) (t := 11) 1022 [.ref a0] [] d1200_774 rfl rfl rfl hk
theorem x1200_777 {S : List Value} {h : HP} {l0 l1 l3 : Value} {a0 : Nat} : pX 1200 777 [l0, l1, .ref a0, l3] S h = pX 1200 778 [l0, l1, .ref a0, l3] (.ref a0 :: S) h := pX_stp d1200_777 rfl rfl rfl
theorem x1200_778 {L : List Value} {h : HP} {a0 : Nat} {x0 : Int32} (hk : hp_k h a0 = 12) : pX 1200 778 L [.ref a0, .int x0] h = (pX 1165 0 [.ref a0] [] h).bind (fun q => pX 1200 781 L (q.1.toList ++ [.int x0]) q.2) := pX_inv (a := a0) (t := 12) 1165 [.ref a0] [.int x0] d1200_778 rfl rfl rfl hk
theorem x1200_781 {L S : List Value} {h : HP} {x y : Int32} : pX 1200 781 L (.int y :: .int x :: S) h = if x = y then pX 1200 809 L S h else pX 1200 784 L S h := pX_icmp_eq d1200_781 (by decide)
theorem x1200_784 {L S : List Value} {h : HP} : pX 1200 784 L S h = pX 1200 785 L (.int 0 :: S) h := pX_iconst d1200_784 (by decide)
theorem x1200_785 {L : List Value} {h : HP} {x : Int32} (hx : x = 0 ∨ x = 1) : pX 1200 785 L [.int x] h = some (some (.int x), h) := pX_ret d1200_785 (by rcases hx with rfl | rfl <;> rfl)
theorem x1200_786 {S : List Value} {h : HP} {l0 l2 l3 : Value} {a0 : Nat} : pX 1200 786 [l0, .ref a0, l2, l3] S h = pX 1200 787 [l0, .ref a0, l2, l3] (.ref a0 :: S) h := pX_stp d1200_786 rfl rfl rfl
theorem x1200_787 {S : List Value} {h : HP} {l1 l2 l3 : Value} {a0 : Nat} : pX 1200 787 [.ref a0, l1, l2, l3] S h = pX 1200 788 [.ref a0, l1, l2, l3] (.ref a0 :: S) h := pX_stp d1200_787 rfl rfl rfl
theorem x1200_788 {S : List Value} {h : HP} {l0 l1 l2 : Value} {x0 : Int32} : pX 1200 788 [l0, l1, l2, .int x0] S h = pX 1200 789 [l0, l1, l2, .int x0] (.int x0 :: S) h := pX_stp d1200_788 rfl rfl rfl
theorem x1200_789 {L S : List Value} {h : HP} : pX 1200 789 L S h = pX 1200 790 L (.int 1 :: S) h := pX_iconst d1200_789 (by decide)
theorem x1200_790 {L S : List Value} {h : HP} {x y : Int32} : pX 1200 790 L (.int y :: .int x :: S) h = pX 1200 791 L (.int (x + y) :: S) h := pX_stp d1200_790 rfl rfl rfl
theorem x1200_791 {L S : List Value} {h : HP} {a : Nat} {j : Int32} (hk : hp_k h a = 99) (hj : inb j (hp_l h a) = true) : pX 1200 791 L (.int j :: .ref a :: S) h = pX 1200 792 L (.int (hp_i h a (ix j)) :: S) h := pX_ildR d1200_791 hk hj
theorem x1200_792 {L : List Value} {h : HP} {x0 : Int32} {a0 : Nat} (hk : hp_k h a0 = 11) : pX 1200 792 L [.int x0, .ref a0] h = (pX 1023 0 [.ref a0, .int x0] [] h).bind (fun q => pX 1200 795 L (q.1.toList ++ []) q.2) := pX_inv (a := a0) (t := 11) 1023 [.ref a0, .int x0] [] d1200_792 rfl rfl rfl hk
theorem x1200_795 {S : List Value} {h : HP} {l0 l1 l3 : Value} {a0 : Nat} : pX 1200 795 [l0, l1, .ref a0, l3] S h = pX 1200 796 [l0, l1, .ref a0, l3] (.ref a0 :: S) h := pX_stp d1200_795 rfl rfl rfl
theorem x1200_796 {S : List Value} {h : HP} {l1 l2 l3 : Value} {a0 : Nat} : pX 1200 796 [.ref a0, l1, l2, l3] S h = pX 1200 797 [.ref a0, l1, l2, l3] (.ref a0 :: S) h := pX_stp d1200_796 rfl rfl rfl
theorem x1200_797 {S : List Value} {h : HP} {l0 l1 l2 : Value} {x0 : Int32} : pX 1200 797 [l0, l1, l2, .int x0] S h = pX 1200 798 [l0, l1, l2, .int x0] (.int x0 :: S) h := pX_stp d1200_797 rfl rfl rfl
theorem x1200_798 {L S : List Value} {h : HP} : pX 1200 798 L S h = pX 1200 799 L (.int 1 :: S) h := pX_iconst d1200_798 (by decide)
theorem x1200_799 {L S : List Value} {h : HP} {x y : Int32} : pX 1200 799 L (.int y :: .int x :: S) h = pX 1200 800 L (.int (x + y) :: S) h := pX_stp d1200_799 rfl rfl rfl
theorem x1200_800 {L S : List Value} {h : HP} {a : Nat} {j : Int32} (hk : hp_k h a = 99) (hj : inb j (hp_l h a) = true) : pX 1200 800 L (.int j :: .ref a :: S) h = pX 1200 801 L (.int (hp_i h a (ix j)) :: S) h := pX_ildR d1200_800 hk hj
theorem x1200_801 {L : List Value} {h : HP} {x0 : Int32} {a0 : Nat} {x1 : Int32} (hk : hp_k h a0 = 12) : pX 1200 801 L [.int x0, .ref a0, .int x1] h = (pX 1166 0 [.ref a0, .int x0] [] h).bind (fun q => pX 1200 804 L (q.1.toList ++ [.int x1]) q.2) := pX_inv (a := a0) (t := 12) 1166 [.ref a0, .int x0] [.int x1] d1200_801 rfl rfl rfl hk
theorem x1200_804 {L S : List Value} {h : HP} {x y : Int32} : pX 1200 804 L (.int y :: .int x :: S) h = if x = y then pX 1200 809 L S h else pX 1200 807 L S h := pX_icmp_eq d1200_804 (by decide)
theorem x1200_807 {L S : List Value} {h : HP} : pX 1200 807 L S h = pX 1200 808 L (.int 0 :: S) h := pX_iconst d1200_807 (by decide)
theorem x1200_808 {L : List Value} {h : HP} {x : Int32} (hx : x = 0 ∨ x = 1) : pX 1200 808 L [.int x] h = some (some (.int x), h) := pX_ret d1200_808 (by rcases hx with rfl | rfl <;> rfl)
theorem x1200_809 {S : List Value} {h : HP} {x0 : Int32} {l0 l1 l2 : Value} : pX 1200 809 [l0, l1, l2, .int x0] S h = pX 1200 812 [l0, l1, l2, .int (x0 + 6)] S h := pX_iinc (x := x0) d1200_809 (by decide) rfl (Nat.le_of_ble_eq_true rfl) rfl rfl
theorem x1200_812 {L S : List Value} {h : HP} : pX 1200 812 L S h = pX 1200 18 L S h := pX_goto d1200_812 (by decide)
theorem x1200_815 {L S : List Value} {h : HP} : pX 1200 815 L S h = pX 1200 816 L (.int 1 :: S) h := pX_iconst d1200_815 (by decide)
theorem x1200_816 {L : List Value} {h : HP} {x : Int32} (hx : x = 0 ∨ x = 1) : pX 1200 816 L [.int x] h = some (some (.int x), h) := pX_ret d1200_816 (by rcases hx with rfl | rfl <;> rfl)
