theorem d_L_law_0 : decode c_L_law 0 = .ok (.new 7, 3) := by decide +kernel
theorem d_L_law_3 : decode c_L_law 3 = .ok (.dup, 1) := by decide +kernel
theorem d_L_law_4 : decode c_L_law 4 = .ok (.invokespecial 9, 3) := by decide +kernel
theorem d_L_law_7 : decode c_L_law 7 = .ok (.astore_n 1, 1) := by decide +kernel
theorem d_L_law_8 : decode c_L_law 8 = .ok (.new 10, 3) := by decide +kernel
theorem d_L_law_11 : decode c_L_law 11 = .ok (.dup, 1) := by decide +kernel
theorem d_L_law_12 : decode c_L_law 12 = .ok (.invokespecial 12, 3) := by decide +kernel
theorem d_L_law_15 : decode c_L_law 15 = .ok (.astore_n 2, 1) := by decide +kernel
theorem d_L_law_16 : decode c_L_law 16 = .ok (.iconst 0, 1) := by decide +kernel
theorem d_L_law_17 : decode c_L_law 17 = .ok (.istore_n 3, 1) := by decide +kernel
theorem d_L_law_18 : decode c_L_law 18 = .ok (.iload_n 3, 1) := by decide +kernel
theorem d_L_law_19 : decode c_L_law 19 = .ok (.aload_n 0, 1) := by decide +kernel
theorem d_L_law_20 : decode c_L_law 20 = .ok (.arraylength, 1) := by decide +kernel
theorem d_L_law_21 : decode c_L_law 21 = .ok (.iconst 4, 1) := by decide +kernel
theorem d_L_law_22 : decode c_L_law 22 = .ok (.isub, 1) := by decide +kernel
theorem d_L_law_23 : decode c_L_law 23 = .ok (.if_icmp .gt 552, 3) := by decide +kernel
theorem d_L_law_26 : decode c_L_law 26 = .ok (.aload_n 0, 1) := by decide +kernel
theorem d_L_law_27 : decode c_L_law 27 = .ok (.iload_n 3, 1) := by decide +kernel
theorem d_L_law_28 : decode c_L_law 28 = .ok (.iaload, 1) := by decide +kernel
theorem d_L_law_29 : decode c_L_law 29 = .ok (.bipush 31, 2) := by decide +kernel
theorem d_L_law_31 : decode c_L_law 31 = .ok (.iand, 1) := by decide +kernel
theorem d_L_law_32 : decode c_L_law 32 = .ok (.tableswitch 537 0 19 #[96, 129, 172, 195, 208, 231, 254, 287, 310, 333, 346, 359, 372, 386, 409, 432, 465, 488, 511, 524], 96) := by decide +kernel
theorem d_L_law_128 : decode c_L_law 128 = .ok (.aload_n 1, 1) := by decide +kernel
theorem d_L_law_129 : decode c_L_law 129 = .ok (.aload_n 0, 1) := by decide +kernel
theorem d_L_law_130 : decode c_L_law 130 = .ok (.iload_n 3, 1) := by decide +kernel
theorem d_L_law_131 : decode c_L_law 131 = .ok (.iconst 1, 1) := by decide +kernel
theorem d_L_law_132 : decode c_L_law 132 = .ok (.iadd, 1) := by decide +kernel
theorem d_L_law_133 : decode c_L_law 133 = .ok (.iaload, 1) := by decide +kernel
theorem d_L_law_134 : decode c_L_law 134 = .ok (.aload_n 0, 1) := by decide +kernel
theorem d_L_law_135 : decode c_L_law 135 = .ok (.iload_n 3, 1) := by decide +kernel
theorem d_L_law_136 : decode c_L_law 136 = .ok (.iconst 2, 1) := by decide +kernel
theorem d_L_law_137 : decode c_L_law 137 = .ok (.iadd, 1) := by decide +kernel
theorem d_L_law_138 : decode c_L_law 138 = .ok (.iaload, 1) := by decide +kernel
theorem d_L_law_139 : decode c_L_law 139 = .ok (.invokevirtual 13, 3) := by decide +kernel
theorem d_L_law_142 : decode c_L_law 142 = .ok (.aload_n 2, 1) := by decide +kernel
theorem d_L_law_143 : decode c_L_law 143 = .ok (.aload_n 0, 1) := by decide +kernel
theorem d_L_law_144 : decode c_L_law 144 = .ok (.iload_n 3, 1) := by decide +kernel
theorem d_L_law_145 : decode c_L_law 145 = .ok (.iconst 1, 1) := by decide +kernel
theorem d_L_law_146 : decode c_L_law 146 = .ok (.iadd, 1) := by decide +kernel
theorem d_L_law_147 : decode c_L_law 147 = .ok (.iaload, 1) := by decide +kernel
theorem d_L_law_148 : decode c_L_law 148 = .ok (.aload_n 0, 1) := by decide +kernel
theorem d_L_law_149 : decode c_L_law 149 = .ok (.iload_n 3, 1) := by decide +kernel
theorem d_L_law_150 : decode c_L_law 150 = .ok (.iconst 2, 1) := by decide +kernel
theorem d_L_law_151 : decode c_L_law 151 = .ok (.iadd, 1) := by decide +kernel
theorem d_L_law_152 : decode c_L_law 152 = .ok (.iaload, 1) := by decide +kernel
theorem d_L_law_153 : decode c_L_law 153 = .ok (.invokevirtual 17, 3) := by decide +kernel
theorem d_L_law_156 : decode c_L_law 156 = .ok (.if_icmp .eq 413, 3) := by decide +kernel
theorem d_L_law_159 : decode c_L_law 159 = .ok (.iconst 0, 1) := by decide +kernel
theorem d_L_law_160 : decode c_L_law 160 = .ok (.ireturn, 1) := by decide +kernel
theorem d_L_law_161 : decode c_L_law 161 = .ok (.aload_n 1, 1) := by decide +kernel
theorem d_L_law_162 : decode c_L_law 162 = .ok (.aload_n 0, 1) := by decide +kernel
theorem d_L_law_163 : decode c_L_law 163 = .ok (.iload_n 3, 1) := by decide +kernel
theorem d_L_law_164 : decode c_L_law 164 = .ok (.iconst 1, 1) := by decide +kernel
theorem d_L_law_165 : decode c_L_law 165 = .ok (.iadd, 1) := by decide +kernel
theorem d_L_law_166 : decode c_L_law 166 = .ok (.iaload, 1) := by decide +kernel
theorem d_L_law_167 : decode c_L_law 167 = .ok (.aload_n 0, 1) := by decide +kernel
theorem d_L_law_168 : decode c_L_law 168 = .ok (.iload_n 3, 1) := by decide +kernel
theorem d_L_law_169 : decode c_L_law 169 = .ok (.iconst 2, 1) := by decide +kernel
theorem d_L_law_170 : decode c_L_law 170 = .ok (.iadd, 1) := by decide +kernel
theorem d_L_law_171 : decode c_L_law 171 = .ok (.iaload, 1) := by decide +kernel
theorem d_L_law_172 : decode c_L_law 172 = .ok (.aload_n 0, 1) := by decide +kernel
theorem d_L_law_173 : decode c_L_law 173 = .ok (.iload_n 3, 1) := by decide +kernel
theorem d_L_law_174 : decode c_L_law 174 = .ok (.iconst 3, 1) := by decide +kernel
theorem d_L_law_175 : decode c_L_law 175 = .ok (.iadd, 1) := by decide +kernel
theorem d_L_law_176 : decode c_L_law 176 = .ok (.iaload, 1) := by decide +kernel
theorem d_L_law_177 : decode c_L_law 177 = .ok (.invokevirtual 18, 3) := by decide +kernel
theorem d_L_law_180 : decode c_L_law 180 = .ok (.aload_n 2, 1) := by decide +kernel
theorem d_L_law_181 : decode c_L_law 181 = .ok (.aload_n 0, 1) := by decide +kernel
theorem d_L_law_182 : decode c_L_law 182 = .ok (.iload_n 3, 1) := by decide +kernel
theorem d_L_law_183 : decode c_L_law 183 = .ok (.iconst 1, 1) := by decide +kernel
theorem d_L_law_184 : decode c_L_law 184 = .ok (.iadd, 1) := by decide +kernel
theorem d_L_law_185 : decode c_L_law 185 = .ok (.iaload, 1) := by decide +kernel
theorem d_L_law_186 : decode c_L_law 186 = .ok (.aload_n 0, 1) := by decide +kernel
theorem d_L_law_187 : decode c_L_law 187 = .ok (.iload_n 3, 1) := by decide +kernel
theorem d_L_law_188 : decode c_L_law 188 = .ok (.iconst 2, 1) := by decide +kernel
theorem d_L_law_189 : decode c_L_law 189 = .ok (.iadd, 1) := by decide +kernel
theorem d_L_law_190 : decode c_L_law 190 = .ok (.iaload, 1) := by decide +kernel
theorem d_L_law_191 : decode c_L_law 191 = .ok (.aload_n 0, 1) := by decide +kernel
theorem d_L_law_192 : decode c_L_law 192 = .ok (.iload_n 3, 1) := by decide +kernel
theorem d_L_law_193 : decode c_L_law 193 = .ok (.iconst 3, 1) := by decide +kernel
theorem d_L_law_194 : decode c_L_law 194 = .ok (.iadd, 1) := by decide +kernel
theorem d_L_law_195 : decode c_L_law 195 = .ok (.iaload, 1) := by decide +kernel
theorem d_L_law_196 : decode c_L_law 196 = .ok (.invokevirtual 22, 3) := by decide +kernel
theorem d_L_law_199 : decode c_L_law 199 = .ok (.if_icmp .eq 370, 3) := by decide +kernel
theorem d_L_law_202 : decode c_L_law 202 = .ok (.iconst 0, 1) := by decide +kernel
theorem d_L_law_203 : decode c_L_law 203 = .ok (.ireturn, 1) := by decide +kernel
theorem d_L_law_204 : decode c_L_law 204 = .ok (.aload_n 1, 1) := by decide +kernel
theorem d_L_law_205 : decode c_L_law 205 = .ok (.aload_n 0, 1) := by decide +kernel
theorem d_L_law_206 : decode c_L_law 206 = .ok (.iload_n 3, 1) := by decide +kernel
theorem d_L_law_207 : decode c_L_law 207 = .ok (.iconst 1, 1) := by decide +kernel
theorem d_L_law_208 : decode c_L_law 208 = .ok (.iadd, 1) := by decide +kernel
theorem d_L_law_209 : decode c_L_law 209 = .ok (.iaload, 1) := by decide +kernel
theorem d_L_law_210 : decode c_L_law 210 = .ok (.invokevirtual 23, 3) := by decide +kernel
theorem d_L_law_213 : decode c_L_law 213 = .ok (.aload_n 2, 1) := by decide +kernel
theorem d_L_law_214 : decode c_L_law 214 = .ok (.aload_n 0, 1) := by decide +kernel
theorem d_L_law_215 : decode c_L_law 215 = .ok (.iload_n 3, 1) := by decide +kernel
theorem d_L_law_216 : decode c_L_law 216 = .ok (.iconst 1, 1) := by decide +kernel
theorem d_L_law_217 : decode c_L_law 217 = .ok (.iadd, 1) := by decide +kernel
theorem d_L_law_218 : decode c_L_law 218 = .ok (.iaload, 1) := by decide +kernel
theorem d_L_law_219 : decode c_L_law 219 = .ok (.invokevirtual 27, 3) := by decide +kernel
theorem d_L_law_222 : decode c_L_law 222 = .ok (.if_icmp .eq 347, 3) := by decide +kernel
theorem d_L_law_225 : decode c_L_law 225 = .ok (.iconst 0, 1) := by decide +kernel
theorem d_L_law_226 : decode c_L_law 226 = .ok (.ireturn, 1) := by decide +kernel
theorem d_L_law_227 : decode c_L_law 227 = .ok (.aload_n 1, 1) := by decide +kernel
theorem d_L_law_228 : decode c_L_law 228 = .ok (.invokevirtual 28, 3) := by decide +kernel
theorem d_L_law_231 : decode c_L_law 231 = .ok (.aload_n 2, 1) := by decide +kernel
theorem d_L_law_232 : decode c_L_law 232 = .ok (.invokevirtual 32, 3) := by decide +kernel
theorem d_L_law_235 : decode c_L_law 235 = .ok (.if_icmp .eq 334, 3) := by decide +kernel
theorem d_L_law_238 : decode c_L_law 238 = .ok (.iconst 0, 1) := by decide +kernel
theorem d_L_law_239 : decode c_L_law 239 = .ok (.ireturn, 1) := by decide +kernel
theorem d_L_law_240 : decode c_L_law 240 = .ok (.aload_n 1, 1) := by decide +kernel
theorem d_L_law_241 : decode c_L_law 241 = .ok (.aload_n 0, 1) := by decide +kernel
theorem d_L_law_242 : decode c_L_law 242 = .ok (.iload_n 3, 1) := by decide +kernel
theorem d_L_law_243 : decode c_L_law 243 = .ok (.iconst 1, 1) := by decide +kernel
theorem d_L_law_244 : decode c_L_law 244 = .ok (.iadd, 1) := by decide +kernel
theorem d_L_law_245 : decode c_L_law 245 = .ok (.iaload, 1) := by decide +kernel
theorem d_L_law_246 : decode c_L_law 246 = .ok (.invokevirtual 33, 3) := by decide +kernel
theorem d_L_law_249 : decode c_L_law 249 = .ok (.aload_n 2, 1) := by decide +kernel
theorem d_L_law_250 : decode c_L_law 250 = .ok (.aload_n 0, 1) := by decide +kernel
theorem d_L_law_251 : decode c_L_law 251 = .ok (.iload_n 3, 1) := by decide +kernel
theorem d_L_law_252 : decode c_L_law 252 = .ok (.iconst 1, 1) := by decide +kernel
theorem d_L_law_253 : decode c_L_law 253 = .ok (.iadd, 1) := by decide +kernel
theorem d_L_law_254 : decode c_L_law 254 = .ok (.iaload, 1) := by decide +kernel
theorem d_L_law_255 : decode c_L_law 255 = .ok (.invokevirtual 36, 3) := by decide +kernel
theorem d_L_law_258 : decode c_L_law 258 = .ok (.if_icmp .eq 311, 3) := by decide +kernel
theorem d_L_law_261 : decode c_L_law 261 = .ok (.iconst 0, 1) := by decide +kernel
theorem d_L_law_262 : decode c_L_law 262 = .ok (.ireturn, 1) := by decide +kernel
theorem d_L_law_263 : decode c_L_law 263 = .ok (.aload_n 1, 1) := by decide +kernel
theorem d_L_law_264 : decode c_L_law 264 = .ok (.aload_n 0, 1) := by decide +kernel
theorem d_L_law_265 : decode c_L_law 265 = .ok (.iload_n 3, 1) := by decide +kernel
theorem d_L_law_266 : decode c_L_law 266 = .ok (.iconst 1, 1) := by decide +kernel
theorem d_L_law_267 : decode c_L_law 267 = .ok (.iadd, 1) := by decide +kernel
theorem d_L_law_268 : decode c_L_law 268 = .ok (.iaload, 1) := by decide +kernel
theorem d_L_law_269 : decode c_L_law 269 = .ok (.invokevirtual 37, 3) := by decide +kernel
theorem d_L_law_272 : decode c_L_law 272 = .ok (.aload_n 2, 1) := by decide +kernel
theorem d_L_law_273 : decode c_L_law 273 = .ok (.aload_n 0, 1) := by decide +kernel
theorem d_L_law_274 : decode c_L_law 274 = .ok (.iload_n 3, 1) := by decide +kernel
theorem d_L_law_275 : decode c_L_law 275 = .ok (.iconst 1, 1) := by decide +kernel
theorem d_L_law_276 : decode c_L_law 276 = .ok (.iadd, 1) := by decide +kernel
theorem d_L_law_277 : decode c_L_law 277 = .ok (.iaload, 1) := by decide +kernel
theorem d_L_law_278 : decode c_L_law 278 = .ok (.invokevirtual 40, 3) := by decide +kernel
theorem d_L_law_281 : decode c_L_law 281 = .ok (.if_icmp .eq 288, 3) := by decide +kernel
theorem d_L_law_284 : decode c_L_law 284 = .ok (.iconst 0, 1) := by decide +kernel
theorem d_L_law_285 : decode c_L_law 285 = .ok (.ireturn, 1) := by decide +kernel
theorem d_L_law_286 : decode c_L_law 286 = .ok (.aload_n 1, 1) := by decide +kernel
theorem d_L_law_287 : decode c_L_law 287 = .ok (.aload_n 0, 1) := by decide +kernel
theorem d_L_law_288 : decode c_L_law 288 = .ok (.iload_n 3, 1) := by decide +kernel
theorem d_L_law_289 : decode c_L_law 289 = .ok (.iconst 1, 1) := by decide +kernel
theorem d_L_law_290 : decode c_L_law 290 = .ok (.iadd, 1) := by decide +kernel
theorem d_L_law_291 : decode c_L_law 291 = .ok (.iaload, 1) := by decide +kernel
theorem d_L_law_292 : decode c_L_law 292 = .ok (.aload_n 0, 1) := by decide +kernel
theorem d_L_law_293 : decode c_L_law 293 = .ok (.iload_n 3, 1) := by decide +kernel
theorem d_L_law_294 : decode c_L_law 294 = .ok (.iconst 2, 1) := by decide +kernel
theorem d_L_law_295 : decode c_L_law 295 = .ok (.iadd, 1) := by decide +kernel
theorem d_L_law_296 : decode c_L_law 296 = .ok (.iaload, 1) := by decide +kernel
theorem d_L_law_297 : decode c_L_law 297 = .ok (.invokevirtual 41, 3) := by decide +kernel
theorem d_L_law_300 : decode c_L_law 300 = .ok (.aload_n 2, 1) := by decide +kernel
theorem d_L_law_301 : decode c_L_law 301 = .ok (.aload_n 0, 1) := by decide +kernel
theorem d_L_law_302 : decode c_L_law 302 = .ok (.iload_n 3, 1) := by decide +kernel
theorem d_L_law_303 : decode c_L_law 303 = .ok (.iconst 1, 1) := by decide +kernel
theorem d_L_law_304 : decode c_L_law 304 = .ok (.iadd, 1) := by decide +kernel
theorem d_L_law_305 : decode c_L_law 305 = .ok (.iaload, 1) := by decide +kernel
theorem d_L_law_306 : decode c_L_law 306 = .ok (.aload_n 0, 1) := by decide +kernel
theorem d_L_law_307 : decode c_L_law 307 = .ok (.iload_n 3, 1) := by decide +kernel
theorem d_L_law_308 : decode c_L_law 308 = .ok (.iconst 2, 1) := by decide +kernel
theorem d_L_law_309 : decode c_L_law 309 = .ok (.iadd, 1) := by decide +kernel
theorem d_L_law_310 : decode c_L_law 310 = .ok (.iaload, 1) := by decide +kernel
theorem d_L_law_311 : decode c_L_law 311 = .ok (.invokevirtual 44, 3) := by decide +kernel
theorem d_L_law_314 : decode c_L_law 314 = .ok (.if_icmp .eq 255, 3) := by decide +kernel
theorem d_L_law_317 : decode c_L_law 317 = .ok (.iconst 0, 1) := by decide +kernel
theorem d_L_law_318 : decode c_L_law 318 = .ok (.ireturn, 1) := by decide +kernel
theorem d_L_law_319 : decode c_L_law 319 = .ok (.aload_n 1, 1) := by decide +kernel
theorem d_L_law_320 : decode c_L_law 320 = .ok (.aload_n 0, 1) := by decide +kernel
theorem d_L_law_321 : decode c_L_law 321 = .ok (.iload_n 3, 1) := by decide +kernel
theorem d_L_law_322 : decode c_L_law 322 = .ok (.iconst 1, 1) := by decide +kernel
theorem d_L_law_323 : decode c_L_law 323 = .ok (.iadd, 1) := by decide +kernel
theorem d_L_law_324 : decode c_L_law 324 = .ok (.iaload, 1) := by decide +kernel
theorem d_L_law_325 : decode c_L_law 325 = .ok (.invokevirtual 45, 3) := by decide +kernel
theorem d_L_law_328 : decode c_L_law 328 = .ok (.aload_n 2, 1) := by decide +kernel
theorem d_L_law_329 : decode c_L_law 329 = .ok (.aload_n 0, 1) := by decide +kernel
theorem d_L_law_330 : decode c_L_law 330 = .ok (.iload_n 3, 1) := by decide +kernel
theorem d_L_law_331 : decode c_L_law 331 = .ok (.iconst 1, 1) := by decide +kernel
theorem d_L_law_332 : decode c_L_law 332 = .ok (.iadd, 1) := by decide +kernel
theorem d_L_law_333 : decode c_L_law 333 = .ok (.iaload, 1) := by decide +kernel
theorem d_L_law_334 : decode c_L_law 334 = .ok (.invokevirtual 49, 3) := by decide +kernel
theorem d_L_law_337 : decode c_L_law 337 = .ok (.if_icmp .eq 232, 3) := by decide +kernel
theorem d_L_law_340 : decode c_L_law 340 = .ok (.iconst 0, 1) := by decide +kernel
theorem d_L_law_341 : decode c_L_law 341 = .ok (.ireturn, 1) := by decide +kernel
theorem d_L_law_342 : decode c_L_law 342 = .ok (.aload_n 1, 1) := by decide +kernel
theorem d_L_law_343 : decode c_L_law 343 = .ok (.aload_n 0, 1) := by decide +kernel
theorem d_L_law_344 : decode c_L_law 344 = .ok (.iload_n 3, 1) := by decide +kernel
theorem d_L_law_345 : decode c_L_law 345 = .ok (.iconst 1, 1) := by decide +kernel
theorem d_L_law_346 : decode c_L_law 346 = .ok (.iadd, 1) := by decide +kernel
theorem d_L_law_347 : decode c_L_law 347 = .ok (.iaload, 1) := by decide +kernel
theorem d_L_law_348 : decode c_L_law 348 = .ok (.invokevirtual 50, 3) := by decide +kernel
theorem d_L_law_351 : decode c_L_law 351 = .ok (.aload_n 2, 1) := by decide +kernel
theorem d_L_law_352 : decode c_L_law 352 = .ok (.aload_n 0, 1) := by decide +kernel
theorem d_L_law_353 : decode c_L_law 353 = .ok (.iload_n 3, 1) := by decide +kernel
theorem d_L_law_354 : decode c_L_law 354 = .ok (.iconst 1, 1) := by decide +kernel
theorem d_L_law_355 : decode c_L_law 355 = .ok (.iadd, 1) := by decide +kernel
theorem d_L_law_356 : decode c_L_law 356 = .ok (.iaload, 1) := by decide +kernel
theorem d_L_law_357 : decode c_L_law 357 = .ok (.invokevirtual 53, 3) := by decide +kernel
theorem d_L_law_360 : decode c_L_law 360 = .ok (.if_icmp .eq 209, 3) := by decide +kernel
theorem d_L_law_363 : decode c_L_law 363 = .ok (.iconst 0, 1) := by decide +kernel
theorem d_L_law_364 : decode c_L_law 364 = .ok (.ireturn, 1) := by decide +kernel
theorem d_L_law_365 : decode c_L_law 365 = .ok (.aload_n 1, 1) := by decide +kernel
theorem d_L_law_366 : decode c_L_law 366 = .ok (.invokevirtual 54, 3) := by decide +kernel
theorem d_L_law_369 : decode c_L_law 369 = .ok (.aload_n 2, 1) := by decide +kernel
theorem d_L_law_370 : decode c_L_law 370 = .ok (.invokevirtual 57, 3) := by decide +kernel
theorem d_L_law_373 : decode c_L_law 373 = .ok (.if_icmp .eq 196, 3) := by decide +kernel
theorem d_L_law_376 : decode c_L_law 376 = .ok (.iconst 0, 1) := by decide +kernel
theorem d_L_law_377 : decode c_L_law 377 = .ok (.ireturn, 1) := by decide +kernel
theorem d_L_law_378 : decode c_L_law 378 = .ok (.aload_n 1, 1) := by decide +kernel
theorem d_L_law_379 : decode c_L_law 379 = .ok (.invokevirtual 58, 3) := by decide +kernel
theorem d_L_law_382 : decode c_L_law 382 = .ok (.aload_n 2, 1) := by decide +kernel
theorem d_L_law_383 : decode c_L_law 383 = .ok (.invokevirtual 61, 3) := by decide +kernel
theorem d_L_law_386 : decode c_L_law 386 = .ok (.if_icmp .eq 183, 3) := by decide +kernel
theorem d_L_law_389 : decode c_L_law 389 = .ok (.iconst 0, 1) := by decide +kernel
theorem d_L_law_390 : decode c_L_law 390 = .ok (.ireturn, 1) := by decide +kernel
theorem d_L_law_391 : decode c_L_law 391 = .ok (.aload_n 1, 1) := by decide +kernel
theorem d_L_law_392 : decode c_L_law 392 = .ok (.invokevirtual 62, 3) := by decide +kernel
theorem d_L_law_395 : decode c_L_law 395 = .ok (.aload_n 2, 1) := by decide +kernel
theorem d_L_law_396 : decode c_L_law 396 = .ok (.invokevirtual 65, 3) := by decide +kernel
theorem d_L_law_399 : decode c_L_law 399 = .ok (.if_icmp .eq 170, 3) := by decide +kernel
theorem d_L_law_402 : decode c_L_law 402 = .ok (.iconst 0, 1) := by decide +kernel
theorem d_L_law_403 : decode c_L_law 403 = .ok (.ireturn, 1) := by decide +kernel
theorem d_L_law_404 : decode c_L_law 404 = .ok (.aload_n 1, 1) := by decide +kernel
theorem d_L_law_405 : decode c_L_law 405 = .ok (.invokevirtual 66, 3) := by decide +kernel
theorem d_L_law_408 : decode c_L_law 408 = .ok (.aload_n 2, 1) := by decide +kernel
theorem d_L_law_409 : decode c_L_law 409 = .ok (.invokevirtual 70, 3) := by decide +kernel
theorem d_L_law_412 : decode c_L_law 412 = .ok (.lcmp, 1) := by decide +kernel
theorem d_L_law_413 : decode c_L_law 413 = .ok (.ifCond .eq 156, 3) := by decide +kernel
theorem d_L_law_416 : decode c_L_law 416 = .ok (.iconst 0, 1) := by decide +kernel
theorem d_L_law_417 : decode c_L_law 417 = .ok (.ireturn, 1) := by decide +kernel
theorem d_L_law_418 : decode c_L_law 418 = .ok (.aload_n 1, 1) := by decide +kernel
theorem d_L_law_419 : decode c_L_law 419 = .ok (.aload_n 0, 1) := by decide +kernel
theorem d_L_law_420 : decode c_L_law 420 = .ok (.iload_n 3, 1) := by decide +kernel
theorem d_L_law_421 : decode c_L_law 421 = .ok (.iconst 1, 1) := by decide +kernel
theorem d_L_law_422 : decode c_L_law 422 = .ok (.iadd, 1) := by decide +kernel
theorem d_L_law_423 : decode c_L_law 423 = .ok (.iaload, 1) := by decide +kernel
theorem d_L_law_424 : decode c_L_law 424 = .ok (.invokevirtual 71, 3) := by decide +kernel
theorem d_L_law_427 : decode c_L_law 427 = .ok (.aload_n 2, 1) := by decide +kernel
theorem d_L_law_428 : decode c_L_law 428 = .ok (.aload_n 0, 1) := by decide +kernel
theorem d_L_law_429 : decode c_L_law 429 = .ok (.iload_n 3, 1) := by decide +kernel
theorem d_L_law_430 : decode c_L_law 430 = .ok (.iconst 1, 1) := by decide +kernel
theorem d_L_law_431 : decode c_L_law 431 = .ok (.iadd, 1) := by decide +kernel
theorem d_L_law_432 : decode c_L_law 432 = .ok (.iaload, 1) := by decide +kernel
theorem d_L_law_433 : decode c_L_law 433 = .ok (.invokevirtual 74, 3) := by decide +kernel
theorem d_L_law_436 : decode c_L_law 436 = .ok (.if_icmp .eq 133, 3) := by decide +kernel
theorem d_L_law_439 : decode c_L_law 439 = .ok (.iconst 0, 1) := by decide +kernel
theorem d_L_law_440 : decode c_L_law 440 = .ok (.ireturn, 1) := by decide +kernel
theorem d_L_law_441 : decode c_L_law 441 = .ok (.aload_n 1, 1) := by decide +kernel
theorem d_L_law_442 : decode c_L_law 442 = .ok (.aload_n 0, 1) := by decide +kernel
theorem d_L_law_443 : decode c_L_law 443 = .ok (.iload_n 3, 1) := by decide +kernel
theorem d_L_law_444 : decode c_L_law 444 = .ok (.iconst 1, 1) := by decide +kernel
theorem d_L_law_445 : decode c_L_law 445 = .ok (.iadd, 1) := by decide +kernel
theorem d_L_law_446 : decode c_L_law 446 = .ok (.iaload, 1) := by decide +kernel
theorem d_L_law_447 : decode c_L_law 447 = .ok (.invokevirtual 75, 3) := by decide +kernel
theorem d_L_law_450 : decode c_L_law 450 = .ok (.aload_n 2, 1) := by decide +kernel
theorem d_L_law_451 : decode c_L_law 451 = .ok (.aload_n 0, 1) := by decide +kernel
theorem d_L_law_452 : decode c_L_law 452 = .ok (.iload_n 3, 1) := by decide +kernel
theorem d_L_law_453 : decode c_L_law 453 = .ok (.iconst 1, 1) := by decide +kernel
theorem d_L_law_454 : decode c_L_law 454 = .ok (.iadd, 1) := by decide +kernel
theorem d_L_law_455 : decode c_L_law 455 = .ok (.iaload, 1) := by decide +kernel
theorem d_L_law_456 : decode c_L_law 456 = .ok (.invokevirtual 78, 3) := by decide +kernel
theorem d_L_law_459 : decode c_L_law 459 = .ok (.if_icmp .eq 110, 3) := by decide +kernel
theorem d_L_law_462 : decode c_L_law 462 = .ok (.iconst 0, 1) := by decide +kernel
theorem d_L_law_463 : decode c_L_law 463 = .ok (.ireturn, 1) := by decide +kernel
theorem d_L_law_464 : decode c_L_law 464 = .ok (.aload_n 1, 1) := by decide +kernel
theorem d_L_law_465 : decode c_L_law 465 = .ok (.aload_n 0, 1) := by decide +kernel
theorem d_L_law_466 : decode c_L_law 466 = .ok (.iload_n 3, 1) := by decide +kernel
theorem d_L_law_467 : decode c_L_law 467 = .ok (.iconst 1, 1) := by decide +kernel
theorem d_L_law_468 : decode c_L_law 468 = .ok (.iadd, 1) := by decide +kernel
theorem d_L_law_469 : decode c_L_law 469 = .ok (.iaload, 1) := by decide +kernel
theorem d_L_law_470 : decode c_L_law 470 = .ok (.aload_n 0, 1) := by decide +kernel
theorem d_L_law_471 : decode c_L_law 471 = .ok (.iload_n 3, 1) := by decide +kernel
theorem d_L_law_472 : decode c_L_law 472 = .ok (.iconst 2, 1) := by decide +kernel
theorem d_L_law_473 : decode c_L_law 473 = .ok (.iadd, 1) := by decide +kernel
theorem d_L_law_474 : decode c_L_law 474 = .ok (.iaload, 1) := by decide +kernel
theorem d_L_law_475 : decode c_L_law 475 = .ok (.invokevirtual 79, 3) := by decide +kernel
theorem d_L_law_478 : decode c_L_law 478 = .ok (.aload_n 2, 1) := by decide +kernel
theorem d_L_law_479 : decode c_L_law 479 = .ok (.aload_n 0, 1) := by decide +kernel
theorem d_L_law_480 : decode c_L_law 480 = .ok (.iload_n 3, 1) := by decide +kernel
theorem d_L_law_481 : decode c_L_law 481 = .ok (.iconst 1, 1) := by decide +kernel
theorem d_L_law_482 : decode c_L_law 482 = .ok (.iadd, 1) := by decide +kernel
theorem d_L_law_483 : decode c_L_law 483 = .ok (.iaload, 1) := by decide +kernel
theorem d_L_law_484 : decode c_L_law 484 = .ok (.aload_n 0, 1) := by decide +kernel
theorem d_L_law_485 : decode c_L_law 485 = .ok (.iload_n 3, 1) := by decide +kernel
theorem d_L_law_486 : decode c_L_law 486 = .ok (.iconst 2, 1) := by decide +kernel
theorem d_L_law_487 : decode c_L_law 487 = .ok (.iadd, 1) := by decide +kernel
theorem d_L_law_488 : decode c_L_law 488 = .ok (.iaload, 1) := by decide +kernel
theorem d_L_law_489 : decode c_L_law 489 = .ok (.invokevirtual 83, 3) := by decide +kernel
theorem d_L_law_492 : decode c_L_law 492 = .ok (.if_icmp .eq 77, 3) := by decide +kernel
theorem d_L_law_495 : decode c_L_law 495 = .ok (.iconst 0, 1) := by decide +kernel
theorem d_L_law_496 : decode c_L_law 496 = .ok (.ireturn, 1) := by decide +kernel
theorem d_L_law_497 : decode c_L_law 497 = .ok (.aload_n 1, 1) := by decide +kernel
theorem d_L_law_498 : decode c_L_law 498 = .ok (.aload_n 0, 1) := by decide +kernel
theorem d_L_law_499 : decode c_L_law 499 = .ok (.iload_n 3, 1) := by decide +kernel
theorem d_L_law_500 : decode c_L_law 500 = .ok (.iconst 1, 1) := by decide +kernel
theorem d_L_law_501 : decode c_L_law 501 = .ok (.iadd, 1) := by decide +kernel
theorem d_L_law_502 : decode c_L_law 502 = .ok (.iaload, 1) := by decide +kernel
theorem d_L_law_503 : decode c_L_law 503 = .ok (.invokevirtual 84, 3) := by decide +kernel
theorem d_L_law_506 : decode c_L_law 506 = .ok (.aload_n 2, 1) := by decide +kernel
theorem d_L_law_507 : decode c_L_law 507 = .ok (.aload_n 0, 1) := by decide +kernel
theorem d_L_law_508 : decode c_L_law 508 = .ok (.iload_n 3, 1) := by decide +kernel
theorem d_L_law_509 : decode c_L_law 509 = .ok (.iconst 1, 1) := by decide +kernel
theorem d_L_law_510 : decode c_L_law 510 = .ok (.iadd, 1) := by decide +kernel
theorem d_L_law_511 : decode c_L_law 511 = .ok (.iaload, 1) := by decide +kernel
theorem d_L_law_512 : decode c_L_law 512 = .ok (.invokevirtual 87, 3) := by decide +kernel
theorem d_L_law_515 : decode c_L_law 515 = .ok (.if_icmp .eq 54, 3) := by decide +kernel
theorem d_L_law_518 : decode c_L_law 518 = .ok (.iconst 0, 1) := by decide +kernel
theorem d_L_law_519 : decode c_L_law 519 = .ok (.ireturn, 1) := by decide +kernel
theorem d_L_law_520 : decode c_L_law 520 = .ok (.aload_n 1, 1) := by decide +kernel
theorem d_L_law_521 : decode c_L_law 521 = .ok (.aload_n 0, 1) := by decide +kernel
theorem d_L_law_522 : decode c_L_law 522 = .ok (.iload_n 3, 1) := by decide +kernel
theorem d_L_law_523 : decode c_L_law 523 = .ok (.iconst 1, 1) := by decide +kernel
theorem d_L_law_524 : decode c_L_law 524 = .ok (.iadd, 1) := by decide +kernel
theorem d_L_law_525 : decode c_L_law 525 = .ok (.iaload, 1) := by decide +kernel
theorem d_L_law_526 : decode c_L_law 526 = .ok (.invokevirtual 88, 3) := by decide +kernel
theorem d_L_law_529 : decode c_L_law 529 = .ok (.aload_n 2, 1) := by decide +kernel
theorem d_L_law_530 : decode c_L_law 530 = .ok (.aload_n 0, 1) := by decide +kernel
theorem d_L_law_531 : decode c_L_law 531 = .ok (.iload_n 3, 1) := by decide +kernel
theorem d_L_law_532 : decode c_L_law 532 = .ok (.iconst 1, 1) := by decide +kernel
theorem d_L_law_533 : decode c_L_law 533 = .ok (.iadd, 1) := by decide +kernel
theorem d_L_law_534 : decode c_L_law 534 = .ok (.iaload, 1) := by decide +kernel
theorem d_L_law_535 : decode c_L_law 535 = .ok (.invokevirtual 91, 3) := by decide +kernel
theorem d_L_law_538 : decode c_L_law 538 = .ok (.if_icmp .eq 31, 3) := by decide +kernel
theorem d_L_law_541 : decode c_L_law 541 = .ok (.iconst 0, 1) := by decide +kernel
theorem d_L_law_542 : decode c_L_law 542 = .ok (.ireturn, 1) := by decide +kernel
theorem d_L_law_543 : decode c_L_law 543 = .ok (.aload_n 1, 1) := by decide +kernel
theorem d_L_law_544 : decode c_L_law 544 = .ok (.invokevirtual 92, 3) := by decide +kernel
theorem d_L_law_547 : decode c_L_law 547 = .ok (.aload_n 2, 1) := by decide +kernel
theorem d_L_law_548 : decode c_L_law 548 = .ok (.invokevirtual 95, 3) := by decide +kernel
theorem d_L_law_551 : decode c_L_law 551 = .ok (.if_icmp .eq 18, 3) := by decide +kernel
theorem d_L_law_554 : decode c_L_law 554 = .ok (.iconst 0, 1) := by decide +kernel
theorem d_L_law_555 : decode c_L_law 555 = .ok (.ireturn, 1) := by decide +kernel
theorem d_L_law_556 : decode c_L_law 556 = .ok (.aload_n 1, 1) := by decide +kernel
theorem d_L_law_557 : decode c_L_law 557 = .ok (.invokevirtual 96, 3) := by decide +kernel
theorem d_L_law_560 : decode c_L_law 560 = .ok (.aload_n 2, 1) := by decide +kernel
theorem d_L_law_561 : decode c_L_law 561 = .ok (.invokevirtual 99, 3) := by decide +kernel
theorem d_L_law_564 : decode c_L_law 564 = .ok (.if_icmp .eq 5, 3) := by decide +kernel
theorem d_L_law_567 : decode c_L_law 567 = .ok (.iconst 0, 1) := by decide +kernel
theorem d_L_law_568 : decode c_L_law 568 = .ok (.ireturn, 1) := by decide +kernel
theorem d_L_law_569 : decode c_L_law 569 = .ok (.iinc 3 4, 3) := by decide +kernel
theorem d_L_law_572 : decode c_L_law 572 = .ok (.goto (-554), 3) := by decide +kernel
theorem d_L_law_575 : decode c_L_law 575 = .ok (.iconst 1, 1) := by decide +kernel
theorem d_L_law_576 : decode c_L_law 576 = .ok (.ireturn, 1) := by decide +kernel
