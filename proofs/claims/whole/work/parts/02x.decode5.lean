theorem dLa_law_0 : decode kLa_law 0 = .ok (.new 7, 3) := by decide +kernel
theorem dLa_law_3 : decode kLa_law 3 = .ok (.dup, 1) := by decide +kernel
theorem dLa_law_4 : decode kLa_law 4 = .ok (.invokespecial 9, 3) := by decide +kernel
theorem dLa_law_7 : decode kLa_law 7 = .ok (.astore_n 1, 1) := by decide +kernel
theorem dLa_law_8 : decode kLa_law 8 = .ok (.new 10, 3) := by decide +kernel
theorem dLa_law_11 : decode kLa_law 11 = .ok (.dup, 1) := by decide +kernel
theorem dLa_law_12 : decode kLa_law 12 = .ok (.invokespecial 12, 3) := by decide +kernel
theorem dLa_law_15 : decode kLa_law 15 = .ok (.astore_n 2, 1) := by decide +kernel
theorem dLa_law_16 : decode kLa_law 16 = .ok (.iconst 0, 1) := by decide +kernel
theorem dLa_law_17 : decode kLa_law 17 = .ok (.istore_n 3, 1) := by decide +kernel
theorem dLa_law_18 : decode kLa_law 18 = .ok (.iload_n 3, 1) := by decide +kernel
theorem dLa_law_19 : decode kLa_law 19 = .ok (.aload_n 0, 1) := by decide +kernel
theorem dLa_law_20 : decode kLa_law 20 = .ok (.arraylength, 1) := by decide +kernel
theorem dLa_law_21 : decode kLa_law 21 = .ok (.bipush 6, 2) := by decide +kernel
theorem dLa_law_23 : decode kLa_law 23 = .ok (.isub, 1) := by decide +kernel
theorem dLa_law_24 : decode kLa_law 24 = .ok (.if_icmp .gt 633, 3) := by decide +kernel
theorem dLa_law_27 : decode kLa_law 27 = .ok (.aload_n 0, 1) := by decide +kernel
theorem dLa_law_28 : decode kLa_law 28 = .ok (.iload_n 3, 1) := by decide +kernel
theorem dLa_law_29 : decode kLa_law 29 = .ok (.iaload, 1) := by decide +kernel
theorem dLa_law_30 : decode kLa_law 30 = .ok (.bipush 31, 2) := by decide +kernel
theorem dLa_law_32 : decode kLa_law 32 = .ok (.iand, 1) := by decide +kernel
theorem dLa_law_33 : decode kLa_law 33 = .ok (.tableswitch 618 0 18 #[91, 154, 177, 190, 203, 236, 249, 282, 305, 328, 371, 404, 437, 470, 493, 516, 539, 562, 595], 91) := by decide +kernel
theorem dLa_law_124 : decode kLa_law 124 = .ok (.aload_n 1, 1) := by decide +kernel
theorem dLa_law_125 : decode kLa_law 125 = .ok (.aload_n 0, 1) := by decide +kernel
theorem dLa_law_126 : decode kLa_law 126 = .ok (.iload_n 3, 1) := by decide +kernel
theorem dLa_law_127 : decode kLa_law 127 = .ok (.iconst 1, 1) := by decide +kernel
theorem dLa_law_128 : decode kLa_law 128 = .ok (.iadd, 1) := by decide +kernel
theorem dLa_law_129 : decode kLa_law 129 = .ok (.iaload, 1) := by decide +kernel
theorem dLa_law_130 : decode kLa_law 130 = .ok (.aload_n 0, 1) := by decide +kernel
theorem dLa_law_131 : decode kLa_law 131 = .ok (.iload_n 3, 1) := by decide +kernel
theorem dLa_law_132 : decode kLa_law 132 = .ok (.iconst 2, 1) := by decide +kernel
theorem dLa_law_133 : decode kLa_law 133 = .ok (.iadd, 1) := by decide +kernel
theorem dLa_law_134 : decode kLa_law 134 = .ok (.iaload, 1) := by decide +kernel
theorem dLa_law_135 : decode kLa_law 135 = .ok (.aload_n 0, 1) := by decide +kernel
theorem dLa_law_136 : decode kLa_law 136 = .ok (.iload_n 3, 1) := by decide +kernel
theorem dLa_law_137 : decode kLa_law 137 = .ok (.iconst 3, 1) := by decide +kernel
theorem dLa_law_138 : decode kLa_law 138 = .ok (.iadd, 1) := by decide +kernel
theorem dLa_law_139 : decode kLa_law 139 = .ok (.iaload, 1) := by decide +kernel
theorem dLa_law_140 : decode kLa_law 140 = .ok (.aload_n 0, 1) := by decide +kernel
theorem dLa_law_141 : decode kLa_law 141 = .ok (.iload_n 3, 1) := by decide +kernel
theorem dLa_law_142 : decode kLa_law 142 = .ok (.iconst 4, 1) := by decide +kernel
theorem dLa_law_143 : decode kLa_law 143 = .ok (.iadd, 1) := by decide +kernel
theorem dLa_law_144 : decode kLa_law 144 = .ok (.iaload, 1) := by decide +kernel
theorem dLa_law_145 : decode kLa_law 145 = .ok (.aload_n 0, 1) := by decide +kernel
theorem dLa_law_146 : decode kLa_law 146 = .ok (.iload_n 3, 1) := by decide +kernel
theorem dLa_law_147 : decode kLa_law 147 = .ok (.iconst 5, 1) := by decide +kernel
theorem dLa_law_148 : decode kLa_law 148 = .ok (.iadd, 1) := by decide +kernel
theorem dLa_law_149 : decode kLa_law 149 = .ok (.iaload, 1) := by decide +kernel
theorem dLa_law_150 : decode kLa_law 150 = .ok (.invokevirtual 13, 3) := by decide +kernel
theorem dLa_law_153 : decode kLa_law 153 = .ok (.aload_n 2, 1) := by decide +kernel
theorem dLa_law_154 : decode kLa_law 154 = .ok (.aload_n 0, 1) := by decide +kernel
theorem dLa_law_155 : decode kLa_law 155 = .ok (.iload_n 3, 1) := by decide +kernel
theorem dLa_law_156 : decode kLa_law 156 = .ok (.iconst 1, 1) := by decide +kernel
theorem dLa_law_157 : decode kLa_law 157 = .ok (.iadd, 1) := by decide +kernel
theorem dLa_law_158 : decode kLa_law 158 = .ok (.iaload, 1) := by decide +kernel
theorem dLa_law_159 : decode kLa_law 159 = .ok (.aload_n 0, 1) := by decide +kernel
theorem dLa_law_160 : decode kLa_law 160 = .ok (.iload_n 3, 1) := by decide +kernel
theorem dLa_law_161 : decode kLa_law 161 = .ok (.iconst 2, 1) := by decide +kernel
theorem dLa_law_162 : decode kLa_law 162 = .ok (.iadd, 1) := by decide +kernel
theorem dLa_law_163 : decode kLa_law 163 = .ok (.iaload, 1) := by decide +kernel
theorem dLa_law_164 : decode kLa_law 164 = .ok (.aload_n 0, 1) := by decide +kernel
theorem dLa_law_165 : decode kLa_law 165 = .ok (.iload_n 3, 1) := by decide +kernel
theorem dLa_law_166 : decode kLa_law 166 = .ok (.iconst 3, 1) := by decide +kernel
theorem dLa_law_167 : decode kLa_law 167 = .ok (.iadd, 1) := by decide +kernel
theorem dLa_law_168 : decode kLa_law 168 = .ok (.iaload, 1) := by decide +kernel
theorem dLa_law_169 : decode kLa_law 169 = .ok (.aload_n 0, 1) := by decide +kernel
theorem dLa_law_170 : decode kLa_law 170 = .ok (.iload_n 3, 1) := by decide +kernel
theorem dLa_law_171 : decode kLa_law 171 = .ok (.iconst 4, 1) := by decide +kernel
theorem dLa_law_172 : decode kLa_law 172 = .ok (.iadd, 1) := by decide +kernel
theorem dLa_law_173 : decode kLa_law 173 = .ok (.iaload, 1) := by decide +kernel
theorem dLa_law_174 : decode kLa_law 174 = .ok (.aload_n 0, 1) := by decide +kernel
theorem dLa_law_175 : decode kLa_law 175 = .ok (.iload_n 3, 1) := by decide +kernel
theorem dLa_law_176 : decode kLa_law 176 = .ok (.iconst 5, 1) := by decide +kernel
theorem dLa_law_177 : decode kLa_law 177 = .ok (.iadd, 1) := by decide +kernel
theorem dLa_law_178 : decode kLa_law 178 = .ok (.iaload, 1) := by decide +kernel
theorem dLa_law_179 : decode kLa_law 179 = .ok (.invokevirtual 17, 3) := by decide +kernel
theorem dLa_law_182 : decode kLa_law 182 = .ok (.if_icmp .eq 469, 3) := by decide +kernel
theorem dLa_law_185 : decode kLa_law 185 = .ok (.iconst 0, 1) := by decide +kernel
theorem dLa_law_186 : decode kLa_law 186 = .ok (.ireturn, 1) := by decide +kernel
theorem dLa_law_187 : decode kLa_law 187 = .ok (.aload_n 1, 1) := by decide +kernel
theorem dLa_law_188 : decode kLa_law 188 = .ok (.aload_n 0, 1) := by decide +kernel
theorem dLa_law_189 : decode kLa_law 189 = .ok (.iload_n 3, 1) := by decide +kernel
theorem dLa_law_190 : decode kLa_law 190 = .ok (.iconst 1, 1) := by decide +kernel
theorem dLa_law_191 : decode kLa_law 191 = .ok (.iadd, 1) := by decide +kernel
theorem dLa_law_192 : decode kLa_law 192 = .ok (.iaload, 1) := by decide +kernel
theorem dLa_law_193 : decode kLa_law 193 = .ok (.invokevirtual 18, 3) := by decide +kernel
theorem dLa_law_196 : decode kLa_law 196 = .ok (.aload_n 2, 1) := by decide +kernel
theorem dLa_law_197 : decode kLa_law 197 = .ok (.aload_n 0, 1) := by decide +kernel
theorem dLa_law_198 : decode kLa_law 198 = .ok (.iload_n 3, 1) := by decide +kernel
theorem dLa_law_199 : decode kLa_law 199 = .ok (.iconst 1, 1) := by decide +kernel
theorem dLa_law_200 : decode kLa_law 200 = .ok (.iadd, 1) := by decide +kernel
theorem dLa_law_201 : decode kLa_law 201 = .ok (.iaload, 1) := by decide +kernel
theorem dLa_law_202 : decode kLa_law 202 = .ok (.invokevirtual 22, 3) := by decide +kernel
theorem dLa_law_205 : decode kLa_law 205 = .ok (.if_icmp .eq 446, 3) := by decide +kernel
theorem dLa_law_208 : decode kLa_law 208 = .ok (.iconst 0, 1) := by decide +kernel
theorem dLa_law_209 : decode kLa_law 209 = .ok (.ireturn, 1) := by decide +kernel
theorem dLa_law_210 : decode kLa_law 210 = .ok (.aload_n 1, 1) := by decide +kernel
theorem dLa_law_211 : decode kLa_law 211 = .ok (.invokevirtual 23, 3) := by decide +kernel
theorem dLa_law_214 : decode kLa_law 214 = .ok (.aload_n 2, 1) := by decide +kernel
theorem dLa_law_215 : decode kLa_law 215 = .ok (.invokevirtual 27, 3) := by decide +kernel
theorem dLa_law_218 : decode kLa_law 218 = .ok (.if_icmp .eq 433, 3) := by decide +kernel
theorem dLa_law_221 : decode kLa_law 221 = .ok (.iconst 0, 1) := by decide +kernel
theorem dLa_law_222 : decode kLa_law 222 = .ok (.ireturn, 1) := by decide +kernel
theorem dLa_law_223 : decode kLa_law 223 = .ok (.aload_n 1, 1) := by decide +kernel
theorem dLa_law_224 : decode kLa_law 224 = .ok (.invokevirtual 28, 3) := by decide +kernel
theorem dLa_law_227 : decode kLa_law 227 = .ok (.aload_n 2, 1) := by decide +kernel
theorem dLa_law_228 : decode kLa_law 228 = .ok (.invokevirtual 31, 3) := by decide +kernel
theorem dLa_law_231 : decode kLa_law 231 = .ok (.if_icmp .eq 420, 3) := by decide +kernel
theorem dLa_law_234 : decode kLa_law 234 = .ok (.iconst 0, 1) := by decide +kernel
theorem dLa_law_235 : decode kLa_law 235 = .ok (.ireturn, 1) := by decide +kernel
theorem dLa_law_236 : decode kLa_law 236 = .ok (.aload_n 1, 1) := by decide +kernel
theorem dLa_law_237 : decode kLa_law 237 = .ok (.aload_n 0, 1) := by decide +kernel
theorem dLa_law_238 : decode kLa_law 238 = .ok (.iload_n 3, 1) := by decide +kernel
theorem dLa_law_239 : decode kLa_law 239 = .ok (.iconst 1, 1) := by decide +kernel
theorem dLa_law_240 : decode kLa_law 240 = .ok (.iadd, 1) := by decide +kernel
theorem dLa_law_241 : decode kLa_law 241 = .ok (.iaload, 1) := by decide +kernel
theorem dLa_law_242 : decode kLa_law 242 = .ok (.aload_n 0, 1) := by decide +kernel
theorem dLa_law_243 : decode kLa_law 243 = .ok (.iload_n 3, 1) := by decide +kernel
theorem dLa_law_244 : decode kLa_law 244 = .ok (.iconst 2, 1) := by decide +kernel
theorem dLa_law_245 : decode kLa_law 245 = .ok (.iadd, 1) := by decide +kernel
theorem dLa_law_246 : decode kLa_law 246 = .ok (.iaload, 1) := by decide +kernel
theorem dLa_law_247 : decode kLa_law 247 = .ok (.invokevirtual 32, 3) := by decide +kernel
theorem dLa_law_250 : decode kLa_law 250 = .ok (.aload_n 2, 1) := by decide +kernel
theorem dLa_law_251 : decode kLa_law 251 = .ok (.aload_n 0, 1) := by decide +kernel
theorem dLa_law_252 : decode kLa_law 252 = .ok (.iload_n 3, 1) := by decide +kernel
theorem dLa_law_253 : decode kLa_law 253 = .ok (.iconst 1, 1) := by decide +kernel
theorem dLa_law_254 : decode kLa_law 254 = .ok (.iadd, 1) := by decide +kernel
theorem dLa_law_255 : decode kLa_law 255 = .ok (.iaload, 1) := by decide +kernel
theorem dLa_law_256 : decode kLa_law 256 = .ok (.aload_n 0, 1) := by decide +kernel
theorem dLa_law_257 : decode kLa_law 257 = .ok (.iload_n 3, 1) := by decide +kernel
theorem dLa_law_258 : decode kLa_law 258 = .ok (.iconst 2, 1) := by decide +kernel
theorem dLa_law_259 : decode kLa_law 259 = .ok (.iadd, 1) := by decide +kernel
theorem dLa_law_260 : decode kLa_law 260 = .ok (.iaload, 1) := by decide +kernel
theorem dLa_law_261 : decode kLa_law 261 = .ok (.invokevirtual 36, 3) := by decide +kernel
theorem dLa_law_264 : decode kLa_law 264 = .ok (.if_icmp .eq 387, 3) := by decide +kernel
theorem dLa_law_267 : decode kLa_law 267 = .ok (.iconst 0, 1) := by decide +kernel
theorem dLa_law_268 : decode kLa_law 268 = .ok (.ireturn, 1) := by decide +kernel
theorem dLa_law_269 : decode kLa_law 269 = .ok (.aload_n 1, 1) := by decide +kernel
theorem dLa_law_270 : decode kLa_law 270 = .ok (.invokevirtual 37, 3) := by decide +kernel
theorem dLa_law_273 : decode kLa_law 273 = .ok (.aload_n 2, 1) := by decide +kernel
theorem dLa_law_274 : decode kLa_law 274 = .ok (.invokevirtual 40, 3) := by decide +kernel
theorem dLa_law_277 : decode kLa_law 277 = .ok (.if_icmp .eq 374, 3) := by decide +kernel
theorem dLa_law_280 : decode kLa_law 280 = .ok (.iconst 0, 1) := by decide +kernel
theorem dLa_law_281 : decode kLa_law 281 = .ok (.ireturn, 1) := by decide +kernel
theorem dLa_law_282 : decode kLa_law 282 = .ok (.aload_n 1, 1) := by decide +kernel
theorem dLa_law_283 : decode kLa_law 283 = .ok (.aload_n 0, 1) := by decide +kernel
theorem dLa_law_284 : decode kLa_law 284 = .ok (.iload_n 3, 1) := by decide +kernel
theorem dLa_law_285 : decode kLa_law 285 = .ok (.iconst 1, 1) := by decide +kernel
theorem dLa_law_286 : decode kLa_law 286 = .ok (.iadd, 1) := by decide +kernel
theorem dLa_law_287 : decode kLa_law 287 = .ok (.iaload, 1) := by decide +kernel
theorem dLa_law_288 : decode kLa_law 288 = .ok (.aload_n 0, 1) := by decide +kernel
theorem dLa_law_289 : decode kLa_law 289 = .ok (.iload_n 3, 1) := by decide +kernel
theorem dLa_law_290 : decode kLa_law 290 = .ok (.iconst 2, 1) := by decide +kernel
theorem dLa_law_291 : decode kLa_law 291 = .ok (.iadd, 1) := by decide +kernel
theorem dLa_law_292 : decode kLa_law 292 = .ok (.iaload, 1) := by decide +kernel
theorem dLa_law_293 : decode kLa_law 293 = .ok (.invokevirtual 41, 3) := by decide +kernel
theorem dLa_law_296 : decode kLa_law 296 = .ok (.aload_n 2, 1) := by decide +kernel
theorem dLa_law_297 : decode kLa_law 297 = .ok (.aload_n 0, 1) := by decide +kernel
theorem dLa_law_298 : decode kLa_law 298 = .ok (.iload_n 3, 1) := by decide +kernel
theorem dLa_law_299 : decode kLa_law 299 = .ok (.iconst 1, 1) := by decide +kernel
theorem dLa_law_300 : decode kLa_law 300 = .ok (.iadd, 1) := by decide +kernel
theorem dLa_law_301 : decode kLa_law 301 = .ok (.iaload, 1) := by decide +kernel
theorem dLa_law_302 : decode kLa_law 302 = .ok (.aload_n 0, 1) := by decide +kernel
theorem dLa_law_303 : decode kLa_law 303 = .ok (.iload_n 3, 1) := by decide +kernel
theorem dLa_law_304 : decode kLa_law 304 = .ok (.iconst 2, 1) := by decide +kernel
theorem dLa_law_305 : decode kLa_law 305 = .ok (.iadd, 1) := by decide +kernel
theorem dLa_law_306 : decode kLa_law 306 = .ok (.iaload, 1) := by decide +kernel
theorem dLa_law_307 : decode kLa_law 307 = .ok (.invokevirtual 44, 3) := by decide +kernel
theorem dLa_law_310 : decode kLa_law 310 = .ok (.if_icmp .eq 341, 3) := by decide +kernel
theorem dLa_law_313 : decode kLa_law 313 = .ok (.iconst 0, 1) := by decide +kernel
theorem dLa_law_314 : decode kLa_law 314 = .ok (.ireturn, 1) := by decide +kernel
theorem dLa_law_315 : decode kLa_law 315 = .ok (.aload_n 1, 1) := by decide +kernel
theorem dLa_law_316 : decode kLa_law 316 = .ok (.aload_n 0, 1) := by decide +kernel
theorem dLa_law_317 : decode kLa_law 317 = .ok (.iload_n 3, 1) := by decide +kernel
theorem dLa_law_318 : decode kLa_law 318 = .ok (.iconst 1, 1) := by decide +kernel
theorem dLa_law_319 : decode kLa_law 319 = .ok (.iadd, 1) := by decide +kernel
theorem dLa_law_320 : decode kLa_law 320 = .ok (.iaload, 1) := by decide +kernel
theorem dLa_law_321 : decode kLa_law 321 = .ok (.invokevirtual 45, 3) := by decide +kernel
theorem dLa_law_324 : decode kLa_law 324 = .ok (.aload_n 2, 1) := by decide +kernel
theorem dLa_law_325 : decode kLa_law 325 = .ok (.aload_n 0, 1) := by decide +kernel
theorem dLa_law_326 : decode kLa_law 326 = .ok (.iload_n 3, 1) := by decide +kernel
theorem dLa_law_327 : decode kLa_law 327 = .ok (.iconst 1, 1) := by decide +kernel
theorem dLa_law_328 : decode kLa_law 328 = .ok (.iadd, 1) := by decide +kernel
theorem dLa_law_329 : decode kLa_law 329 = .ok (.iaload, 1) := by decide +kernel
theorem dLa_law_330 : decode kLa_law 330 = .ok (.invokevirtual 48, 3) := by decide +kernel
theorem dLa_law_333 : decode kLa_law 333 = .ok (.if_icmp .eq 318, 3) := by decide +kernel
theorem dLa_law_336 : decode kLa_law 336 = .ok (.iconst 0, 1) := by decide +kernel
theorem dLa_law_337 : decode kLa_law 337 = .ok (.ireturn, 1) := by decide +kernel
theorem dLa_law_338 : decode kLa_law 338 = .ok (.aload_n 1, 1) := by decide +kernel
theorem dLa_law_339 : decode kLa_law 339 = .ok (.aload_n 0, 1) := by decide +kernel
theorem dLa_law_340 : decode kLa_law 340 = .ok (.iload_n 3, 1) := by decide +kernel
theorem dLa_law_341 : decode kLa_law 341 = .ok (.iconst 1, 1) := by decide +kernel
theorem dLa_law_342 : decode kLa_law 342 = .ok (.iadd, 1) := by decide +kernel
theorem dLa_law_343 : decode kLa_law 343 = .ok (.iaload, 1) := by decide +kernel
theorem dLa_law_344 : decode kLa_law 344 = .ok (.invokevirtual 49, 3) := by decide +kernel
theorem dLa_law_347 : decode kLa_law 347 = .ok (.aload_n 2, 1) := by decide +kernel
theorem dLa_law_348 : decode kLa_law 348 = .ok (.aload_n 0, 1) := by decide +kernel
theorem dLa_law_349 : decode kLa_law 349 = .ok (.iload_n 3, 1) := by decide +kernel
theorem dLa_law_350 : decode kLa_law 350 = .ok (.iconst 1, 1) := by decide +kernel
theorem dLa_law_351 : decode kLa_law 351 = .ok (.iadd, 1) := by decide +kernel
theorem dLa_law_352 : decode kLa_law 352 = .ok (.iaload, 1) := by decide +kernel
theorem dLa_law_353 : decode kLa_law 353 = .ok (.invokevirtual 52, 3) := by decide +kernel
theorem dLa_law_356 : decode kLa_law 356 = .ok (.if_icmp .eq 295, 3) := by decide +kernel
theorem dLa_law_359 : decode kLa_law 359 = .ok (.iconst 0, 1) := by decide +kernel
theorem dLa_law_360 : decode kLa_law 360 = .ok (.ireturn, 1) := by decide +kernel
theorem dLa_law_361 : decode kLa_law 361 = .ok (.aload_n 1, 1) := by decide +kernel
theorem dLa_law_362 : decode kLa_law 362 = .ok (.aload_n 0, 1) := by decide +kernel
theorem dLa_law_363 : decode kLa_law 363 = .ok (.iload_n 3, 1) := by decide +kernel
theorem dLa_law_364 : decode kLa_law 364 = .ok (.iconst 1, 1) := by decide +kernel
theorem dLa_law_365 : decode kLa_law 365 = .ok (.iadd, 1) := by decide +kernel
theorem dLa_law_366 : decode kLa_law 366 = .ok (.iaload, 1) := by decide +kernel
theorem dLa_law_367 : decode kLa_law 367 = .ok (.aload_n 0, 1) := by decide +kernel
theorem dLa_law_368 : decode kLa_law 368 = .ok (.iload_n 3, 1) := by decide +kernel
theorem dLa_law_369 : decode kLa_law 369 = .ok (.iconst 2, 1) := by decide +kernel
theorem dLa_law_370 : decode kLa_law 370 = .ok (.iadd, 1) := by decide +kernel
theorem dLa_law_371 : decode kLa_law 371 = .ok (.iaload, 1) := by decide +kernel
theorem dLa_law_372 : decode kLa_law 372 = .ok (.aload_n 0, 1) := by decide +kernel
theorem dLa_law_373 : decode kLa_law 373 = .ok (.iload_n 3, 1) := by decide +kernel
theorem dLa_law_374 : decode kLa_law 374 = .ok (.iconst 3, 1) := by decide +kernel
theorem dLa_law_375 : decode kLa_law 375 = .ok (.iadd, 1) := by decide +kernel
theorem dLa_law_376 : decode kLa_law 376 = .ok (.iaload, 1) := by decide +kernel
theorem dLa_law_377 : decode kLa_law 377 = .ok (.invokevirtual 53, 3) := by decide +kernel
theorem dLa_law_380 : decode kLa_law 380 = .ok (.aload_n 2, 1) := by decide +kernel
theorem dLa_law_381 : decode kLa_law 381 = .ok (.aload_n 0, 1) := by decide +kernel
theorem dLa_law_382 : decode kLa_law 382 = .ok (.iload_n 3, 1) := by decide +kernel
theorem dLa_law_383 : decode kLa_law 383 = .ok (.iconst 1, 1) := by decide +kernel
theorem dLa_law_384 : decode kLa_law 384 = .ok (.iadd, 1) := by decide +kernel
theorem dLa_law_385 : decode kLa_law 385 = .ok (.iaload, 1) := by decide +kernel
theorem dLa_law_386 : decode kLa_law 386 = .ok (.aload_n 0, 1) := by decide +kernel
theorem dLa_law_387 : decode kLa_law 387 = .ok (.iload_n 3, 1) := by decide +kernel
theorem dLa_law_388 : decode kLa_law 388 = .ok (.iconst 2, 1) := by decide +kernel
theorem dLa_law_389 : decode kLa_law 389 = .ok (.iadd, 1) := by decide +kernel
theorem dLa_law_390 : decode kLa_law 390 = .ok (.iaload, 1) := by decide +kernel
theorem dLa_law_391 : decode kLa_law 391 = .ok (.aload_n 0, 1) := by decide +kernel
theorem dLa_law_392 : decode kLa_law 392 = .ok (.iload_n 3, 1) := by decide +kernel
theorem dLa_law_393 : decode kLa_law 393 = .ok (.iconst 3, 1) := by decide +kernel
theorem dLa_law_394 : decode kLa_law 394 = .ok (.iadd, 1) := by decide +kernel
theorem dLa_law_395 : decode kLa_law 395 = .ok (.iaload, 1) := by decide +kernel
theorem dLa_law_396 : decode kLa_law 396 = .ok (.invokevirtual 57, 3) := by decide +kernel
theorem dLa_law_399 : decode kLa_law 399 = .ok (.if_icmp .eq 252, 3) := by decide +kernel
theorem dLa_law_402 : decode kLa_law 402 = .ok (.iconst 0, 1) := by decide +kernel
theorem dLa_law_403 : decode kLa_law 403 = .ok (.ireturn, 1) := by decide +kernel
theorem dLa_law_404 : decode kLa_law 404 = .ok (.aload_n 1, 1) := by decide +kernel
theorem dLa_law_405 : decode kLa_law 405 = .ok (.aload_n 0, 1) := by decide +kernel
theorem dLa_law_406 : decode kLa_law 406 = .ok (.iload_n 3, 1) := by decide +kernel
theorem dLa_law_407 : decode kLa_law 407 = .ok (.iconst 1, 1) := by decide +kernel
theorem dLa_law_408 : decode kLa_law 408 = .ok (.iadd, 1) := by decide +kernel
theorem dLa_law_409 : decode kLa_law 409 = .ok (.iaload, 1) := by decide +kernel
theorem dLa_law_410 : decode kLa_law 410 = .ok (.aload_n 0, 1) := by decide +kernel
theorem dLa_law_411 : decode kLa_law 411 = .ok (.iload_n 3, 1) := by decide +kernel
theorem dLa_law_412 : decode kLa_law 412 = .ok (.iconst 2, 1) := by decide +kernel
theorem dLa_law_413 : decode kLa_law 413 = .ok (.iadd, 1) := by decide +kernel
theorem dLa_law_414 : decode kLa_law 414 = .ok (.iaload, 1) := by decide +kernel
theorem dLa_law_415 : decode kLa_law 415 = .ok (.invokevirtual 58, 3) := by decide +kernel
theorem dLa_law_418 : decode kLa_law 418 = .ok (.aload_n 2, 1) := by decide +kernel
theorem dLa_law_419 : decode kLa_law 419 = .ok (.aload_n 0, 1) := by decide +kernel
theorem dLa_law_420 : decode kLa_law 420 = .ok (.iload_n 3, 1) := by decide +kernel
theorem dLa_law_421 : decode kLa_law 421 = .ok (.iconst 1, 1) := by decide +kernel
theorem dLa_law_422 : decode kLa_law 422 = .ok (.iadd, 1) := by decide +kernel
theorem dLa_law_423 : decode kLa_law 423 = .ok (.iaload, 1) := by decide +kernel
theorem dLa_law_424 : decode kLa_law 424 = .ok (.aload_n 0, 1) := by decide +kernel
theorem dLa_law_425 : decode kLa_law 425 = .ok (.iload_n 3, 1) := by decide +kernel
theorem dLa_law_426 : decode kLa_law 426 = .ok (.iconst 2, 1) := by decide +kernel
theorem dLa_law_427 : decode kLa_law 427 = .ok (.iadd, 1) := by decide +kernel
theorem dLa_law_428 : decode kLa_law 428 = .ok (.iaload, 1) := by decide +kernel
theorem dLa_law_429 : decode kLa_law 429 = .ok (.invokevirtual 61, 3) := by decide +kernel
theorem dLa_law_432 : decode kLa_law 432 = .ok (.if_icmp .eq 219, 3) := by decide +kernel
theorem dLa_law_435 : decode kLa_law 435 = .ok (.iconst 0, 1) := by decide +kernel
theorem dLa_law_436 : decode kLa_law 436 = .ok (.ireturn, 1) := by decide +kernel
theorem dLa_law_437 : decode kLa_law 437 = .ok (.aload_n 1, 1) := by decide +kernel
theorem dLa_law_438 : decode kLa_law 438 = .ok (.aload_n 0, 1) := by decide +kernel
theorem dLa_law_439 : decode kLa_law 439 = .ok (.iload_n 3, 1) := by decide +kernel
theorem dLa_law_440 : decode kLa_law 440 = .ok (.iconst 1, 1) := by decide +kernel
theorem dLa_law_441 : decode kLa_law 441 = .ok (.iadd, 1) := by decide +kernel
theorem dLa_law_442 : decode kLa_law 442 = .ok (.iaload, 1) := by decide +kernel
theorem dLa_law_443 : decode kLa_law 443 = .ok (.aload_n 0, 1) := by decide +kernel
theorem dLa_law_444 : decode kLa_law 444 = .ok (.iload_n 3, 1) := by decide +kernel
theorem dLa_law_445 : decode kLa_law 445 = .ok (.iconst 2, 1) := by decide +kernel
theorem dLa_law_446 : decode kLa_law 446 = .ok (.iadd, 1) := by decide +kernel
theorem dLa_law_447 : decode kLa_law 447 = .ok (.iaload, 1) := by decide +kernel
theorem dLa_law_448 : decode kLa_law 448 = .ok (.invokevirtual 62, 3) := by decide +kernel
theorem dLa_law_451 : decode kLa_law 451 = .ok (.aload_n 2, 1) := by decide +kernel
theorem dLa_law_452 : decode kLa_law 452 = .ok (.aload_n 0, 1) := by decide +kernel
theorem dLa_law_453 : decode kLa_law 453 = .ok (.iload_n 3, 1) := by decide +kernel
theorem dLa_law_454 : decode kLa_law 454 = .ok (.iconst 1, 1) := by decide +kernel
theorem dLa_law_455 : decode kLa_law 455 = .ok (.iadd, 1) := by decide +kernel
theorem dLa_law_456 : decode kLa_law 456 = .ok (.iaload, 1) := by decide +kernel
theorem dLa_law_457 : decode kLa_law 457 = .ok (.aload_n 0, 1) := by decide +kernel
theorem dLa_law_458 : decode kLa_law 458 = .ok (.iload_n 3, 1) := by decide +kernel
theorem dLa_law_459 : decode kLa_law 459 = .ok (.iconst 2, 1) := by decide +kernel
theorem dLa_law_460 : decode kLa_law 460 = .ok (.iadd, 1) := by decide +kernel
theorem dLa_law_461 : decode kLa_law 461 = .ok (.iaload, 1) := by decide +kernel
theorem dLa_law_462 : decode kLa_law 462 = .ok (.invokevirtual 65, 3) := by decide +kernel
theorem dLa_law_465 : decode kLa_law 465 = .ok (.if_icmp .eq 186, 3) := by decide +kernel
theorem dLa_law_468 : decode kLa_law 468 = .ok (.iconst 0, 1) := by decide +kernel
theorem dLa_law_469 : decode kLa_law 469 = .ok (.ireturn, 1) := by decide +kernel
theorem dLa_law_470 : decode kLa_law 470 = .ok (.aload_n 1, 1) := by decide +kernel
theorem dLa_law_471 : decode kLa_law 471 = .ok (.aload_n 0, 1) := by decide +kernel
theorem dLa_law_472 : decode kLa_law 472 = .ok (.iload_n 3, 1) := by decide +kernel
theorem dLa_law_473 : decode kLa_law 473 = .ok (.iconst 1, 1) := by decide +kernel
theorem dLa_law_474 : decode kLa_law 474 = .ok (.iadd, 1) := by decide +kernel
theorem dLa_law_475 : decode kLa_law 475 = .ok (.iaload, 1) := by decide +kernel
theorem dLa_law_476 : decode kLa_law 476 = .ok (.aload_n 0, 1) := by decide +kernel
theorem dLa_law_477 : decode kLa_law 477 = .ok (.iload_n 3, 1) := by decide +kernel
theorem dLa_law_478 : decode kLa_law 478 = .ok (.iconst 2, 1) := by decide +kernel
theorem dLa_law_479 : decode kLa_law 479 = .ok (.iadd, 1) := by decide +kernel
theorem dLa_law_480 : decode kLa_law 480 = .ok (.iaload, 1) := by decide +kernel
theorem dLa_law_481 : decode kLa_law 481 = .ok (.invokevirtual 66, 3) := by decide +kernel
theorem dLa_law_484 : decode kLa_law 484 = .ok (.aload_n 2, 1) := by decide +kernel
theorem dLa_law_485 : decode kLa_law 485 = .ok (.aload_n 0, 1) := by decide +kernel
theorem dLa_law_486 : decode kLa_law 486 = .ok (.iload_n 3, 1) := by decide +kernel
theorem dLa_law_487 : decode kLa_law 487 = .ok (.iconst 1, 1) := by decide +kernel
theorem dLa_law_488 : decode kLa_law 488 = .ok (.iadd, 1) := by decide +kernel
theorem dLa_law_489 : decode kLa_law 489 = .ok (.iaload, 1) := by decide +kernel
theorem dLa_law_490 : decode kLa_law 490 = .ok (.aload_n 0, 1) := by decide +kernel
theorem dLa_law_491 : decode kLa_law 491 = .ok (.iload_n 3, 1) := by decide +kernel
theorem dLa_law_492 : decode kLa_law 492 = .ok (.iconst 2, 1) := by decide +kernel
theorem dLa_law_493 : decode kLa_law 493 = .ok (.iadd, 1) := by decide +kernel
theorem dLa_law_494 : decode kLa_law 494 = .ok (.iaload, 1) := by decide +kernel
theorem dLa_law_495 : decode kLa_law 495 = .ok (.invokevirtual 69, 3) := by decide +kernel
theorem dLa_law_498 : decode kLa_law 498 = .ok (.if_icmp .eq 153, 3) := by decide +kernel
theorem dLa_law_501 : decode kLa_law 501 = .ok (.iconst 0, 1) := by decide +kernel
theorem dLa_law_502 : decode kLa_law 502 = .ok (.ireturn, 1) := by decide +kernel
theorem dLa_law_503 : decode kLa_law 503 = .ok (.aload_n 1, 1) := by decide +kernel
theorem dLa_law_504 : decode kLa_law 504 = .ok (.aload_n 0, 1) := by decide +kernel
theorem dLa_law_505 : decode kLa_law 505 = .ok (.iload_n 3, 1) := by decide +kernel
theorem dLa_law_506 : decode kLa_law 506 = .ok (.iconst 1, 1) := by decide +kernel
theorem dLa_law_507 : decode kLa_law 507 = .ok (.iadd, 1) := by decide +kernel
theorem dLa_law_508 : decode kLa_law 508 = .ok (.iaload, 1) := by decide +kernel
theorem dLa_law_509 : decode kLa_law 509 = .ok (.invokevirtual 70, 3) := by decide +kernel
theorem dLa_law_512 : decode kLa_law 512 = .ok (.aload_n 2, 1) := by decide +kernel
theorem dLa_law_513 : decode kLa_law 513 = .ok (.aload_n 0, 1) := by decide +kernel
theorem dLa_law_514 : decode kLa_law 514 = .ok (.iload_n 3, 1) := by decide +kernel
theorem dLa_law_515 : decode kLa_law 515 = .ok (.iconst 1, 1) := by decide +kernel
theorem dLa_law_516 : decode kLa_law 516 = .ok (.iadd, 1) := by decide +kernel
theorem dLa_law_517 : decode kLa_law 517 = .ok (.iaload, 1) := by decide +kernel
theorem dLa_law_518 : decode kLa_law 518 = .ok (.invokevirtual 73, 3) := by decide +kernel
theorem dLa_law_521 : decode kLa_law 521 = .ok (.if_icmp .eq 130, 3) := by decide +kernel
theorem dLa_law_524 : decode kLa_law 524 = .ok (.iconst 0, 1) := by decide +kernel
theorem dLa_law_525 : decode kLa_law 525 = .ok (.ireturn, 1) := by decide +kernel
theorem dLa_law_526 : decode kLa_law 526 = .ok (.aload_n 1, 1) := by decide +kernel
theorem dLa_law_527 : decode kLa_law 527 = .ok (.aload_n 0, 1) := by decide +kernel
theorem dLa_law_528 : decode kLa_law 528 = .ok (.iload_n 3, 1) := by decide +kernel
theorem dLa_law_529 : decode kLa_law 529 = .ok (.iconst 1, 1) := by decide +kernel
theorem dLa_law_530 : decode kLa_law 530 = .ok (.iadd, 1) := by decide +kernel
theorem dLa_law_531 : decode kLa_law 531 = .ok (.iaload, 1) := by decide +kernel
theorem dLa_law_532 : decode kLa_law 532 = .ok (.invokevirtual 74, 3) := by decide +kernel
theorem dLa_law_535 : decode kLa_law 535 = .ok (.aload_n 2, 1) := by decide +kernel
theorem dLa_law_536 : decode kLa_law 536 = .ok (.aload_n 0, 1) := by decide +kernel
theorem dLa_law_537 : decode kLa_law 537 = .ok (.iload_n 3, 1) := by decide +kernel
theorem dLa_law_538 : decode kLa_law 538 = .ok (.iconst 1, 1) := by decide +kernel
theorem dLa_law_539 : decode kLa_law 539 = .ok (.iadd, 1) := by decide +kernel
theorem dLa_law_540 : decode kLa_law 540 = .ok (.iaload, 1) := by decide +kernel
theorem dLa_law_541 : decode kLa_law 541 = .ok (.invokevirtual 77, 3) := by decide +kernel
theorem dLa_law_544 : decode kLa_law 544 = .ok (.if_icmp .eq 107, 3) := by decide +kernel
theorem dLa_law_547 : decode kLa_law 547 = .ok (.iconst 0, 1) := by decide +kernel
theorem dLa_law_548 : decode kLa_law 548 = .ok (.ireturn, 1) := by decide +kernel
theorem dLa_law_549 : decode kLa_law 549 = .ok (.aload_n 1, 1) := by decide +kernel
theorem dLa_law_550 : decode kLa_law 550 = .ok (.aload_n 0, 1) := by decide +kernel
theorem dLa_law_551 : decode kLa_law 551 = .ok (.iload_n 3, 1) := by decide +kernel
theorem dLa_law_552 : decode kLa_law 552 = .ok (.iconst 1, 1) := by decide +kernel
theorem dLa_law_553 : decode kLa_law 553 = .ok (.iadd, 1) := by decide +kernel
theorem dLa_law_554 : decode kLa_law 554 = .ok (.iaload, 1) := by decide +kernel
theorem dLa_law_555 : decode kLa_law 555 = .ok (.invokevirtual 78, 3) := by decide +kernel
theorem dLa_law_558 : decode kLa_law 558 = .ok (.aload_n 2, 1) := by decide +kernel
theorem dLa_law_559 : decode kLa_law 559 = .ok (.aload_n 0, 1) := by decide +kernel
theorem dLa_law_560 : decode kLa_law 560 = .ok (.iload_n 3, 1) := by decide +kernel
theorem dLa_law_561 : decode kLa_law 561 = .ok (.iconst 1, 1) := by decide +kernel
theorem dLa_law_562 : decode kLa_law 562 = .ok (.iadd, 1) := by decide +kernel
theorem dLa_law_563 : decode kLa_law 563 = .ok (.iaload, 1) := by decide +kernel
theorem dLa_law_564 : decode kLa_law 564 = .ok (.invokevirtual 81, 3) := by decide +kernel
theorem dLa_law_567 : decode kLa_law 567 = .ok (.if_icmp .eq 84, 3) := by decide +kernel
theorem dLa_law_570 : decode kLa_law 570 = .ok (.iconst 0, 1) := by decide +kernel
theorem dLa_law_571 : decode kLa_law 571 = .ok (.ireturn, 1) := by decide +kernel
theorem dLa_law_572 : decode kLa_law 572 = .ok (.aload_n 1, 1) := by decide +kernel
theorem dLa_law_573 : decode kLa_law 573 = .ok (.aload_n 0, 1) := by decide +kernel
theorem dLa_law_574 : decode kLa_law 574 = .ok (.iload_n 3, 1) := by decide +kernel
theorem dLa_law_575 : decode kLa_law 575 = .ok (.iconst 1, 1) := by decide +kernel
theorem dLa_law_576 : decode kLa_law 576 = .ok (.iadd, 1) := by decide +kernel
theorem dLa_law_577 : decode kLa_law 577 = .ok (.iaload, 1) := by decide +kernel
theorem dLa_law_578 : decode kLa_law 578 = .ok (.invokevirtual 82, 3) := by decide +kernel
theorem dLa_law_581 : decode kLa_law 581 = .ok (.aload_n 2, 1) := by decide +kernel
theorem dLa_law_582 : decode kLa_law 582 = .ok (.aload_n 0, 1) := by decide +kernel
theorem dLa_law_583 : decode kLa_law 583 = .ok (.iload_n 3, 1) := by decide +kernel
theorem dLa_law_584 : decode kLa_law 584 = .ok (.iconst 1, 1) := by decide +kernel
theorem dLa_law_585 : decode kLa_law 585 = .ok (.iadd, 1) := by decide +kernel
theorem dLa_law_586 : decode kLa_law 586 = .ok (.iaload, 1) := by decide +kernel
theorem dLa_law_587 : decode kLa_law 587 = .ok (.invokevirtual 85, 3) := by decide +kernel
theorem dLa_law_590 : decode kLa_law 590 = .ok (.if_icmp .eq 61, 3) := by decide +kernel
theorem dLa_law_593 : decode kLa_law 593 = .ok (.iconst 0, 1) := by decide +kernel
theorem dLa_law_594 : decode kLa_law 594 = .ok (.ireturn, 1) := by decide +kernel
theorem dLa_law_595 : decode kLa_law 595 = .ok (.aload_n 1, 1) := by decide +kernel
theorem dLa_law_596 : decode kLa_law 596 = .ok (.aload_n 0, 1) := by decide +kernel
theorem dLa_law_597 : decode kLa_law 597 = .ok (.iload_n 3, 1) := by decide +kernel
theorem dLa_law_598 : decode kLa_law 598 = .ok (.iconst 1, 1) := by decide +kernel
theorem dLa_law_599 : decode kLa_law 599 = .ok (.iadd, 1) := by decide +kernel
theorem dLa_law_600 : decode kLa_law 600 = .ok (.iaload, 1) := by decide +kernel
theorem dLa_law_601 : decode kLa_law 601 = .ok (.aload_n 0, 1) := by decide +kernel
theorem dLa_law_602 : decode kLa_law 602 = .ok (.iload_n 3, 1) := by decide +kernel
theorem dLa_law_603 : decode kLa_law 603 = .ok (.iconst 2, 1) := by decide +kernel
theorem dLa_law_604 : decode kLa_law 604 = .ok (.iadd, 1) := by decide +kernel
theorem dLa_law_605 : decode kLa_law 605 = .ok (.iaload, 1) := by decide +kernel
theorem dLa_law_606 : decode kLa_law 606 = .ok (.invokevirtual 86, 3) := by decide +kernel
theorem dLa_law_609 : decode kLa_law 609 = .ok (.aload_n 2, 1) := by decide +kernel
theorem dLa_law_610 : decode kLa_law 610 = .ok (.aload_n 0, 1) := by decide +kernel
theorem dLa_law_611 : decode kLa_law 611 = .ok (.iload_n 3, 1) := by decide +kernel
theorem dLa_law_612 : decode kLa_law 612 = .ok (.iconst 1, 1) := by decide +kernel
theorem dLa_law_613 : decode kLa_law 613 = .ok (.iadd, 1) := by decide +kernel
theorem dLa_law_614 : decode kLa_law 614 = .ok (.iaload, 1) := by decide +kernel
theorem dLa_law_615 : decode kLa_law 615 = .ok (.aload_n 0, 1) := by decide +kernel
theorem dLa_law_616 : decode kLa_law 616 = .ok (.iload_n 3, 1) := by decide +kernel
theorem dLa_law_617 : decode kLa_law 617 = .ok (.iconst 2, 1) := by decide +kernel
theorem dLa_law_618 : decode kLa_law 618 = .ok (.iadd, 1) := by decide +kernel
theorem dLa_law_619 : decode kLa_law 619 = .ok (.iaload, 1) := by decide +kernel
theorem dLa_law_620 : decode kLa_law 620 = .ok (.invokevirtual 89, 3) := by decide +kernel
theorem dLa_law_623 : decode kLa_law 623 = .ok (.if_icmp .eq 28, 3) := by decide +kernel
theorem dLa_law_626 : decode kLa_law 626 = .ok (.iconst 0, 1) := by decide +kernel
theorem dLa_law_627 : decode kLa_law 627 = .ok (.ireturn, 1) := by decide +kernel
theorem dLa_law_628 : decode kLa_law 628 = .ok (.aload_n 1, 1) := by decide +kernel
theorem dLa_law_629 : decode kLa_law 629 = .ok (.aload_n 0, 1) := by decide +kernel
theorem dLa_law_630 : decode kLa_law 630 = .ok (.iload_n 3, 1) := by decide +kernel
theorem dLa_law_631 : decode kLa_law 631 = .ok (.iconst 1, 1) := by decide +kernel
theorem dLa_law_632 : decode kLa_law 632 = .ok (.iadd, 1) := by decide +kernel
theorem dLa_law_633 : decode kLa_law 633 = .ok (.iaload, 1) := by decide +kernel
theorem dLa_law_634 : decode kLa_law 634 = .ok (.invokevirtual 90, 3) := by decide +kernel
theorem dLa_law_637 : decode kLa_law 637 = .ok (.aload_n 2, 1) := by decide +kernel
theorem dLa_law_638 : decode kLa_law 638 = .ok (.aload_n 0, 1) := by decide +kernel
theorem dLa_law_639 : decode kLa_law 639 = .ok (.iload_n 3, 1) := by decide +kernel
theorem dLa_law_640 : decode kLa_law 640 = .ok (.iconst 1, 1) := by decide +kernel
theorem dLa_law_641 : decode kLa_law 641 = .ok (.iadd, 1) := by decide +kernel
theorem dLa_law_642 : decode kLa_law 642 = .ok (.iaload, 1) := by decide +kernel
theorem dLa_law_643 : decode kLa_law 643 = .ok (.invokevirtual 93, 3) := by decide +kernel
theorem dLa_law_646 : decode kLa_law 646 = .ok (.if_icmp .eq 5, 3) := by decide +kernel
theorem dLa_law_649 : decode kLa_law 649 = .ok (.iconst 0, 1) := by decide +kernel
theorem dLa_law_650 : decode kLa_law 650 = .ok (.ireturn, 1) := by decide +kernel
theorem dLa_law_651 : decode kLa_law 651 = .ok (.iinc 3 6, 3) := by decide +kernel
theorem dLa_law_654 : decode kLa_law 654 = .ok (.goto (-636), 3) := by decide +kernel
theorem dLa_law_657 : decode kLa_law 657 = .ok (.iconst 1, 1) := by decide +kernel
theorem dLa_law_658 : decode kLa_law 658 = .ok (.ireturn, 1) := by decide +kernel
