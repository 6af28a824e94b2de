abbrev bc_L_law : ByteArray := code
theorem dc_L_law_0 : decode bc_L_law 0 = .ok (.new 7, 3) := by decide +kernel
theorem dc_L_law_3 : decode bc_L_law 3 = .ok (.dup, 1) := by decide +kernel
theorem dc_L_law_4 : decode bc_L_law 4 = .ok (.invokespecial 9, 3) := by decide +kernel
theorem dc_L_law_7 : decode bc_L_law 7 = .ok (.astore_n 1, 1) := by decide +kernel
theorem dc_L_law_8 : decode bc_L_law 8 = .ok (.new 10, 3) := by decide +kernel
theorem dc_L_law_11 : decode bc_L_law 11 = .ok (.dup, 1) := by decide +kernel
theorem dc_L_law_12 : decode bc_L_law 12 = .ok (.invokespecial 12, 3) := by decide +kernel
theorem dc_L_law_15 : decode bc_L_law 15 = .ok (.astore_n 2, 1) := by decide +kernel
theorem dc_L_law_16 : decode bc_L_law 16 = .ok (.iconst 0, 1) := by decide +kernel
theorem dc_L_law_17 : decode bc_L_law 17 = .ok (.istore_n 3, 1) := by decide +kernel
theorem dc_L_law_18 : decode bc_L_law 18 = .ok (.iload_n 3, 1) := by decide +kernel
theorem dc_L_law_19 : decode bc_L_law 19 = .ok (.aload_n 0, 1) := by decide +kernel
theorem dc_L_law_20 : decode bc_L_law 20 = .ok (.arraylength, 1) := by decide +kernel
theorem dc_L_law_21 : decode bc_L_law 21 = .ok (.bipush 6, 2) := by decide +kernel
theorem dc_L_law_23 : decode bc_L_law 23 = .ok (.isub, 1) := by decide +kernel
theorem dc_L_law_24 : decode bc_L_law 24 = .ok (.if_icmp .gt 1043, 3) := by decide +kernel
theorem dc_L_law_27 : decode bc_L_law 27 = .ok (.aload_n 0, 1) := by decide +kernel
theorem dc_L_law_28 : decode bc_L_law 28 = .ok (.iload_n 3, 1) := by decide +kernel
theorem dc_L_law_29 : decode bc_L_law 29 = .ok (.iaload, 1) := by decide +kernel
theorem dc_L_law_30 : decode bc_L_law 30 = .ok (.bipush 31, 2) := by decide +kernel
theorem dc_L_law_32 : decode bc_L_law 32 = .ok (.iand, 1) := by decide +kernel
theorem dc_L_law_33 : decode bc_L_law 33 = .ok (.tableswitch 1028 0 20 #[99, 162, 225, 298, 331, 374, 417, 460, 539, 592, 635, 688, 731, 774, 817, 870, 903, 926, 949, 972, 995], 99) := by decide +kernel
theorem dc_L_law_132 : decode bc_L_law 132 = .ok (.aload_n 1, 1) := by decide +kernel
theorem dc_L_law_133 : decode bc_L_law 133 = .ok (.aload_n 0, 1) := by decide +kernel
theorem dc_L_law_134 : decode bc_L_law 134 = .ok (.iload_n 3, 1) := by decide +kernel
theorem dc_L_law_135 : decode bc_L_law 135 = .ok (.iconst 1, 1) := by decide +kernel
theorem dc_L_law_136 : decode bc_L_law 136 = .ok (.iadd, 1) := by decide +kernel
theorem dc_L_law_137 : decode bc_L_law 137 = .ok (.iaload, 1) := by decide +kernel
theorem dc_L_law_138 : decode bc_L_law 138 = .ok (.aload_n 0, 1) := by decide +kernel
theorem dc_L_law_139 : decode bc_L_law 139 = .ok (.iload_n 3, 1) := by decide +kernel
theorem dc_L_law_140 : decode bc_L_law 140 = .ok (.iconst 2, 1) := by decide +kernel
theorem dc_L_law_141 : decode bc_L_law 141 = .ok (.iadd, 1) := by decide +kernel
theorem dc_L_law_142 : decode bc_L_law 142 = .ok (.iaload, 1) := by decide +kernel
theorem dc_L_law_143 : decode bc_L_law 143 = .ok (.i2l, 1) := by decide +kernel
theorem dc_L_law_144 : decode bc_L_law 144 = .ok (.bipush 32, 2) := by decide +kernel
theorem dc_L_law_146 : decode bc_L_law 146 = .ok (.lshl, 1) := by decide +kernel
theorem dc_L_law_147 : decode bc_L_law 147 = .ok (.aload_n 0, 1) := by decide +kernel
theorem dc_L_law_148 : decode bc_L_law 148 = .ok (.iload_n 3, 1) := by decide +kernel
theorem dc_L_law_149 : decode bc_L_law 149 = .ok (.iconst 3, 1) := by decide +kernel
theorem dc_L_law_150 : decode bc_L_law 150 = .ok (.iadd, 1) := by decide +kernel
theorem dc_L_law_151 : decode bc_L_law 151 = .ok (.iaload, 1) := by decide +kernel
theorem dc_L_law_152 : decode bc_L_law 152 = .ok (.i2l, 1) := by decide +kernel
theorem dc_L_law_153 : decode bc_L_law 153 = .ok (.ldc2_w 13, 3) := by decide +kernel
theorem dc_L_law_156 : decode bc_L_law 156 = .ok (.land, 1) := by decide +kernel
theorem dc_L_law_157 : decode bc_L_law 157 = .ok (.lor, 1) := by decide +kernel
theorem dc_L_law_158 : decode bc_L_law 158 = .ok (.invokevirtual 15, 3) := by decide +kernel
theorem dc_L_law_161 : decode bc_L_law 161 = .ok (.aload_n 2, 1) := by decide +kernel
theorem dc_L_law_162 : decode bc_L_law 162 = .ok (.aload_n 0, 1) := by decide +kernel
theorem dc_L_law_163 : decode bc_L_law 163 = .ok (.iload_n 3, 1) := by decide +kernel
theorem dc_L_law_164 : decode bc_L_law 164 = .ok (.iconst 1, 1) := by decide +kernel
theorem dc_L_law_165 : decode bc_L_law 165 = .ok (.iadd, 1) := by decide +kernel
theorem dc_L_law_166 : decode bc_L_law 166 = .ok (.iaload, 1) := by decide +kernel
theorem dc_L_law_167 : decode bc_L_law 167 = .ok (.aload_n 0, 1) := by decide +kernel
theorem dc_L_law_168 : decode bc_L_law 168 = .ok (.iload_n 3, 1) := by decide +kernel
theorem dc_L_law_169 : decode bc_L_law 169 = .ok (.iconst 2, 1) := by decide +kernel
theorem dc_L_law_170 : decode bc_L_law 170 = .ok (.iadd, 1) := by decide +kernel
theorem dc_L_law_171 : decode bc_L_law 171 = .ok (.iaload, 1) := by decide +kernel
theorem dc_L_law_172 : decode bc_L_law 172 = .ok (.i2l, 1) := by decide +kernel
theorem dc_L_law_173 : decode bc_L_law 173 = .ok (.bipush 32, 2) := by decide +kernel
theorem dc_L_law_175 : decode bc_L_law 175 = .ok (.lshl, 1) := by decide +kernel
theorem dc_L_law_176 : decode bc_L_law 176 = .ok (.aload_n 0, 1) := by decide +kernel
theorem dc_L_law_177 : decode bc_L_law 177 = .ok (.iload_n 3, 1) := by decide +kernel
theorem dc_L_law_178 : decode bc_L_law 178 = .ok (.iconst 3, 1) := by decide +kernel
theorem dc_L_law_179 : decode bc_L_law 179 = .ok (.iadd, 1) := by decide +kernel
theorem dc_L_law_180 : decode bc_L_law 180 = .ok (.iaload, 1) := by decide +kernel
theorem dc_L_law_181 : decode bc_L_law 181 = .ok (.i2l, 1) := by decide +kernel
theorem dc_L_law_182 : decode bc_L_law 182 = .ok (.ldc2_w 13, 3) := by decide +kernel
theorem dc_L_law_185 : decode bc_L_law 185 = .ok (.land, 1) := by decide +kernel
theorem dc_L_law_186 : decode bc_L_law 186 = .ok (.lor, 1) := by decide +kernel
theorem dc_L_law_187 : decode bc_L_law 187 = .ok (.invokevirtual 19, 3) := by decide +kernel
theorem dc_L_law_190 : decode bc_L_law 190 = .ok (.if_icmp .eq 871, 3) := by decide +kernel
theorem dc_L_law_193 : decode bc_L_law 193 = .ok (.iconst 0, 1) := by decide +kernel
theorem dc_L_law_194 : decode bc_L_law 194 = .ok (.ireturn, 1) := by decide +kernel
theorem dc_L_law_195 : decode bc_L_law 195 = .ok (.aload_n 1, 1) := by decide +kernel
theorem dc_L_law_196 : decode bc_L_law 196 = .ok (.aload_n 0, 1) := by decide +kernel
theorem dc_L_law_197 : decode bc_L_law 197 = .ok (.iload_n 3, 1) := by decide +kernel
theorem dc_L_law_198 : decode bc_L_law 198 = .ok (.iconst 1, 1) := by decide +kernel
theorem dc_L_law_199 : decode bc_L_law 199 = .ok (.iadd, 1) := by decide +kernel
theorem dc_L_law_200 : decode bc_L_law 200 = .ok (.iaload, 1) := by decide +kernel
theorem dc_L_law_201 : decode bc_L_law 201 = .ok (.aload_n 0, 1) := by decide +kernel
theorem dc_L_law_202 : decode bc_L_law 202 = .ok (.iload_n 3, 1) := by decide +kernel
theorem dc_L_law_203 : decode bc_L_law 203 = .ok (.iconst 2, 1) := by decide +kernel
theorem dc_L_law_204 : decode bc_L_law 204 = .ok (.iadd, 1) := by decide +kernel
theorem dc_L_law_205 : decode bc_L_law 205 = .ok (.iaload, 1) := by decide +kernel
theorem dc_L_law_206 : decode bc_L_law 206 = .ok (.i2l, 1) := by decide +kernel
theorem dc_L_law_207 : decode bc_L_law 207 = .ok (.bipush 32, 2) := by decide +kernel
theorem dc_L_law_209 : decode bc_L_law 209 = .ok (.lshl, 1) := by decide +kernel
theorem dc_L_law_210 : decode bc_L_law 210 = .ok (.aload_n 0, 1) := by decide +kernel
theorem dc_L_law_211 : decode bc_L_law 211 = .ok (.iload_n 3, 1) := by decide +kernel
theorem dc_L_law_212 : decode bc_L_law 212 = .ok (.iconst 3, 1) := by decide +kernel
theorem dc_L_law_213 : decode bc_L_law 213 = .ok (.iadd, 1) := by decide +kernel
theorem dc_L_law_214 : decode bc_L_law 214 = .ok (.iaload, 1) := by decide +kernel
theorem dc_L_law_215 : decode bc_L_law 215 = .ok (.i2l, 1) := by decide +kernel
theorem dc_L_law_216 : decode bc_L_law 216 = .ok (.ldc2_w 13, 3) := by decide +kernel
theorem dc_L_law_219 : decode bc_L_law 219 = .ok (.land, 1) := by decide +kernel
theorem dc_L_law_220 : decode bc_L_law 220 = .ok (.lor, 1) := by decide +kernel
theorem dc_L_law_221 : decode bc_L_law 221 = .ok (.invokevirtual 20, 3) := by decide +kernel
theorem dc_L_law_224 : decode bc_L_law 224 = .ok (.aload_n 2, 1) := by decide +kernel
theorem dc_L_law_225 : decode bc_L_law 225 = .ok (.aload_n 0, 1) := by decide +kernel
theorem dc_L_law_226 : decode bc_L_law 226 = .ok (.iload_n 3, 1) := by decide +kernel
theorem dc_L_law_227 : decode bc_L_law 227 = .ok (.iconst 1, 1) := by decide +kernel
theorem dc_L_law_228 : decode bc_L_law 228 = .ok (.iadd, 1) := by decide +kernel
theorem dc_L_law_229 : decode bc_L_law 229 = .ok (.iaload, 1) := by decide +kernel
theorem dc_L_law_230 : decode bc_L_law 230 = .ok (.aload_n 0, 1) := by decide +kernel
theorem dc_L_law_231 : decode bc_L_law 231 = .ok (.iload_n 3, 1) := by decide +kernel
theorem dc_L_law_232 : decode bc_L_law 232 = .ok (.iconst 2, 1) := by decide +kernel
theorem dc_L_law_233 : decode bc_L_law 233 = .ok (.iadd, 1) := by decide +kernel
theorem dc_L_law_234 : decode bc_L_law 234 = .ok (.iaload, 1) := by decide +kernel
theorem dc_L_law_235 : decode bc_L_law 235 = .ok (.i2l, 1) := by decide +kernel
theorem dc_L_law_236 : decode bc_L_law 236 = .ok (.bipush 32, 2) := by decide +kernel
theorem dc_L_law_238 : decode bc_L_law 238 = .ok (.lshl, 1) := by decide +kernel
theorem dc_L_law_239 : decode bc_L_law 239 = .ok (.aload_n 0, 1) := by decide +kernel
theorem dc_L_law_240 : decode bc_L_law 240 = .ok (.iload_n 3, 1) := by decide +kernel
theorem dc_L_law_241 : decode bc_L_law 241 = .ok (.iconst 3, 1) := by decide +kernel
theorem dc_L_law_242 : decode bc_L_law 242 = .ok (.iadd, 1) := by decide +kernel
theorem dc_L_law_243 : decode bc_L_law 243 = .ok (.iaload, 1) := by decide +kernel
theorem dc_L_law_244 : decode bc_L_law 244 = .ok (.i2l, 1) := by decide +kernel
theorem dc_L_law_245 : decode bc_L_law 245 = .ok (.ldc2_w 13, 3) := by decide +kernel
theorem dc_L_law_248 : decode bc_L_law 248 = .ok (.land, 1) := by decide +kernel
theorem dc_L_law_249 : decode bc_L_law 249 = .ok (.lor, 1) := by decide +kernel
theorem dc_L_law_250 : decode bc_L_law 250 = .ok (.invokevirtual 23, 3) := by decide +kernel
theorem dc_L_law_253 : decode bc_L_law 253 = .ok (.if_icmp .eq 808, 3) := by decide +kernel
theorem dc_L_law_256 : decode bc_L_law 256 = .ok (.iconst 0, 1) := by decide +kernel
theorem dc_L_law_257 : decode bc_L_law 257 = .ok (.ireturn, 1) := by decide +kernel
theorem dc_L_law_258 : decode bc_L_law 258 = .ok (.aload_n 1, 1) := by decide +kernel
theorem dc_L_law_259 : decode bc_L_law 259 = .ok (.aload_n 0, 1) := by decide +kernel
theorem dc_L_law_260 : decode bc_L_law 260 = .ok (.iload_n 3, 1) := by decide +kernel
theorem dc_L_law_261 : decode bc_L_law 261 = .ok (.iconst 1, 1) := by decide +kernel
theorem dc_L_law_262 : decode bc_L_law 262 = .ok (.iadd, 1) := by decide +kernel
theorem dc_L_law_263 : decode bc_L_law 263 = .ok (.iaload, 1) := by decide +kernel
theorem dc_L_law_264 : decode bc_L_law 264 = .ok (.aload_n 0, 1) := by decide +kernel
theorem dc_L_law_265 : decode bc_L_law 265 = .ok (.iload_n 3, 1) := by decide +kernel
theorem dc_L_law_266 : decode bc_L_law 266 = .ok (.iconst 2, 1) := by decide +kernel
theorem dc_L_law_267 : decode bc_L_law 267 = .ok (.iadd, 1) := by decide +kernel
theorem dc_L_law_268 : decode bc_L_law 268 = .ok (.iaload, 1) := by decide +kernel
theorem dc_L_law_269 : decode bc_L_law 269 = .ok (.i2l, 1) := by decide +kernel
theorem dc_L_law_270 : decode bc_L_law 270 = .ok (.bipush 32, 2) := by decide +kernel
theorem dc_L_law_272 : decode bc_L_law 272 = .ok (.lshl, 1) := by decide +kernel
theorem dc_L_law_273 : decode bc_L_law 273 = .ok (.aload_n 0, 1) := by decide +kernel
theorem dc_L_law_274 : decode bc_L_law 274 = .ok (.iload_n 3, 1) := by decide +kernel
theorem dc_L_law_275 : decode bc_L_law 275 = .ok (.iconst 3, 1) := by decide +kernel
theorem dc_L_law_276 : decode bc_L_law 276 = .ok (.iadd, 1) := by decide +kernel
theorem dc_L_law_277 : decode bc_L_law 277 = .ok (.iaload, 1) := by decide +kernel
theorem dc_L_law_278 : decode bc_L_law 278 = .ok (.i2l, 1) := by decide +kernel
theorem dc_L_law_279 : decode bc_L_law 279 = .ok (.ldc2_w 13, 3) := by decide +kernel
theorem dc_L_law_282 : decode bc_L_law 282 = .ok (.land, 1) := by decide +kernel
theorem dc_L_law_283 : decode bc_L_law 283 = .ok (.lor, 1) := by decide +kernel
theorem dc_L_law_284 : decode bc_L_law 284 = .ok (.aload_n 0, 1) := by decide +kernel
theorem dc_L_law_285 : decode bc_L_law 285 = .ok (.iload_n 3, 1) := by decide +kernel
theorem dc_L_law_286 : decode bc_L_law 286 = .ok (.iconst 4, 1) := by decide +kernel
theorem dc_L_law_287 : decode bc_L_law 287 = .ok (.iadd, 1) := by decide +kernel
theorem dc_L_law_288 : decode bc_L_law 288 = .ok (.iaload, 1) := by decide +kernel
theorem dc_L_law_289 : decode bc_L_law 289 = .ok (.invokevirtual 24, 3) := by decide +kernel
theorem dc_L_law_292 : decode bc_L_law 292 = .ok (.aload_n 2, 1) := by decide +kernel
theorem dc_L_law_293 : decode bc_L_law 293 = .ok (.aload_n 0, 1) := by decide +kernel
theorem dc_L_law_294 : decode bc_L_law 294 = .ok (.iload_n 3, 1) := by decide +kernel
theorem dc_L_law_295 : decode bc_L_law 295 = .ok (.iconst 1, 1) := by decide +kernel
theorem dc_L_law_296 : decode bc_L_law 296 = .ok (.iadd, 1) := by decide +kernel
theorem dc_L_law_297 : decode bc_L_law 297 = .ok (.iaload, 1) := by decide +kernel
theorem dc_L_law_298 : decode bc_L_law 298 = .ok (.aload_n 0, 1) := by decide +kernel
theorem dc_L_law_299 : decode bc_L_law 299 = .ok (.iload_n 3, 1) := by decide +kernel
theorem dc_L_law_300 : decode bc_L_law 300 = .ok (.iconst 2, 1) := by decide +kernel
theorem dc_L_law_301 : decode bc_L_law 301 = .ok (.iadd, 1) := by decide +kernel
theorem dc_L_law_302 : decode bc_L_law 302 = .ok (.iaload, 1) := by decide +kernel
theorem dc_L_law_303 : decode bc_L_law 303 = .ok (.i2l, 1) := by decide +kernel
theorem dc_L_law_304 : decode bc_L_law 304 = .ok (.bipush 32, 2) := by decide +kernel
theorem dc_L_law_306 : decode bc_L_law 306 = .ok (.lshl, 1) := by decide +kernel
theorem dc_L_law_307 : decode bc_L_law 307 = .ok (.aload_n 0, 1) := by decide +kernel
theorem dc_L_law_308 : decode bc_L_law 308 = .ok (.iload_n 3, 1) := by decide +kernel
theorem dc_L_law_309 : decode bc_L_law 309 = .ok (.iconst 3, 1) := by decide +kernel
theorem dc_L_law_310 : decode bc_L_law 310 = .ok (.iadd, 1) := by decide +kernel
theorem dc_L_law_311 : decode bc_L_law 311 = .ok (.iaload, 1) := by decide +kernel
theorem dc_L_law_312 : decode bc_L_law 312 = .ok (.i2l, 1) := by decide +kernel
theorem dc_L_law_313 : decode bc_L_law 313 = .ok (.ldc2_w 13, 3) := by decide +kernel
theorem dc_L_law_316 : decode bc_L_law 316 = .ok (.land, 1) := by decide +kernel
theorem dc_L_law_317 : decode bc_L_law 317 = .ok (.lor, 1) := by decide +kernel
theorem dc_L_law_318 : decode bc_L_law 318 = .ok (.aload_n 0, 1) := by decide +kernel
theorem dc_L_law_319 : decode bc_L_law 319 = .ok (.iload_n 3, 1) := by decide +kernel
theorem dc_L_law_320 : decode bc_L_law 320 = .ok (.iconst 4, 1) := by decide +kernel
theorem dc_L_law_321 : decode bc_L_law 321 = .ok (.iadd, 1) := by decide +kernel
theorem dc_L_law_322 : decode bc_L_law 322 = .ok (.iaload, 1) := by decide +kernel
theorem dc_L_law_323 : decode bc_L_law 323 = .ok (.invokevirtual 28, 3) := by decide +kernel
theorem dc_L_law_326 : decode bc_L_law 326 = .ok (.if_icmp .eq 735, 3) := by decide +kernel
theorem dc_L_law_329 : decode bc_L_law 329 = .ok (.iconst 0, 1) := by decide +kernel
theorem dc_L_law_330 : decode bc_L_law 330 = .ok (.ireturn, 1) := by decide +kernel
theorem dc_L_law_331 : decode bc_L_law 331 = .ok (.aload_n 1, 1) := by decide +kernel
theorem dc_L_law_332 : decode bc_L_law 332 = .ok (.aload_n 0, 1) := by decide +kernel
theorem dc_L_law_333 : decode bc_L_law 333 = .ok (.iload_n 3, 1) := by decide +kernel
theorem dc_L_law_334 : decode bc_L_law 334 = .ok (.iconst 1, 1) := by decide +kernel
theorem dc_L_law_335 : decode bc_L_law 335 = .ok (.iadd, 1) := by decide +kernel
theorem dc_L_law_336 : decode bc_L_law 336 = .ok (.iaload, 1) := by decide +kernel
theorem dc_L_law_337 : decode bc_L_law 337 = .ok (.aload_n 0, 1) := by decide +kernel
theorem dc_L_law_338 : decode bc_L_law 338 = .ok (.iload_n 3, 1) := by decide +kernel
theorem dc_L_law_339 : decode bc_L_law 339 = .ok (.iconst 2, 1) := by decide +kernel
theorem dc_L_law_340 : decode bc_L_law 340 = .ok (.iadd, 1) := by decide +kernel
theorem dc_L_law_341 : decode bc_L_law 341 = .ok (.iaload, 1) := by decide +kernel
theorem dc_L_law_342 : decode bc_L_law 342 = .ok (.invokevirtual 29, 3) := by decide +kernel
theorem dc_L_law_345 : decode bc_L_law 345 = .ok (.aload_n 2, 1) := by decide +kernel
theorem dc_L_law_346 : decode bc_L_law 346 = .ok (.aload_n 0, 1) := by decide +kernel
theorem dc_L_law_347 : decode bc_L_law 347 = .ok (.iload_n 3, 1) := by decide +kernel
theorem dc_L_law_348 : decode bc_L_law 348 = .ok (.iconst 1, 1) := by decide +kernel
theorem dc_L_law_349 : decode bc_L_law 349 = .ok (.iadd, 1) := by decide +kernel
theorem dc_L_law_350 : decode bc_L_law 350 = .ok (.iaload, 1) := by decide +kernel
theorem dc_L_law_351 : decode bc_L_law 351 = .ok (.aload_n 0, 1) := by decide +kernel
theorem dc_L_law_352 : decode bc_L_law 352 = .ok (.iload_n 3, 1) := by decide +kernel
theorem dc_L_law_353 : decode bc_L_law 353 = .ok (.iconst 2, 1) := by decide +kernel
theorem dc_L_law_354 : decode bc_L_law 354 = .ok (.iadd, 1) := by decide +kernel
theorem dc_L_law_355 : decode bc_L_law 355 = .ok (.iaload, 1) := by decide +kernel
theorem dc_L_law_356 : decode bc_L_law 356 = .ok (.invokevirtual 33, 3) := by decide +kernel
theorem dc_L_law_359 : decode bc_L_law 359 = .ok (.if_icmp .eq 702, 3) := by decide +kernel
theorem dc_L_law_362 : decode bc_L_law 362 = .ok (.iconst 0, 1) := by decide +kernel
theorem dc_L_law_363 : decode bc_L_law 363 = .ok (.ireturn, 1) := by decide +kernel
theorem dc_L_law_364 : decode bc_L_law 364 = .ok (.aload_n 1, 1) := by decide +kernel
theorem dc_L_law_365 : decode bc_L_law 365 = .ok (.aload_n 0, 1) := by decide +kernel
theorem dc_L_law_366 : decode bc_L_law 366 = .ok (.iload_n 3, 1) := by decide +kernel
theorem dc_L_law_367 : decode bc_L_law 367 = .ok (.iconst 1, 1) := by decide +kernel
theorem dc_L_law_368 : decode bc_L_law 368 = .ok (.iadd, 1) := by decide +kernel
theorem dc_L_law_369 : decode bc_L_law 369 = .ok (.iaload, 1) := by decide +kernel
theorem dc_L_law_370 : decode bc_L_law 370 = .ok (.aload_n 0, 1) := by decide +kernel
theorem dc_L_law_371 : decode bc_L_law 371 = .ok (.iload_n 3, 1) := by decide +kernel
theorem dc_L_law_372 : decode bc_L_law 372 = .ok (.iconst 2, 1) := by decide +kernel
theorem dc_L_law_373 : decode bc_L_law 373 = .ok (.iadd, 1) := by decide +kernel
theorem dc_L_law_374 : decode bc_L_law 374 = .ok (.iaload, 1) := by decide +kernel
theorem dc_L_law_375 : decode bc_L_law 375 = .ok (.aload_n 0, 1) := by decide +kernel
theorem dc_L_law_376 : decode bc_L_law 376 = .ok (.iload_n 3, 1) := by decide +kernel
theorem dc_L_law_377 : decode bc_L_law 377 = .ok (.iconst 3, 1) := by decide +kernel
theorem dc_L_law_378 : decode bc_L_law 378 = .ok (.iadd, 1) := by decide +kernel
theorem dc_L_law_379 : decode bc_L_law 379 = .ok (.iaload, 1) := by decide +kernel
theorem dc_L_law_380 : decode bc_L_law 380 = .ok (.invokevirtual 34, 3) := by decide +kernel
theorem dc_L_law_383 : decode bc_L_law 383 = .ok (.aload_n 2, 1) := by decide +kernel
theorem dc_L_law_384 : decode bc_L_law 384 = .ok (.aload_n 0, 1) := by decide +kernel
theorem dc_L_law_385 : decode bc_L_law 385 = .ok (.iload_n 3, 1) := by decide +kernel
theorem dc_L_law_386 : decode bc_L_law 386 = .ok (.iconst 1, 1) := by decide +kernel
theorem dc_L_law_387 : decode bc_L_law 387 = .ok (.iadd, 1) := by decide +kernel
theorem dc_L_law_388 : decode bc_L_law 388 = .ok (.iaload, 1) := by decide +kernel
theorem dc_L_law_389 : decode bc_L_law 389 = .ok (.aload_n 0, 1) := by decide +kernel
theorem dc_L_law_390 : decode bc_L_law 390 = .ok (.iload_n 3, 1) := by decide +kernel
theorem dc_L_law_391 : decode bc_L_law 391 = .ok (.iconst 2, 1) := by decide +kernel
theorem dc_L_law_392 : decode bc_L_law 392 = .ok (.iadd, 1) := by decide +kernel
theorem dc_L_law_393 : decode bc_L_law 393 = .ok (.iaload, 1) := by decide +kernel
theorem dc_L_law_394 : decode bc_L_law 394 = .ok (.aload_n 0, 1) := by decide +kernel
theorem dc_L_law_395 : decode bc_L_law 395 = .ok (.iload_n 3, 1) := by decide +kernel
theorem dc_L_law_396 : decode bc_L_law 396 = .ok (.iconst 3, 1) := by decide +kernel
theorem dc_L_law_397 : decode bc_L_law 397 = .ok (.iadd, 1) := by decide +kernel
theorem dc_L_law_398 : decode bc_L_law 398 = .ok (.iaload, 1) := by decide +kernel
theorem dc_L_law_399 : decode bc_L_law 399 = .ok (.invokevirtual 38, 3) := by decide +kernel
theorem dc_L_law_402 : decode bc_L_law 402 = .ok (.if_icmp .eq 659, 3) := by decide +kernel
theorem dc_L_law_405 : decode bc_L_law 405 = .ok (.iconst 0, 1) := by decide +kernel
theorem dc_L_law_406 : decode bc_L_law 406 = .ok (.ireturn, 1) := by decide +kernel
theorem dc_L_law_407 : decode bc_L_law 407 = .ok (.aload_n 1, 1) := by decide +kernel
theorem dc_L_law_408 : decode bc_L_law 408 = .ok (.aload_n 0, 1) := by decide +kernel
theorem dc_L_law_409 : decode bc_L_law 409 = .ok (.iload_n 3, 1) := by decide +kernel
theorem dc_L_law_410 : decode bc_L_law 410 = .ok (.iconst 1, 1) := by decide +kernel
theorem dc_L_law_411 : decode bc_L_law 411 = .ok (.iadd, 1) := by decide +kernel
theorem dc_L_law_412 : decode bc_L_law 412 = .ok (.iaload, 1) := by decide +kernel
theorem dc_L_law_413 : decode bc_L_law 413 = .ok (.aload_n 0, 1) := by decide +kernel
theorem dc_L_law_414 : decode bc_L_law 414 = .ok (.iload_n 3, 1) := by decide +kernel
theorem dc_L_law_415 : decode bc_L_law 415 = .ok (.iconst 2, 1) := by decide +kernel
theorem dc_L_law_416 : decode bc_L_law 416 = .ok (.iadd, 1) := by decide +kernel
theorem dc_L_law_417 : decode bc_L_law 417 = .ok (.iaload, 1) := by decide +kernel
theorem dc_L_law_418 : decode bc_L_law 418 = .ok (.aload_n 0, 1) := by decide +kernel
theorem dc_L_law_419 : decode bc_L_law 419 = .ok (.iload_n 3, 1) := by decide +kernel
theorem dc_L_law_420 : decode bc_L_law 420 = .ok (.iconst 3, 1) := by decide +kernel
theorem dc_L_law_421 : decode bc_L_law 421 = .ok (.iadd, 1) := by decide +kernel
theorem dc_L_law_422 : decode bc_L_law 422 = .ok (.iaload, 1) := by decide +kernel
theorem dc_L_law_423 : decode bc_L_law 423 = .ok (.invokevirtual 39, 3) := by decide +kernel
theorem dc_L_law_426 : decode bc_L_law 426 = .ok (.aload_n 2, 1) := by decide +kernel
theorem dc_L_law_427 : decode bc_L_law 427 = .ok (.aload_n 0, 1) := by decide +kernel
theorem dc_L_law_428 : decode bc_L_law 428 = .ok (.iload_n 3, 1) := by decide +kernel
theorem dc_L_law_429 : decode bc_L_law 429 = .ok (.iconst 1, 1) := by decide +kernel
theorem dc_L_law_430 : decode bc_L_law 430 = .ok (.iadd, 1) := by decide +kernel
theorem dc_L_law_431 : decode bc_L_law 431 = .ok (.iaload, 1) := by decide +kernel
theorem dc_L_law_432 : decode bc_L_law 432 = .ok (.aload_n 0, 1) := by decide +kernel
theorem dc_L_law_433 : decode bc_L_law 433 = .ok (.iload_n 3, 1) := by decide +kernel
theorem dc_L_law_434 : decode bc_L_law 434 = .ok (.iconst 2, 1) := by decide +kernel
theorem dc_L_law_435 : decode bc_L_law 435 = .ok (.iadd, 1) := by decide +kernel
theorem dc_L_law_436 : decode bc_L_law 436 = .ok (.iaload, 1) := by decide +kernel
theorem dc_L_law_437 : decode bc_L_law 437 = .ok (.aload_n 0, 1) := by decide +kernel
theorem dc_L_law_438 : decode bc_L_law 438 = .ok (.iload_n 3, 1) := by decide +kernel
theorem dc_L_law_439 : decode bc_L_law 439 = .ok (.iconst 3, 1) := by decide +kernel
theorem dc_L_law_440 : decode bc_L_law 440 = .ok (.iadd, 1) := by decide +kernel
theorem dc_L_law_441 : decode bc_L_law 441 = .ok (.iaload, 1) := by decide +kernel
theorem dc_L_law_442 : decode bc_L_law 442 = .ok (.invokevirtual 42, 3) := by decide +kernel
theorem dc_L_law_445 : decode bc_L_law 445 = .ok (.if_icmp .eq 616, 3) := by decide +kernel
theorem dc_L_law_448 : decode bc_L_law 448 = .ok (.iconst 0, 1) := by decide +kernel
theorem dc_L_law_449 : decode bc_L_law 449 = .ok (.ireturn, 1) := by decide +kernel
theorem dc_L_law_450 : decode bc_L_law 450 = .ok (.aload_n 1, 1) := by decide +kernel
theorem dc_L_law_451 : decode bc_L_law 451 = .ok (.aload_n 0, 1) := by decide +kernel
theorem dc_L_law_452 : decode bc_L_law 452 = .ok (.iload_n 3, 1) := by decide +kernel
theorem dc_L_law_453 : decode bc_L_law 453 = .ok (.iconst 1, 1) := by decide +kernel
theorem dc_L_law_454 : decode bc_L_law 454 = .ok (.iadd, 1) := by decide +kernel
theorem dc_L_law_455 : decode bc_L_law 455 = .ok (.iaload, 1) := by decide +kernel
theorem dc_L_law_456 : decode bc_L_law 456 = .ok (.aload_n 0, 1) := by decide +kernel
theorem dc_L_law_457 : decode bc_L_law 457 = .ok (.iload_n 3, 1) := by decide +kernel
theorem dc_L_law_458 : decode bc_L_law 458 = .ok (.iconst 2, 1) := by decide +kernel
theorem dc_L_law_459 : decode bc_L_law 459 = .ok (.iadd, 1) := by decide +kernel
theorem dc_L_law_460 : decode bc_L_law 460 = .ok (.iaload, 1) := by decide +kernel
theorem dc_L_law_461 : decode bc_L_law 461 = .ok (.aload_n 0, 1) := by decide +kernel
theorem dc_L_law_462 : decode bc_L_law 462 = .ok (.iload_n 3, 1) := by decide +kernel
theorem dc_L_law_463 : decode bc_L_law 463 = .ok (.iconst 3, 1) := by decide +kernel
theorem dc_L_law_464 : decode bc_L_law 464 = .ok (.iadd, 1) := by decide +kernel
theorem dc_L_law_465 : decode bc_L_law 465 = .ok (.iaload, 1) := by decide +kernel
theorem dc_L_law_466 : decode bc_L_law 466 = .ok (.invokevirtual 43, 3) := by decide +kernel
theorem dc_L_law_469 : decode bc_L_law 469 = .ok (.aload_n 2, 1) := by decide +kernel
theorem dc_L_law_470 : decode bc_L_law 470 = .ok (.aload_n 0, 1) := by decide +kernel
theorem dc_L_law_471 : decode bc_L_law 471 = .ok (.iload_n 3, 1) := by decide +kernel
theorem dc_L_law_472 : decode bc_L_law 472 = .ok (.iconst 1, 1) := by decide +kernel
theorem dc_L_law_473 : decode bc_L_law 473 = .ok (.iadd, 1) := by decide +kernel
theorem dc_L_law_474 : decode bc_L_law 474 = .ok (.iaload, 1) := by decide +kernel
theorem dc_L_law_475 : decode bc_L_law 475 = .ok (.aload_n 0, 1) := by decide +kernel
theorem dc_L_law_476 : decode bc_L_law 476 = .ok (.iload_n 3, 1) := by decide +kernel
theorem dc_L_law_477 : decode bc_L_law 477 = .ok (.iconst 2, 1) := by decide +kernel
theorem dc_L_law_478 : decode bc_L_law 478 = .ok (.iadd, 1) := by decide +kernel
theorem dc_L_law_479 : decode bc_L_law 479 = .ok (.iaload, 1) := by decide +kernel
theorem dc_L_law_480 : decode bc_L_law 480 = .ok (.aload_n 0, 1) := by decide +kernel
theorem dc_L_law_481 : decode bc_L_law 481 = .ok (.iload_n 3, 1) := by decide +kernel
theorem dc_L_law_482 : decode bc_L_law 482 = .ok (.iconst 3, 1) := by decide +kernel
theorem dc_L_law_483 : decode bc_L_law 483 = .ok (.iadd, 1) := by decide +kernel
theorem dc_L_law_484 : decode bc_L_law 484 = .ok (.iaload, 1) := by decide +kernel
theorem dc_L_law_485 : decode bc_L_law 485 = .ok (.invokevirtual 46, 3) := by decide +kernel
theorem dc_L_law_488 : decode bc_L_law 488 = .ok (.if_icmp .eq 573, 3) := by decide +kernel
theorem dc_L_law_491 : decode bc_L_law 491 = .ok (.iconst 0, 1) := by decide +kernel
theorem dc_L_law_492 : decode bc_L_law 492 = .ok (.ireturn, 1) := by decide +kernel
theorem dc_L_law_493 : decode bc_L_law 493 = .ok (.aload_n 1, 1) := by decide +kernel
theorem dc_L_law_494 : decode bc_L_law 494 = .ok (.aload_n 0, 1) := by decide +kernel
theorem dc_L_law_495 : decode bc_L_law 495 = .ok (.iload_n 3, 1) := by decide +kernel
theorem dc_L_law_496 : decode bc_L_law 496 = .ok (.iconst 1, 1) := by decide +kernel
theorem dc_L_law_497 : decode bc_L_law 497 = .ok (.iadd, 1) := by decide +kernel
theorem dc_L_law_498 : decode bc_L_law 498 = .ok (.iaload, 1) := by decide +kernel
theorem dc_L_law_499 : decode bc_L_law 499 = .ok (.aload_n 0, 1) := by decide +kernel
theorem dc_L_law_500 : decode bc_L_law 500 = .ok (.iload_n 3, 1) := by decide +kernel
theorem dc_L_law_501 : decode bc_L_law 501 = .ok (.iconst 2, 1) := by decide +kernel
theorem dc_L_law_502 : decode bc_L_law 502 = .ok (.iadd, 1) := by decide +kernel
theorem dc_L_law_503 : decode bc_L_law 503 = .ok (.iaload, 1) := by decide +kernel
theorem dc_L_law_504 : decode bc_L_law 504 = .ok (.aload_n 0, 1) := by decide +kernel
theorem dc_L_law_505 : decode bc_L_law 505 = .ok (.iload_n 3, 1) := by decide +kernel
theorem dc_L_law_506 : decode bc_L_law 506 = .ok (.iconst 3, 1) := by decide +kernel
theorem dc_L_law_507 : decode bc_L_law 507 = .ok (.iadd, 1) := by decide +kernel
theorem dc_L_law_508 : decode bc_L_law 508 = .ok (.iaload, 1) := by decide +kernel
theorem dc_L_law_509 : decode bc_L_law 509 = .ok (.aload_n 0, 1) := by decide +kernel
theorem dc_L_law_510 : decode bc_L_law 510 = .ok (.iload_n 3, 1) := by decide +kernel
theorem dc_L_law_511 : decode bc_L_law 511 = .ok (.iconst 4, 1) := by decide +kernel
theorem dc_L_law_512 : decode bc_L_law 512 = .ok (.iadd, 1) := by decide +kernel
theorem dc_L_law_513 : decode bc_L_law 513 = .ok (.iaload, 1) := by decide +kernel
theorem dc_L_law_514 : decode bc_L_law 514 = .ok (.aload_n 0, 1) := by decide +kernel
theorem dc_L_law_515 : decode bc_L_law 515 = .ok (.iload_n 3, 1) := by decide +kernel
theorem dc_L_law_516 : decode bc_L_law 516 = .ok (.iconst 5, 1) := by decide +kernel
theorem dc_L_law_517 : decode bc_L_law 517 = .ok (.iadd, 1) := by decide +kernel
theorem dc_L_law_518 : decode bc_L_law 518 = .ok (.iaload, 1) := by decide +kernel
theorem dc_L_law_519 : decode bc_L_law 519 = .ok (.ifCond .eq 7, 3) := by decide +kernel
theorem dc_L_law_522 : decode bc_L_law 522 = .ok (.iconst 1, 1) := by decide +kernel
theorem dc_L_law_523 : decode bc_L_law 523 = .ok (.goto 4, 3) := by decide +kernel
theorem dc_L_law_526 : decode bc_L_law 526 = .ok (.iconst 0, 1) := by decide +kernel
theorem dc_L_law_527 : decode bc_L_law 527 = .ok (.invokevirtual 47, 3) := by decide +kernel
theorem dc_L_law_530 : decode bc_L_law 530 = .ok (.aload_n 2, 1) := by decide +kernel
theorem dc_L_law_531 : decode bc_L_law 531 = .ok (.aload_n 0, 1) := by decide +kernel
theorem dc_L_law_532 : decode bc_L_law 532 = .ok (.iload_n 3, 1) := by decide +kernel
theorem dc_L_law_533 : decode bc_L_law 533 = .ok (.iconst 1, 1) := by decide +kernel
theorem dc_L_law_534 : decode bc_L_law 534 = .ok (.iadd, 1) := by decide +kernel
theorem dc_L_law_535 : decode bc_L_law 535 = .ok (.iaload, 1) := by decide +kernel
theorem dc_L_law_536 : decode bc_L_law 536 = .ok (.aload_n 0, 1) := by decide +kernel
theorem dc_L_law_537 : decode bc_L_law 537 = .ok (.iload_n 3, 1) := by decide +kernel
theorem dc_L_law_538 : decode bc_L_law 538 = .ok (.iconst 2, 1) := by decide +kernel
theorem dc_L_law_539 : decode bc_L_law 539 = .ok (.iadd, 1) := by decide +kernel
theorem dc_L_law_540 : decode bc_L_law 540 = .ok (.iaload, 1) := by decide +kernel
theorem dc_L_law_541 : decode bc_L_law 541 = .ok (.aload_n 0, 1) := by decide +kernel
theorem dc_L_law_542 : decode bc_L_law 542 = .ok (.iload_n 3, 1) := by decide +kernel
theorem dc_L_law_543 : decode bc_L_law 543 = .ok (.iconst 3, 1) := by decide +kernel
theorem dc_L_law_544 : decode bc_L_law 544 = .ok (.iadd, 1) := by decide +kernel
theorem dc_L_law_545 : decode bc_L_law 545 = .ok (.iaload, 1) := by decide +kernel
theorem dc_L_law_546 : decode bc_L_law 546 = .ok (.aload_n 0, 1) := by decide +kernel
theorem dc_L_law_547 : decode bc_L_law 547 = .ok (.iload_n 3, 1) := by decide +kernel
theorem dc_L_law_548 : decode bc_L_law 548 = .ok (.iconst 4, 1) := by decide +kernel
theorem dc_L_law_549 : decode bc_L_law 549 = .ok (.iadd, 1) := by decide +kernel
theorem dc_L_law_550 : decode bc_L_law 550 = .ok (.iaload, 1) := by decide +kernel
theorem dc_L_law_551 : decode bc_L_law 551 = .ok (.aload_n 0, 1) := by decide +kernel
theorem dc_L_law_552 : decode bc_L_law 552 = .ok (.iload_n 3, 1) := by decide +kernel
theorem dc_L_law_553 : decode bc_L_law 553 = .ok (.iconst 5, 1) := by decide +kernel
theorem dc_L_law_554 : decode bc_L_law 554 = .ok (.iadd, 1) := by decide +kernel
theorem dc_L_law_555 : decode bc_L_law 555 = .ok (.iaload, 1) := by decide +kernel
theorem dc_L_law_556 : decode bc_L_law 556 = .ok (.ifCond .eq 7, 3) := by decide +kernel
theorem dc_L_law_559 : decode bc_L_law 559 = .ok (.iconst 1, 1) := by decide +kernel
theorem dc_L_law_560 : decode bc_L_law 560 = .ok (.goto 4, 3) := by decide +kernel
theorem dc_L_law_563 : decode bc_L_law 563 = .ok (.iconst 0, 1) := by decide +kernel
theorem dc_L_law_564 : decode bc_L_law 564 = .ok (.invokevirtual 51, 3) := by decide +kernel
theorem dc_L_law_567 : decode bc_L_law 567 = .ok (.if_icmp .eq 494, 3) := by decide +kernel
theorem dc_L_law_570 : decode bc_L_law 570 = .ok (.iconst 0, 1) := by decide +kernel
theorem dc_L_law_571 : decode bc_L_law 571 = .ok (.ireturn, 1) := by decide +kernel
theorem dc_L_law_572 : decode bc_L_law 572 = .ok (.aload_n 1, 1) := by decide +kernel
theorem dc_L_law_573 : decode bc_L_law 573 = .ok (.aload_n 0, 1) := by decide +kernel
theorem dc_L_law_574 : decode bc_L_law 574 = .ok (.iload_n 3, 1) := by decide +kernel
theorem dc_L_law_575 : decode bc_L_law 575 = .ok (.iconst 1, 1) := by decide +kernel
theorem dc_L_law_576 : decode bc_L_law 576 = .ok (.iadd, 1) := by decide +kernel
theorem dc_L_law_577 : decode bc_L_law 577 = .ok (.iaload, 1) := by decide +kernel
theorem dc_L_law_578 : decode bc_L_law 578 = .ok (.aload_n 0, 1) := by decide +kernel
theorem dc_L_law_579 : decode bc_L_law 579 = .ok (.iload_n 3, 1) := by decide +kernel
theorem dc_L_law_580 : decode bc_L_law 580 = .ok (.iconst 2, 1) := by decide +kernel
theorem dc_L_law_581 : decode bc_L_law 581 = .ok (.iadd, 1) := by decide +kernel
theorem dc_L_law_582 : decode bc_L_law 582 = .ok (.iaload, 1) := by decide +kernel
theorem dc_L_law_583 : decode bc_L_law 583 = .ok (.aload_n 0, 1) := by decide +kernel
theorem dc_L_law_584 : decode bc_L_law 584 = .ok (.iload_n 3, 1) := by decide +kernel
theorem dc_L_law_585 : decode bc_L_law 585 = .ok (.iconst 3, 1) := by decide +kernel
theorem dc_L_law_586 : decode bc_L_law 586 = .ok (.iadd, 1) := by decide +kernel
theorem dc_L_law_587 : decode bc_L_law 587 = .ok (.iaload, 1) := by decide +kernel
theorem dc_L_law_588 : decode bc_L_law 588 = .ok (.aload_n 0, 1) := by decide +kernel
theorem dc_L_law_589 : decode bc_L_law 589 = .ok (.iload_n 3, 1) := by decide +kernel
theorem dc_L_law_590 : decode bc_L_law 590 = .ok (.iconst 4, 1) := by decide +kernel
theorem dc_L_law_591 : decode bc_L_law 591 = .ok (.iadd, 1) := by decide +kernel
theorem dc_L_law_592 : decode bc_L_law 592 = .ok (.iaload, 1) := by decide +kernel
theorem dc_L_law_593 : decode bc_L_law 593 = .ok (.invokevirtual 52, 3) := by decide +kernel
theorem dc_L_law_596 : decode bc_L_law 596 = .ok (.aload_n 2, 1) := by decide +kernel
theorem dc_L_law_597 : decode bc_L_law 597 = .ok (.aload_n 0, 1) := by decide +kernel
theorem dc_L_law_598 : decode bc_L_law 598 = .ok (.iload_n 3, 1) := by decide +kernel
theorem dc_L_law_599 : decode bc_L_law 599 = .ok (.iconst 1, 1) := by decide +kernel
theorem dc_L_law_600 : decode bc_L_law 600 = .ok (.iadd, 1) := by decide +kernel
theorem dc_L_law_601 : decode bc_L_law 601 = .ok (.iaload, 1) := by decide +kernel
theorem dc_L_law_602 : decode bc_L_law 602 = .ok (.aload_n 0, 1) := by decide +kernel
theorem dc_L_law_603 : decode bc_L_law 603 = .ok (.iload_n 3, 1) := by decide +kernel
theorem dc_L_law_604 : decode bc_L_law 604 = .ok (.iconst 2, 1) := by decide +kernel
theorem dc_L_law_605 : decode bc_L_law 605 = .ok (.iadd, 1) := by decide +kernel
theorem dc_L_law_606 : decode bc_L_law 606 = .ok (.iaload, 1) := by decide +kernel
theorem dc_L_law_607 : decode bc_L_law 607 = .ok (.aload_n 0, 1) := by decide +kernel
theorem dc_L_law_608 : decode bc_L_law 608 = .ok (.iload_n 3, 1) := by decide +kernel
theorem dc_L_law_609 : decode bc_L_law 609 = .ok (.iconst 3, 1) := by decide +kernel
theorem dc_L_law_610 : decode bc_L_law 610 = .ok (.iadd, 1) := by decide +kernel
theorem dc_L_law_611 : decode bc_L_law 611 = .ok (.iaload, 1) := by decide +kernel
theorem dc_L_law_612 : decode bc_L_law 612 = .ok (.aload_n 0, 1) := by decide +kernel
theorem dc_L_law_613 : decode bc_L_law 613 = .ok (.iload_n 3, 1) := by decide +kernel
theorem dc_L_law_614 : decode bc_L_law 614 = .ok (.iconst 4, 1) := by decide +kernel
theorem dc_L_law_615 : decode bc_L_law 615 = .ok (.iadd, 1) := by decide +kernel
theorem dc_L_law_616 : decode bc_L_law 616 = .ok (.iaload, 1) := by decide +kernel
theorem dc_L_law_617 : decode bc_L_law 617 = .ok (.invokevirtual 56, 3) := by decide +kernel
theorem dc_L_law_620 : decode bc_L_law 620 = .ok (.if_icmp .eq 441, 3) := by decide +kernel
theorem dc_L_law_623 : decode bc_L_law 623 = .ok (.iconst 0, 1) := by decide +kernel
theorem dc_L_law_624 : decode bc_L_law 624 = .ok (.ireturn, 1) := by decide +kernel
theorem dc_L_law_625 : decode bc_L_law 625 = .ok (.aload_n 1, 1) := by decide +kernel
theorem dc_L_law_626 : decode bc_L_law 626 = .ok (.aload_n 0, 1) := by decide +kernel
theorem dc_L_law_627 : decode bc_L_law 627 = .ok (.iload_n 3, 1) := by decide +kernel
theorem dc_L_law_628 : decode bc_L_law 628 = .ok (.iconst 1, 1) := by decide +kernel
theorem dc_L_law_629 : decode bc_L_law 629 = .ok (.iadd, 1) := by decide +kernel
theorem dc_L_law_630 : decode bc_L_law 630 = .ok (.iaload, 1) := by decide +kernel
theorem dc_L_law_631 : decode bc_L_law 631 = .ok (.aload_n 0, 1) := by decide +kernel
theorem dc_L_law_632 : decode bc_L_law 632 = .ok (.iload_n 3, 1) := by decide +kernel
theorem dc_L_law_633 : decode bc_L_law 633 = .ok (.iconst 2, 1) := by decide +kernel
theorem dc_L_law_634 : decode bc_L_law 634 = .ok (.iadd, 1) := by decide +kernel
theorem dc_L_law_635 : decode bc_L_law 635 = .ok (.iaload, 1) := by decide +kernel
theorem dc_L_law_636 : decode bc_L_law 636 = .ok (.aload_n 0, 1) := by decide +kernel
theorem dc_L_law_637 : decode bc_L_law 637 = .ok (.iload_n 3, 1) := by decide +kernel
theorem dc_L_law_638 : decode bc_L_law 638 = .ok (.iconst 3, 1) := by decide +kernel
theorem dc_L_law_639 : decode bc_L_law 639 = .ok (.iadd, 1) := by decide +kernel
theorem dc_L_law_640 : decode bc_L_law 640 = .ok (.iaload, 1) := by decide +kernel
theorem dc_L_law_641 : decode bc_L_law 641 = .ok (.invokevirtual 57, 3) := by decide +kernel
theorem dc_L_law_644 : decode bc_L_law 644 = .ok (.aload_n 2, 1) := by decide +kernel
theorem dc_L_law_645 : decode bc_L_law 645 = .ok (.aload_n 0, 1) := by decide +kernel
theorem dc_L_law_646 : decode bc_L_law 646 = .ok (.iload_n 3, 1) := by decide +kernel
theorem dc_L_law_647 : decode bc_L_law 647 = .ok (.iconst 1, 1) := by decide +kernel
theorem dc_L_law_648 : decode bc_L_law 648 = .ok (.iadd, 1) := by decide +kernel
theorem dc_L_law_649 : decode bc_L_law 649 = .ok (.iaload, 1) := by decide +kernel
theorem dc_L_law_650 : decode bc_L_law 650 = .ok (.aload_n 0, 1) := by decide +kernel
theorem dc_L_law_651 : decode bc_L_law 651 = .ok (.iload_n 3, 1) := by decide +kernel
theorem dc_L_law_652 : decode bc_L_law 652 = .ok (.iconst 2, 1) := by decide +kernel
theorem dc_L_law_653 : decode bc_L_law 653 = .ok (.iadd, 1) := by decide +kernel
theorem dc_L_law_654 : decode bc_L_law 654 = .ok (.iaload, 1) := by decide +kernel
theorem dc_L_law_655 : decode bc_L_law 655 = .ok (.aload_n 0, 1) := by decide +kernel
theorem dc_L_law_656 : decode bc_L_law 656 = .ok (.iload_n 3, 1) := by decide +kernel
theorem dc_L_law_657 : decode bc_L_law 657 = .ok (.iconst 3, 1) := by decide +kernel
theorem dc_L_law_658 : decode bc_L_law 658 = .ok (.iadd, 1) := by decide +kernel
theorem dc_L_law_659 : decode bc_L_law 659 = .ok (.iaload, 1) := by decide +kernel
theorem dc_L_law_660 : decode bc_L_law 660 = .ok (.invokevirtual 60, 3) := by decide +kernel
theorem dc_L_law_663 : decode bc_L_law 663 = .ok (.if_icmp .eq 398, 3) := by decide +kernel
theorem dc_L_law_666 : decode bc_L_law 666 = .ok (.iconst 0, 1) := by decide +kernel
theorem dc_L_law_667 : decode bc_L_law 667 = .ok (.ireturn, 1) := by decide +kernel
theorem dc_L_law_668 : decode bc_L_law 668 = .ok (.aload_n 1, 1) := by decide +kernel
theorem dc_L_law_669 : decode bc_L_law 669 = .ok (.aload_n 0, 1) := by decide +kernel
theorem dc_L_law_670 : decode bc_L_law 670 = .ok (.iload_n 3, 1) := by decide +kernel
theorem dc_L_law_671 : decode bc_L_law 671 = .ok (.iconst 1, 1) := by decide +kernel
theorem dc_L_law_672 : decode bc_L_law 672 = .ok (.iadd, 1) := by decide +kernel
theorem dc_L_law_673 : decode bc_L_law 673 = .ok (.iaload, 1) := by decide +kernel
theorem dc_L_law_674 : decode bc_L_law 674 = .ok (.aload_n 0, 1) := by decide +kernel
theorem dc_L_law_675 : decode bc_L_law 675 = .ok (.iload_n 3, 1) := by decide +kernel
theorem dc_L_law_676 : decode bc_L_law 676 = .ok (.iconst 2, 1) := by decide +kernel
theorem dc_L_law_677 : decode bc_L_law 677 = .ok (.iadd, 1) := by decide +kernel
theorem dc_L_law_678 : decode bc_L_law 678 = .ok (.iaload, 1) := by decide +kernel
theorem dc_L_law_679 : decode bc_L_law 679 = .ok (.aload_n 0, 1) := by decide +kernel
theorem dc_L_law_680 : decode bc_L_law 680 = .ok (.iload_n 3, 1) := by decide +kernel
theorem dc_L_law_681 : decode bc_L_law 681 = .ok (.iconst 3, 1) := by decide +kernel
theorem dc_L_law_682 : decode bc_L_law 682 = .ok (.iadd, 1) := by decide +kernel
theorem dc_L_law_683 : decode bc_L_law 683 = .ok (.iaload, 1) := by decide +kernel
theorem dc_L_law_684 : decode bc_L_law 684 = .ok (.aload_n 0, 1) := by decide +kernel
theorem dc_L_law_685 : decode bc_L_law 685 = .ok (.iload_n 3, 1) := by decide +kernel
theorem dc_L_law_686 : decode bc_L_law 686 = .ok (.iconst 4, 1) := by decide +kernel
theorem dc_L_law_687 : decode bc_L_law 687 = .ok (.iadd, 1) := by decide +kernel
theorem dc_L_law_688 : decode bc_L_law 688 = .ok (.iaload, 1) := by decide +kernel
theorem dc_L_law_689 : decode bc_L_law 689 = .ok (.invokevirtual 61, 3) := by decide +kernel
theorem dc_L_law_692 : decode bc_L_law 692 = .ok (.aload_n 2, 1) := by decide +kernel
theorem dc_L_law_693 : decode bc_L_law 693 = .ok (.aload_n 0, 1) := by decide +kernel
theorem dc_L_law_694 : decode bc_L_law 694 = .ok (.iload_n 3, 1) := by decide +kernel
theorem dc_L_law_695 : decode bc_L_law 695 = .ok (.iconst 1, 1) := by decide +kernel
theorem dc_L_law_696 : decode bc_L_law 696 = .ok (.iadd, 1) := by decide +kernel
theorem dc_L_law_697 : decode bc_L_law 697 = .ok (.iaload, 1) := by decide +kernel
theorem dc_L_law_698 : decode bc_L_law 698 = .ok (.aload_n 0, 1) := by decide +kernel
theorem dc_L_law_699 : decode bc_L_law 699 = .ok (.iload_n 3, 1) := by decide +kernel
theorem dc_L_law_700 : decode bc_L_law 700 = .ok (.iconst 2, 1) := by decide +kernel
theorem dc_L_law_701 : decode bc_L_law 701 = .ok (.iadd, 1) := by decide +kernel
theorem dc_L_law_702 : decode bc_L_law 702 = .ok (.iaload, 1) := by decide +kernel
theorem dc_L_law_703 : decode bc_L_law 703 = .ok (.aload_n 0, 1) := by decide +kernel
theorem dc_L_law_704 : decode bc_L_law 704 = .ok (.iload_n 3, 1) := by decide +kernel
theorem dc_L_law_705 : decode bc_L_law 705 = .ok (.iconst 3, 1) := by decide +kernel
theorem dc_L_law_706 : decode bc_L_law 706 = .ok (.iadd, 1) := by decide +kernel
theorem dc_L_law_707 : decode bc_L_law 707 = .ok (.iaload, 1) := by decide +kernel
theorem dc_L_law_708 : decode bc_L_law 708 = .ok (.aload_n 0, 1) := by decide +kernel
theorem dc_L_law_709 : decode bc_L_law 709 = .ok (.iload_n 3, 1) := by decide +kernel
theorem dc_L_law_710 : decode bc_L_law 710 = .ok (.iconst 4, 1) := by decide +kernel
theorem dc_L_law_711 : decode bc_L_law 711 = .ok (.iadd, 1) := by decide +kernel
theorem dc_L_law_712 : decode bc_L_law 712 = .ok (.iaload, 1) := by decide +kernel
theorem dc_L_law_713 : decode bc_L_law 713 = .ok (.invokevirtual 64, 3) := by decide +kernel
theorem dc_L_law_716 : decode bc_L_law 716 = .ok (.if_icmp .eq 345, 3) := by decide +kernel
theorem dc_L_law_719 : decode bc_L_law 719 = .ok (.iconst 0, 1) := by decide +kernel
theorem dc_L_law_720 : decode bc_L_law 720 = .ok (.ireturn, 1) := by decide +kernel
theorem dc_L_law_721 : decode bc_L_law 721 = .ok (.aload_n 1, 1) := by decide +kernel
theorem dc_L_law_722 : decode bc_L_law 722 = .ok (.aload_n 0, 1) := by decide +kernel
theorem dc_L_law_723 : decode bc_L_law 723 = .ok (.iload_n 3, 1) := by decide +kernel
theorem dc_L_law_724 : decode bc_L_law 724 = .ok (.iconst 1, 1) := by decide +kernel
theorem dc_L_law_725 : decode bc_L_law 725 = .ok (.iadd, 1) := by decide +kernel
theorem dc_L_law_726 : decode bc_L_law 726 = .ok (.iaload, 1) := by decide +kernel
theorem dc_L_law_727 : decode bc_L_law 727 = .ok (.aload_n 0, 1) := by decide +kernel
theorem dc_L_law_728 : decode bc_L_law 728 = .ok (.iload_n 3, 1) := by decide +kernel
theorem dc_L_law_729 : decode bc_L_law 729 = .ok (.iconst 2, 1) := by decide +kernel
theorem dc_L_law_730 : decode bc_L_law 730 = .ok (.iadd, 1) := by decide +kernel
theorem dc_L_law_731 : decode bc_L_law 731 = .ok (.iaload, 1) := by decide +kernel
theorem dc_L_law_732 : decode bc_L_law 732 = .ok (.aload_n 0, 1) := by decide +kernel
theorem dc_L_law_733 : decode bc_L_law 733 = .ok (.iload_n 3, 1) := by decide +kernel
theorem dc_L_law_734 : decode bc_L_law 734 = .ok (.iconst 3, 1) := by decide +kernel
theorem dc_L_law_735 : decode bc_L_law 735 = .ok (.iadd, 1) := by decide +kernel
theorem dc_L_law_736 : decode bc_L_law 736 = .ok (.iaload, 1) := by decide +kernel
theorem dc_L_law_737 : decode bc_L_law 737 = .ok (.invokevirtual 65, 3) := by decide +kernel
theorem dc_L_law_740 : decode bc_L_law 740 = .ok (.aload_n 2, 1) := by decide +kernel
theorem dc_L_law_741 : decode bc_L_law 741 = .ok (.aload_n 0, 1) := by decide +kernel
theorem dc_L_law_742 : decode bc_L_law 742 = .ok (.iload_n 3, 1) := by decide +kernel
theorem dc_L_law_743 : decode bc_L_law 743 = .ok (.iconst 1, 1) := by decide +kernel
theorem dc_L_law_744 : decode bc_L_law 744 = .ok (.iadd, 1) := by decide +kernel
theorem dc_L_law_745 : decode bc_L_law 745 = .ok (.iaload, 1) := by decide +kernel
theorem dc_L_law_746 : decode bc_L_law 746 = .ok (.aload_n 0, 1) := by decide +kernel
theorem dc_L_law_747 : decode bc_L_law 747 = .ok (.iload_n 3, 1) := by decide +kernel
theorem dc_L_law_748 : decode bc_L_law 748 = .ok (.iconst 2, 1) := by decide +kernel
theorem dc_L_law_749 : decode bc_L_law 749 = .ok (.iadd, 1) := by decide +kernel
theorem dc_L_law_750 : decode bc_L_law 750 = .ok (.iaload, 1) := by decide +kernel
theorem dc_L_law_751 : decode bc_L_law 751 = .ok (.aload_n 0, 1) := by decide +kernel
theorem dc_L_law_752 : decode bc_L_law 752 = .ok (.iload_n 3, 1) := by decide +kernel
theorem dc_L_law_753 : decode bc_L_law 753 = .ok (.iconst 3, 1) := by decide +kernel
theorem dc_L_law_754 : decode bc_L_law 754 = .ok (.iadd, 1) := by decide +kernel
theorem dc_L_law_755 : decode bc_L_law 755 = .ok (.iaload, 1) := by decide +kernel
theorem dc_L_law_756 : decode bc_L_law 756 = .ok (.invokevirtual 68, 3) := by decide +kernel
theorem dc_L_law_759 : decode bc_L_law 759 = .ok (.if_icmp .eq 302, 3) := by decide +kernel
theorem dc_L_law_762 : decode bc_L_law 762 = .ok (.iconst 0, 1) := by decide +kernel
theorem dc_L_law_763 : decode bc_L_law 763 = .ok (.ireturn, 1) := by decide +kernel
theorem dc_L_law_764 : decode bc_L_law 764 = .ok (.aload_n 1, 1) := by decide +kernel
theorem dc_L_law_765 : decode bc_L_law 765 = .ok (.aload_n 0, 1) := by decide +kernel
theorem dc_L_law_766 : decode bc_L_law 766 = .ok (.iload_n 3, 1) := by decide +kernel
theorem dc_L_law_767 : decode bc_L_law 767 = .ok (.iconst 1, 1) := by decide +kernel
theorem dc_L_law_768 : decode bc_L_law 768 = .ok (.iadd, 1) := by decide +kernel
theorem dc_L_law_769 : decode bc_L_law 769 = .ok (.iaload, 1) := by decide +kernel
theorem dc_L_law_770 : decode bc_L_law 770 = .ok (.aload_n 0, 1) := by decide +kernel
theorem dc_L_law_771 : decode bc_L_law 771 = .ok (.iload_n 3, 1) := by decide +kernel
theorem dc_L_law_772 : decode bc_L_law 772 = .ok (.iconst 2, 1) := by decide +kernel
theorem dc_L_law_773 : decode bc_L_law 773 = .ok (.iadd, 1) := by decide +kernel
theorem dc_L_law_774 : decode bc_L_law 774 = .ok (.iaload, 1) := by decide +kernel
theorem dc_L_law_775 : decode bc_L_law 775 = .ok (.aload_n 0, 1) := by decide +kernel
theorem dc_L_law_776 : decode bc_L_law 776 = .ok (.iload_n 3, 1) := by decide +kernel
theorem dc_L_law_777 : decode bc_L_law 777 = .ok (.iconst 3, 1) := by decide +kernel
theorem dc_L_law_778 : decode bc_L_law 778 = .ok (.iadd, 1) := by decide +kernel
theorem dc_L_law_779 : decode bc_L_law 779 = .ok (.iaload, 1) := by decide +kernel
theorem dc_L_law_780 : decode bc_L_law 780 = .ok (.invokevirtual 69, 3) := by decide +kernel
theorem dc_L_law_783 : decode bc_L_law 783 = .ok (.aload_n 2, 1) := by decide +kernel
theorem dc_L_law_784 : decode bc_L_law 784 = .ok (.aload_n 0, 1) := by decide +kernel
theorem dc_L_law_785 : decode bc_L_law 785 = .ok (.iload_n 3, 1) := by decide +kernel
theorem dc_L_law_786 : decode bc_L_law 786 = .ok (.iconst 1, 1) := by decide +kernel
theorem dc_L_law_787 : decode bc_L_law 787 = .ok (.iadd, 1) := by decide +kernel
theorem dc_L_law_788 : decode bc_L_law 788 = .ok (.iaload, 1) := by decide +kernel
theorem dc_L_law_789 : decode bc_L_law 789 = .ok (.aload_n 0, 1) := by decide +kernel
theorem dc_L_law_790 : decode bc_L_law 790 = .ok (.iload_n 3, 1) := by decide +kernel
theorem dc_L_law_791 : decode bc_L_law 791 = .ok (.iconst 2, 1) := by decide +kernel
theorem dc_L_law_792 : decode bc_L_law 792 = .ok (.iadd, 1) := by decide +kernel
theorem dc_L_law_793 : decode bc_L_law 793 = .ok (.iaload, 1) := by decide +kernel
theorem dc_L_law_794 : decode bc_L_law 794 = .ok (.aload_n 0, 1) := by decide +kernel
theorem dc_L_law_795 : decode bc_L_law 795 = .ok (.iload_n 3, 1) := by decide +kernel
theorem dc_L_law_796 : decode bc_L_law 796 = .ok (.iconst 3, 1) := by decide +kernel
theorem dc_L_law_797 : decode bc_L_law 797 = .ok (.iadd, 1) := by decide +kernel
theorem dc_L_law_798 : decode bc_L_law 798 = .ok (.iaload, 1) := by decide +kernel
theorem dc_L_law_799 : decode bc_L_law 799 = .ok (.invokevirtual 72, 3) := by decide +kernel
theorem dc_L_law_802 : decode bc_L_law 802 = .ok (.if_icmp .eq 259, 3) := by decide +kernel
theorem dc_L_law_805 : decode bc_L_law 805 = .ok (.iconst 0, 1) := by decide +kernel
theorem dc_L_law_806 : decode bc_L_law 806 = .ok (.ireturn, 1) := by decide +kernel
theorem dc_L_law_807 : decode bc_L_law 807 = .ok (.aload_n 1, 1) := by decide +kernel
theorem dc_L_law_808 : decode bc_L_law 808 = .ok (.aload_n 0, 1) := by decide +kernel
theorem dc_L_law_809 : decode bc_L_law 809 = .ok (.iload_n 3, 1) := by decide +kernel
theorem dc_L_law_810 : decode bc_L_law 810 = .ok (.iconst 1, 1) := by decide +kernel
theorem dc_L_law_811 : decode bc_L_law 811 = .ok (.iadd, 1) := by decide +kernel
theorem dc_L_law_812 : decode bc_L_law 812 = .ok (.iaload, 1) := by decide +kernel
theorem dc_L_law_813 : decode bc_L_law 813 = .ok (.aload_n 0, 1) := by decide +kernel
theorem dc_L_law_814 : decode bc_L_law 814 = .ok (.iload_n 3, 1) := by decide +kernel
theorem dc_L_law_815 : decode bc_L_law 815 = .ok (.iconst 2, 1) := by decide +kernel
theorem dc_L_law_816 : decode bc_L_law 816 = .ok (.iadd, 1) := by decide +kernel
theorem dc_L_law_817 : decode bc_L_law 817 = .ok (.iaload, 1) := by decide +kernel
theorem dc_L_law_818 : decode bc_L_law 818 = .ok (.aload_n 0, 1) := by decide +kernel
theorem dc_L_law_819 : decode bc_L_law 819 = .ok (.iload_n 3, 1) := by decide +kernel
theorem dc_L_law_820 : decode bc_L_law 820 = .ok (.iconst 3, 1) := by decide +kernel
theorem dc_L_law_821 : decode bc_L_law 821 = .ok (.iadd, 1) := by decide +kernel
theorem dc_L_law_822 : decode bc_L_law 822 = .ok (.iaload, 1) := by decide +kernel
theorem dc_L_law_823 : decode bc_L_law 823 = .ok (.invokevirtual 73, 3) := by decide +kernel
theorem dc_L_law_826 : decode bc_L_law 826 = .ok (.aload_n 2, 1) := by decide +kernel
theorem dc_L_law_827 : decode bc_L_law 827 = .ok (.aload_n 0, 1) := by decide +kernel
theorem dc_L_law_828 : decode bc_L_law 828 = .ok (.iload_n 3, 1) := by decide +kernel
theorem dc_L_law_829 : decode bc_L_law 829 = .ok (.iconst 1, 1) := by decide +kernel
theorem dc_L_law_830 : decode bc_L_law 830 = .ok (.iadd, 1) := by decide +kernel
theorem dc_L_law_831 : decode bc_L_law 831 = .ok (.iaload, 1) := by decide +kernel
theorem dc_L_law_832 : decode bc_L_law 832 = .ok (.aload_n 0, 1) := by decide +kernel
theorem dc_L_law_833 : decode bc_L_law 833 = .ok (.iload_n 3, 1) := by decide +kernel
theorem dc_L_law_834 : decode bc_L_law 834 = .ok (.iconst 2, 1) := by decide +kernel
theorem dc_L_law_835 : decode bc_L_law 835 = .ok (.iadd, 1) := by decide +kernel
theorem dc_L_law_836 : decode bc_L_law 836 = .ok (.iaload, 1) := by decide +kernel
theorem dc_L_law_837 : decode bc_L_law 837 = .ok (.aload_n 0, 1) := by decide +kernel
theorem dc_L_law_838 : decode bc_L_law 838 = .ok (.iload_n 3, 1) := by decide +kernel
theorem dc_L_law_839 : decode bc_L_law 839 = .ok (.iconst 3, 1) := by decide +kernel
theorem dc_L_law_840 : decode bc_L_law 840 = .ok (.iadd, 1) := by decide +kernel
theorem dc_L_law_841 : decode bc_L_law 841 = .ok (.iaload, 1) := by decide +kernel
theorem dc_L_law_842 : decode bc_L_law 842 = .ok (.invokevirtual 76, 3) := by decide +kernel
theorem dc_L_law_845 : decode bc_L_law 845 = .ok (.if_icmp .eq 216, 3) := by decide +kernel
theorem dc_L_law_848 : decode bc_L_law 848 = .ok (.iconst 0, 1) := by decide +kernel
theorem dc_L_law_849 : decode bc_L_law 849 = .ok (.ireturn, 1) := by decide +kernel
theorem dc_L_law_850 : decode bc_L_law 850 = .ok (.aload_n 1, 1) := by decide +kernel
theorem dc_L_law_851 : decode bc_L_law 851 = .ok (.aload_n 0, 1) := by decide +kernel
theorem dc_L_law_852 : decode bc_L_law 852 = .ok (.iload_n 3, 1) := by decide +kernel
theorem dc_L_law_853 : decode bc_L_law 853 = .ok (.iconst 1, 1) := by decide +kernel
theorem dc_L_law_854 : decode bc_L_law 854 = .ok (.iadd, 1) := by decide +kernel
theorem dc_L_law_855 : decode bc_L_law 855 = .ok (.iaload, 1) := by decide +kernel
theorem dc_L_law_856 : decode bc_L_law 856 = .ok (.aload_n 0, 1) := by decide +kernel
theorem dc_L_law_857 : decode bc_L_law 857 = .ok (.iload_n 3, 1) := by decide +kernel
theorem dc_L_law_858 : decode bc_L_law 858 = .ok (.iconst 2, 1) := by decide +kernel
theorem dc_L_law_859 : decode bc_L_law 859 = .ok (.iadd, 1) := by decide +kernel
theorem dc_L_law_860 : decode bc_L_law 860 = .ok (.iaload, 1) := by decide +kernel
theorem dc_L_law_861 : decode bc_L_law 861 = .ok (.aload_n 0, 1) := by decide +kernel
theorem dc_L_law_862 : decode bc_L_law 862 = .ok (.iload_n 3, 1) := by decide +kernel
theorem dc_L_law_863 : decode bc_L_law 863 = .ok (.iconst 3, 1) := by decide +kernel
theorem dc_L_law_864 : decode bc_L_law 864 = .ok (.iadd, 1) := by decide +kernel
theorem dc_L_law_865 : decode bc_L_law 865 = .ok (.iaload, 1) := by decide +kernel
theorem dc_L_law_866 : decode bc_L_law 866 = .ok (.aload_n 0, 1) := by decide +kernel
theorem dc_L_law_867 : decode bc_L_law 867 = .ok (.iload_n 3, 1) := by decide +kernel
theorem dc_L_law_868 : decode bc_L_law 868 = .ok (.iconst 4, 1) := by decide +kernel
theorem dc_L_law_869 : decode bc_L_law 869 = .ok (.iadd, 1) := by decide +kernel
theorem dc_L_law_870 : decode bc_L_law 870 = .ok (.iaload, 1) := by decide +kernel
theorem dc_L_law_871 : decode bc_L_law 871 = .ok (.invokevirtual 77, 3) := by decide +kernel
theorem dc_L_law_874 : decode bc_L_law 874 = .ok (.aload_n 2, 1) := by decide +kernel
theorem dc_L_law_875 : decode bc_L_law 875 = .ok (.aload_n 0, 1) := by decide +kernel
theorem dc_L_law_876 : decode bc_L_law 876 = .ok (.iload_n 3, 1) := by decide +kernel
theorem dc_L_law_877 : decode bc_L_law 877 = .ok (.iconst 1, 1) := by decide +kernel
theorem dc_L_law_878 : decode bc_L_law 878 = .ok (.iadd, 1) := by decide +kernel
theorem dc_L_law_879 : decode bc_L_law 879 = .ok (.iaload, 1) := by decide +kernel
theorem dc_L_law_880 : decode bc_L_law 880 = .ok (.aload_n 0, 1) := by decide +kernel
theorem dc_L_law_881 : decode bc_L_law 881 = .ok (.iload_n 3, 1) := by decide +kernel
theorem dc_L_law_882 : decode bc_L_law 882 = .ok (.iconst 2, 1) := by decide +kernel
theorem dc_L_law_883 : decode bc_L_law 883 = .ok (.iadd, 1) := by decide +kernel
theorem dc_L_law_884 : decode bc_L_law 884 = .ok (.iaload, 1) := by decide +kernel
theorem dc_L_law_885 : decode bc_L_law 885 = .ok (.aload_n 0, 1) := by decide +kernel
theorem dc_L_law_886 : decode bc_L_law 886 = .ok (.iload_n 3, 1) := by decide +kernel
theorem dc_L_law_887 : decode bc_L_law 887 = .ok (.iconst 3, 1) := by decide +kernel
theorem dc_L_law_888 : decode bc_L_law 888 = .ok (.iadd, 1) := by decide +kernel
theorem dc_L_law_889 : decode bc_L_law 889 = .ok (.iaload, 1) := by decide +kernel
theorem dc_L_law_890 : decode bc_L_law 890 = .ok (.aload_n 0, 1) := by decide +kernel
theorem dc_L_law_891 : decode bc_L_law 891 = .ok (.iload_n 3, 1) := by decide +kernel
theorem dc_L_law_892 : decode bc_L_law 892 = .ok (.iconst 4, 1) := by decide +kernel
theorem dc_L_law_893 : decode bc_L_law 893 = .ok (.iadd, 1) := by decide +kernel
theorem dc_L_law_894 : decode bc_L_law 894 = .ok (.iaload, 1) := by decide +kernel
theorem dc_L_law_895 : decode bc_L_law 895 = .ok (.invokevirtual 80, 3) := by decide +kernel
theorem dc_L_law_898 : decode bc_L_law 898 = .ok (.if_icmp .eq 163, 3) := by decide +kernel
theorem dc_L_law_901 : decode bc_L_law 901 = .ok (.iconst 0, 1) := by decide +kernel
theorem dc_L_law_902 : decode bc_L_law 902 = .ok (.ireturn, 1) := by decide +kernel
theorem dc_L_law_903 : decode bc_L_law 903 = .ok (.aload_n 1, 1) := by decide +kernel
theorem dc_L_law_904 : decode bc_L_law 904 = .ok (.aload_n 0, 1) := by decide +kernel
theorem dc_L_law_905 : decode bc_L_law 905 = .ok (.iload_n 3, 1) := by decide +kernel
theorem dc_L_law_906 : decode bc_L_law 906 = .ok (.iconst 1, 1) := by decide +kernel
theorem dc_L_law_907 : decode bc_L_law 907 = .ok (.iadd, 1) := by decide +kernel
theorem dc_L_law_908 : decode bc_L_law 908 = .ok (.iaload, 1) := by decide +kernel
theorem dc_L_law_909 : decode bc_L_law 909 = .ok (.aload_n 0, 1) := by decide +kernel
theorem dc_L_law_910 : decode bc_L_law 910 = .ok (.iload_n 3, 1) := by decide +kernel
theorem dc_L_law_911 : decode bc_L_law 911 = .ok (.iconst 2, 1) := by decide +kernel
theorem dc_L_law_912 : decode bc_L_law 912 = .ok (.iadd, 1) := by decide +kernel
theorem dc_L_law_913 : decode bc_L_law 913 = .ok (.iaload, 1) := by decide +kernel
theorem dc_L_law_914 : decode bc_L_law 914 = .ok (.invokevirtual 81, 3) := by decide +kernel
theorem dc_L_law_917 : decode bc_L_law 917 = .ok (.aload_n 2, 1) := by decide +kernel
theorem dc_L_law_918 : decode bc_L_law 918 = .ok (.aload_n 0, 1) := by decide +kernel
theorem dc_L_law_919 : decode bc_L_law 919 = .ok (.iload_n 3, 1) := by decide +kernel
theorem dc_L_law_920 : decode bc_L_law 920 = .ok (.iconst 1, 1) := by decide +kernel
theorem dc_L_law_921 : decode bc_L_law 921 = .ok (.iadd, 1) := by decide +kernel
theorem dc_L_law_922 : decode bc_L_law 922 = .ok (.iaload, 1) := by decide +kernel
theorem dc_L_law_923 : decode bc_L_law 923 = .ok (.aload_n 0, 1) := by decide +kernel
theorem dc_L_law_924 : decode bc_L_law 924 = .ok (.iload_n 3, 1) := by decide +kernel
theorem dc_L_law_925 : decode bc_L_law 925 = .ok (.iconst 2, 1) := by decide +kernel
theorem dc_L_law_926 : decode bc_L_law 926 = .ok (.iadd, 1) := by decide +kernel
theorem dc_L_law_927 : decode bc_L_law 927 = .ok (.iaload, 1) := by decide +kernel
theorem dc_L_law_928 : decode bc_L_law 928 = .ok (.invokevirtual 85, 3) := by decide +kernel
theorem dc_L_law_931 : decode bc_L_law 931 = .ok (.if_icmp .eq 130, 3) := by decide +kernel
theorem dc_L_law_934 : decode bc_L_law 934 = .ok (.iconst 0, 1) := by decide +kernel
theorem dc_L_law_935 : decode bc_L_law 935 = .ok (.ireturn, 1) := by decide +kernel
theorem dc_L_law_936 : decode bc_L_law 936 = .ok (.aload_n 1, 1) := by decide +kernel
theorem dc_L_law_937 : decode bc_L_law 937 = .ok (.aload_n 0, 1) := by decide +kernel
theorem dc_L_law_938 : decode bc_L_law 938 = .ok (.iload_n 3, 1) := by decide +kernel
theorem dc_L_law_939 : decode bc_L_law 939 = .ok (.iconst 1, 1) := by decide +kernel
theorem dc_L_law_940 : decode bc_L_law 940 = .ok (.iadd, 1) := by decide +kernel
theorem dc_L_law_941 : decode bc_L_law 941 = .ok (.iaload, 1) := by decide +kernel
theorem dc_L_law_942 : decode bc_L_law 942 = .ok (.invokevirtual 86, 3) := by decide +kernel
theorem dc_L_law_945 : decode bc_L_law 945 = .ok (.aload_n 2, 1) := by decide +kernel
theorem dc_L_law_946 : decode bc_L_law 946 = .ok (.aload_n 0, 1) := by decide +kernel
theorem dc_L_law_947 : decode bc_L_law 947 = .ok (.iload_n 3, 1) := by decide +kernel
theorem dc_L_law_948 : decode bc_L_law 948 = .ok (.iconst 1, 1) := by decide +kernel
theorem dc_L_law_949 : decode bc_L_law 949 = .ok (.iadd, 1) := by decide +kernel
theorem dc_L_law_950 : decode bc_L_law 950 = .ok (.iaload, 1) := by decide +kernel
theorem dc_L_law_951 : decode bc_L_law 951 = .ok (.invokevirtual 90, 3) := by decide +kernel
theorem dc_L_law_954 : decode bc_L_law 954 = .ok (.if_icmp .eq 107, 3) := by decide +kernel
theorem dc_L_law_957 : decode bc_L_law 957 = .ok (.iconst 0, 1) := by decide +kernel
theorem dc_L_law_958 : decode bc_L_law 958 = .ok (.ireturn, 1) := by decide +kernel
theorem dc_L_law_959 : decode bc_L_law 959 = .ok (.aload_n 1, 1) := by decide +kernel
theorem dc_L_law_960 : decode bc_L_law 960 = .ok (.aload_n 0, 1) := by decide +kernel
theorem dc_L_law_961 : decode bc_L_law 961 = .ok (.iload_n 3, 1) := by decide +kernel
theorem dc_L_law_962 : decode bc_L_law 962 = .ok (.iconst 1, 1) := by decide +kernel
theorem dc_L_law_963 : decode bc_L_law 963 = .ok (.iadd, 1) := by decide +kernel
theorem dc_L_law_964 : decode bc_L_law 964 = .ok (.iaload, 1) := by decide +kernel
theorem dc_L_law_965 : decode bc_L_law 965 = .ok (.invokevirtual 91, 3) := by decide +kernel
theorem dc_L_law_968 : decode bc_L_law 968 = .ok (.aload_n 2, 1) := by decide +kernel
theorem dc_L_law_969 : decode bc_L_law 969 = .ok (.aload_n 0, 1) := by decide +kernel
theorem dc_L_law_970 : decode bc_L_law 970 = .ok (.iload_n 3, 1) := by decide +kernel
theorem dc_L_law_971 : decode bc_L_law 971 = .ok (.iconst 1, 1) := by decide +kernel
theorem dc_L_law_972 : decode bc_L_law 972 = .ok (.iadd, 1) := by decide +kernel
theorem dc_L_law_973 : decode bc_L_law 973 = .ok (.iaload, 1) := by decide +kernel
theorem dc_L_law_974 : decode bc_L_law 974 = .ok (.invokevirtual 94, 3) := by decide +kernel
theorem dc_L_law_977 : decode bc_L_law 977 = .ok (.if_icmp .eq 84, 3) := by decide +kernel
theorem dc_L_law_980 : decode bc_L_law 980 = .ok (.iconst 0, 1) := by decide +kernel
theorem dc_L_law_981 : decode bc_L_law 981 = .ok (.ireturn, 1) := by decide +kernel
theorem dc_L_law_982 : decode bc_L_law 982 = .ok (.aload_n 1, 1) := by decide +kernel
theorem dc_L_law_983 : decode bc_L_law 983 = .ok (.aload_n 0, 1) := by decide +kernel
theorem dc_L_law_984 : decode bc_L_law 984 = .ok (.iload_n 3, 1) := by decide +kernel
theorem dc_L_law_985 : decode bc_L_law 985 = .ok (.iconst 1, 1) := by decide +kernel
theorem dc_L_law_986 : decode bc_L_law 986 = .ok (.iadd, 1) := by decide +kernel
theorem dc_L_law_987 : decode bc_L_law 987 = .ok (.iaload, 1) := by decide +kernel
theorem dc_L_law_988 : decode bc_L_law 988 = .ok (.invokevirtual 95, 3) := by decide +kernel
theorem dc_L_law_991 : decode bc_L_law 991 = .ok (.aload_n 2, 1) := by decide +kernel
theorem dc_L_law_992 : decode bc_L_law 992 = .ok (.aload_n 0, 1) := by decide +kernel
theorem dc_L_law_993 : decode bc_L_law 993 = .ok (.iload_n 3, 1) := by decide +kernel
theorem dc_L_law_994 : decode bc_L_law 994 = .ok (.iconst 1, 1) := by decide +kernel
theorem dc_L_law_995 : decode bc_L_law 995 = .ok (.iadd, 1) := by decide +kernel
theorem dc_L_law_996 : decode bc_L_law 996 = .ok (.iaload, 1) := by decide +kernel
theorem dc_L_law_997 : decode bc_L_law 997 = .ok (.invokevirtual 98, 3) := by decide +kernel
theorem dc_L_law_1000 : decode bc_L_law 1000 = .ok (.if_icmp .eq 61, 3) := by decide +kernel
theorem dc_L_law_1003 : decode bc_L_law 1003 = .ok (.iconst 0, 1) := by decide +kernel
theorem dc_L_law_1004 : decode bc_L_law 1004 = .ok (.ireturn, 1) := by decide +kernel
theorem dc_L_law_1005 : decode bc_L_law 1005 = .ok (.aload_n 1, 1) := by decide +kernel
theorem dc_L_law_1006 : decode bc_L_law 1006 = .ok (.aload_n 0, 1) := by decide +kernel
theorem dc_L_law_1007 : decode bc_L_law 1007 = .ok (.iload_n 3, 1) := by decide +kernel
theorem dc_L_law_1008 : decode bc_L_law 1008 = .ok (.iconst 1, 1) := by decide +kernel
theorem dc_L_law_1009 : decode bc_L_law 1009 = .ok (.iadd, 1) := by decide +kernel
theorem dc_L_law_1010 : decode bc_L_law 1010 = .ok (.iaload, 1) := by decide +kernel
theorem dc_L_law_1011 : decode bc_L_law 1011 = .ok (.invokevirtual 99, 3) := by decide +kernel
theorem dc_L_law_1014 : decode bc_L_law 1014 = .ok (.aload_n 2, 1) := by decide +kernel
theorem dc_L_law_1015 : decode bc_L_law 1015 = .ok (.aload_n 0, 1) := by decide +kernel
theorem dc_L_law_1016 : decode bc_L_law 1016 = .ok (.iload_n 3, 1) := by decide +kernel
theorem dc_L_law_1017 : decode bc_L_law 1017 = .ok (.iconst 1, 1) := by decide +kernel
theorem dc_L_law_1018 : decode bc_L_law 1018 = .ok (.iadd, 1) := by decide +kernel
theorem dc_L_law_1019 : decode bc_L_law 1019 = .ok (.iaload, 1) := by decide +kernel
theorem dc_L_law_1020 : decode bc_L_law 1020 = .ok (.invokevirtual 102, 3) := by decide +kernel
theorem dc_L_law_1023 : decode bc_L_law 1023 = .ok (.if_icmp .eq 38, 3) := by decide +kernel
theorem dc_L_law_1026 : decode bc_L_law 1026 = .ok (.iconst 0, 1) := by decide +kernel
theorem dc_L_law_1027 : decode bc_L_law 1027 = .ok (.ireturn, 1) := by decide +kernel
theorem dc_L_law_1028 : decode bc_L_law 1028 = .ok (.aload_n 1, 1) := by decide +kernel
theorem dc_L_law_1029 : decode bc_L_law 1029 = .ok (.aload_n 0, 1) := by decide +kernel
theorem dc_L_law_1030 : decode bc_L_law 1030 = .ok (.iload_n 3, 1) := by decide +kernel
theorem dc_L_law_1031 : decode bc_L_law 1031 = .ok (.iconst 1, 1) := by decide +kernel
theorem dc_L_law_1032 : decode bc_L_law 1032 = .ok (.iadd, 1) := by decide +kernel
theorem dc_L_law_1033 : decode bc_L_law 1033 = .ok (.iaload, 1) := by decide +kernel
theorem dc_L_law_1034 : decode bc_L_law 1034 = .ok (.aload_n 0, 1) := by decide +kernel
theorem dc_L_law_1035 : decode bc_L_law 1035 = .ok (.iload_n 3, 1) := by decide +kernel
theorem dc_L_law_1036 : decode bc_L_law 1036 = .ok (.iconst 2, 1) := by decide +kernel
theorem dc_L_law_1037 : decode bc_L_law 1037 = .ok (.iadd, 1) := by decide +kernel
theorem dc_L_law_1038 : decode bc_L_law 1038 = .ok (.iaload, 1) := by decide +kernel
theorem dc_L_law_1039 : decode bc_L_law 1039 = .ok (.invokevirtual 103, 3) := by decide +kernel
theorem dc_L_law_1042 : decode bc_L_law 1042 = .ok (.aload_n 2, 1) := by decide +kernel
theorem dc_L_law_1043 : decode bc_L_law 1043 = .ok (.aload_n 0, 1) := by decide +kernel
theorem dc_L_law_1044 : decode bc_L_law 1044 = .ok (.iload_n 3, 1) := by decide +kernel
theorem dc_L_law_1045 : decode bc_L_law 1045 = .ok (.iconst 1, 1) := by decide +kernel
theorem dc_L_law_1046 : decode bc_L_law 1046 = .ok (.iadd, 1) := by decide +kernel
theorem dc_L_law_1047 : decode bc_L_law 1047 = .ok (.iaload, 1) := by decide +kernel
theorem dc_L_law_1048 : decode bc_L_law 1048 = .ok (.aload_n 0, 1) := by decide +kernel
theorem dc_L_law_1049 : decode bc_L_law 1049 = .ok (.iload_n 3, 1) := by decide +kernel
theorem dc_L_law_1050 : decode bc_L_law 1050 = .ok (.iconst 2, 1) := by decide +kernel
theorem dc_L_law_1051 : decode bc_L_law 1051 = .ok (.iadd, 1) := by decide +kernel
theorem dc_L_law_1052 : decode bc_L_law 1052 = .ok (.iaload, 1) := by decide +kernel
theorem dc_L_law_1053 : decode bc_L_law 1053 = .ok (.invokevirtual 106, 3) := by decide +kernel
theorem dc_L_law_1056 : decode bc_L_law 1056 = .ok (.if_icmp .eq 5, 3) := by decide +kernel
theorem dc_L_law_1059 : decode bc_L_law 1059 = .ok (.iconst 0, 1) := by decide +kernel
theorem dc_L_law_1060 : decode bc_L_law 1060 = .ok (.ireturn, 1) := by decide +kernel
theorem dc_L_law_1061 : decode bc_L_law 1061 = .ok (.iinc 3 6, 3) := by decide +kernel
theorem dc_L_law_1064 : decode bc_L_law 1064 = .ok (.goto (-1046), 3) := by decide +kernel
theorem dc_L_law_1067 : decode bc_L_law 1067 = .ok (.iconst 1, 1) := by decide +kernel
theorem dc_L_law_1068 : decode bc_L_law 1068 = .ok (.ireturn, 1) := by decide +kernel
