theorem d_La_law_0 : decode b_La_law 0 = .ok (.new 7, 3) := by decide +kernel
theorem d_La_law_3 : decode b_La_law 3 = .ok (.dup, 1) := by decide +kernel
theorem d_La_law_4 : decode b_La_law 4 = .ok (.invokespecial 9, 3) := by decide +kernel
theorem d_La_law_7 : decode b_La_law 7 = .ok (.astore_n 1, 1) := by decide +kernel
theorem d_La_law_8 : decode b_La_law 8 = .ok (.new 10, 3) := by decide +kernel
theorem d_La_law_11 : decode b_La_law 11 = .ok (.dup, 1) := by decide +kernel
theorem d_La_law_12 : decode b_La_law 12 = .ok (.invokespecial 12, 3) := by decide +kernel
theorem d_La_law_15 : decode b_La_law 15 = .ok (.astore_n 2, 1) := by decide +kernel
theorem d_La_law_16 : decode b_La_law 16 = .ok (.iconst 0, 1) := by decide +kernel
theorem d_La_law_17 : decode b_La_law 17 = .ok (.istore_n 3, 1) := by decide +kernel
theorem d_La_law_18 : decode b_La_law 18 = .ok (.iload_n 3, 1) := by decide +kernel
theorem d_La_law_19 : decode b_La_law 19 = .ok (.aload_n 0, 1) := by decide +kernel
theorem d_La_law_20 : decode b_La_law 20 = .ok (.arraylength, 1) := by decide +kernel
theorem d_La_law_21 : decode b_La_law 21 = .ok (.iconst 4, 1) := by decide +kernel
theorem d_La_law_22 : decode b_La_law 22 = .ok (.isub, 1) := by decide +kernel
theorem d_La_law_23 : decode b_La_law 23 = .ok (.if_icmp .gt 577, 3) := by decide +kernel
theorem d_La_law_26 : decode b_La_law 26 = .ok (.aload_n 0, 1) := by decide +kernel
theorem d_La_law_27 : decode b_La_law 27 = .ok (.iload_n 3, 1) := by decide +kernel
theorem d_La_law_28 : decode b_La_law 28 = .ok (.iaload, 1) := by decide +kernel
theorem d_La_law_29 : decode b_La_law 29 = .ok (.bipush 31, 2) := by decide +kernel
theorem d_La_law_31 : decode b_La_law 31 = .ok (.iand, 1) := by decide +kernel
theorem d_La_law_32 : decode b_La_law 32 = .ok (.tableswitch 562 0 17 #[88, 121, 154, 197, 230, 263, 276, 309, 342, 355, 378, 391, 414, 427, 460, 503, 526, 539], 88) := by decide +kernel
theorem d_La_law_120 : decode b_La_law 120 = .ok (.aload_n 1, 1) := by decide +kernel
theorem d_La_law_121 : decode b_La_law 121 = .ok (.aload_n 0, 1) := by decide +kernel
theorem d_La_law_122 : decode b_La_law 122 = .ok (.iload_n 3, 1) := by decide +kernel
theorem d_La_law_123 : decode b_La_law 123 = .ok (.iconst 1, 1) := by decide +kernel
theorem d_La_law_124 : decode b_La_law 124 = .ok (.iadd, 1) := by decide +kernel
theorem d_La_law_125 : decode b_La_law 125 = .ok (.iaload, 1) := by decide +kernel
theorem d_La_law_126 : decode b_La_law 126 = .ok (.aload_n 0, 1) := by decide +kernel
theorem d_La_law_127 : decode b_La_law 127 = .ok (.iload_n 3, 1) := by decide +kernel
theorem d_La_law_128 : decode b_La_law 128 = .ok (.iconst 2, 1) := by decide +kernel
theorem d_La_law_129 : decode b_La_law 129 = .ok (.iadd, 1) := by decide +kernel
theorem d_La_law_130 : decode b_La_law 130 = .ok (.iaload, 1) := by decide +kernel
theorem d_La_law_131 : decode b_La_law 131 = .ok (.invokevirtual 13, 3) := by decide +kernel
theorem d_La_law_134 : decode b_La_law 134 = .ok (.aload_n 2, 1) := by decide +kernel
theorem d_La_law_135 : decode b_La_law 135 = .ok (.aload_n 0, 1) := by decide +kernel
theorem d_La_law_136 : decode b_La_law 136 = .ok (.iload_n 3, 1) := by decide +kernel
theorem d_La_law_137 : decode b_La_law 137 = .ok (.iconst 1, 1) := by decide +kernel
theorem d_La_law_138 : decode b_La_law 138 = .ok (.iadd, 1) := by decide +kernel
theorem d_La_law_139 : decode b_La_law 139 = .ok (.iaload, 1) := by decide +kernel
theorem d_La_law_140 : decode b_La_law 140 = .ok (.aload_n 0, 1) := by decide +kernel
theorem d_La_law_141 : decode b_La_law 141 = .ok (.iload_n 3, 1) := by decide +kernel
theorem d_La_law_142 : decode b_La_law 142 = .ok (.iconst 2, 1) := by decide +kernel
theorem d_La_law_143 : decode b_La_law 143 = .ok (.iadd, 1) := by decide +kernel
theorem d_La_law_144 : decode b_La_law 144 = .ok (.iaload, 1) := by decide +kernel
theorem d_La_law_145 : decode b_La_law 145 = .ok (.invokevirtual 17, 3) := by decide +kernel
theorem d_La_law_148 : decode b_La_law 148 = .ok (.if_icmp .eq 446, 3) := by decide +kernel
theorem d_La_law_151 : decode b_La_law 151 = .ok (.iconst 0, 1) := by decide +kernel
theorem d_La_law_152 : decode b_La_law 152 = .ok (.ireturn, 1) := by decide +kernel
theorem d_La_law_153 : decode b_La_law 153 = .ok (.aload_n 1, 1) := by decide +kernel
theorem d_La_law_154 : decode b_La_law 154 = .ok (.aload_n 0, 1) := by decide +kernel
theorem d_La_law_155 : decode b_La_law 155 = .ok (.iload_n 3, 1) := by decide +kernel
theorem d_La_law_156 : decode b_La_law 156 = .ok (.iconst 1, 1) := by decide +kernel
theorem d_La_law_157 : decode b_La_law 157 = .ok (.iadd, 1) := by decide +kernel
theorem d_La_law_158 : decode b_La_law 158 = .ok (.iaload, 1) := by decide +kernel
theorem d_La_law_159 : decode b_La_law 159 = .ok (.aload_n 0, 1) := by decide +kernel
theorem d_La_law_160 : decode b_La_law 160 = .ok (.iload_n 3, 1) := by decide +kernel
theorem d_La_law_161 : decode b_La_law 161 = .ok (.iconst 2, 1) := by decide +kernel
theorem d_La_law_162 : decode b_La_law 162 = .ok (.iadd, 1) := by decide +kernel
theorem d_La_law_163 : decode b_La_law 163 = .ok (.iaload, 1) := by decide +kernel
theorem d_La_law_164 : decode b_La_law 164 = .ok (.invokevirtual 18, 3) := by decide +kernel
theorem d_La_law_167 : decode b_La_law 167 = .ok (.aload_n 2, 1) := by decide +kernel
theorem d_La_law_168 : decode b_La_law 168 = .ok (.aload_n 0, 1) := by decide +kernel
theorem d_La_law_169 : decode b_La_law 169 = .ok (.iload_n 3, 1) := by decide +kernel
theorem d_La_law_170 : decode b_La_law 170 = .ok (.iconst 1, 1) := by decide +kernel
theorem d_La_law_171 : decode b_La_law 171 = .ok (.iadd, 1) := by decide +kernel
theorem d_La_law_172 : decode b_La_law 172 = .ok (.iaload, 1) := by decide +kernel
theorem d_La_law_173 : decode b_La_law 173 = .ok (.aload_n 0, 1) := by decide +kernel
theorem d_La_law_174 : decode b_La_law 174 = .ok (.iload_n 3, 1) := by decide +kernel
theorem d_La_law_175 : decode b_La_law 175 = .ok (.iconst 2, 1) := by decide +kernel
theorem d_La_law_176 : decode b_La_law 176 = .ok (.iadd, 1) := by decide +kernel
theorem d_La_law_177 : decode b_La_law 177 = .ok (.iaload, 1) := by decide +kernel
theorem d_La_law_178 : decode b_La_law 178 = .ok (.invokevirtual 21, 3) := by decide +kernel
theorem d_La_law_181 : decode b_La_law 181 = .ok (.if_icmp .eq 413, 3) := by decide +kernel
theorem d_La_law_184 : decode b_La_law 184 = .ok (.iconst 0, 1) := by decide +kernel
theorem d_La_law_185 : decode b_La_law 185 = .ok (.ireturn, 1) := by decide +kernel
theorem d_La_law_186 : decode b_La_law 186 = .ok (.aload_n 1, 1) := by decide +kernel
theorem d_La_law_187 : decode b_La_law 187 = .ok (.aload_n 0, 1) := by decide +kernel
theorem d_La_law_188 : decode b_La_law 188 = .ok (.iload_n 3, 1) := by decide +kernel
theorem d_La_law_189 : decode b_La_law 189 = .ok (.iconst 1, 1) := by decide +kernel
theorem d_La_law_190 : decode b_La_law 190 = .ok (.iadd, 1) := by decide +kernel
theorem d_La_law_191 : decode b_La_law 191 = .ok (.iaload, 1) := by decide +kernel
theorem d_La_law_192 : decode b_La_law 192 = .ok (.aload_n 0, 1) := by decide +kernel
theorem d_La_law_193 : decode b_La_law 193 = .ok (.iload_n 3, 1) := by decide +kernel
theorem d_La_law_194 : decode b_La_law 194 = .ok (.iconst 2, 1) := by decide +kernel
theorem d_La_law_195 : decode b_La_law 195 = .ok (.iadd, 1) := by decide +kernel
theorem d_La_law_196 : decode b_La_law 196 = .ok (.iaload, 1) := by decide +kernel
theorem d_La_law_197 : decode b_La_law 197 = .ok (.aload_n 0, 1) := by decide +kernel
theorem d_La_law_198 : decode b_La_law 198 = .ok (.iload_n 3, 1) := by decide +kernel
theorem d_La_law_199 : decode b_La_law 199 = .ok (.iconst 3, 1) := by decide +kernel
theorem d_La_law_200 : decode b_La_law 200 = .ok (.iadd, 1) := by decide +kernel
theorem d_La_law_201 : decode b_La_law 201 = .ok (.iaload, 1) := by decide +kernel
theorem d_La_law_202 : decode b_La_law 202 = .ok (.invokevirtual 22, 3) := by decide +kernel
theorem d_La_law_205 : decode b_La_law 205 = .ok (.aload_n 2, 1) := by decide +kernel
theorem d_La_law_206 : decode b_La_law 206 = .ok (.aload_n 0, 1) := by decide +kernel
theorem d_La_law_207 : decode b_La_law 207 = .ok (.iload_n 3, 1) := by decide +kernel
theorem d_La_law_208 : decode b_La_law 208 = .ok (.iconst 1, 1) := by decide +kernel
theorem d_La_law_209 : decode b_La_law 209 = .ok (.iadd, 1) := by decide +kernel
theorem d_La_law_210 : decode b_La_law 210 = .ok (.iaload, 1) := by decide +kernel
theorem d_La_law_211 : decode b_La_law 211 = .ok (.aload_n 0, 1) := by decide +kernel
theorem d_La_law_212 : decode b_La_law 212 = .ok (.iload_n 3, 1) := by decide +kernel
theorem d_La_law_213 : decode b_La_law 213 = .ok (.iconst 2, 1) := by decide +kernel
theorem d_La_law_214 : decode b_La_law 214 = .ok (.iadd, 1) := by decide +kernel
theorem d_La_law_215 : decode b_La_law 215 = .ok (.iaload, 1) := by decide +kernel
theorem d_La_law_216 : decode b_La_law 216 = .ok (.aload_n 0, 1) := by decide +kernel
theorem d_La_law_217 : decode b_La_law 217 = .ok (.iload_n 3, 1) := by decide +kernel
theorem d_La_law_218 : decode b_La_law 218 = .ok (.iconst 3, 1) := by decide +kernel
theorem d_La_law_219 : decode b_La_law 219 = .ok (.iadd, 1) := by decide +kernel
theorem d_La_law_220 : decode b_La_law 220 = .ok (.iaload, 1) := by decide +kernel
theorem d_La_law_221 : decode b_La_law 221 = .ok (.invokevirtual 26, 3) := by decide +kernel
theorem d_La_law_224 : decode b_La_law 224 = .ok (.if_icmp .eq 370, 3) := by decide +kernel
theorem d_La_law_227 : decode b_La_law 227 = .ok (.iconst 0, 1) := by decide +kernel
theorem d_La_law_228 : decode b_La_law 228 = .ok (.ireturn, 1) := by decide +kernel
theorem d_La_law_229 : decode b_La_law 229 = .ok (.aload_n 1, 1) := by decide +kernel
theorem d_La_law_230 : decode b_La_law 230 = .ok (.aload_n 0, 1) := by decide +kernel
theorem d_La_law_231 : decode b_La_law 231 = .ok (.iload_n 3, 1) := by decide +kernel
theorem d_La_law_232 : decode b_La_law 232 = .ok (.iconst 1, 1) := by decide +kernel
theorem d_La_law_233 : decode b_La_law 233 = .ok (.iadd, 1) := by decide +kernel
theorem d_La_law_234 : decode b_La_law 234 = .ok (.iaload, 1) := by decide +kernel
theorem d_La_law_235 : decode b_La_law 235 = .ok (.aload_n 0, 1) := by decide +kernel
theorem d_La_law_236 : decode b_La_law 236 = .ok (.iload_n 3, 1) := by decide +kernel
theorem d_La_law_237 : decode b_La_law 237 = .ok (.iconst 2, 1) := by decide +kernel
theorem d_La_law_238 : decode b_La_law 238 = .ok (.iadd, 1) := by decide +kernel
theorem d_La_law_239 : decode b_La_law 239 = .ok (.iaload, 1) := by decide +kernel
theorem d_La_law_240 : decode b_La_law 240 = .ok (.invokevirtual 27, 3) := by decide +kernel
theorem d_La_law_243 : decode b_La_law 243 = .ok (.aload_n 2, 1) := by decide +kernel
theorem d_La_law_244 : decode b_La_law 244 = .ok (.aload_n 0, 1) := by decide +kernel
theorem d_La_law_245 : decode b_La_law 245 = .ok (.iload_n 3, 1) := by decide +kernel
theorem d_La_law_246 : decode b_La_law 246 = .ok (.iconst 1, 1) := by decide +kernel
theorem d_La_law_247 : decode b_La_law 247 = .ok (.iadd, 1) := by decide +kernel
theorem d_La_law_248 : decode b_La_law 248 = .ok (.iaload, 1) := by decide +kernel
theorem d_La_law_249 : decode b_La_law 249 = .ok (.aload_n 0, 1) := by decide +kernel
theorem d_La_law_250 : decode b_La_law 250 = .ok (.iload_n 3, 1) := by decide +kernel
theorem d_La_law_251 : decode b_La_law 251 = .ok (.iconst 2, 1) := by decide +kernel
theorem d_La_law_252 : decode b_La_law 252 = .ok (.iadd, 1) := by decide +kernel
theorem d_La_law_253 : decode b_La_law 253 = .ok (.iaload, 1) := by decide +kernel
theorem d_La_law_254 : decode b_La_law 254 = .ok (.invokevirtual 30, 3) := by decide +kernel
theorem d_La_law_257 : decode b_La_law 257 = .ok (.if_icmp .eq 337, 3) := by decide +kernel
theorem d_La_law_260 : decode b_La_law 260 = .ok (.iconst 0, 1) := by decide +kernel
theorem d_La_law_261 : decode b_La_law 261 = .ok (.ireturn, 1) := by decide +kernel
theorem d_La_law_262 : decode b_La_law 262 = .ok (.aload_n 1, 1) := by decide +kernel
theorem d_La_law_263 : decode b_La_law 263 = .ok (.aload_n 0, 1) := by decide +kernel
theorem d_La_law_264 : decode b_La_law 264 = .ok (.iload_n 3, 1) := by decide +kernel
theorem d_La_law_265 : decode b_La_law 265 = .ok (.iconst 1, 1) := by decide +kernel
theorem d_La_law_266 : decode b_La_law 266 = .ok (.iadd, 1) := by decide +kernel
theorem d_La_law_267 : decode b_La_law 267 = .ok (.iaload, 1) := by decide +kernel
theorem d_La_law_268 : decode b_La_law 268 = .ok (.aload_n 0, 1) := by decide +kernel
theorem d_La_law_269 : decode b_La_law 269 = .ok (.iload_n 3, 1) := by decide +kernel
theorem d_La_law_270 : decode b_La_law 270 = .ok (.iconst 2, 1) := by decide +kernel
theorem d_La_law_271 : decode b_La_law 271 = .ok (.iadd, 1) := by decide +kernel
theorem d_La_law_272 : decode b_La_law 272 = .ok (.iaload, 1) := by decide +kernel
theorem d_La_law_273 : decode b_La_law 273 = .ok (.invokevirtual 31, 3) := by decide +kernel
theorem d_La_law_276 : decode b_La_law 276 = .ok (.aload_n 2, 1) := by decide +kernel
theorem d_La_law_277 : decode b_La_law 277 = .ok (.aload_n 0, 1) := by decide +kernel
theorem d_La_law_278 : decode b_La_law 278 = .ok (.iload_n 3, 1) := by decide +kernel
theorem d_La_law_279 : decode b_La_law 279 = .ok (.iconst 1, 1) := by decide +kernel
theorem d_La_law_280 : decode b_La_law 280 = .ok (.iadd, 1) := by decide +kernel
theorem d_La_law_281 : decode b_La_law 281 = .ok (.iaload, 1) := by decide +kernel
theorem d_La_law_282 : decode b_La_law 282 = .ok (.aload_n 0, 1) := by decide +kernel
theorem d_La_law_283 : decode b_La_law 283 = .ok (.iload_n 3, 1) := by decide +kernel
theorem d_La_law_284 : decode b_La_law 284 = .ok (.iconst 2, 1) := by decide +kernel
theorem d_La_law_285 : decode b_La_law 285 = .ok (.iadd, 1) := by decide +kernel
theorem d_La_law_286 : decode b_La_law 286 = .ok (.iaload, 1) := by decide +kernel
theorem d_La_law_287 : decode b_La_law 287 = .ok (.invokevirtual 34, 3) := by decide +kernel
theorem d_La_law_290 : decode b_La_law 290 = .ok (.if_icmp .eq 304, 3) := by decide +kernel
theorem d_La_law_293 : decode b_La_law 293 = .ok (.iconst 0, 1) := by decide +kernel
theorem d_La_law_294 : decode b_La_law 294 = .ok (.ireturn, 1) := by decide +kernel
theorem d_La_law_295 : decode b_La_law 295 = .ok (.aload_n 1, 1) := by decide +kernel
theorem d_La_law_296 : decode b_La_law 296 = .ok (.invokevirtual 35, 3) := by decide +kernel
theorem d_La_law_299 : decode b_La_law 299 = .ok (.aload_n 2, 1) := by decide +kernel
theorem d_La_law_300 : decode b_La_law 300 = .ok (.invokevirtual 39, 3) := by decide +kernel
theorem d_La_law_303 : decode b_La_law 303 = .ok (.if_icmp .eq 291, 3) := by decide +kernel
theorem d_La_law_306 : decode b_La_law 306 = .ok (.iconst 0, 1) := by decide +kernel
theorem d_La_law_307 : decode b_La_law 307 = .ok (.ireturn, 1) := by decide +kernel
theorem d_La_law_308 : decode b_La_law 308 = .ok (.aload_n 1, 1) := by decide +kernel
theorem d_La_law_309 : decode b_La_law 309 = .ok (.aload_n 0, 1) := by decide +kernel
theorem d_La_law_310 : decode b_La_law 310 = .ok (.iload_n 3, 1) := by decide +kernel
theorem d_La_law_311 : decode b_La_law 311 = .ok (.iconst 1, 1) := by decide +kernel
theorem d_La_law_312 : decode b_La_law 312 = .ok (.iadd, 1) := by decide +kernel
theorem d_La_law_313 : decode b_La_law 313 = .ok (.iaload, 1) := by decide +kernel
theorem d_La_law_314 : decode b_La_law 314 = .ok (.aload_n 0, 1) := by decide +kernel
theorem d_La_law_315 : decode b_La_law 315 = .ok (.iload_n 3, 1) := by decide +kernel
theorem d_La_law_316 : decode b_La_law 316 = .ok (.iconst 2, 1) := by decide +kernel
theorem d_La_law_317 : decode b_La_law 317 = .ok (.iadd, 1) := by decide +kernel
theorem d_La_law_318 : decode b_La_law 318 = .ok (.iaload, 1) := by decide +kernel
theorem d_La_law_319 : decode b_La_law 319 = .ok (.invokevirtual 40, 3) := by decide +kernel
theorem d_La_law_322 : decode b_La_law 322 = .ok (.aload_n 2, 1) := by decide +kernel
theorem d_La_law_323 : decode b_La_law 323 = .ok (.aload_n 0, 1) := by decide +kernel
theorem d_La_law_324 : decode b_La_law 324 = .ok (.iload_n 3, 1) := by decide +kernel
theorem d_La_law_325 : decode b_La_law 325 = .ok (.iconst 1, 1) := by decide +kernel
theorem d_La_law_326 : decode b_La_law 326 = .ok (.iadd, 1) := by decide +kernel
theorem d_La_law_327 : decode b_La_law 327 = .ok (.iaload, 1) := by decide +kernel
theorem d_La_law_328 : decode b_La_law 328 = .ok (.aload_n 0, 1) := by decide +kernel
theorem d_La_law_329 : decode b_La_law 329 = .ok (.iload_n 3, 1) := by decide +kernel
theorem d_La_law_330 : decode b_La_law 330 = .ok (.iconst 2, 1) := by decide +kernel
theorem d_La_law_331 : decode b_La_law 331 = .ok (.iadd, 1) := by decide +kernel
theorem d_La_law_332 : decode b_La_law 332 = .ok (.iaload, 1) := by decide +kernel
theorem d_La_law_333 : decode b_La_law 333 = .ok (.invokevirtual 43, 3) := by decide +kernel
theorem d_La_law_336 : decode b_La_law 336 = .ok (.if_icmp .eq 258, 3) := by decide +kernel
theorem d_La_law_339 : decode b_La_law 339 = .ok (.iconst 0, 1) := by decide +kernel
theorem d_La_law_340 : decode b_La_law 340 = .ok (.ireturn, 1) := by decide +kernel
theorem d_La_law_341 : decode b_La_law 341 = .ok (.aload_n 1, 1) := by decide +kernel
theorem d_La_law_342 : decode b_La_law 342 = .ok (.aload_n 0, 1) := by decide +kernel
theorem d_La_law_343 : decode b_La_law 343 = .ok (.iload_n 3, 1) := by decide +kernel
theorem d_La_law_344 : decode b_La_law 344 = .ok (.iconst 1, 1) := by decide +kernel
theorem d_La_law_345 : decode b_La_law 345 = .ok (.iadd, 1) := by decide +kernel
theorem d_La_law_346 : decode b_La_law 346 = .ok (.iaload, 1) := by decide +kernel
theorem d_La_law_347 : decode b_La_law 347 = .ok (.aload_n 0, 1) := by decide +kernel
theorem d_La_law_348 : decode b_La_law 348 = .ok (.iload_n 3, 1) := by decide +kernel
theorem d_La_law_349 : decode b_La_law 349 = .ok (.iconst 2, 1) := by decide +kernel
theorem d_La_law_350 : decode b_La_law 350 = .ok (.iadd, 1) := by decide +kernel
theorem d_La_law_351 : decode b_La_law 351 = .ok (.iaload, 1) := by decide +kernel
theorem d_La_law_352 : decode b_La_law 352 = .ok (.invokevirtual 44, 3) := by decide +kernel
theorem d_La_law_355 : decode b_La_law 355 = .ok (.aload_n 2, 1) := by decide +kernel
theorem d_La_law_356 : decode b_La_law 356 = .ok (.aload_n 0, 1) := by decide +kernel
theorem d_La_law_357 : decode b_La_law 357 = .ok (.iload_n 3, 1) := by decide +kernel
theorem d_La_law_358 : decode b_La_law 358 = .ok (.iconst 1, 1) := by decide +kernel
theorem d_La_law_359 : decode b_La_law 359 = .ok (.iadd, 1) := by decide +kernel
theorem d_La_law_360 : decode b_La_law 360 = .ok (.iaload, 1) := by decide +kernel
theorem d_La_law_361 : decode b_La_law 361 = .ok (.aload_n 0, 1) := by decide +kernel
theorem d_La_law_362 : decode b_La_law 362 = .ok (.iload_n 3, 1) := by decide +kernel
theorem d_La_law_363 : decode b_La_law 363 = .ok (.iconst 2, 1) := by decide +kernel
theorem d_La_law_364 : decode b_La_law 364 = .ok (.iadd, 1) := by decide +kernel
theorem d_La_law_365 : decode b_La_law 365 = .ok (.iaload, 1) := by decide +kernel
theorem d_La_law_366 : decode b_La_law 366 = .ok (.invokevirtual 47, 3) := by decide +kernel
theorem d_La_law_369 : decode b_La_law 369 = .ok (.if_icmp .eq 225, 3) := by decide +kernel
theorem d_La_law_372 : decode b_La_law 372 = .ok (.iconst 0, 1) := by decide +kernel
theorem d_La_law_373 : decode b_La_law 373 = .ok (.ireturn, 1) := by decide +kernel
theorem d_La_law_374 : decode b_La_law 374 = .ok (.aload_n 1, 1) := by decide +kernel
theorem d_La_law_375 : decode b_La_law 375 = .ok (.invokevirtual 48, 3) := by decide +kernel
theorem d_La_law_378 : decode b_La_law 378 = .ok (.aload_n 2, 1) := by decide +kernel
theorem d_La_law_379 : decode b_La_law 379 = .ok (.invokevirtual 51, 3) := by decide +kernel
theorem d_La_law_382 : decode b_La_law 382 = .ok (.if_icmp .eq 212, 3) := by decide +kernel
theorem d_La_law_385 : decode b_La_law 385 = .ok (.iconst 0, 1) := by decide +kernel
theorem d_La_law_386 : decode b_La_law 386 = .ok (.ireturn, 1) := by decide +kernel
theorem d_La_law_387 : decode b_La_law 387 = .ok (.aload_n 1, 1) := by decide +kernel
theorem d_La_law_388 : decode b_La_law 388 = .ok (.aload_n 0, 1) := by decide +kernel
theorem d_La_law_389 : decode b_La_law 389 = .ok (.iload_n 3, 1) := by decide +kernel
theorem d_La_law_390 : decode b_La_law 390 = .ok (.iconst 1, 1) := by decide +kernel
theorem d_La_law_391 : decode b_La_law 391 = .ok (.iadd, 1) := by decide +kernel
theorem d_La_law_392 : decode b_La_law 392 = .ok (.iaload, 1) := by decide +kernel
theorem d_La_law_393 : decode b_La_law 393 = .ok (.invokevirtual 52, 3) := by decide +kernel
theorem d_La_law_396 : decode b_La_law 396 = .ok (.aload_n 2, 1) := by decide +kernel
theorem d_La_law_397 : decode b_La_law 397 = .ok (.aload_n 0, 1) := by decide +kernel
theorem d_La_law_398 : decode b_La_law 398 = .ok (.iload_n 3, 1) := by decide +kernel
theorem d_La_law_399 : decode b_La_law 399 = .ok (.iconst 1, 1) := by decide +kernel
theorem d_La_law_400 : decode b_La_law 400 = .ok (.iadd, 1) := by decide +kernel
theorem d_La_law_401 : decode b_La_law 401 = .ok (.iaload, 1) := by decide +kernel
theorem d_La_law_402 : decode b_La_law 402 = .ok (.invokevirtual 56, 3) := by decide +kernel
theorem d_La_law_405 : decode b_La_law 405 = .ok (.if_icmp .eq 189, 3) := by decide +kernel
theorem d_La_law_408 : decode b_La_law 408 = .ok (.iconst 0, 1) := by decide +kernel
theorem d_La_law_409 : decode b_La_law 409 = .ok (.ireturn, 1) := by decide +kernel
theorem d_La_law_410 : decode b_La_law 410 = .ok (.aload_n 1, 1) := by decide +kernel
theorem d_La_law_411 : decode b_La_law 411 = .ok (.invokevirtual 57, 3) := by decide +kernel
theorem d_La_law_414 : decode b_La_law 414 = .ok (.aload_n 2, 1) := by decide +kernel
theorem d_La_law_415 : decode b_La_law 415 = .ok (.invokevirtual 60, 3) := by decide +kernel
theorem d_La_law_418 : decode b_La_law 418 = .ok (.if_icmp .eq 176, 3) := by decide +kernel
theorem d_La_law_421 : decode b_La_law 421 = .ok (.iconst 0, 1) := by decide +kernel
theorem d_La_law_422 : decode b_La_law 422 = .ok (.ireturn, 1) := by decide +kernel
theorem d_La_law_423 : decode b_La_law 423 = .ok (.aload_n 1, 1) := by decide +kernel
theorem d_La_law_424 : decode b_La_law 424 = .ok (.aload_n 0, 1) := by decide +kernel
theorem d_La_law_425 : decode b_La_law 425 = .ok (.iload_n 3, 1) := by decide +kernel
theorem d_La_law_426 : decode b_La_law 426 = .ok (.iconst 1, 1) := by decide +kernel
theorem d_La_law_427 : decode b_La_law 427 = .ok (.iadd, 1) := by decide +kernel
theorem d_La_law_428 : decode b_La_law 428 = .ok (.iaload, 1) := by decide +kernel
theorem d_La_law_429 : decode b_La_law 429 = .ok (.invokevirtual 61, 3) := by decide +kernel
theorem d_La_law_432 : decode b_La_law 432 = .ok (.aload_n 2, 1) := by decide +kernel
theorem d_La_law_433 : decode b_La_law 433 = .ok (.aload_n 0, 1) := by decide +kernel
theorem d_La_law_434 : decode b_La_law 434 = .ok (.iload_n 3, 1) := by decide +kernel
theorem d_La_law_435 : decode b_La_law 435 = .ok (.iconst 1, 1) := by decide +kernel
theorem d_La_law_436 : decode b_La_law 436 = .ok (.iadd, 1) := by decide +kernel
theorem d_La_law_437 : decode b_La_law 437 = .ok (.iaload, 1) := by decide +kernel
theorem d_La_law_438 : decode b_La_law 438 = .ok (.invokevirtual 64, 3) := by decide +kernel
theorem d_La_law_441 : decode b_La_law 441 = .ok (.if_icmp .eq 153, 3) := by decide +kernel
theorem d_La_law_444 : decode b_La_law 444 = .ok (.iconst 0, 1) := by decide +kernel
theorem d_La_law_445 : decode b_La_law 445 = .ok (.ireturn, 1) := by decide +kernel
theorem d_La_law_446 : decode b_La_law 446 = .ok (.aload_n 1, 1) := by decide +kernel
theorem d_La_law_447 : decode b_La_law 447 = .ok (.invokevirtual 65, 3) := by decide +kernel
theorem d_La_law_450 : decode b_La_law 450 = .ok (.aload_n 2, 1) := by decide +kernel
theorem d_La_law_451 : decode b_La_law 451 = .ok (.invokevirtual 68, 3) := by decide +kernel
theorem d_La_law_454 : decode b_La_law 454 = .ok (.if_icmp .eq 140, 3) := by decide +kernel
theorem d_La_law_457 : decode b_La_law 457 = .ok (.iconst 0, 1) := by decide +kernel
theorem d_La_law_458 : decode b_La_law 458 = .ok (.ireturn, 1) := by decide +kernel
theorem d_La_law_459 : decode b_La_law 459 = .ok (.aload_n 1, 1) := by decide +kernel
theorem d_La_law_460 : decode b_La_law 460 = .ok (.aload_n 0, 1) := by decide +kernel
theorem d_La_law_461 : decode b_La_law 461 = .ok (.iload_n 3, 1) := by decide +kernel
theorem d_La_law_462 : decode b_La_law 462 = .ok (.iconst 1, 1) := by decide +kernel
theorem d_La_law_463 : decode b_La_law 463 = .ok (.iadd, 1) := by decide +kernel
theorem d_La_law_464 : decode b_La_law 464 = .ok (.iaload, 1) := by decide +kernel
theorem d_La_law_465 : decode b_La_law 465 = .ok (.aload_n 0, 1) := by decide +kernel
theorem d_La_law_466 : decode b_La_law 466 = .ok (.iload_n 3, 1) := by decide +kernel
theorem d_La_law_467 : decode b_La_law 467 = .ok (.iconst 2, 1) := by decide +kernel
theorem d_La_law_468 : decode b_La_law 468 = .ok (.iadd, 1) := by decide +kernel
theorem d_La_law_469 : decode b_La_law 469 = .ok (.iaload, 1) := by decide +kernel
theorem d_La_law_470 : decode b_La_law 470 = .ok (.invokevirtual 69, 3) := by decide +kernel
theorem d_La_law_473 : decode b_La_law 473 = .ok (.aload_n 2, 1) := by decide +kernel
theorem d_La_law_474 : decode b_La_law 474 = .ok (.aload_n 0, 1) := by decide +kernel
theorem d_La_law_475 : decode b_La_law 475 = .ok (.iload_n 3, 1) := by decide +kernel
theorem d_La_law_476 : decode b_La_law 476 = .ok (.iconst 1, 1) := by decide +kernel
theorem d_La_law_477 : decode b_La_law 477 = .ok (.iadd, 1) := by decide +kernel
theorem d_La_law_478 : decode b_La_law 478 = .ok (.iaload, 1) := by decide +kernel
theorem d_La_law_479 : decode b_La_law 479 = .ok (.aload_n 0, 1) := by decide +kernel
theorem d_La_law_480 : decode b_La_law 480 = .ok (.iload_n 3, 1) := by decide +kernel
theorem d_La_law_481 : decode b_La_law 481 = .ok (.iconst 2, 1) := by decide +kernel
theorem d_La_law_482 : decode b_La_law 482 = .ok (.iadd, 1) := by decide +kernel
theorem d_La_law_483 : decode b_La_law 483 = .ok (.iaload, 1) := by decide +kernel
theorem d_La_law_484 : decode b_La_law 484 = .ok (.invokevirtual 72, 3) := by decide +kernel
theorem d_La_law_487 : decode b_La_law 487 = .ok (.if_icmp .eq 107, 3) := by decide +kernel
theorem d_La_law_490 : decode b_La_law 490 = .ok (.iconst 0, 1) := by decide +kernel
theorem d_La_law_491 : decode b_La_law 491 = .ok (.ireturn, 1) := by decide +kernel
theorem d_La_law_492 : decode b_La_law 492 = .ok (.aload_n 1, 1) := by decide +kernel
theorem d_La_law_493 : decode b_La_law 493 = .ok (.aload_n 0, 1) := by decide +kernel
theorem d_La_law_494 : decode b_La_law 494 = .ok (.iload_n 3, 1) := by decide +kernel
theorem d_La_law_495 : decode b_La_law 495 = .ok (.iconst 1, 1) := by decide +kernel
theorem d_La_law_496 : decode b_La_law 496 = .ok (.iadd, 1) := by decide +kernel
theorem d_La_law_497 : decode b_La_law 497 = .ok (.iaload, 1) := by decide +kernel
theorem d_La_law_498 : decode b_La_law 498 = .ok (.aload_n 0, 1) := by decide +kernel
theorem d_La_law_499 : decode b_La_law 499 = .ok (.iload_n 3, 1) := by decide +kernel
theorem d_La_law_500 : decode b_La_law 500 = .ok (.iconst 2, 1) := by decide +kernel
theorem d_La_law_501 : decode b_La_law 501 = .ok (.iadd, 1) := by decide +kernel
theorem d_La_law_502 : decode b_La_law 502 = .ok (.iaload, 1) := by decide +kernel
theorem d_La_law_503 : decode b_La_law 503 = .ok (.aload_n 0, 1) := by decide +kernel
theorem d_La_law_504 : decode b_La_law 504 = .ok (.iload_n 3, 1) := by decide +kernel
theorem d_La_law_505 : decode b_La_law 505 = .ok (.iconst 3, 1) := by decide +kernel
theorem d_La_law_506 : decode b_La_law 506 = .ok (.iadd, 1) := by decide +kernel
theorem d_La_law_507 : decode b_La_law 507 = .ok (.iaload, 1) := by decide +kernel
theorem d_La_law_508 : decode b_La_law 508 = .ok (.invokevirtual 73, 3) := by decide +kernel
theorem d_La_law_511 : decode b_La_law 511 = .ok (.aload_n 2, 1) := by decide +kernel
theorem d_La_law_512 : decode b_La_law 512 = .ok (.aload_n 0, 1) := by decide +kernel
theorem d_La_law_513 : decode b_La_law 513 = .ok (.iload_n 3, 1) := by decide +kernel
theorem d_La_law_514 : decode b_La_law 514 = .ok (.iconst 1, 1) := by decide +kernel
theorem d_La_law_515 : decode b_La_law 515 = .ok (.iadd, 1) := by decide +kernel
theorem d_La_law_516 : decode b_La_law 516 = .ok (.iaload, 1) := by decide +kernel
theorem d_La_law_517 : decode b_La_law 517 = .ok (.aload_n 0, 1) := by decide +kernel
theorem d_La_law_518 : decode b_La_law 518 = .ok (.iload_n 3, 1) := by decide +kernel
theorem d_La_law_519 : decode b_La_law 519 = .ok (.iconst 2, 1) := by decide +kernel
theorem d_La_law_520 : decode b_La_law 520 = .ok (.iadd, 1) := by decide +kernel
theorem d_La_law_521 : decode b_La_law 521 = .ok (.iaload, 1) := by decide +kernel
theorem d_La_law_522 : decode b_La_law 522 = .ok (.aload_n 0, 1) := by decide +kernel
theorem d_La_law_523 : decode b_La_law 523 = .ok (.iload_n 3, 1) := by decide +kernel
theorem d_La_law_524 : decode b_La_law 524 = .ok (.iconst 3, 1) := by decide +kernel
theorem d_La_law_525 : decode b_La_law 525 = .ok (.iadd, 1) := by decide +kernel
theorem d_La_law_526 : decode b_La_law 526 = .ok (.iaload, 1) := by decide +kernel
theorem d_La_law_527 : decode b_La_law 527 = .ok (.invokevirtual 76, 3) := by decide +kernel
theorem d_La_law_530 : decode b_La_law 530 = .ok (.if_icmp .eq 64, 3) := by decide +kernel
theorem d_La_law_533 : decode b_La_law 533 = .ok (.iconst 0, 1) := by decide +kernel
theorem d_La_law_534 : decode b_La_law 534 = .ok (.ireturn, 1) := by decide +kernel
theorem d_La_law_535 : decode b_La_law 535 = .ok (.aload_n 1, 1) := by decide +kernel
theorem d_La_law_536 : decode b_La_law 536 = .ok (.aload_n 0, 1) := by decide +kernel
theorem d_La_law_537 : decode b_La_law 537 = .ok (.iload_n 3, 1) := by decide +kernel
theorem d_La_law_538 : decode b_La_law 538 = .ok (.iconst 1, 1) := by decide +kernel
theorem d_La_law_539 : decode b_La_law 539 = .ok (.iadd, 1) := by decide +kernel
theorem d_La_law_540 : decode b_La_law 540 = .ok (.iaload, 1) := by decide +kernel
theorem d_La_law_541 : decode b_La_law 541 = .ok (.invokevirtual 77, 3) := by decide +kernel
theorem d_La_law_544 : decode b_La_law 544 = .ok (.aload_n 2, 1) := by decide +kernel
theorem d_La_law_545 : decode b_La_law 545 = .ok (.aload_n 0, 1) := by decide +kernel
theorem d_La_law_546 : decode b_La_law 546 = .ok (.iload_n 3, 1) := by decide +kernel
theorem d_La_law_547 : decode b_La_law 547 = .ok (.iconst 1, 1) := by decide +kernel
theorem d_La_law_548 : decode b_La_law 548 = .ok (.iadd, 1) := by decide +kernel
theorem d_La_law_549 : decode b_La_law 549 = .ok (.iaload, 1) := by decide +kernel
theorem d_La_law_550 : decode b_La_law 550 = .ok (.invokevirtual 80, 3) := by decide +kernel
theorem d_La_law_553 : decode b_La_law 553 = .ok (.if_icmp .eq 41, 3) := by decide +kernel
theorem d_La_law_556 : decode b_La_law 556 = .ok (.iconst 0, 1) := by decide +kernel
theorem d_La_law_557 : decode b_La_law 557 = .ok (.ireturn, 1) := by decide +kernel
theorem d_La_law_558 : decode b_La_law 558 = .ok (.aload_n 1, 1) := by decide +kernel
theorem d_La_law_559 : decode b_La_law 559 = .ok (.invokevirtual 81, 3) := by decide +kernel
theorem d_La_law_562 : decode b_La_law 562 = .ok (.aload_n 2, 1) := by decide +kernel
theorem d_La_law_563 : decode b_La_law 563 = .ok (.invokevirtual 84, 3) := by decide +kernel
theorem d_La_law_566 : decode b_La_law 566 = .ok (.if_icmp .eq 28, 3) := by decide +kernel
theorem d_La_law_569 : decode b_La_law 569 = .ok (.iconst 0, 1) := by decide +kernel
theorem d_La_law_570 : decode b_La_law 570 = .ok (.ireturn, 1) := by decide +kernel
theorem d_La_law_571 : decode b_La_law 571 = .ok (.aload_n 1, 1) := by decide +kernel
theorem d_La_law_572 : decode b_La_law 572 = .ok (.aload_n 0, 1) := by decide +kernel
theorem d_La_law_573 : decode b_La_law 573 = .ok (.iload_n 3, 1) := by decide +kernel
theorem d_La_law_574 : decode b_La_law 574 = .ok (.iconst 1, 1) := by decide +kernel
theorem d_La_law_575 : decode b_La_law 575 = .ok (.iadd, 1) := by decide +kernel
theorem d_La_law_576 : decode b_La_law 576 = .ok (.iaload, 1) := by decide +kernel
theorem d_La_law_577 : decode b_La_law 577 = .ok (.invokevirtual 85, 3) := by decide +kernel
theorem d_La_law_580 : decode b_La_law 580 = .ok (.aload_n 2, 1) := by decide +kernel
theorem d_La_law_581 : decode b_La_law 581 = .ok (.aload_n 0, 1) := by decide +kernel
theorem d_La_law_582 : decode b_La_law 582 = .ok (.iload_n 3, 1) := by decide +kernel
theorem d_La_law_583 : decode b_La_law 583 = .ok (.iconst 1, 1) := by decide +kernel
theorem d_La_law_584 : decode b_La_law 584 = .ok (.iadd, 1) := by decide +kernel
theorem d_La_law_585 : decode b_La_law 585 = .ok (.iaload, 1) := by decide +kernel
theorem d_La_law_586 : decode b_La_law 586 = .ok (.invokevirtual 88, 3) := by decide +kernel
theorem d_La_law_589 : decode b_La_law 589 = .ok (.if_icmp .eq 5, 3) := by decide +kernel
theorem d_La_law_592 : decode b_La_law 592 = .ok (.iconst 0, 1) := by decide +kernel
theorem d_La_law_593 : decode b_La_law 593 = .ok (.ireturn, 1) := by decide +kernel
theorem d_La_law_594 : decode b_La_law 594 = .ok (.iinc 3 4, 3) := by decide +kernel
theorem d_La_law_597 : decode b_La_law 597 = .ok (.goto (-579), 3) := by decide +kernel
theorem d_La_law_600 : decode b_La_law 600 = .ok (.iconst 1, 1) := by decide +kernel
theorem d_La_law_601 : decode b_La_law 601 = .ok (.ireturn, 1) := by decide +kernel
