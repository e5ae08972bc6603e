theorem dX8_lay_223 : decode cX8_lay 223 = .ok (.getfield 72, 3) := by decide +kernel
theorem dX8_lay_226 : decode cX8_lay 226 = .ok (.iload_n 2, 1) := by decide +kernel
theorem dX8_lay_227 : decode cX8_lay 227 = .ok (.aload_n 0, 1) := by decide +kernel
theorem dX8_lay_228 : decode cX8_lay 228 = .ok (.aload_n 0, 1) := by decide +kernel
theorem dX8_lay_229 : decode cX8_lay 229 = .ok (.getfield 54, 3) := by decide +kernel
theorem dX8_lay_232 : decode cX8_lay 232 = .ok (.iload 4, 2) := by decide +kernel
theorem dX8_lay_234 : decode cX8_lay 234 = .ok (.iaload, 1) := by decide +kernel
theorem dX8_lay_235 : decode cX8_lay 235 = .ok (.invokevirtual 177, 3) := by decide +kernel
theorem dX8_lay_238 : decode cX8_lay 238 = .ok (.iastore, 1) := by decide +kernel
theorem dX8_lay_239 : decode cX8_lay 239 = .ok (.iload 5, 2) := by decide +kernel
theorem dX8_lay_241 : decode cX8_lay 241 = .ok (.iconst 1, 1) := by decide +kernel
theorem dX8_lay_242 : decode cX8_lay 242 = .ok (.if_icmp .ne 10, 3) := by decide +kernel
theorem dX8_lay_245 : decode cX8_lay 245 = .ok (.aload_n 0, 1) := by decide +kernel
theorem dX8_lay_246 : decode cX8_lay 246 = .ok (.getfield 75, 3) := by decide +kernel
theorem dX8_lay_249 : decode cX8_lay 249 = .ok (.iload_n 2, 1) := by decide +kernel
theorem dX8_lay_250 : decode cX8_lay 250 = .ok (.iload_n 3, 1) := by decide +kernel
theorem dX8_lay_251 : decode cX8_lay 251 = .ok (.iastore, 1) := by decide +kernel
theorem dX8_lay_252 : decode cX8_lay 252 = .ok (.iload 5, 2) := by decide +kernel
theorem dX8_lay_254 : decode cX8_lay 254 = .ok (.ifCond .ne 13, 3) := by decide +kernel
theorem dX8_lay_257 : decode cX8_lay 257 = .ok (.aload_n 0, 1) := by decide +kernel
theorem dX8_lay_258 : decode cX8_lay 258 = .ok (.getfield 60, 3) := by decide +kernel
theorem dX8_lay_261 : decode cX8_lay 261 = .ok (.iload 4, 2) := by decide +kernel
theorem dX8_lay_263 : decode cX8_lay 263 = .ok (.iaload, 1) := by decide +kernel
theorem dX8_lay_264 : decode cX8_lay 264 = .ok (.goto 30, 3) := by decide +kernel
theorem dX8_lay_267 : decode cX8_lay 267 = .ok (.iload 5, 2) := by decide +kernel
theorem dX8_lay_269 : decode cX8_lay 269 = .ok (.iconst 1, 1) := by decide +kernel
theorem dX8_lay_270 : decode cX8_lay 270 = .ok (.if_icmp .ne 23, 3) := by decide +kernel
theorem dX8_lay_273 : decode cX8_lay 273 = .ok (.aload_n 0, 1) := by decide +kernel
theorem dX8_lay_274 : decode cX8_lay 274 = .ok (.getfield 63, 3) := by decide +kernel
theorem dX8_lay_277 : decode cX8_lay 277 = .ok (.iload 4, 2) := by decide +kernel
theorem dX8_lay_279 : decode cX8_lay 279 = .ok (.iaload, 1) := by decide +kernel
theorem dX8_lay_280 : decode cX8_lay 280 = .ok (.ifCond .eq 13, 3) := by decide +kernel
theorem dX8_lay_283 : decode cX8_lay 283 = .ok (.aload_n 0, 1) := by decide +kernel
theorem dX8_lay_284 : decode cX8_lay 284 = .ok (.getfield 63, 3) := by decide +kernel
theorem dX8_lay_287 : decode cX8_lay 287 = .ok (.iload 4, 2) := by decide +kernel
theorem dX8_lay_289 : decode cX8_lay 289 = .ok (.iaload, 1) := by decide +kernel
theorem dX8_lay_290 : decode cX8_lay 290 = .ok (.goto 4, 3) := by decide +kernel
theorem dX8_lay_293 : decode cX8_lay 293 = .ok (.iconst 0, 1) := by decide +kernel
theorem dX8_lay_294 : decode cX8_lay 294 = .ok (.istore 6, 2) := by decide +kernel
theorem dX8_lay_296 : decode cX8_lay 296 = .ok (.iload 6, 2) := by decide +kernel
theorem dX8_lay_298 : decode cX8_lay 298 = .ok (.ifCond .eq 24, 3) := by decide +kernel
theorem dX8_lay_301 : decode cX8_lay 301 = .ok (.iinc 2 1, 3) := by decide +kernel
theorem dX8_lay_304 : decode cX8_lay 304 = .ok (.aload_n 0, 1) := by decide +kernel
theorem dX8_lay_305 : decode cX8_lay 305 = .ok (.getfield 66, 3) := by decide +kernel
theorem dX8_lay_308 : decode cX8_lay 308 = .ok (.iload_n 2, 1) := by decide +kernel
theorem dX8_lay_309 : decode cX8_lay 309 = .ok (.iload 6, 2) := by decide +kernel
theorem dX8_lay_311 : decode cX8_lay 311 = .ok (.iastore, 1) := by decide +kernel
theorem dX8_lay_312 : decode cX8_lay 312 = .ok (.aload_n 0, 1) := by decide +kernel
theorem dX8_lay_313 : decode cX8_lay 313 = .ok (.getfield 69, 3) := by decide +kernel
theorem dX8_lay_316 : decode cX8_lay 316 = .ok (.iload_n 2, 1) := by decide +kernel
theorem dX8_lay_317 : decode cX8_lay 317 = .ok (.iconst 0, 1) := by decide +kernel
theorem dX8_lay_318 : decode cX8_lay 318 = .ok (.iastore, 1) := by decide +kernel
theorem dX8_lay_319 : decode cX8_lay 319 = .ok (.goto 26, 3) := by decide +kernel
theorem dX8_lay_322 : decode cX8_lay 322 = .ok (.aload_n 0, 1) := by decide +kernel
theorem dX8_lay_323 : decode cX8_lay 323 = .ok (.iload 4, 2) := by decide +kernel
theorem dX8_lay_325 : decode cX8_lay 325 = .ok (.iload_n 3, 1) := by decide +kernel
theorem dX8_lay_326 : decode cX8_lay 326 = .ok (.aload_n 0, 1) := by decide +kernel
theorem dX8_lay_327 : decode cX8_lay 327 = .ok (.getfield 75, 3) := by decide +kernel
theorem dX8_lay_330 : decode cX8_lay 330 = .ok (.iload_n 2, 1) := by decide +kernel
theorem dX8_lay_331 : decode cX8_lay 331 = .ok (.iaload, 1) := by decide +kernel
theorem dX8_lay_332 : decode cX8_lay 332 = .ok (.aload_n 0, 1) := by decide +kernel
theorem dX8_lay_333 : decode cX8_lay 333 = .ok (.getfield 72, 3) := by decide +kernel
theorem dX8_lay_336 : decode cX8_lay 336 = .ok (.iload_n 2, 1) := by decide +kernel
theorem dX8_lay_337 : decode cX8_lay 337 = .ok (.iaload, 1) := by decide +kernel
theorem dX8_lay_338 : decode cX8_lay 338 = .ok (.invokevirtual 180, 3) := by decide +kernel
theorem dX8_lay_341 : decode cX8_lay 341 = .ok (.istore_n 3, 1) := by decide +kernel
theorem dX8_lay_342 : decode cX8_lay 342 = .ok (.iinc 2 (-1), 3) := by decide +kernel
theorem dX8_lay_345 : decode cX8_lay 345 = .ok (.goto (-327), 3) := by decide +kernel
theorem dX8_lay_348 : decode cX8_lay 348 = .ok (.aload_n 0, 1) := by decide +kernel
theorem dX8_lay_349 : decode cX8_lay 349 = .ok (.getfield 106, 3) := by decide +kernel
theorem dX8_lay_352 : decode cX8_lay 352 = .ok (.ifCond .eq 10, 3) := by decide +kernel
theorem dX8_lay_355 : decode cX8_lay 355 = .ok (.aload_n 0, 1) := by decide +kernel
theorem dX8_lay_356 : decode cX8_lay 356 = .ok (.getfield 106, 3) := by decide +kernel
theorem dX8_lay_359 : decode cX8_lay 359 = .ok (.goto 4, 3) := by decide +kernel
theorem dX8_lay_362 : decode cX8_lay 362 = .ok (.iload_n 3, 1) := by decide +kernel
theorem dX8_lay_363 : decode cX8_lay 363 = .ok (.ireturn, 1) := by decide +kernel
theorem dX8_around_0 : decode cX8_around 0 = .ok (.aload_n 0, 1) := by decide +kernel
theorem dX8_around_1 : decode cX8_around 1 = .ok (.getfield 54, 3) := by decide +kernel
theorem dX8_around_4 : decode cX8_around 4 = .ok (.iload_n 1, 1) := by decide +kernel
theorem dX8_around_5 : decode cX8_around 5 = .ok (.iaload, 1) := by decide +kernel
theorem dX8_around_6 : decode cX8_around 6 = .ok (.istore 5, 2) := by decide +kernel
theorem dX8_around_8 : decode cX8_around 8 = .ok (.aload_n 0, 1) := by decide +kernel
theorem dX8_around_9 : decode cX8_around 9 = .ok (.getfield 57, 3) := by decide +kernel
theorem dX8_around_12 : decode cX8_around 12 = .ok (.iload_n 1, 1) := by decide +kernel
theorem dX8_around_13 : decode cX8_around 13 = .ok (.iaload, 1) := by decide +kernel
theorem dX8_around_14 : decode cX8_around 14 = .ok (.istore 6, 2) := by decide +kernel
theorem dX8_around_16 : decode cX8_around 16 = .ok (.iload 5, 2) := by decide +kernel
theorem dX8_around_18 : decode cX8_around 18 = .ok (.ifCond .le 13, 3) := by decide +kernel
theorem dX8_around_21 : decode cX8_around 21 = .ok (.aload_n 0, 1) := by decide +kernel
theorem dX8_around_22 : decode cX8_around 22 = .ok (.getfield 13, 3) := by decide +kernel
theorem dX8_around_25 : decode cX8_around 25 = .ok (.iload 5, 2) := by decide +kernel
theorem dX8_around_27 : decode cX8_around 27 = .ok (.iaload, 1) := by decide +kernel
theorem dX8_around_28 : decode cX8_around 28 = .ok (.goto 4, 3) := by decide +kernel
theorem dX8_around_31 : decode cX8_around 31 = .ok (.iconst 0, 1) := by decide +kernel
theorem dX8_around_32 : decode cX8_around 32 = .ok (.istore 7, 2) := by decide +kernel
theorem dX8_around_34 : decode cX8_around 34 = .ok (.iload 5, 2) := by decide +kernel
theorem dX8_around_36 : decode cX8_around 36 = .ok (.ifCond .le 13, 3) := by decide +kernel
theorem dX8_around_39 : decode cX8_around 39 = .ok (.aload_n 0, 1) := by decide +kernel
theorem dX8_around_40 : decode cX8_around 40 = .ok (.getfield 16, 3) := by decide +kernel
theorem dX8_around_43 : decode cX8_around 43 = .ok (.iload 5, 2) := by decide +kernel
theorem dX8_around_45 : decode cX8_around 45 = .ok (.iaload, 1) := by decide +kernel
theorem dX8_around_46 : decode cX8_around 46 = .ok (.goto 4, 3) := by decide +kernel
theorem dX8_around_49 : decode cX8_around 49 = .ok (.iconst 0, 1) := by decide +kernel
theorem dX8_around_50 : decode cX8_around 50 = .ok (.istore 8, 2) := by decide +kernel
theorem dX8_around_52 : decode cX8_around 52 = .ok (.aload_n 0, 1) := by decide +kernel
theorem dX8_around_53 : decode cX8_around 53 = .ok (.getfield 51, 3) := by decide +kernel
theorem dX8_around_56 : decode cX8_around 56 = .ok (.iload_n 1, 1) := by decide +kernel
theorem dX8_around_57 : decode cX8_around 57 = .ok (.iaload, 1) := by decide +kernel
theorem dX8_around_58 : decode cX8_around 58 = .ok (.tableswitch 231 1 10 #[54, 61, 80, 91, 104, 164, 177, 213, 215, 223], 54) := by decide +kernel
theorem dX8_around_112 : decode cX8_around 112 = .ok (.aload_n 0, 1) := by decide +kernel
theorem dX8_around_113 : decode cX8_around 113 = .ok (.iload 6, 2) := by decide +kernel
theorem dX8_around_115 : decode cX8_around 115 = .ok (.invokevirtual 177, 3) := by decide +kernel
theorem dX8_around_118 : decode cX8_around 118 = .ok (.ireturn, 1) := by decide +kernel
theorem dX8_around_119 : decode cX8_around 119 = .ok (.aload_n 0, 1) := by decide +kernel
theorem dX8_around_120 : decode cX8_around 120 = .ok (.bipush 9, 2) := by decide +kernel
theorem dX8_around_122 : decode cX8_around 122 = .ok (.iload 6, 2) := by decide +kernel
theorem dX8_around_124 : decode cX8_around 124 = .ok (.aload_n 0, 1) := by decide +kernel
theorem dX8_around_125 : decode cX8_around 125 = .ok (.aload_n 0, 1) := by decide +kernel
theorem dX8_around_126 : decode cX8_around 126 = .ok (.invokevirtual 125, 3) := by decide +kernel
theorem dX8_around_129 : decode cX8_around 129 = .ok (.invokevirtual 177, 3) := by decide +kernel
theorem dX8_around_132 : decode cX8_around 132 = .ok (.iconst 0, 1) := by decide +kernel
theorem dX8_around_133 : decode cX8_around 133 = .ok (.iconst 0, 1) := by decide +kernel
theorem dX8_around_134 : decode cX8_around 134 = .ok (.invokevirtual 171, 3) := by decide +kernel
theorem dX8_around_137 : decode cX8_around 137 = .ok (.ireturn, 1) := by decide +kernel
theorem dX8_around_138 : decode cX8_around 138 = .ok (.aload_n 0, 1) := by decide +kernel
theorem dX8_around_139 : decode cX8_around 139 = .ok (.iconst 3, 1) := by decide +kernel
theorem dX8_around_140 : decode cX8_around 140 = .ok (.iload 6, 2) := by decide +kernel
theorem dX8_around_142 : decode cX8_around 142 = .ok (.iload_n 3, 1) := by decide +kernel
theorem dX8_around_143 : decode cX8_around 143 = .ok (.iload_n 2, 1) := by decide +kernel
theorem dX8_around_144 : decode cX8_around 144 = .ok (.iconst 0, 1) := by decide +kernel
theorem dX8_around_145 : decode cX8_around 145 = .ok (.invokevirtual 171, 3) := by decide +kernel
theorem dX8_around_148 : decode cX8_around 148 = .ok (.ireturn, 1) := by decide +kernel
theorem dX8_around_149 : decode cX8_around 149 = .ok (.aload_n 0, 1) := by decide +kernel
theorem dX8_around_150 : decode cX8_around 150 = .ok (.aload_n 0, 1) := by decide +kernel
theorem dX8_around_151 : decode cX8_around 151 = .ok (.getfield 13, 3) := by decide +kernel
theorem dX8_around_154 : decode cX8_around 154 = .ok (.iload 6, 2) := by decide +kernel
theorem dX8_around_156 : decode cX8_around 156 = .ok (.iaload, 1) := by decide +kernel
theorem dX8_around_157 : decode cX8_around 157 = .ok (.iload_n 2, 1) := by decide +kernel
theorem dX8_around_158 : decode cX8_around 158 = .ok (.invokevirtual 174, 3) := by decide +kernel
theorem dX8_around_161 : decode cX8_around 161 = .ok (.ireturn, 1) := by decide +kernel
theorem dX8_around_162 : decode cX8_around 162 = .ok (.aload_n 0, 1) := by decide +kernel
theorem dX8_around_163 : decode cX8_around 163 = .ok (.iload 7, 2) := by decide +kernel
theorem dX8_around_165 : decode cX8_around 165 = .ok (.aload_n 0, 1) := by decide +kernel
theorem dX8_around_166 : decode cX8_around 166 = .ok (.iload 8, 2) := by decide +kernel
theorem dX8_around_168 : decode cX8_around 168 = .ok (.iload_n 2, 1) := by decide +kernel
theorem dX8_around_169 : decode cX8_around 169 = .ok (.invokevirtual 174, 3) := by decide +kernel
theorem dX8_around_172 : decode cX8_around 172 = .ok (.invokevirtual 174, 3) := by decide +kernel
theorem dX8_around_175 : decode cX8_around 175 = .ok (.istore 9, 2) := by decide +kernel
theorem dX8_around_177 : decode cX8_around 177 = .ok (.aload_n 0, 1) := by decide +kernel
theorem dX8_around_178 : decode cX8_around 178 = .ok (.iload 9, 2) := by decide +kernel
theorem dX8_around_180 : decode cX8_around 180 = .ok (.aload_n 0, 1) := by decide +kernel
theorem dX8_around_181 : decode cX8_around 181 = .ok (.iconst 4, 1) := by decide +kernel
theorem dX8_around_182 : decode cX8_around 182 = .ok (.iload 7, 2) := by decide +kernel
theorem dX8_around_184 : decode cX8_around 184 = .ok (.aload_n 0, 1) := by decide +kernel
theorem dX8_around_185 : decode cX8_around 185 = .ok (.iload 5, 2) := by decide +kernel
theorem dX8_around_187 : decode cX8_around 187 = .ok (.invokevirtual 177, 3) := by decide +kernel
theorem dX8_around_190 : decode cX8_around 190 = .ok (.iconst 0, 1) := by decide +kernel
theorem dX8_around_191 : decode cX8_around 191 = .ok (.iconst 0, 1) := by decide +kernel
theorem dX8_around_192 : decode cX8_around 192 = .ok (.invokevirtual 171, 3) := by decide +kernel
theorem dX8_around_195 : decode cX8_around 195 = .ok (.invokevirtual 184, 3) := by decide +kernel
theorem dX8_around_198 : decode cX8_around 198 = .ok (.istore 10, 2) := by decide +kernel
theorem dX8_around_200 : decode cX8_around 200 = .ok (.aload_n 0, 1) := by decide +kernel
theorem dX8_around_201 : decode cX8_around 201 = .ok (.iload 10, 2) := by decide +kernel
theorem dX8_around_203 : decode cX8_around 203 = .ok (.aload_n 0, 1) := by decide +kernel
theorem dX8_around_204 : decode cX8_around 204 = .ok (.iconst 5, 1) := by decide +kernel
theorem dX8_around_205 : decode cX8_around 205 = .ok (.iload 8, 2) := by decide +kernel
theorem dX8_around_207 : decode cX8_around 207 = .ok (.aload_n 0, 1) := by decide +kernel
theorem dX8_around_208 : decode cX8_around 208 = .ok (.iload 5, 2) := by decide +kernel
theorem dX8_around_210 : decode cX8_around 210 = .ok (.invokevirtual 177, 3) := by decide +kernel
theorem dX8_around_213 : decode cX8_around 213 = .ok (.iconst 0, 1) := by decide +kernel
theorem dX8_around_214 : decode cX8_around 214 = .ok (.iconst 0, 1) := by decide +kernel
theorem dX8_around_215 : decode cX8_around 215 = .ok (.invokevirtual 171, 3) := by decide +kernel
theorem dX8_around_218 : decode cX8_around 218 = .ok (.invokevirtual 184, 3) := by decide +kernel
theorem dX8_around_221 : decode cX8_around 221 = .ok (.ireturn, 1) := by decide +kernel
theorem dX8_around_222 : decode cX8_around 222 = .ok (.aload_n 0, 1) := by decide +kernel
theorem dX8_around_223 : decode cX8_around 223 = .ok (.bipush 8, 2) := by decide +kernel
theorem dX8_around_225 : decode cX8_around 225 = .ok (.iload 6, 2) := by decide +kernel
theorem dX8_around_227 : decode cX8_around 227 = .ok (.iload 4, 2) := by decide +kernel
theorem dX8_around_229 : decode cX8_around 229 = .ok (.iload_n 3, 1) := by decide +kernel
theorem dX8_around_230 : decode cX8_around 230 = .ok (.iload_n 2, 1) := by decide +kernel
theorem dX8_around_231 : decode cX8_around 231 = .ok (.invokevirtual 171, 3) := by decide +kernel
theorem dX8_around_234 : decode cX8_around 234 = .ok (.ireturn, 1) := by decide +kernel
theorem dX8_around_235 : decode cX8_around 235 = .ok (.aload_n 0, 1) := by decide +kernel
theorem dX8_around_236 : decode cX8_around 236 = .ok (.iload 8, 2) := by decide +kernel
theorem dX8_around_238 : decode cX8_around 238 = .ok (.iload_n 2, 1) := by decide +kernel
theorem dX8_around_239 : decode cX8_around 239 = .ok (.invokevirtual 174, 3) := by decide +kernel
theorem dX8_around_242 : decode cX8_around 242 = .ok (.istore 11, 2) := by decide +kernel
theorem dX8_around_244 : decode cX8_around 244 = .ok (.aload_n 0, 1) := by decide +kernel
theorem dX8_around_245 : decode cX8_around 245 = .ok (.iload 5, 2) := by decide +kernel
theorem dX8_around_247 : decode cX8_around 247 = .ok (.invokevirtual 177, 3) := by decide +kernel
theorem dX8_around_250 : decode cX8_around 250 = .ok (.istore 12, 2) := by decide +kernel
theorem dX8_around_252 : decode cX8_around 252 = .ok (.aload_n 0, 1) := by decide +kernel
theorem dX8_around_253 : decode cX8_around 253 = .ok (.iload 11, 2) := by decide +kernel
theorem dX8_around_255 : decode cX8_around 255 = .ok (.aload_n 0, 1) := by decide +kernel
theorem dX8_around_256 : decode cX8_around 256 = .ok (.iload 12, 2) := by decide +kernel
theorem dX8_around_258 : decode cX8_around 258 = .ok (.aload_n 0, 1) := by decide +kernel
theorem dX8_around_259 : decode cX8_around 259 = .ok (.iload 7, 2) := by decide +kernel
theorem dX8_around_261 : decode cX8_around 261 = .ok (.invokevirtual 177, 3) := by decide +kernel
theorem dX8_around_264 : decode cX8_around 264 = .ok (.invokevirtual 184, 3) := by decide +kernel
theorem dX8_around_267 : decode cX8_around 267 = .ok (.invokevirtual 184, 3) := by decide +kernel
theorem dX8_around_270 : decode cX8_around 270 = .ok (.ireturn, 1) := by decide +kernel
theorem dX8_around_271 : decode cX8_around 271 = .ok (.iload_n 2, 1) := by decide +kernel
theorem dX8_around_272 : decode cX8_around 272 = .ok (.ireturn, 1) := by decide +kernel
theorem dX8_around_273 : decode cX8_around 273 = .ok (.aload_n 0, 1) := by decide +kernel
theorem dX8_around_274 : decode cX8_around 274 = .ok (.iload 5, 2) := by decide +kernel
theorem dX8_around_276 : decode cX8_around 276 = .ok (.iload_n 2, 1) := by decide +kernel
theorem dX8_around_277 : decode cX8_around 277 = .ok (.invokevirtual 187, 3) := by decide +kernel
theorem dX8_around_280 : decode cX8_around 280 = .ok (.ireturn, 1) := by decide +kernel
theorem dX8_around_281 : decode cX8_around 281 = .ok (.aload_n 0, 1) := by decide +kernel
theorem dX8_around_282 : decode cX8_around 282 = .ok (.iload 5, 2) := by decide +kernel
theorem dX8_around_284 : decode cX8_around 284 = .ok (.iload_n 2, 1) := by decide +kernel
theorem dX8_around_285 : decode cX8_around 285 = .ok (.invokevirtual 190, 3) := by decide +kernel
theorem dX8_around_288 : decode cX8_around 288 = .ok (.ireturn, 1) := by decide +kernel
theorem dX8_around_289 : decode cX8_around 289 = .ok (.iload 5, 2) := by decide +kernel
theorem dX8_around_291 : decode cX8_around 291 = .ok (.ifCond .ge 28, 3) := by decide +kernel
theorem dX8_around_294 : decode cX8_around 294 = .ok (.aload_n 0, 1) := by decide +kernel
theorem dX8_around_295 : decode cX8_around 295 = .ok (.iload 5, 2) := by decide +kernel
theorem dX8_around_297 : decode cX8_around 297 = .ok (.iconst (-1), 1) := by decide +kernel
theorem dX8_around_298 : decode cX8_around 298 = .ok (.if_icmp .ne 8, 3) := by decide +kernel
theorem dX8_around_301 : decode cX8_around 301 = .ok (.bipush 6, 2) := by decide +kernel
theorem dX8_around_303 : decode cX8_around 303 = .ok (.goto 5, 3) := by decide +kernel
theorem dX8_around_306 : decode cX8_around 306 = .ok (.bipush 7, 2) := by decide +kernel
theorem dX8_around_308 : decode cX8_around 308 = .ok (.iload 6, 2) := by decide +kernel
theorem dX8_around_310 : decode cX8_around 310 = .ok (.iload_n 2, 1) := by decide +kernel
theorem dX8_around_311 : decode cX8_around 311 = .ok (.iconst 0, 1) := by decide +kernel
theorem dX8_around_312 : decode cX8_around 312 = .ok (.iconst 0, 1) := by decide +kernel
theorem dX8_around_313 : decode cX8_around 313 = .ok (.invokevirtual 171, 3) := by decide +kernel
theorem dX8_around_316 : decode cX8_around 316 = .ok (.goto 13, 3) := by decide +kernel
theorem dX8_around_319 : decode cX8_around 319 = .ok (.aload_n 0, 1) := by decide +kernel
theorem dX8_around_320 : decode cX8_around 320 = .ok (.iload 5, 2) := by decide +kernel
theorem dX8_around_322 : decode cX8_around 322 = .ok (.iload_n 2, 1) := by decide +kernel
theorem dX8_around_323 : decode cX8_around 323 = .ok (.iload_n 3, 1) := by decide +kernel
theorem dX8_around_324 : decode cX8_around 324 = .ok (.iload 4, 2) := by decide +kernel
theorem dX8_around_326 : decode cX8_around 326 = .ok (.invokevirtual 193, 3) := by decide +kernel
theorem dX8_around_329 : decode cX8_around 329 = .ok (.ireturn, 1) := by decide +kernel
theorem dX8_curried_0 : decode cX8_curried 0 = .ok (.aload_n 0, 1) := by decide +kernel
theorem dX8_curried_1 : decode cX8_curried 1 = .ok (.getfield 13, 3) := by decide +kernel
theorem dX8_curried_4 : decode cX8_curried 4 = .ok (.aload_n 0, 1) := by decide +kernel
theorem dX8_curried_5 : decode cX8_curried 5 = .ok (.getfield 13, 3) := by decide +kernel
theorem dX8_curried_8 : decode cX8_curried 8 = .ok (.iload_n 1, 1) := by decide +kernel
theorem dX8_curried_9 : decode cX8_curried 9 = .ok (.iaload, 1) := by decide +kernel
theorem dX8_curried_10 : decode cX8_curried 10 = .ok (.iaload, 1) := by decide +kernel
theorem dX8_curried_11 : decode cX8_curried 11 = .ok (.istore_n 3, 1) := by decide +kernel
theorem dX8_curried_12 : decode cX8_curried 12 = .ok (.aload_n 0, 1) := by decide +kernel
theorem dX8_curried_13 : decode cX8_curried 13 = .ok (.getfield 16, 3) := by decide +kernel
theorem dX8_curried_16 : decode cX8_curried 16 = .ok (.aload_n 0, 1) := by decide +kernel
theorem dX8_curried_17 : decode cX8_curried 17 = .ok (.getfield 13, 3) := by decide +kernel
theorem dX8_curried_20 : decode cX8_curried 20 = .ok (.iload_n 1, 1) := by decide +kernel
theorem dX8_curried_21 : decode cX8_curried 21 = .ok (.iaload, 1) := by decide +kernel
theorem dX8_curried_22 : decode cX8_curried 22 = .ok (.iaload, 1) := by decide +kernel
theorem dX8_curried_23 : decode cX8_curried 23 = .ok (.istore 4, 2) := by decide +kernel
theorem dX8_curried_25 : decode cX8_curried 25 = .ok (.aload_n 0, 1) := by decide +kernel
theorem dX8_curried_26 : decode cX8_curried 26 = .ok (.aload_n 0, 1) := by decide +kernel
theorem dX8_curried_27 : decode cX8_curried 27 = .ok (.iload_n 3, 1) := by decide +kernel
theorem dX8_curried_28 : decode cX8_curried 28 = .ok (.aload_n 0, 1) := by decide +kernel
theorem dX8_curried_29 : decode cX8_curried 29 = .ok (.iload 4, 2) := by decide +kernel
theorem dX8_curried_31 : decode cX8_curried 31 = .ok (.aload_n 0, 1) := by decide +kernel
theorem dX8_curried_32 : decode cX8_curried 32 = .ok (.getfield 16, 3) := by decide +kernel
theorem dX8_curried_35 : decode cX8_curried 35 = .ok (.iload_n 1, 1) := by decide +kernel
theorem dX8_curried_36 : decode cX8_curried 36 = .ok (.iaload, 1) := by decide +kernel
theorem dX8_curried_37 : decode cX8_curried 37 = .ok (.invokevirtual 141, 3) := by decide +kernel
theorem dX8_curried_40 : decode cX8_curried 40 = .ok (.invokevirtual 141, 3) := by decide +kernel
theorem dX8_curried_43 : decode cX8_curried 43 = .ok (.iload_n 2, 1) := by decide +kernel
theorem dX8_curried_44 : decode cX8_curried 44 = .ok (.invokevirtual 174, 3) := by decide +kernel
theorem dX8_curried_47 : decode cX8_curried 47 = .ok (.istore 5, 2) := by decide +kernel
theorem dX8_curried_49 : decode cX8_curried 49 = .ok (.aload_n 0, 1) := by decide +kernel
theorem dX8_curried_50 : decode cX8_curried 50 = .ok (.iload_n 1, 1) := by decide +kernel
theorem dX8_curried_51 : decode cX8_curried 51 = .ok (.invokevirtual 177, 3) := by decide +kernel
theorem dX8_curried_54 : decode cX8_curried 54 = .ok (.istore 6, 2) := by decide +kernel
theorem dX8_curried_56 : decode cX8_curried 56 = .ok (.aload_n 0, 1) := by decide +kernel
theorem dX8_curried_57 : decode cX8_curried 57 = .ok (.iload_n 3, 1) := by decide +kernel
theorem dX8_curried_58 : decode cX8_curried 58 = .ok (.invokevirtual 177, 3) := by decide +kernel
theorem dX8_curried_61 : decode cX8_curried 61 = .ok (.istore 7, 2) := by decide +kernel
theorem dX8_curried_63 : decode cX8_curried 63 = .ok (.aload_n 0, 1) := by decide +kernel
theorem dX8_curried_64 : decode cX8_curried 64 = .ok (.iconst 3, 1) := by decide +kernel
theorem dX8_curried_65 : decode cX8_curried 65 = .ok (.aload_n 0, 1) := by decide +kernel
theorem dX8_curried_66 : decode cX8_curried 66 = .ok (.getfield 13, 3) := by decide +kernel
theorem dX8_curried_69 : decode cX8_curried 69 = .ok (.iload_n 1, 1) := by decide +kernel
theorem dX8_curried_70 : decode cX8_curried 70 = .ok (.iaload, 1) := by decide +kernel
theorem dX8_curried_71 : decode cX8_curried 71 = .ok (.iload 7, 2) := by decide +kernel
theorem dX8_curried_73 : decode cX8_curried 73 = .ok (.aload_n 0, 1) := by decide +kernel
theorem dX8_curried_74 : decode cX8_curried 74 = .ok (.iload 4, 2) := by decide +kernel
theorem dX8_curried_76 : decode cX8_curried 76 = .ok (.invokevirtual 177, 3) := by decide +kernel
theorem dX8_curried_79 : decode cX8_curried 79 = .ok (.iconst 0, 1) := by decide +kernel
theorem dX8_curried_80 : decode cX8_curried 80 = .ok (.invokevirtual 171, 3) := by decide +kernel
theorem dX8_curried_83 : decode cX8_curried 83 = .ok (.istore 8, 2) := by decide +kernel
theorem dX8_curried_85 : decode cX8_curried 85 = .ok (.aload_n 0, 1) := by decide +kernel
theorem dX8_curried_86 : decode cX8_curried 86 = .ok (.iload 5, 2) := by decide +kernel
theorem dX8_curried_88 : decode cX8_curried 88 = .ok (.aload_n 0, 1) := by decide +kernel
theorem dX8_curried_89 : decode cX8_curried 89 = .ok (.iload_n 3, 1) := by decide +kernel
theorem dX8_curried_90 : decode cX8_curried 90 = .ok (.aload_n 0, 1) := by decide +kernel
theorem dX8_curried_91 : decode cX8_curried 91 = .ok (.iload 4, 2) := by decide +kernel
theorem dX8_curried_93 : decode cX8_curried 93 = .ok (.aload_n 0, 1) := by decide +kernel
theorem dX8_curried_94 : decode cX8_curried 94 = .ok (.iload 6, 2) := by decide +kernel
theorem dX8_curried_96 : decode cX8_curried 96 = .ok (.iload 8, 2) := by decide +kernel
theorem dX8_curried_98 : decode cX8_curried 98 = .ok (.invokevirtual 184, 3) := by decide +kernel
theorem dX8_curried_101 : decode cX8_curried 101 = .ok (.invokevirtual 174, 3) := by decide +kernel
theorem dX8_curried_104 : decode cX8_curried 104 = .ok (.invokevirtual 174, 3) := by decide +kernel
theorem dX8_curried_107 : decode cX8_curried 107 = .ok (.invokevirtual 184, 3) := by decide +kernel
theorem dX8_curried_110 : decode cX8_curried 110 = .ok (.ireturn, 1) := by decide +kernel
theorem dX8_shared_0 : decode cX8_shared 0 = .ok (.aload_n 0, 1) := by decide +kernel
theorem dX8_shared_1 : decode cX8_shared 1 = .ok (.getfield 13, 3) := by decide +kernel
theorem dX8_shared_4 : decode cX8_shared 4 = .ok (.iload_n 1, 1) := by decide +kernel
theorem dX8_shared_5 : decode cX8_shared 5 = .ok (.iaload, 1) := by decide +kernel
theorem dX8_shared_6 : decode cX8_shared 6 = .ok (.istore_n 3, 1) := by decide +kernel
theorem dX8_shared_7 : decode cX8_shared 7 = .ok (.aload_n 0, 1) := by decide +kernel
theorem dX8_shared_8 : decode cX8_shared 8 = .ok (.getfield 13, 3) := by decide +kernel
theorem dX8_shared_11 : decode cX8_shared 11 = .ok (.iload_n 3, 1) := by decide +kernel
theorem dX8_shared_12 : decode cX8_shared 12 = .ok (.iaload, 1) := by decide +kernel
theorem dX8_shared_13 : decode cX8_shared 13 = .ok (.istore 4, 2) := by decide +kernel
theorem dX8_shared_15 : decode cX8_shared 15 = .ok (.aload_n 0, 1) := by decide +kernel
theorem dX8_shared_16 : decode cX8_shared 16 = .ok (.getfield 16, 3) := by decide +kernel
theorem dX8_shared_19 : decode cX8_shared 19 = .ok (.iload_n 3, 1) := by decide +kernel
theorem dX8_shared_20 : decode cX8_shared 20 = .ok (.iaload, 1) := by decide +kernel
theorem dX8_shared_21 : decode cX8_shared 21 = .ok (.istore 5, 2) := by decide +kernel
theorem dX8_shared_23 : decode cX8_shared 23 = .ok (.aload_n 0, 1) := by decide +kernel
theorem dX8_shared_24 : decode cX8_shared 24 = .ok (.aload_n 0, 1) := by decide +kernel
theorem dX8_shared_25 : decode cX8_shared 25 = .ok (.iload 4, 2) := by decide +kernel
theorem dX8_shared_27 : decode cX8_shared 27 = .ok (.aload_n 0, 1) := by decide +kernel
theorem dX8_shared_28 : decode cX8_shared 28 = .ok (.getfield 16, 3) := by decide +kernel
theorem dX8_shared_31 : decode cX8_shared 31 = .ok (.iload_n 1, 1) := by decide +kernel
theorem dX8_shared_32 : decode cX8_shared 32 = .ok (.iaload, 1) := by decide +kernel
theorem dX8_shared_33 : decode cX8_shared 33 = .ok (.invokevirtual 141, 3) := by decide +kernel
theorem dX8_shared_36 : decode cX8_shared 36 = .ok (.aload_n 0, 1) := by decide +kernel
theorem dX8_shared_37 : decode cX8_shared 37 = .ok (.aload_n 0, 1) := by decide +kernel
theorem dX8_shared_38 : decode cX8_shared 38 = .ok (.iload 5, 2) := by decide +kernel
theorem dX8_shared_40 : decode cX8_shared 40 = .ok (.aload_n 0, 1) := by decide +kernel
theorem dX8_shared_41 : decode cX8_shared 41 = .ok (.getfield 16, 3) := by decide +kernel
theorem dX8_shared_44 : decode cX8_shared 44 = .ok (.iload_n 1, 1) := by decide +kernel
theorem dX8_shared_45 : decode cX8_shared 45 = .ok (.iaload, 1) := by decide +kernel
theorem dX8_shared_46 : decode cX8_shared 46 = .ok (.invokevirtual 141, 3) := by decide +kernel
theorem dX8_shared_49 : decode cX8_shared 49 = .ok (.iload_n 2, 1) := by decide +kernel
theorem dX8_shared_50 : decode cX8_shared 50 = .ok (.invokevirtual 174, 3) := by decide +kernel
theorem dX8_shared_53 : decode cX8_shared 53 = .ok (.invokevirtual 174, 3) := by decide +kernel
theorem dX8_shared_56 : decode cX8_shared 56 = .ok (.istore 6, 2) := by decide +kernel
theorem dX8_shared_58 : decode cX8_shared 58 = .ok (.aload_n 0, 1) := by decide +kernel
theorem dX8_shared_59 : decode cX8_shared 59 = .ok (.iload_n 1, 1) := by decide +kernel
theorem dX8_shared_60 : decode cX8_shared 60 = .ok (.invokevirtual 177, 3) := by decide +kernel
theorem dX8_shared_63 : decode cX8_shared 63 = .ok (.istore 7, 2) := by decide +kernel
theorem dX8_shared_65 : decode cX8_shared 65 = .ok (.aload_n 0, 1) := by decide +kernel
theorem dX8_shared_66 : decode cX8_shared 66 = .ok (.iload 4, 2) := by decide +kernel
theorem dX8_shared_68 : decode cX8_shared 68 = .ok (.aload_n 0, 1) := by decide +kernel
theorem dX8_shared_69 : decode cX8_shared 69 = .ok (.iload 7, 2) := by decide +kernel
theorem dX8_shared_71 : decode cX8_shared 71 = .ok (.aload_n 0, 1) := by decide +kernel
theorem dX8_shared_72 : decode cX8_shared 72 = .ok (.bipush 6, 2) := by decide +kernel
theorem dX8_shared_74 : decode cX8_shared 74 = .ok (.iload_n 3, 1) := by decide +kernel
theorem dX8_shared_75 : decode cX8_shared 75 = .ok (.aload_n 0, 1) := by decide +kernel
theorem dX8_shared_76 : decode cX8_shared 76 = .ok (.iload 4, 2) := by decide +kernel
theorem dX8_shared_78 : decode cX8_shared 78 = .ok (.invokevirtual 177, 3) := by decide +kernel
theorem dX8_shared_81 : decode cX8_shared 81 = .ok (.iconst 0, 1) := by decide +kernel
theorem dX8_shared_82 : decode cX8_shared 82 = .ok (.iconst 0, 1) := by decide +kernel
theorem dX8_shared_83 : decode cX8_shared 83 = .ok (.invokevirtual 171, 3) := by decide +kernel
theorem dX8_shared_86 : decode cX8_shared 86 = .ok (.invokevirtual 184, 3) := by decide +kernel
theorem dX8_shared_89 : decode cX8_shared 89 = .ok (.invokevirtual 174, 3) := by decide +kernel
theorem dX8_shared_92 : decode cX8_shared 92 = .ok (.istore 8, 2) := by decide +kernel
theorem dX8_shared_94 : decode cX8_shared 94 = .ok (.aload_n 0, 1) := by decide +kernel
theorem dX8_shared_95 : decode cX8_shared 95 = .ok (.iload 6, 2) := by decide +kernel
theorem dX8_shared_97 : decode cX8_shared 97 = .ok (.iload 8, 2) := by decide +kernel
theorem dX8_shared_99 : decode cX8_shared 99 = .ok (.invokevirtual 184, 3) := by decide +kernel
theorem dX8_shared_102 : decode cX8_shared 102 = .ok (.istore 9, 2) := by decide +kernel
theorem dX8_shared_104 : decode cX8_shared 104 = .ok (.aload_n 0, 1) := by decide +kernel
theorem dX8_shared_105 : decode cX8_shared 105 = .ok (.iload 9, 2) := by decide +kernel
theorem dX8_shared_107 : decode cX8_shared 107 = .ok (.aload_n 0, 1) := by decide +kernel
theorem dX8_shared_108 : decode cX8_shared 108 = .ok (.iload 5, 2) := by decide +kernel
theorem dX8_shared_110 : decode cX8_shared 110 = .ok (.aload_n 0, 1) := by decide +kernel
theorem dX8_shared_111 : decode cX8_shared 111 = .ok (.iload 7, 2) := by decide +kernel
theorem dX8_shared_113 : decode cX8_shared 113 = .ok (.aload_n 0, 1) := by decide +kernel
theorem dX8_shared_114 : decode cX8_shared 114 = .ok (.bipush 7, 2) := by decide +kernel
theorem dX8_shared_116 : decode cX8_shared 116 = .ok (.iload_n 3, 1) := by decide +kernel
theorem dX8_shared_117 : decode cX8_shared 117 = .ok (.aload_n 0, 1) := by decide +kernel
theorem dX8_shared_118 : decode cX8_shared 118 = .ok (.iload 5, 2) := by decide +kernel
theorem dX8_shared_120 : decode cX8_shared 120 = .ok (.invokevirtual 177, 3) := by decide +kernel
theorem dX8_shared_123 : decode cX8_shared 123 = .ok (.iconst 0, 1) := by decide +kernel
theorem dX8_shared_124 : decode cX8_shared 124 = .ok (.iconst 0, 1) := by decide +kernel
theorem dX8_shared_125 : decode cX8_shared 125 = .ok (.invokevirtual 171, 3) := by decide +kernel
theorem dX8_shared_128 : decode cX8_shared 128 = .ok (.invokevirtual 184, 3) := by decide +kernel
theorem dX8_shared_131 : decode cX8_shared 131 = .ok (.invokevirtual 174, 3) := by decide +kernel
theorem dX8_shared_134 : decode cX8_shared 134 = .ok (.invokevirtual 184, 3) := by decide +kernel
theorem dX8_shared_137 : decode cX8_shared 137 = .ok (.ireturn, 1) := by decide +kernel
theorem dX8_nested_0 : decode cX8_nested 0 = .ok (.aload_n 0, 1) := by decide +kernel
theorem dX8_nested_1 : decode cX8_nested 1 = .ok (.getfield 13, 3) := by decide +kernel
theorem dX8_nested_4 : decode cX8_nested 4 = .ok (.aload_n 0, 1) := by decide +kernel
theorem dX8_nested_5 : decode cX8_nested 5 = .ok (.getfield 13, 3) := by decide +kernel
theorem dX8_nested_8 : decode cX8_nested 8 = .ok (.iload_n 1, 1) := by decide +kernel
theorem dX8_nested_9 : decode cX8_nested 9 = .ok (.iaload, 1) := by decide +kernel
theorem dX8_nested_10 : decode cX8_nested 10 = .ok (.iaload, 1) := by decide +kernel
theorem dX8_nested_11 : decode cX8_nested 11 = .ok (.istore 5, 2) := by decide +kernel
theorem dX8_nested_13 : decode cX8_nested 13 = .ok (.aload_n 0, 1) := by decide +kernel
theorem dX8_nested_14 : decode cX8_nested 14 = .ok (.getfield 16, 3) := by decide +kernel
theorem dX8_nested_17 : decode cX8_nested 17 = .ok (.aload_n 0, 1) := by decide +kernel
theorem dX8_nested_18 : decode cX8_nested 18 = .ok (.getfield 13, 3) := by decide +kernel
theorem dX8_nested_21 : decode cX8_nested 21 = .ok (.iload_n 1, 1) := by decide +kernel
theorem dX8_nested_22 : decode cX8_nested 22 = .ok (.iaload, 1) := by decide +kernel
theorem dX8_nested_23 : decode cX8_nested 23 = .ok (.iaload, 1) := by decide +kernel
theorem dX8_nested_24 : decode cX8_nested 24 = .ok (.istore 6, 2) := by decide +kernel
theorem dX8_nested_26 : decode cX8_nested 26 = .ok (.aload_n 0, 1) := by decide +kernel
theorem dX8_nested_27 : decode cX8_nested 27 = .ok (.aload_n 0, 1) := by decide +kernel
theorem dX8_nested_28 : decode cX8_nested 28 = .ok (.iload 6, 2) := by decide +kernel
theorem dX8_nested_30 : decode cX8_nested 30 = .ok (.aload_n 0, 1) := by decide +kernel
theorem dX8_nested_31 : decode cX8_nested 31 = .ok (.getfield 16, 3) := by decide +kernel
theorem dX8_nested_34 : decode cX8_nested 34 = .ok (.iload_n 1, 1) := by decide +kernel
theorem dX8_nested_35 : decode cX8_nested 35 = .ok (.iaload, 1) := by decide +kernel
theorem dX8_nested_36 : decode cX8_nested 36 = .ok (.invokevirtual 141, 3) := by decide +kernel
theorem dX8_nested_39 : decode cX8_nested 39 = .ok (.iload_n 2, 1) := by decide +kernel
theorem dX8_nested_40 : decode cX8_nested 40 = .ok (.invokevirtual 174, 3) := by decide +kernel
theorem dX8_nested_43 : decode cX8_nested 43 = .ok (.istore 7, 2) := by decide +kernel
theorem dX8_nested_45 : decode cX8_nested 45 = .ok (.aload_n 0, 1) := by decide +kernel
theorem dX8_nested_46 : decode cX8_nested 46 = .ok (.iload 6, 2) := by decide +kernel
theorem dX8_nested_48 : decode cX8_nested 48 = .ok (.aload_n 0, 1) := by decide +kernel
theorem dX8_nested_49 : decode cX8_nested 49 = .ok (.iload 4, 2) := by decide +kernel
theorem dX8_nested_51 : decode cX8_nested 51 = .ok (.aload_n 0, 1) := by decide +kernel
theorem dX8_nested_52 : decode cX8_nested 52 = .ok (.iload 5, 2) := by decide +kernel
theorem dX8_nested_54 : decode cX8_nested 54 = .ok (.aload_n 0, 1) := by decide +kernel
theorem dX8_nested_55 : decode cX8_nested 55 = .ok (.iload 6, 2) := by decide +kernel
theorem dX8_nested_57 : decode cX8_nested 57 = .ok (.invokevirtual 177, 3) := by decide +kernel
theorem dX8_nested_60 : decode cX8_nested 60 = .ok (.invokevirtual 174, 3) := by decide +kernel
theorem dX8_nested_63 : decode cX8_nested 63 = .ok (.invokevirtual 184, 3) := by decide +kernel
theorem dX8_nested_66 : decode cX8_nested 66 = .ok (.invokevirtual 174, 3) := by decide +kernel
theorem dX8_nested_69 : decode cX8_nested 69 = .ok (.istore 8, 2) := by decide +kernel
theorem dX8_nested_71 : decode cX8_nested 71 = .ok (.aload_n 0, 1) := by decide +kernel
theorem dX8_nested_72 : decode cX8_nested 72 = .ok (.iload_n 3, 1) := by decide +kernel
theorem dX8_nested_73 : decode cX8_nested 73 = .ok (.aload_n 0, 1) := by decide +kernel
theorem dX8_nested_74 : decode cX8_nested 74 = .ok (.iload 4, 2) := by decide +kernel
theorem dX8_nested_76 : decode cX8_nested 76 = .ok (.aload_n 0, 1) := by decide +kernel
theorem dX8_nested_77 : decode cX8_nested 77 = .ok (.iload 7, 2) := by decide +kernel
theorem dX8_nested_79 : decode cX8_nested 79 = .ok (.iload 8, 2) := by decide +kernel
theorem dX8_nested_81 : decode cX8_nested 81 = .ok (.invokevirtual 184, 3) := by decide +kernel
theorem dX8_nested_84 : decode cX8_nested 84 = .ok (.invokevirtual 184, 3) := by decide +kernel
theorem dX8_nested_87 : decode cX8_nested 87 = .ok (.invokevirtual 184, 3) := by decide +kernel
theorem dX8_nested_90 : decode cX8_nested 90 = .ok (.ireturn, 1) := by decide +kernel
theorem dX8_isNode_0 : decode cX8_isNode 0 = .ok (.iload_n 1, 1) := by decide +kernel
theorem dX8_isNode_1 : decode cX8_isNode 1 = .ok (.ifCond .le 15, 3) := by decide +kernel
theorem dX8_isNode_4 : decode cX8_isNode 4 = .ok (.iload_n 1, 1) := by decide +kernel
theorem dX8_isNode_5 : decode cX8_isNode 5 = .ok (.aload_n 0, 1) := by decide +kernel
theorem dX8_isNode_6 : decode cX8_isNode 6 = .ok (.getfield 103, 3) := by decide +kernel
theorem dX8_isNode_9 : decode cX8_isNode 9 = .ok (.if_icmp .gt 7, 3) := by decide +kernel
theorem dX8_isNode_12 : decode cX8_isNode 12 = .ok (.iconst 1, 1) := by decide +kernel
theorem dX8_isNode_13 : decode cX8_isNode 13 = .ok (.goto 4, 3) := by decide +kernel
theorem dX8_isNode_16 : decode cX8_isNode 16 = .ok (.iconst 0, 1) := by decide +kernel
theorem dX8_isNode_17 : decode cX8_isNode 17 = .ok (.ireturn, 1) := by decide +kernel
theorem dX8_node_0 : decode cX8_node 0 = .ok (.iload_n 1, 1) := by decide +kernel
theorem dX8_node_1 : decode cX8_node 1 = .ok (.ifCond .lt 17, 3) := by decide +kernel
theorem dX8_node_4 : decode cX8_node 4 = .ok (.iload_n 1, 1) := by decide +kernel
theorem dX8_node_5 : decode cX8_node 5 = .ok (.bipush 9, 2) := by decide +kernel
theorem dX8_node_7 : decode cX8_node 7 = .ok (.if_icmp .gt 11, 3) := by decide +kernel
theorem dX8_node_10 : decode cX8_node 10 = .ok (.aload_n 0, 1) := by decide +kernel
theorem dX8_node_11 : decode cX8_node 11 = .ok (.iload_n 2, 1) := by decide +kernel
theorem dX8_node_12 : decode cX8_node 12 = .ok (.invokevirtual 99, 3) := by decide +kernel
theorem dX8_node_15 : decode cX8_node 15 = .ok (.ifCond .ne 5, 3) := by decide +kernel
theorem dX8_node_18 : decode cX8_node 18 = .ok (.iconst (-1), 1) := by decide +kernel
theorem dX8_node_19 : decode cX8_node 19 = .ok (.ireturn, 1) := by decide +kernel
theorem dX8_node_20 : decode cX8_node 20 = .ok (.iload_n 1, 1) := by decide +kernel
theorem dX8_node_21 : decode cX8_node 21 = .ok (.invokestatic 196, 3) := by decide +kernel
theorem dX8_node_24 : decode cX8_node 24 = .ok (.istore 6, 2) := by decide +kernel
theorem dX8_node_26 : decode cX8_node 26 = .ok (.iload 6, 2) := by decide +kernel
theorem dX8_node_28 : decode cX8_node 28 = .ok (.ifCond .le 11, 3) := by decide +kernel
theorem dX8_node_31 : decode cX8_node 31 = .ok (.aload_n 0, 1) := by decide +kernel
theorem dX8_node_32 : decode cX8_node 32 = .ok (.iload_n 3, 1) := by decide +kernel
theorem dX8_node_33 : decode cX8_node 33 = .ok (.invokevirtual 199, 3) := by decide +kernel
theorem dX8_node_36 : decode cX8_node 36 = .ok (.ifCond .eq 33, 3) := by decide +kernel
theorem dX8_node_39 : decode cX8_node 39 = .ok (.iload 6, 2) := by decide +kernel
theorem dX8_node_41 : decode cX8_node 41 = .ok (.iconst 1, 1) := by decide +kernel
theorem dX8_node_42 : decode cX8_node 42 = .ok (.if_icmp .le 12, 3) := by decide +kernel
theorem dX8_node_45 : decode cX8_node 45 = .ok (.aload_n 0, 1) := by decide +kernel
theorem dX8_node_46 : decode cX8_node 46 = .ok (.iload 4, 2) := by decide +kernel
theorem dX8_node_48 : decode cX8_node 48 = .ok (.invokevirtual 199, 3) := by decide +kernel
theorem dX8_node_51 : decode cX8_node 51 = .ok (.ifCond .eq 18, 3) := by decide +kernel
theorem dX8_node_54 : decode cX8_node 54 = .ok (.iload 6, 2) := by decide +kernel
theorem dX8_node_56 : decode cX8_node 56 = .ok (.iconst 2, 1) := by decide +kernel
theorem dX8_node_57 : decode cX8_node 57 = .ok (.if_icmp .le 14, 3) := by decide +kernel
theorem dX8_node_60 : decode cX8_node 60 = .ok (.aload_n 0, 1) := by decide +kernel
theorem dX8_node_61 : decode cX8_node 61 = .ok (.iload 5, 2) := by decide +kernel
theorem dX8_node_63 : decode cX8_node 63 = .ok (.invokevirtual 199, 3) := by decide +kernel
theorem dX8_node_66 : decode cX8_node 66 = .ok (.ifCond .ne 5, 3) := by decide +kernel
theorem dX8_node_69 : decode cX8_node 69 = .ok (.iconst (-1), 1) := by decide +kernel
theorem dX8_node_70 : decode cX8_node 70 = .ok (.ireturn, 1) := by decide +kernel
theorem dX8_node_71 : decode cX8_node 71 = .ok (.aload_n 0, 1) := by decide +kernel
theorem dX8_node_72 : decode cX8_node 72 = .ok (.iload_n 1, 1) := by decide +kernel
theorem dX8_node_73 : decode cX8_node 73 = .ok (.iload_n 2, 1) := by decide +kernel
theorem dX8_node_74 : decode cX8_node 74 = .ok (.iload 6, 2) := by decide +kernel
theorem dX8_node_76 : decode cX8_node 76 = .ok (.ifCond .le 7, 3) := by decide +kernel
theorem dX8_node_79 : decode cX8_node 79 = .ok (.iload_n 3, 1) := by decide +kernel
theorem dX8_node_80 : decode cX8_node 80 = .ok (.goto 4, 3) := by decide +kernel
theorem dX8_node_83 : decode cX8_node 83 = .ok (.iconst 0, 1) := by decide +kernel
theorem dX8_node_84 : decode cX8_node 84 = .ok (.iload 6, 2) := by decide +kernel
theorem dX8_node_86 : decode cX8_node 86 = .ok (.iconst 1, 1) := by decide +kernel
theorem dX8_node_87 : decode cX8_node 87 = .ok (.if_icmp .le 8, 3) := by decide +kernel
theorem dX8_node_90 : decode cX8_node 90 = .ok (.iload 4, 2) := by decide +kernel
theorem dX8_node_92 : decode cX8_node 92 = .ok (.goto 4, 3) := by decide +kernel
theorem dX8_node_95 : decode cX8_node 95 = .ok (.iconst 0, 1) := by decide +kernel
theorem dX8_node_96 : decode cX8_node 96 = .ok (.iload 6, 2) := by decide +kernel
theorem dX8_node_98 : decode cX8_node 98 = .ok (.iconst 2, 1) := by decide +kernel
theorem dX8_node_99 : decode cX8_node 99 = .ok (.if_icmp .le 8, 3) := by decide +kernel
theorem dX8_node_102 : decode cX8_node 102 = .ok (.iload 5, 2) := by decide +kernel
theorem dX8_node_104 : decode cX8_node 104 = .ok (.goto 4, 3) := by decide +kernel
theorem dX8_node_107 : decode cX8_node 107 = .ok (.iconst 0, 1) := by decide +kernel
theorem dX8_node_108 : decode cX8_node 108 = .ok (.invokevirtual 167, 3) := by decide +kernel
theorem dX8_node_111 : decode cX8_node 111 = .ok (.ireturn, 1) := by decide +kernel
theorem dX8_of_0 : decode cX8_of 0 = .ok (.aload_n 0, 1) := by decide +kernel
theorem dX8_of_1 : decode cX8_of 1 = .ok (.iload_n 1, 1) := by decide +kernel
theorem dX8_of_2 : decode cX8_of 2 = .ok (.invokevirtual 199, 3) := by decide +kernel
theorem dX8_of_5 : decode cX8_of 5 = .ok (.ifCond .ne 5, 3) := by decide +kernel
theorem dX8_of_8 : decode cX8_of 8 = .ok (.iconst (-1), 1) := by decide +kernel
theorem dX8_of_9 : decode cX8_of 9 = .ok (.ireturn, 1) := by decide +kernel
theorem dX8_of_10 : decode cX8_of 10 = .ok (.iload_n 2, 1) := by decide +kernel
theorem dX8_of_11 : decode cX8_of 11 = .ok (.tableswitch 68 0 4 #[33, 40, 47, 54, 61], 33) := by decide +kernel
theorem dX8_of_44 : decode cX8_of 44 = .ok (.aload_n 0, 1) := by decide +kernel
theorem dX8_of_45 : decode cX8_of 45 = .ok (.getfield 19, 3) := by decide +kernel
theorem dX8_of_48 : decode cX8_of 48 = .ok (.iload_n 1, 1) := by decide +kernel
theorem dX8_of_49 : decode cX8_of 49 = .ok (.iaload, 1) := by decide +kernel
theorem dX8_of_50 : decode cX8_of 50 = .ok (.ireturn, 1) := by decide +kernel
theorem dX8_of_51 : decode cX8_of 51 = .ok (.aload_n 0, 1) := by decide +kernel
theorem dX8_of_52 : decode cX8_of 52 = .ok (.getfield 22, 3) := by decide +kernel
theorem dX8_of_55 : decode cX8_of 55 = .ok (.iload_n 1, 1) := by decide +kernel
theorem dX8_of_56 : decode cX8_of 56 = .ok (.iaload, 1) := by decide +kernel
theorem dX8_of_57 : decode cX8_of 57 = .ok (.ireturn, 1) := by decide +kernel
theorem dX8_of_58 : decode cX8_of 58 = .ok (.aload_n 0, 1) := by decide +kernel
theorem dX8_of_59 : decode cX8_of 59 = .ok (.getfield 25, 3) := by decide +kernel
theorem dX8_of_62 : decode cX8_of 62 = .ok (.iload_n 1, 1) := by decide +kernel
theorem dX8_of_63 : decode cX8_of 63 = .ok (.iaload, 1) := by decide +kernel
theorem dX8_of_64 : decode cX8_of 64 = .ok (.ireturn, 1) := by decide +kernel
theorem dX8_of_65 : decode cX8_of 65 = .ok (.aload_n 0, 1) := by decide +kernel
theorem dX8_of_66 : decode cX8_of 66 = .ok (.getfield 28, 3) := by decide +kernel
theorem dX8_of_69 : decode cX8_of 69 = .ok (.iload_n 1, 1) := by decide +kernel
theorem dX8_of_70 : decode cX8_of 70 = .ok (.iaload, 1) := by decide +kernel
theorem dX8_of_71 : decode cX8_of 71 = .ok (.ireturn, 1) := by decide +kernel
theorem dX8_of_72 : decode cX8_of 72 = .ok (.aload_n 0, 1) := by decide +kernel
theorem dX8_of_73 : decode cX8_of 73 = .ok (.getfield 31, 3) := by decide +kernel
theorem dX8_of_76 : decode cX8_of 76 = .ok (.iload_n 1, 1) := by decide +kernel
theorem dX8_of_77 : decode cX8_of 77 = .ok (.iaload, 1) := by decide +kernel
theorem dX8_of_78 : decode cX8_of 78 = .ok (.ireturn, 1) := by decide +kernel
theorem dX8_of_79 : decode cX8_of 79 = .ok (.iconst (-1), 1) := by decide +kernel
theorem dX8_of_80 : decode cX8_of 80 = .ok (.ireturn, 1) := by decide +kernel
theorem dX8_mark_0 : decode cX8_mark 0 = .ok (.iconst 1, 1) := by decide +kernel
theorem dX8_mark_1 : decode cX8_mark 1 = .ok (.istore_n 2, 1) := by decide +kernel
theorem dX8_mark_2 : decode cX8_mark 2 = .ok (.iload_n 2, 1) := by decide +kernel
theorem dX8_mark_3 : decode cX8_mark 3 = .ok (.iload_n 1, 1) := by decide +kernel
theorem dX8_mark_4 : decode cX8_mark 4 = .ok (.if_icmp .gt 25, 3) := by decide +kernel
theorem dX8_mark_7 : decode cX8_mark 7 = .ok (.aload_n 0, 1) := by decide +kernel
theorem dX8_mark_8 : decode cX8_mark 8 = .ok (.getfield 78, 3) := by decide +kernel
theorem dX8_mark_11 : decode cX8_mark 11 = .ok (.iload_n 2, 1) := by decide +kernel
theorem dX8_mark_12 : decode cX8_mark 12 = .ok (.iload_n 2, 1) := by decide +kernel
theorem dX8_mark_13 : decode cX8_mark 13 = .ok (.iload_n 1, 1) := by decide +kernel
theorem dX8_mark_14 : decode cX8_mark 14 = .ok (.if_icmp .ne 7, 3) := by decide +kernel
theorem dX8_mark_17 : decode cX8_mark 17 = .ok (.iconst 1, 1) := by decide +kernel
theorem dX8_mark_18 : decode cX8_mark 18 = .ok (.goto 4, 3) := by decide +kernel
theorem dX8_mark_21 : decode cX8_mark 21 = .ok (.iconst 0, 1) := by decide +kernel
theorem dX8_mark_22 : decode cX8_mark 22 = .ok (.bastore, 1) := by decide +kernel
theorem dX8_mark_23 : decode cX8_mark 23 = .ok (.iinc 2 1, 3) := by decide +kernel
theorem dX8_mark_26 : decode cX8_mark 26 = .ok (.goto (-24), 3) := by decide +kernel
theorem dX8_mark_29 : decode cX8_mark 29 = .ok (.iload_n 1, 1) := by decide +kernel
theorem dX8_mark_30 : decode cX8_mark 30 = .ok (.istore_n 2, 1) := by decide +kernel
theorem dX8_mark_31 : decode cX8_mark 31 = .ok (.iload_n 2, 1) := by decide +kernel
theorem dX8_mark_32 : decode cX8_mark 32 = .ok (.ifCond .le 57, 3) := by decide +kernel
theorem dX8_mark_35 : decode cX8_mark 35 = .ok (.aload_n 0, 1) := by decide +kernel
theorem dX8_mark_36 : decode cX8_mark 36 = .ok (.getfield 78, 3) := by decide +kernel
theorem dX8_mark_39 : decode cX8_mark 39 = .ok (.iload_n 2, 1) := by decide +kernel
theorem dX8_mark_40 : decode cX8_mark 40 = .ok (.baload, 1) := by decide +kernel
theorem dX8_mark_41 : decode cX8_mark 41 = .ok (.ifCond .ne 6, 3) := by decide +kernel
theorem dX8_mark_44 : decode cX8_mark 44 = .ok (.goto 39, 3) := by decide +kernel
theorem dX8_mark_47 : decode cX8_mark 47 = .ok (.aload_n 0, 1) := by decide +kernel
theorem dX8_mark_48 : decode cX8_mark 48 = .ok (.getfield 78, 3) := by decide +kernel
theorem dX8_mark_51 : decode cX8_mark 51 = .ok (.aload_n 0, 1) := by decide +kernel
theorem dX8_mark_52 : decode cX8_mark 52 = .ok (.getfield 25, 3) := by decide +kernel
theorem dX8_mark_55 : decode cX8_mark 55 = .ok (.iload_n 2, 1) := by decide +kernel
theorem dX8_mark_56 : decode cX8_mark 56 = .ok (.iaload, 1) := by decide +kernel
theorem dX8_mark_57 : decode cX8_mark 57 = .ok (.iconst 1, 1) := by decide +kernel
theorem dX8_mark_58 : decode cX8_mark 58 = .ok (.bastore, 1) := by decide +kernel
theorem dX8_mark_59 : decode cX8_mark 59 = .ok (.aload_n 0, 1) := by decide +kernel
theorem dX8_mark_60 : decode cX8_mark 60 = .ok (.getfield 78, 3) := by decide +kernel
theorem dX8_mark_63 : decode cX8_mark 63 = .ok (.aload_n 0, 1) := by decide +kernel
theorem dX8_mark_64 : decode cX8_mark 64 = .ok (.getfield 28, 3) := by decide +kernel
theorem dX8_mark_67 : decode cX8_mark 67 = .ok (.iload_n 2, 1) := by decide +kernel
theorem dX8_mark_68 : decode cX8_mark 68 = .ok (.iaload, 1) := by decide +kernel
theorem dX8_mark_69 : decode cX8_mark 69 = .ok (.iconst 1, 1) := by decide +kernel
theorem dX8_mark_70 : decode cX8_mark 70 = .ok (.bastore, 1) := by decide +kernel
theorem dX8_mark_71 : decode cX8_mark 71 = .ok (.aload_n 0, 1) := by decide +kernel
theorem dX8_mark_72 : decode cX8_mark 72 = .ok (.getfield 78, 3) := by decide +kernel
theorem dX8_mark_75 : decode cX8_mark 75 = .ok (.aload_n 0, 1) := by decide +kernel
theorem dX8_mark_76 : decode cX8_mark 76 = .ok (.getfield 31, 3) := by decide +kernel
theorem dX8_mark_79 : decode cX8_mark 79 = .ok (.iload_n 2, 1) := by decide +kernel
theorem dX8_mark_80 : decode cX8_mark 80 = .ok (.iaload, 1) := by decide +kernel
theorem dX8_mark_81 : decode cX8_mark 81 = .ok (.iconst 1, 1) := by decide +kernel
theorem dX8_mark_82 : decode cX8_mark 82 = .ok (.bastore, 1) := by decide +kernel
theorem dX8_mark_83 : decode cX8_mark 83 = .ok (.iinc 2 (-1), 3) := by decide +kernel
theorem dX8_mark_86 : decode cX8_mark 86 = .ok (.goto (-55), 3) := by decide +kernel
theorem dX8_mark_89 : decode cX8_mark 89 = .ok (.aload_n 0, 1) := by decide +kernel
theorem dX8_mark_90 : decode cX8_mark 90 = .ok (.getfield 78, 3) := by decide +kernel
theorem dX8_mark_93 : decode cX8_mark 93 = .ok (.iconst 0, 1) := by decide +kernel
theorem dX8_mark_94 : decode cX8_mark 94 = .ok (.iconst 0, 1) := by decide +kernel
theorem dX8_mark_95 : decode cX8_mark 95 = .ok (.bastore, 1) := by decide +kernel
theorem dX8_mark_96 : decode cX8_mark 96 = .ok (.return_, 1) := by decide +kernel
theorem dX8_isThat_0 : decode cX8_isThat 0 = .ok (.aload_n 0, 1) := by decide +kernel
theorem dX8_isThat_1 : decode cX8_isThat 1 = .ok (.getfield 7, 3) := by decide +kernel
theorem dX8_isThat_4 : decode cX8_isThat 4 = .ok (.iload_n 1, 1) := by decide +kernel
theorem dX8_isThat_5 : decode cX8_isThat 5 = .ok (.iaload, 1) := by decide +kernel
theorem dX8_isThat_6 : decode cX8_isThat 6 = .ok (.iload_n 2, 1) := by decide +kernel
theorem dX8_isThat_7 : decode cX8_isThat 7 = .ok (.if_icmp .ne 28, 3) := by decide +kernel
theorem dX8_isThat_10 : decode cX8_isThat 10 = .ok (.aload_n 0, 1) := by decide +kernel
theorem dX8_isThat_11 : decode cX8_isThat 11 = .ok (.getfield 13, 3) := by decide +kernel
theorem dX8_isThat_14 : decode cX8_isThat 14 = .ok (.iload_n 1, 1) := by decide +kernel
theorem dX8_isThat_15 : decode cX8_isThat 15 = .ok (.iaload, 1) := by decide +kernel
theorem dX8_isThat_16 : decode cX8_isThat 16 = .ok (.iload_n 3, 1) := by decide +kernel
theorem dX8_isThat_17 : decode cX8_isThat 17 = .ok (.if_icmp .ne 18, 3) := by decide +kernel
theorem dX8_isThat_20 : decode cX8_isThat 20 = .ok (.aload_n 0, 1) := by decide +kernel
theorem dX8_isThat_21 : decode cX8_isThat 21 = .ok (.getfield 16, 3) := by decide +kernel
theorem dX8_isThat_24 : decode cX8_isThat 24 = .ok (.iload_n 1, 1) := by decide +kernel
theorem dX8_isThat_25 : decode cX8_isThat 25 = .ok (.iaload, 1) := by decide +kernel
theorem dX8_isThat_26 : decode cX8_isThat 26 = .ok (.iload 4, 2) := by decide +kernel
theorem dX8_isThat_28 : decode cX8_isThat 28 = .ok (.if_icmp .ne 7, 3) := by decide +kernel
theorem dX8_isThat_31 : decode cX8_isThat 31 = .ok (.iconst 1, 1) := by decide +kernel
theorem dX8_isThat_32 : decode cX8_isThat 32 = .ok (.goto 4, 3) := by decide +kernel
theorem dX8_isThat_35 : decode cX8_isThat 35 = .ok (.iconst 0, 1) := by decide +kernel
theorem dX8_isThat_36 : decode cX8_isThat 36 = .ok (.ireturn, 1) := by decide +kernel
theorem dX8_fits_0 : decode cX8_fits 0 = .ok (.aload_n 0, 1) := by decide +kernel
theorem dX8_fits_1 : decode cX8_fits 1 = .ok (.getfield 22, 3) := by decide +kernel
theorem dX8_fits_4 : decode cX8_fits 4 = .ok (.iload_n 1, 1) := by decide +kernel
theorem dX8_fits_5 : decode cX8_fits 5 = .ok (.iaload, 1) := by decide +kernel
theorem dX8_fits_6 : decode cX8_fits 6 = .ok (.istore_n 2, 1) := by decide +kernel
theorem dX8_fits_7 : decode cX8_fits 7 = .ok (.aload_n 0, 1) := by decide +kernel
theorem dX8_fits_8 : decode cX8_fits 8 = .ok (.getfield 22, 3) := by decide +kernel
theorem dX8_fits_11 : decode cX8_fits 11 = .ok (.aload_n 0, 1) := by decide +kernel
theorem dX8_fits_12 : decode cX8_fits 12 = .ok (.getfield 25, 3) := by decide +kernel
theorem dX8_fits_15 : decode cX8_fits 15 = .ok (.iload_n 1, 1) := by decide +kernel
theorem dX8_fits_16 : decode cX8_fits 16 = .ok (.iaload, 1) := by decide +kernel
theorem dX8_fits_17 : decode cX8_fits 17 = .ok (.iaload, 1) := by decide +kernel
theorem dX8_fits_18 : decode cX8_fits 18 = .ok (.istore_n 3, 1) := by decide +kernel
theorem dX8_fits_19 : decode cX8_fits 19 = .ok (.aload_n 0, 1) := by decide +kernel
theorem dX8_fits_20 : decode cX8_fits 20 = .ok (.getfield 22, 3) := by decide +kernel
theorem dX8_fits_23 : decode cX8_fits 23 = .ok (.aload_n 0, 1) := by decide +kernel
theorem dX8_fits_24 : decode cX8_fits 24 = .ok (.getfield 28, 3) := by decide +kernel
theorem dX8_fits_27 : decode cX8_fits 27 = .ok (.iload_n 1, 1) := by decide +kernel
theorem dX8_fits_28 : decode cX8_fits 28 = .ok (.iaload, 1) := by decide +kernel
theorem dX8_fits_29 : decode cX8_fits 29 = .ok (.iaload, 1) := by decide +kernel
theorem dX8_fits_30 : decode cX8_fits 30 = .ok (.istore 4, 2) := by decide +kernel
theorem dX8_fits_32 : decode cX8_fits 32 = .ok (.aload_n 0, 1) := by decide +kernel
theorem dX8_fits_33 : decode cX8_fits 33 = .ok (.getfield 19, 3) := by decide +kernel
theorem dX8_fits_36 : decode cX8_fits 36 = .ok (.iload_n 1, 1) := by decide +kernel
theorem dX8_fits_37 : decode cX8_fits 37 = .ok (.iaload, 1) := by decide +kernel
theorem dX8_fits_38 : decode cX8_fits 38 = .ok (.tableswitch 239 0 8 #[50, 52, 78, 88, 98, 124, 150, 176, 202], 50) := by decide +kernel
theorem dX8_fits_88 : decode cX8_fits 88 = .ok (.iconst 1, 1) := by decide +kernel
theorem dX8_fits_89 : decode cX8_fits 89 = .ok (.ireturn, 1) := by decide +kernel
theorem dX8_fits_90 : decode cX8_fits 90 = .ok (.aload_n 0, 1) := by decide +kernel
theorem dX8_fits_91 : decode cX8_fits 91 = .ok (.getfield 7, 3) := by decide +kernel
theorem dX8_fits_94 : decode cX8_fits 94 = .ok (.iload_n 2, 1) := by decide +kernel
theorem dX8_fits_95 : decode cX8_fits 95 = .ok (.iaload, 1) := by decide +kernel
theorem dX8_fits_96 : decode cX8_fits 96 = .ok (.iconst 4, 1) := by decide +kernel
theorem dX8_fits_97 : decode cX8_fits 97 = .ok (.if_icmp .ne 17, 3) := by decide +kernel
theorem dX8_fits_100 : decode cX8_fits 100 = .ok (.aload_n 0, 1) := by decide +kernel
theorem dX8_fits_101 : decode cX8_fits 101 = .ok (.getfield 16, 3) := by decide +kernel
theorem dX8_fits_104 : decode cX8_fits 104 = .ok (.iload_n 2, 1) := by decide +kernel
theorem dX8_fits_105 : decode cX8_fits 105 = .ok (.iaload, 1) := by decide +kernel
theorem dX8_fits_106 : decode cX8_fits 106 = .ok (.iload_n 3, 1) := by decide +kernel
theorem dX8_fits_107 : decode cX8_fits 107 = .ok (.if_icmp .ne 7, 3) := by decide +kernel
theorem dX8_fits_110 : decode cX8_fits 110 = .ok (.iconst 1, 1) := by decide +kernel
theorem dX8_fits_111 : decode cX8_fits 111 = .ok (.goto 4, 3) := by decide +kernel
theorem dX8_fits_114 : decode cX8_fits 114 = .ok (.iconst 0, 1) := by decide +kernel
theorem dX8_fits_115 : decode cX8_fits 115 = .ok (.ireturn, 1) := by decide +kernel
theorem dX8_fits_116 : decode cX8_fits 116 = .ok (.aload_n 0, 1) := by decide +kernel
theorem dX8_fits_117 : decode cX8_fits 117 = .ok (.iload_n 3, 1) := by decide +kernel
theorem dX8_fits_118 : decode cX8_fits 118 = .ok (.iconst 4, 1) := by decide +kernel
theorem dX8_fits_119 : decode cX8_fits 119 = .ok (.iload 4, 2) := by decide +kernel
theorem dX8_fits_121 : decode cX8_fits 121 = .ok (.iload_n 2, 1) := by decide +kernel
theorem dX8_fits_122 : decode cX8_fits 122 = .ok (.invokevirtual 202, 3) := by decide +kernel
theorem dX8_fits_125 : decode cX8_fits 125 = .ok (.ireturn, 1) := by decide +kernel
theorem dX8_fits_126 : decode cX8_fits 126 = .ok (.aload_n 0, 1) := by decide +kernel
theorem dX8_fits_127 : decode cX8_fits 127 = .ok (.iload_n 2, 1) := by decide +kernel
theorem dX8_fits_128 : decode cX8_fits 128 = .ok (.iconst 2, 1) := by decide +kernel
theorem dX8_fits_129 : decode cX8_fits 129 = .ok (.iload_n 3, 1) := by decide +kernel
theorem dX8_fits_130 : decode cX8_fits 130 = .ok (.iload 4, 2) := by decide +kernel
theorem dX8_fits_132 : decode cX8_fits 132 = .ok (.invokevirtual 202, 3) := by decide +kernel
theorem dX8_fits_135 : decode cX8_fits 135 = .ok (.ireturn, 1) := by decide +kernel
theorem dX8_fits_136 : decode cX8_fits 136 = .ok (.aload_n 0, 1) := by decide +kernel
theorem dX8_fits_137 : decode cX8_fits 137 = .ok (.getfield 7, 3) := by decide +kernel
theorem dX8_fits_140 : decode cX8_fits 140 = .ok (.iload_n 3, 1) := by decide +kernel
theorem dX8_fits_141 : decode cX8_fits 141 = .ok (.iaload, 1) := by decide +kernel
theorem dX8_fits_142 : decode cX8_fits 142 = .ok (.iconst 2, 1) := by decide +kernel
theorem dX8_fits_143 : decode cX8_fits 143 = .ok (.if_icmp .ne 17, 3) := by decide +kernel
theorem dX8_fits_146 : decode cX8_fits 146 = .ok (.aload_n 0, 1) := by decide +kernel
theorem dX8_fits_147 : decode cX8_fits 147 = .ok (.getfield 13, 3) := by decide +kernel
theorem dX8_fits_150 : decode cX8_fits 150 = .ok (.iload_n 3, 1) := by decide +kernel
theorem dX8_fits_151 : decode cX8_fits 151 = .ok (.iaload, 1) := by decide +kernel
theorem dX8_fits_152 : decode cX8_fits 152 = .ok (.iload_n 2, 1) := by decide +kernel
theorem dX8_fits_153 : decode cX8_fits 153 = .ok (.if_icmp .ne 7, 3) := by decide +kernel
theorem dX8_fits_156 : decode cX8_fits 156 = .ok (.iconst 1, 1) := by decide +kernel
theorem dX8_fits_157 : decode cX8_fits 157 = .ok (.goto 4, 3) := by decide +kernel
theorem dX8_fits_160 : decode cX8_fits 160 = .ok (.iconst 0, 1) := by decide +kernel
theorem dX8_fits_161 : decode cX8_fits 161 = .ok (.ireturn, 1) := by decide +kernel
theorem dX8_fits_162 : decode cX8_fits 162 = .ok (.aload_n 0, 1) := by decide +kernel
theorem dX8_fits_163 : decode cX8_fits 163 = .ok (.getfield 7, 3) := by decide +kernel
theorem dX8_fits_166 : decode cX8_fits 166 = .ok (.iload_n 3, 1) := by decide +kernel
theorem dX8_fits_167 : decode cX8_fits 167 = .ok (.iaload, 1) := by decide +kernel
theorem dX8_fits_168 : decode cX8_fits 168 = .ok (.iconst 2, 1) := by decide +kernel
theorem dX8_fits_169 : decode cX8_fits 169 = .ok (.if_icmp .ne 17, 3) := by decide +kernel
theorem dX8_fits_172 : decode cX8_fits 172 = .ok (.aload_n 0, 1) := by decide +kernel
theorem dX8_fits_173 : decode cX8_fits 173 = .ok (.getfield 16, 3) := by decide +kernel
theorem dX8_fits_176 : decode cX8_fits 176 = .ok (.iload_n 3, 1) := by decide +kernel
theorem dX8_fits_177 : decode cX8_fits 177 = .ok (.iaload, 1) := by decide +kernel
theorem dX8_fits_178 : decode cX8_fits 178 = .ok (.iload_n 2, 1) := by decide +kernel
theorem dX8_fits_179 : decode cX8_fits 179 = .ok (.if_icmp .ne 7, 3) := by decide +kernel
theorem dX8_fits_182 : decode cX8_fits 182 = .ok (.iconst 1, 1) := by decide +kernel
theorem dX8_fits_183 : decode cX8_fits 183 = .ok (.goto 4, 3) := by decide +kernel
theorem dX8_fits_186 : decode cX8_fits 186 = .ok (.iconst 0, 1) := by decide +kernel
theorem dX8_fits_187 : decode cX8_fits 187 = .ok (.ireturn, 1) := by decide +kernel
theorem dX8_fits_188 : decode cX8_fits 188 = .ok (.aload_n 0, 1) := by decide +kernel
theorem dX8_fits_189 : decode cX8_fits 189 = .ok (.getfield 7, 3) := by decide +kernel
theorem dX8_fits_192 : decode cX8_fits 192 = .ok (.iload_n 2, 1) := by decide +kernel
theorem dX8_fits_193 : decode cX8_fits 193 = .ok (.iaload, 1) := by decide +kernel
theorem dX8_fits_194 : decode cX8_fits 194 = .ok (.iconst 3, 1) := by decide +kernel
theorem dX8_fits_195 : decode cX8_fits 195 = .ok (.if_icmp .ne 17, 3) := by decide +kernel
theorem dX8_fits_198 : decode cX8_fits 198 = .ok (.aload_n 0, 1) := by decide +kernel
theorem dX8_fits_199 : decode cX8_fits 199 = .ok (.getfield 13, 3) := by decide +kernel
theorem dX8_fits_202 : decode cX8_fits 202 = .ok (.iload_n 2, 1) := by decide +kernel
theorem dX8_fits_203 : decode cX8_fits 203 = .ok (.iaload, 1) := by decide +kernel
theorem dX8_fits_204 : decode cX8_fits 204 = .ok (.iload_n 3, 1) := by decide +kernel
theorem dX8_fits_205 : decode cX8_fits 205 = .ok (.if_icmp .ne 7, 3) := by decide +kernel
theorem dX8_fits_208 : decode cX8_fits 208 = .ok (.iconst 1, 1) := by decide +kernel
theorem dX8_fits_209 : decode cX8_fits 209 = .ok (.goto 4, 3) := by decide +kernel
theorem dX8_fits_212 : decode cX8_fits 212 = .ok (.iconst 0, 1) := by decide +kernel
theorem dX8_fits_213 : decode cX8_fits 213 = .ok (.ireturn, 1) := by decide +kernel
theorem dX8_fits_214 : decode cX8_fits 214 = .ok (.aload_n 0, 1) := by decide +kernel
theorem dX8_fits_215 : decode cX8_fits 215 = .ok (.getfield 7, 3) := by decide +kernel
theorem dX8_fits_218 : decode cX8_fits 218 = .ok (.iload_n 2, 1) := by decide +kernel
theorem dX8_fits_219 : decode cX8_fits 219 = .ok (.iaload, 1) := by decide +kernel
theorem dX8_fits_220 : decode cX8_fits 220 = .ok (.iconst 3, 1) := by decide +kernel
theorem dX8_fits_221 : decode cX8_fits 221 = .ok (.if_icmp .ne 17, 3) := by decide +kernel
theorem dX8_fits_224 : decode cX8_fits 224 = .ok (.aload_n 0, 1) := by decide +kernel
theorem dX8_fits_225 : decode cX8_fits 225 = .ok (.getfield 16, 3) := by decide +kernel
theorem dX8_fits_228 : decode cX8_fits 228 = .ok (.iload_n 2, 1) := by decide +kernel
theorem dX8_fits_229 : decode cX8_fits 229 = .ok (.iaload, 1) := by decide +kernel
theorem dX8_fits_230 : decode cX8_fits 230 = .ok (.iload_n 3, 1) := by decide +kernel
theorem dX8_fits_231 : decode cX8_fits 231 = .ok (.if_icmp .ne 7, 3) := by decide +kernel
theorem dX8_fits_234 : decode cX8_fits 234 = .ok (.iconst 1, 1) := by decide +kernel
theorem dX8_fits_235 : decode cX8_fits 235 = .ok (.goto 4, 3) := by decide +kernel
theorem dX8_fits_238 : decode cX8_fits 238 = .ok (.iconst 0, 1) := by decide +kernel
theorem dX8_fits_239 : decode cX8_fits 239 = .ok (.ireturn, 1) := by decide +kernel
theorem dX8_fits_240 : decode cX8_fits 240 = .ok (.aload_n 0, 1) := by decide +kernel
theorem dX8_fits_241 : decode cX8_fits 241 = .ok (.getfield 7, 3) := by decide +kernel
theorem dX8_fits_244 : decode cX8_fits 244 = .ok (.iload_n 3, 1) := by decide +kernel
theorem dX8_fits_245 : decode cX8_fits 245 = .ok (.iaload, 1) := by decide +kernel
theorem dX8_fits_246 : decode cX8_fits 246 = .ok (.iconst 3, 1) := by decide +kernel
theorem dX8_fits_247 : decode cX8_fits 247 = .ok (.if_icmp .ne 28, 3) := by decide +kernel
theorem dX8_fits_250 : decode cX8_fits 250 = .ok (.iload 4, 2) := by decide +kernel
theorem dX8_fits_252 : decode cX8_fits 252 = .ok (.iload_n 2, 1) := by decide +kernel
theorem dX8_fits_253 : decode cX8_fits 253 = .ok (.if_icmp .ne 22, 3) := by decide +kernel
theorem dX8_fits_256 : decode cX8_fits 256 = .ok (.aload_n 0, 1) := by decide +kernel
theorem dX8_fits_257 : decode cX8_fits 257 = .ok (.getfield 22, 3) := by decide +kernel
theorem dX8_fits_260 : decode cX8_fits 260 = .ok (.aload_n 0, 1) := by decide +kernel
theorem dX8_fits_261 : decode cX8_fits 261 = .ok (.getfield 31, 3) := by decide +kernel
theorem dX8_fits_264 : decode cX8_fits 264 = .ok (.iload_n 1, 1) := by decide +kernel
theorem dX8_fits_265 : decode cX8_fits 265 = .ok (.iaload, 1) := by decide +kernel
theorem dX8_fits_266 : decode cX8_fits 266 = .ok (.iaload, 1) := by decide +kernel
theorem dX8_fits_267 : decode cX8_fits 267 = .ok (.iload_n 2, 1) := by decide +kernel
theorem dX8_fits_268 : decode cX8_fits 268 = .ok (.if_icmp .ne 7, 3) := by decide +kernel
theorem dX8_fits_271 : decode cX8_fits 271 = .ok (.iconst 1, 1) := by decide +kernel
theorem dX8_fits_272 : decode cX8_fits 272 = .ok (.goto 4, 3) := by decide +kernel
theorem dX8_fits_275 : decode cX8_fits 275 = .ok (.iconst 0, 1) := by decide +kernel
theorem dX8_fits_276 : decode cX8_fits 276 = .ok (.ireturn, 1) := by decide +kernel
theorem dX8_fits_277 : decode cX8_fits 277 = .ok (.aload_n 0, 1) := by decide +kernel
theorem dX8_fits_278 : decode cX8_fits 278 = .ok (.getfield 7, 3) := by decide +kernel
theorem dX8_fits_281 : decode cX8_fits 281 = .ok (.iload_n 3, 1) := by decide +kernel
theorem dX8_fits_282 : decode cX8_fits 282 = .ok (.iaload, 1) := by decide +kernel
theorem dX8_fits_283 : decode cX8_fits 283 = .ok (.iconst 1, 1) := by decide +kernel
theorem dX8_fits_284 : decode cX8_fits 284 = .ok (.if_icmp .ne 7, 3) := by decide +kernel
theorem dX8_fits_287 : decode cX8_fits 287 = .ok (.iconst 1, 1) := by decide +kernel
theorem dX8_fits_288 : decode cX8_fits 288 = .ok (.goto 4, 3) := by decide +kernel
theorem dX8_fits_291 : decode cX8_fits 291 = .ok (.iconst 0, 1) := by decide +kernel
theorem dX8_fits_292 : decode cX8_fits 292 = .ok (.ireturn, 1) := by decide +kernel
theorem dX8_isWell_0 : decode cX8_isWell 0 = .ok (.aload_n 0, 1) := by decide +kernel
theorem dX8_isWell_1 : decode cX8_isWell 1 = .ok (.iload_n 1, 1) := by decide +kernel
theorem dX8_isWell_2 : decode cX8_isWell 2 = .ok (.invokevirtual 206, 3) := by decide +kernel
theorem dX8_isWell_5 : decode cX8_isWell 5 = .ok (.iconst 1, 1) := by decide +kernel
theorem dX8_isWell_6 : decode cX8_isWell 6 = .ok (.istore_n 2, 1) := by decide +kernel
theorem dX8_isWell_7 : decode cX8_isWell 7 = .ok (.iconst 1, 1) := by decide +kernel
theorem dX8_isWell_8 : decode cX8_isWell 8 = .ok (.istore_n 3, 1) := by decide +kernel
theorem dX8_isWell_9 : decode cX8_isWell 9 = .ok (.iload_n 3, 1) := by decide +kernel
theorem dX8_isWell_10 : decode cX8_isWell 10 = .ok (.iload_n 1, 1) := by decide +kernel
theorem dX8_isWell_11 : decode cX8_isWell 11 = .ok (.if_icmp .gt 36, 3) := by decide +kernel
theorem dX8_isWell_14 : decode cX8_isWell 14 = .ok (.iload_n 2, 1) := by decide +kernel
theorem dX8_isWell_15 : decode cX8_isWell 15 = .ok (.ifCond .eq 32, 3) := by decide +kernel
theorem dX8_isWell_18 : decode cX8_isWell 18 = .ok (.aload_n 0, 1) := by decide +kernel
theorem dX8_isWell_19 : decode cX8_isWell 19 = .ok (.getfield 78, 3) := by decide +kernel
theorem dX8_isWell_22 : decode cX8_isWell 22 = .ok (.iload_n 3, 1) := by decide +kernel
theorem dX8_isWell_23 : decode cX8_isWell 23 = .ok (.baload, 1) := by decide +kernel
theorem dX8_isWell_24 : decode cX8_isWell 24 = .ok (.ifCond .eq 11, 3) := by decide +kernel
theorem dX8_isWell_27 : decode cX8_isWell 27 = .ok (.aload_n 0, 1) := by decide +kernel
theorem dX8_isWell_28 : decode cX8_isWell 28 = .ok (.iload_n 3, 1) := by decide +kernel
theorem dX8_isWell_29 : decode cX8_isWell 29 = .ok (.invokevirtual 209, 3) := by decide +kernel
theorem dX8_isWell_32 : decode cX8_isWell 32 = .ok (.ifCond .eq 7, 3) := by decide +kernel
theorem dX8_isWell_35 : decode cX8_isWell 35 = .ok (.iconst 1, 1) := by decide +kernel
theorem dX8_isWell_36 : decode cX8_isWell 36 = .ok (.goto 4, 3) := by decide +kernel
theorem dX8_isWell_39 : decode cX8_isWell 39 = .ok (.iconst 0, 1) := by decide +kernel
theorem dX8_isWell_40 : decode cX8_isWell 40 = .ok (.istore_n 2, 1) := by decide +kernel
theorem dX8_isWell_41 : decode cX8_isWell 41 = .ok (.iinc 3 1, 3) := by decide +kernel
theorem dX8_isWell_44 : decode cX8_isWell 44 = .ok (.goto (-35), 3) := by decide +kernel
theorem dX8_isWell_47 : decode cX8_isWell 47 = .ok (.iload_n 2, 1) := by decide +kernel
theorem dX8_isWell_48 : decode cX8_isWell 48 = .ok (.ireturn, 1) := by decide +kernel
theorem dX8_wellMade_0 : decode cX8_wellMade 0 = .ok (.aload_n 0, 1) := by decide +kernel
theorem dX8_wellMade_1 : decode cX8_wellMade 1 = .ok (.iload_n 1, 1) := by decide +kernel
theorem dX8_wellMade_2 : decode cX8_wellMade 2 = .ok (.invokevirtual 199, 3) := by decide +kernel
theorem dX8_wellMade_5 : decode cX8_wellMade 5 = .ok (.ifCond .eq 19, 3) := by decide +kernel
theorem dX8_wellMade_8 : decode cX8_wellMade 8 = .ok (.aload_n 0, 1) := by decide +kernel
theorem dX8_wellMade_9 : decode cX8_wellMade 9 = .ok (.iload_n 1, 1) := by decide +kernel
theorem dX8_wellMade_10 : decode cX8_wellMade 10 = .ok (.invokevirtual 212, 3) := by decide +kernel
theorem dX8_wellMade_13 : decode cX8_wellMade 13 = .ok (.ifCond .eq 7, 3) := by decide +kernel
theorem dX8_wellMade_16 : decode cX8_wellMade 16 = .ok (.iconst 1, 1) := by decide +kernel
theorem dX8_wellMade_17 : decode cX8_wellMade 17 = .ok (.goto 8, 3) := by decide +kernel
theorem dX8_wellMade_20 : decode cX8_wellMade 20 = .ok (.iconst 0, 1) := by decide +kernel
theorem dX8_wellMade_21 : decode cX8_wellMade 21 = .ok (.goto 4, 3) := by decide +kernel
theorem dX8_wellMade_24 : decode cX8_wellMade 24 = .ok (.iconst (-1), 1) := by decide +kernel
theorem dX8_wellMade_25 : decode cX8_wellMade 25 = .ok (.ireturn, 1) := by decide +kernel
theorem dX8_isOn_0 : decode cX8_isOn 0 = .ok (.aload_n 0, 1) := by decide +kernel
theorem dX8_isOn_1 : decode cX8_isOn 1 = .ok (.getfield 82, 3) := by decide +kernel
theorem dX8_isOn_4 : decode cX8_isOn 4 = .ok (.iconst 0, 1) := by decide +kernel
theorem dX8_isOn_5 : decode cX8_isOn 5 = .ok (.iconst 0, 1) := by decide +kernel
theorem dX8_isOn_6 : decode cX8_isOn 6 = .ok (.bastore, 1) := by decide +kernel
theorem dX8_isOn_7 : decode cX8_isOn 7 = .ok (.iconst 1, 1) := by decide +kernel
theorem dX8_isOn_8 : decode cX8_isOn 8 = .ok (.istore_n 3, 1) := by decide +kernel
theorem dX8_isOn_9 : decode cX8_isOn 9 = .ok (.iload_n 3, 1) := by decide +kernel
theorem dX8_isOn_10 : decode cX8_isOn 10 = .ok (.iload_n 1, 1) := by decide +kernel
theorem dX8_isOn_11 : decode cX8_isOn 11 = .ok (.if_icmp .gt 263, 3) := by decide +kernel
theorem dX8_isOn_14 : decode cX8_isOn 14 = .ok (.aload_n 0, 1) := by decide +kernel
theorem dX8_isOn_15 : decode cX8_isOn 15 = .ok (.getfield 78, 3) := by decide +kernel
theorem dX8_isOn_18 : decode cX8_isOn 18 = .ok (.iload_n 3, 1) := by decide +kernel
theorem dX8_isOn_19 : decode cX8_isOn 19 = .ok (.baload, 1) := by decide +kernel
theorem dX8_isOn_20 : decode cX8_isOn 20 = .ok (.ifCond .ne 6, 3) := by decide +kernel
theorem dX8_isOn_23 : decode cX8_isOn 23 = .ok (.goto 245, 3) := by decide +kernel
theorem dX8_isOn_26 : decode cX8_isOn 26 = .ok (.aload_n 0, 1) := by decide +kernel
theorem dX8_isOn_27 : decode cX8_isOn 27 = .ok (.getfield 22, 3) := by decide +kernel
theorem dX8_isOn_30 : decode cX8_isOn 30 = .ok (.iload_n 3, 1) := by decide +kernel
theorem dX8_isOn_31 : decode cX8_isOn 31 = .ok (.iaload, 1) := by decide +kernel
theorem dX8_isOn_32 : decode cX8_isOn 32 = .ok (.istore 4, 2) := by decide +kernel
theorem dX8_isOn_34 : decode cX8_isOn 34 = .ok (.aload_n 0, 1) := by decide +kernel
theorem dX8_isOn_35 : decode cX8_isOn 35 = .ok (.getfield 22, 3) := by decide +kernel
theorem dX8_isOn_38 : decode cX8_isOn 38 = .ok (.aload_n 0, 1) := by decide +kernel
theorem dX8_isOn_39 : decode cX8_isOn 39 = .ok (.getfield 25, 3) := by decide +kernel
theorem dX8_isOn_42 : decode cX8_isOn 42 = .ok (.iload_n 3, 1) := by decide +kernel
theorem dX8_isOn_43 : decode cX8_isOn 43 = .ok (.iaload, 1) := by decide +kernel
theorem dX8_isOn_44 : decode cX8_isOn 44 = .ok (.iaload, 1) := by decide +kernel
theorem dX8_isOn_45 : decode cX8_isOn 45 = .ok (.istore 5, 2) := by decide +kernel
theorem dX8_isOn_47 : decode cX8_isOn 47 = .ok (.aload_n 0, 1) := by decide +kernel
theorem dX8_isOn_48 : decode cX8_isOn 48 = .ok (.getfield 82, 3) := by decide +kernel
theorem dX8_isOn_51 : decode cX8_isOn 51 = .ok (.aload_n 0, 1) := by decide +kernel
theorem dX8_isOn_52 : decode cX8_isOn 52 = .ok (.getfield 25, 3) := by decide +kernel
theorem dX8_isOn_55 : decode cX8_isOn 55 = .ok (.iload_n 3, 1) := by decide +kernel
theorem dX8_isOn_56 : decode cX8_isOn 56 = .ok (.iaload, 1) := by decide +kernel
theorem dX8_isOn_57 : decode cX8_isOn 57 = .ok (.baload, 1) := by decide +kernel
theorem dX8_isOn_58 : decode cX8_isOn 58 = .ok (.istore 6, 2) := by decide +kernel
theorem dX8_isOn_60 : decode cX8_isOn 60 = .ok (.aload_n 0, 1) := by decide +kernel
theorem dX8_isOn_61 : decode cX8_isOn 61 = .ok (.getfield 82, 3) := by decide +kernel
theorem dX8_isOn_64 : decode cX8_isOn 64 = .ok (.aload_n 0, 1) := by decide +kernel
theorem dX8_isOn_65 : decode cX8_isOn 65 = .ok (.getfield 28, 3) := by decide +kernel
theorem dX8_isOn_68 : decode cX8_isOn 68 = .ok (.iload_n 3, 1) := by decide +kernel
theorem dX8_isOn_69 : decode cX8_isOn 69 = .ok (.iaload, 1) := by decide +kernel
theorem dX8_isOn_70 : decode cX8_isOn 70 = .ok (.baload, 1) := by decide +kernel
theorem dX8_isOn_71 : decode cX8_isOn 71 = .ok (.istore 7, 2) := by decide +kernel
theorem dX8_isOn_73 : decode cX8_isOn 73 = .ok (.aload_n 0, 1) := by decide +kernel
theorem dX8_isOn_74 : decode cX8_isOn 74 = .ok (.getfield 82, 3) := by decide +kernel
theorem dX8_isOn_77 : decode cX8_isOn 77 = .ok (.aload_n 0, 1) := by decide +kernel
theorem dX8_isOn_78 : decode cX8_isOn 78 = .ok (.getfield 31, 3) := by decide +kernel
theorem dX8_isOn_81 : decode cX8_isOn 81 = .ok (.iload_n 3, 1) := by decide +kernel
theorem dX8_isOn_82 : decode cX8_isOn 82 = .ok (.iaload, 1) := by decide +kernel
theorem dX8_isOn_83 : decode cX8_isOn 83 = .ok (.baload, 1) := by decide +kernel
theorem dX8_isOn_84 : decode cX8_isOn 84 = .ok (.istore 8, 2) := by decide +kernel
theorem dX8_isOn_86 : decode cX8_isOn 86 = .ok (.aload_n 0, 1) := by decide +kernel
theorem dX8_isOn_87 : decode cX8_isOn 87 = .ok (.getfield 19, 3) := by decide +kernel
theorem dX8_isOn_90 : decode cX8_isOn 90 = .ok (.iload_n 3, 1) := by decide +kernel
theorem dX8_isOn_91 : decode cX8_isOn 91 = .ok (.iaload, 1) := by decide +kernel
theorem dX8_isOn_92 : decode cX8_isOn 92 = .ok (.ifCond .ne 16, 3) := by decide +kernel
theorem dX8_isOn_95 : decode cX8_isOn 95 = .ok (.iload 4, 2) := by decide +kernel
theorem dX8_isOn_97 : decode cX8_isOn 97 = .ok (.iload_n 2, 1) := by decide +kernel
theorem dX8_isOn_98 : decode cX8_isOn 98 = .ok (.if_icmp .ne 7, 3) := by decide +kernel
theorem dX8_isOn_101 : decode cX8_isOn 101 = .ok (.iconst 1, 1) := by decide +kernel
theorem dX8_isOn_102 : decode cX8_isOn 102 = .ok (.goto 4, 3) := by decide +kernel
theorem dX8_isOn_105 : decode cX8_isOn 105 = .ok (.iconst 0, 1) := by decide +kernel
theorem dX8_isOn_106 : decode cX8_isOn 106 = .ok (.istore 6, 2) := by decide +kernel
theorem dX8_isOn_108 : decode cX8_isOn 108 = .ok (.aload_n 0, 1) := by decide +kernel
theorem dX8_isOn_109 : decode cX8_isOn 109 = .ok (.getfield 19, 3) := by decide +kernel
theorem dX8_isOn_112 : decode cX8_isOn 112 = .ok (.iload_n 3, 1) := by decide +kernel
theorem dX8_isOn_113 : decode cX8_isOn 113 = .ok (.iaload, 1) := by decide +kernel
theorem dX8_isOn_114 : decode cX8_isOn 114 = .ok (.iconst 1, 1) := by decide +kernel
theorem dX8_isOn_115 : decode cX8_isOn 115 = .ok (.if_icmp .ne 37, 3) := by decide +kernel
theorem dX8_isOn_118 : decode cX8_isOn 118 = .ok (.iload 6, 2) := by decide +kernel
theorem dX8_isOn_120 : decode cX8_isOn 120 = .ok (.ifCond .eq 29, 3) := by decide +kernel
theorem dX8_isOn_123 : decode cX8_isOn 123 = .ok (.aload_n 0, 1) := by decide +kernel
theorem dX8_isOn_124 : decode cX8_isOn 124 = .ok (.getfield 7, 3) := by decide +kernel
theorem dX8_isOn_127 : decode cX8_isOn 127 = .ok (.iload 4, 2) := by decide +kernel
theorem dX8_isOn_129 : decode cX8_isOn 129 = .ok (.iaload, 1) := by decide +kernel
theorem dX8_isOn_130 : decode cX8_isOn 130 = .ok (.iconst 4, 1) := by decide +kernel
theorem dX8_isOn_131 : decode cX8_isOn 131 = .ok (.if_icmp .ne 14, 3) := by decide +kernel
theorem dX8_isOn_134 : decode cX8_isOn 134 = .ok (.aload_n 0, 1) := by decide +kernel
theorem dX8_isOn_135 : decode cX8_isOn 135 = .ok (.getfield 13, 3) := by decide +kernel
theorem dX8_isOn_138 : decode cX8_isOn 138 = .ok (.iload 4, 2) := by decide +kernel
theorem dX8_isOn_140 : decode cX8_isOn 140 = .ok (.iaload, 1) := by decide +kernel
theorem dX8_isOn_141 : decode cX8_isOn 141 = .ok (.iload_n 2, 1) := by decide +kernel
theorem dX8_isOn_142 : decode cX8_isOn 142 = .ok (.if_icmp .eq 7, 3) := by decide +kernel
theorem dX8_isOn_145 : decode cX8_isOn 145 = .ok (.iconst 1, 1) := by decide +kernel
theorem dX8_isOn_146 : decode cX8_isOn 146 = .ok (.goto 4, 3) := by decide +kernel
theorem dX8_isOn_149 : decode cX8_isOn 149 = .ok (.iconst 0, 1) := by decide +kernel
theorem dX8_isOn_150 : decode cX8_isOn 150 = .ok (.istore 6, 2) := by decide +kernel
theorem dX8_isOn_152 : decode cX8_isOn 152 = .ok (.aload_n 0, 1) := by decide +kernel
theorem dX8_isOn_153 : decode cX8_isOn 153 = .ok (.getfield 19, 3) := by decide +kernel
theorem dX8_isOn_156 : decode cX8_isOn 156 = .ok (.iload_n 3, 1) := by decide +kernel
theorem dX8_isOn_157 : decode cX8_isOn 157 = .ok (.iaload, 1) := by decide +kernel
theorem dX8_isOn_158 : decode cX8_isOn 158 = .ok (.bipush 8, 2) := by decide +kernel
theorem dX8_isOn_160 : decode cX8_isOn 160 = .ok (.if_icmp .ne 37, 3) := by decide +kernel
theorem dX8_isOn_163 : decode cX8_isOn 163 = .ok (.iload 7, 2) := by decide +kernel
theorem dX8_isOn_165 : decode cX8_isOn 165 = .ok (.ifCond .eq 29, 3) := by decide +kernel
theorem dX8_isOn_168 : decode cX8_isOn 168 = .ok (.aload_n 0, 1) := by decide +kernel
theorem dX8_isOn_169 : decode cX8_isOn 169 = .ok (.getfield 7, 3) := by decide +kernel
theorem dX8_isOn_172 : decode cX8_isOn 172 = .ok (.iload 5, 2) := by decide +kernel
theorem dX8_isOn_174 : decode cX8_isOn 174 = .ok (.iaload, 1) := by decide +kernel
theorem dX8_isOn_175 : decode cX8_isOn 175 = .ok (.iconst 3, 1) := by decide +kernel
theorem dX8_isOn_176 : decode cX8_isOn 176 = .ok (.if_icmp .ne 14, 3) := by decide +kernel
theorem dX8_isOn_179 : decode cX8_isOn 179 = .ok (.aload_n 0, 1) := by decide +kernel
theorem dX8_isOn_180 : decode cX8_isOn 180 = .ok (.getfield 13, 3) := by decide +kernel
theorem dX8_isOn_183 : decode cX8_isOn 183 = .ok (.iload 5, 2) := by decide +kernel
theorem dX8_isOn_185 : decode cX8_isOn 185 = .ok (.iaload, 1) := by decide +kernel
theorem dX8_isOn_186 : decode cX8_isOn 186 = .ok (.iload_n 2, 1) := by decide +kernel
theorem dX8_isOn_187 : decode cX8_isOn 187 = .ok (.if_icmp .eq 7, 3) := by decide +kernel
theorem dX8_isOn_190 : decode cX8_isOn 190 = .ok (.iconst 1, 1) := by decide +kernel
theorem dX8_isOn_191 : decode cX8_isOn 191 = .ok (.goto 4, 3) := by decide +kernel
theorem dX8_isOn_194 : decode cX8_isOn 194 = .ok (.iconst 0, 1) := by decide +kernel
theorem dX8_isOn_195 : decode cX8_isOn 195 = .ok (.istore 7, 2) := by decide +kernel
theorem dX8_isOn_197 : decode cX8_isOn 197 = .ok (.aload_n 0, 1) := by decide +kernel
theorem dX8_isOn_198 : decode cX8_isOn 198 = .ok (.getfield 19, 3) := by decide +kernel
theorem dX8_isOn_201 : decode cX8_isOn 201 = .ok (.iload_n 3, 1) := by decide +kernel
theorem dX8_isOn_202 : decode cX8_isOn 202 = .ok (.iaload, 1) := by decide +kernel
theorem dX8_isOn_203 : decode cX8_isOn 203 = .ok (.bipush 8, 2) := by decide +kernel
theorem dX8_isOn_205 : decode cX8_isOn 205 = .ok (.if_icmp .ne 37, 3) := by decide +kernel
theorem dX8_isOn_208 : decode cX8_isOn 208 = .ok (.iload 8, 2) := by decide +kernel
theorem dX8_isOn_210 : decode cX8_isOn 210 = .ok (.ifCond .eq 29, 3) := by decide +kernel
theorem dX8_isOn_213 : decode cX8_isOn 213 = .ok (.aload_n 0, 1) := by decide +kernel
theorem dX8_isOn_214 : decode cX8_isOn 214 = .ok (.getfield 7, 3) := by decide +kernel
theorem dX8_isOn_217 : decode cX8_isOn 217 = .ok (.iload 5, 2) := by decide +kernel
theorem dX8_isOn_219 : decode cX8_isOn 219 = .ok (.iaload, 1) := by decide +kernel
theorem dX8_isOn_220 : decode cX8_isOn 220 = .ok (.iconst 3, 1) := by decide +kernel
theorem dX8_isOn_221 : decode cX8_isOn 221 = .ok (.if_icmp .ne 14, 3) := by decide +kernel
theorem dX8_isOn_224 : decode cX8_isOn 224 = .ok (.aload_n 0, 1) := by decide +kernel
theorem dX8_isOn_225 : decode cX8_isOn 225 = .ok (.getfield 16, 3) := by decide +kernel
theorem dX8_isOn_228 : decode cX8_isOn 228 = .ok (.iload 5, 2) := by decide +kernel
theorem dX8_isOn_230 : decode cX8_isOn 230 = .ok (.iaload, 1) := by decide +kernel
theorem dX8_isOn_231 : decode cX8_isOn 231 = .ok (.iload_n 2, 1) := by decide +kernel
theorem dX8_isOn_232 : decode cX8_isOn 232 = .ok (.if_icmp .eq 7, 3) := by decide +kernel
theorem dX8_isOn_235 : decode cX8_isOn 235 = .ok (.iconst 1, 1) := by decide +kernel
theorem dX8_isOn_236 : decode cX8_isOn 236 = .ok (.goto 4, 3) := by decide +kernel
theorem dX8_isOn_239 : decode cX8_isOn 239 = .ok (.iconst 0, 1) := by decide +kernel
theorem dX8_isOn_240 : decode cX8_isOn 240 = .ok (.istore 8, 2) := by decide +kernel
theorem dX8_isOn_242 : decode cX8_isOn 242 = .ok (.aload_n 0, 1) := by decide +kernel
theorem dX8_isOn_243 : decode cX8_isOn 243 = .ok (.getfield 82, 3) := by decide +kernel
theorem dX8_isOn_246 : decode cX8_isOn 246 = .ok (.iload_n 3, 1) := by decide +kernel
theorem dX8_isOn_247 : decode cX8_isOn 247 = .ok (.iload 6, 2) := by decide +kernel
theorem dX8_isOn_249 : decode cX8_isOn 249 = .ok (.ifCond .ne 13, 3) := by decide +kernel
theorem dX8_isOn_252 : decode cX8_isOn 252 = .ok (.iload 7, 2) := by decide +kernel
theorem dX8_isOn_254 : decode cX8_isOn 254 = .ok (.ifCond .ne 8, 3) := by decide +kernel
theorem dX8_isOn_257 : decode cX8_isOn 257 = .ok (.iload 8, 2) := by decide +kernel
theorem dX8_isOn_259 : decode cX8_isOn 259 = .ok (.ifCond .eq 7, 3) := by decide +kernel
theorem dX8_isOn_262 : decode cX8_isOn 262 = .ok (.iconst 1, 1) := by decide +kernel
theorem dX8_isOn_263 : decode cX8_isOn 263 = .ok (.goto 4, 3) := by decide +kernel
theorem dX8_isOn_266 : decode cX8_isOn 266 = .ok (.iconst 0, 1) := by decide +kernel
theorem dX8_isOn_267 : decode cX8_isOn 267 = .ok (.bastore, 1) := by decide +kernel
theorem dX8_isOn_268 : decode cX8_isOn 268 = .ok (.iinc 3 1, 3) := by decide +kernel
theorem dX8_isOn_271 : decode cX8_isOn 271 = .ok (.goto (-262), 3) := by decide +kernel
theorem dX8_isOn_274 : decode cX8_isOn 274 = .ok (.aload_n 0, 1) := by decide +kernel
theorem dX8_isOn_275 : decode cX8_isOn 275 = .ok (.getfield 82, 3) := by decide +kernel
theorem dX8_isOn_278 : decode cX8_isOn 278 = .ok (.iload_n 1, 1) := by decide +kernel
theorem dX8_isOn_279 : decode cX8_isOn 279 = .ok (.baload, 1) := by decide +kernel
theorem dX8_isOn_280 : decode cX8_isOn 280 = .ok (.ireturn, 1) := by decide +kernel
theorem dX8_next_0 : decode cX8_next 0 = .ok (.iload_n 2, 1) := by decide +kernel
theorem dX8_next_1 : decode cX8_next 1 = .ok (.iconst 1, 1) := by decide +kernel
theorem dX8_next_2 : decode cX8_next 2 = .ok (.iadd, 1) := by decide +kernel
theorem dX8_next_3 : decode cX8_next 3 = .ok (.istore_n 3, 1) := by decide +kernel
theorem dX8_next_4 : decode cX8_next 4 = .ok (.iload_n 3, 1) := by decide +kernel
theorem dX8_next_5 : decode cX8_next 5 = .ok (.aload_n 0, 1) := by decide +kernel
theorem dX8_next_6 : decode cX8_next 6 = .ok (.getfield 88, 3) := by decide +kernel
theorem dX8_next_9 : decode cX8_next 9 = .ok (.if_icmp .gt 110, 3) := by decide +kernel
theorem dX8_next_12 : decode cX8_next 12 = .ok (.aload_n 0, 1) := by decide +kernel
theorem dX8_next_13 : decode cX8_next 13 = .ok (.getfield 88, 3) := by decide +kernel
theorem dX8_next_16 : decode cX8_next 16 = .ok (.iconst 1, 1) := by decide +kernel
theorem dX8_next_17 : decode cX8_next 17 = .ok (.iadd, 1) := by decide +kernel
theorem dX8_next_18 : decode cX8_next 18 = .ok (.istore 4, 2) := by decide +kernel
theorem dX8_next_20 : decode cX8_next 20 = .ok (.iconst 1, 1) := by decide +kernel
theorem dX8_next_21 : decode cX8_next 21 = .ok (.istore 5, 2) := by decide +kernel
theorem dX8_next_23 : decode cX8_next 23 = .ok (.iload 5, 2) := by decide +kernel
theorem dX8_next_25 : decode cX8_next 25 = .ok (.iload_n 1, 1) := by decide +kernel
theorem dX8_next_26 : decode cX8_next 26 = .ok (.if_icmp .gt 61, 3) := by decide +kernel
theorem dX8_next_29 : decode cX8_next 29 = .ok (.aload_n 0, 1) := by decide +kernel
theorem dX8_next_30 : decode cX8_next 30 = .ok (.getfield 78, 3) := by decide +kernel
theorem dX8_next_33 : decode cX8_next 33 = .ok (.iload 5, 2) := by decide +kernel
theorem dX8_next_35 : decode cX8_next 35 = .ok (.baload, 1) := by decide +kernel
theorem dX8_next_36 : decode cX8_next 36 = .ok (.ifCond .eq 45, 3) := by decide +kernel
theorem dX8_next_39 : decode cX8_next 39 = .ok (.aload_n 0, 1) := by decide +kernel
theorem dX8_next_40 : decode cX8_next 40 = .ok (.getfield 19, 3) := by decide +kernel
theorem dX8_next_43 : decode cX8_next 43 = .ok (.iload 5, 2) := by decide +kernel
theorem dX8_next_45 : decode cX8_next 45 = .ok (.iaload, 1) := by decide +kernel
theorem dX8_next_46 : decode cX8_next 46 = .ok (.ifCond .ne 35, 3) := by decide +kernel
theorem dX8_next_49 : decode cX8_next 49 = .ok (.aload_n 0, 1) := by decide +kernel
theorem dX8_next_50 : decode cX8_next 50 = .ok (.getfield 22, 3) := by decide +kernel
theorem dX8_next_53 : decode cX8_next 53 = .ok (.iload 5, 2) := by decide +kernel
theorem dX8_next_55 : decode cX8_next 55 = .ok (.iaload, 1) := by decide +kernel
theorem dX8_next_56 : decode cX8_next 56 = .ok (.iload_n 3, 1) := by decide +kernel
theorem dX8_next_57 : decode cX8_next 57 = .ok (.if_icmp .lt 24, 3) := by decide +kernel
theorem dX8_next_60 : decode cX8_next 60 = .ok (.aload_n 0, 1) := by decide +kernel
theorem dX8_next_61 : decode cX8_next 61 = .ok (.getfield 22, 3) := by decide +kernel
theorem dX8_next_64 : decode cX8_next 64 = .ok (.iload 5, 2) := by decide +kernel
theorem dX8_next_66 : decode cX8_next 66 = .ok (.iaload, 1) := by decide +kernel
theorem dX8_next_67 : decode cX8_next 67 = .ok (.iload 4, 2) := by decide +kernel
theorem dX8_next_69 : decode cX8_next 69 = .ok (.if_icmp .ge 12, 3) := by decide +kernel
theorem dX8_next_72 : decode cX8_next 72 = .ok (.aload_n 0, 1) := by decide +kernel
theorem dX8_next_73 : decode cX8_next 73 = .ok (.getfield 22, 3) := by decide +kernel
theorem dX8_next_76 : decode cX8_next 76 = .ok (.iload 5, 2) := by decide +kernel
theorem dX8_next_78 : decode cX8_next 78 = .ok (.iaload, 1) := by decide +kernel
theorem dX8_next_79 : decode cX8_next 79 = .ok (.istore 4, 2) := by decide +kernel
theorem dX8_next_81 : decode cX8_next 81 = .ok (.iinc 5 1, 3) := by decide +kernel
theorem dX8_next_84 : decode cX8_next 84 = .ok (.goto (-61), 3) := by decide +kernel
theorem dX8_next_87 : decode cX8_next 87 = .ok (.iload 4, 2) := by decide +kernel
theorem dX8_next_89 : decode cX8_next 89 = .ok (.aload_n 0, 1) := by decide +kernel
theorem dX8_next_90 : decode cX8_next 90 = .ok (.getfield 88, 3) := by decide +kernel
theorem dX8_next_93 : decode cX8_next 93 = .ok (.if_icmp .le 5, 3) := by decide +kernel
theorem dX8_next_96 : decode cX8_next 96 = .ok (.iconst 0, 1) := by decide +kernel
theorem dX8_next_97 : decode cX8_next 97 = .ok (.ireturn, 1) := by decide +kernel
theorem dX8_next_98 : decode cX8_next 98 = .ok (.aload_n 0, 1) := by decide +kernel
theorem dX8_next_99 : decode cX8_next 99 = .ok (.iload_n 1, 1) := by decide +kernel
theorem dX8_next_100 : decode cX8_next 100 = .ok (.iload 4, 2) := by decide +kernel
theorem dX8_next_102 : decode cX8_next 102 = .ok (.invokevirtual 215, 3) := by decide +kernel
theorem dX8_next_105 : decode cX8_next 105 = .ok (.ifCond .eq 6, 3) := by decide +kernel
theorem dX8_next_108 : decode cX8_next 108 = .ok (.iload 4, 2) := by decide +kernel
theorem dX8_next_110 : decode cX8_next 110 = .ok (.ireturn, 1) := by decide +kernel
theorem dX8_next_111 : decode cX8_next 111 = .ok (.iload 4, 2) := by decide +kernel
theorem dX8_next_113 : decode cX8_next 113 = .ok (.iconst 1, 1) := by decide +kernel
theorem dX8_next_114 : decode cX8_next 114 = .ok (.iadd, 1) := by decide +kernel
theorem dX8_next_115 : decode cX8_next 115 = .ok (.istore_n 3, 1) := by decide +kernel
theorem dX8_next_116 : decode cX8_next 116 = .ok (.goto (-112), 3) := by decide +kernel
theorem dX8_next_119 : decode cX8_next 119 = .ok (.iconst 0, 1) := by decide +kernel
theorem dX8_next_120 : decode cX8_next 120 = .ok (.ireturn, 1) := by decide +kernel
theorem dX8_rests_0 : decode cX8_rests 0 = .ok (.aload_n 0, 1) := by decide +kernel
theorem dX8_rests_1 : decode cX8_rests 1 = .ok (.iload_n 1, 1) := by decide +kernel
theorem dX8_rests_2 : decode cX8_rests 2 = .ok (.invokevirtual 199, 3) := by decide +kernel
theorem dX8_rests_5 : decode cX8_rests 5 = .ok (.ifCond .ne 5, 3) := by decide +kernel
theorem dX8_rests_8 : decode cX8_rests 8 = .ok (.iconst (-1), 1) := by decide +kernel
theorem dX8_rests_9 : decode cX8_rests 9 = .ok (.ireturn, 1) := by decide +kernel
theorem dX8_rests_10 : decode cX8_rests 10 = .ok (.aload_n 0, 1) := by decide +kernel
theorem dX8_rests_11 : decode cX8_rests 11 = .ok (.iload_n 1, 1) := by decide +kernel
theorem dX8_rests_12 : decode cX8_rests 12 = .ok (.invokevirtual 206, 3) := by decide +kernel
theorem dX8_rests_15 : decode cX8_rests 15 = .ok (.iconst 0, 1) := by decide +kernel
theorem dX8_rests_16 : decode cX8_rests 16 = .ok (.istore_n 2, 1) := by decide +kernel
theorem dX8_rests_17 : decode cX8_rests 17 = .ok (.aload_n 0, 1) := by decide +kernel
theorem dX8_rests_18 : decode cX8_rests 18 = .ok (.iload_n 1, 1) := by decide +kernel
theorem dX8_rests_19 : decode cX8_rests 19 = .ok (.iconst 0, 1) := by decide +kernel
theorem dX8_rests_20 : decode cX8_rests 20 = .ok (.invokevirtual 218, 3) := by decide +kernel
theorem dX8_rests_23 : decode cX8_rests 23 = .ok (.istore_n 3, 1) := by decide +kernel
theorem dX8_rests_24 : decode cX8_rests 24 = .ok (.iload_n 3, 1) := by decide +kernel
theorem dX8_rests_25 : decode cX8_rests 25 = .ok (.ifCond .le 16, 3) := by decide +kernel
theorem dX8_rests_28 : decode cX8_rests 28 = .ok (.iinc 2 1, 3) := by decide +kernel
theorem dX8_rests_31 : decode cX8_rests 31 = .ok (.aload_n 0, 1) := by decide +kernel
theorem dX8_rests_32 : decode cX8_rests 32 = .ok (.iload_n 1, 1) := by decide +kernel
theorem dX8_rests_33 : decode cX8_rests 33 = .ok (.iload_n 3, 1) := by decide +kernel
theorem dX8_rests_34 : decode cX8_rests 34 = .ok (.invokevirtual 218, 3) := by decide +kernel
theorem dX8_rests_37 : decode cX8_rests 37 = .ok (.istore_n 3, 1) := by decide +kernel
theorem dX8_rests_38 : decode cX8_rests 38 = .ok (.goto (-14), 3) := by decide +kernel
theorem dX8_rests_41 : decode cX8_rests 41 = .ok (.iload_n 2, 1) := by decide +kernel
theorem dX8_rests_42 : decode cX8_rests 42 = .ok (.ireturn, 1) := by decide +kernel
theorem dX8_restsOn_0 : decode cX8_restsOn 0 = .ok (.aload_n 0, 1) := by decide +kernel
theorem dX8_restsOn_1 : decode cX8_restsOn 1 = .ok (.iload_n 1, 1) := by decide +kernel
theorem dX8_restsOn_2 : decode cX8_restsOn 2 = .ok (.invokevirtual 199, 3) := by decide +kernel
theorem dX8_restsOn_5 : decode cX8_restsOn 5 = .ok (.ifCond .ne 5, 3) := by decide +kernel
theorem dX8_restsOn_8 : decode cX8_restsOn 8 = .ok (.iconst (-1), 1) := by decide +kernel
theorem dX8_restsOn_9 : decode cX8_restsOn 9 = .ok (.ireturn, 1) := by decide +kernel
theorem dX8_restsOn_10 : decode cX8_restsOn 10 = .ok (.iload_n 2, 1) := by decide +kernel
theorem dX8_restsOn_11 : decode cX8_restsOn 11 = .ok (.aload_n 0, 1) := by decide +kernel
theorem dX8_restsOn_12 : decode cX8_restsOn 12 = .ok (.getfield 88, 3) := by decide +kernel
theorem dX8_restsOn_15 : decode cX8_restsOn 15 = .ok (.if_icmp .lt 6, 3) := by decide +kernel
theorem dX8_restsOn_18 : decode cX8_restsOn 18 = .ok (.bipush (-2), 2) := by decide +kernel
theorem dX8_restsOn_20 : decode cX8_restsOn 20 = .ok (.ireturn, 1) := by decide +kernel
theorem dX8_restsOn_21 : decode cX8_restsOn 21 = .ok (.aload_n 0, 1) := by decide +kernel
theorem dX8_restsOn_22 : decode cX8_restsOn 22 = .ok (.iload_n 1, 1) := by decide +kernel
theorem dX8_restsOn_23 : decode cX8_restsOn 23 = .ok (.invokevirtual 206, 3) := by decide +kernel
theorem dX8_restsOn_26 : decode cX8_restsOn 26 = .ok (.aload_n 0, 1) := by decide +kernel
theorem dX8_restsOn_27 : decode cX8_restsOn 27 = .ok (.iload_n 1, 1) := by decide +kernel
theorem dX8_restsOn_28 : decode cX8_restsOn 28 = .ok (.iload_n 2, 1) := by decide +kernel
theorem dX8_restsOn_29 : decode cX8_restsOn 29 = .ok (.ifCond .ge 7, 3) := by decide +kernel
theorem dX8_restsOn_32 : decode cX8_restsOn 32 = .ok (.iconst 0, 1) := by decide +kernel
theorem dX8_restsOn_33 : decode cX8_restsOn 33 = .ok (.goto 4, 3) := by decide +kernel
theorem dX8_restsOn_36 : decode cX8_restsOn 36 = .ok (.iload_n 2, 1) := by decide +kernel
theorem dX8_restsOn_37 : decode cX8_restsOn 37 = .ok (.invokevirtual 218, 3) := by decide +kernel
theorem dX8_restsOn_40 : decode cX8_restsOn 40 = .ok (.istore_n 3, 1) := by decide +kernel
theorem dX8_restsOn_41 : decode cX8_restsOn 41 = .ok (.iload_n 3, 1) := by decide +kernel
theorem dX8_restsOn_42 : decode cX8_restsOn 42 = .ok (.ifCond .le 7, 3) := by decide +kernel
theorem dX8_restsOn_45 : decode cX8_restsOn 45 = .ok (.iload_n 3, 1) := by decide +kernel
theorem dX8_restsOn_46 : decode cX8_restsOn 46 = .ok (.goto 5, 3) := by decide +kernel
theorem dX8_restsOn_49 : decode cX8_restsOn 49 = .ok (.bipush (-2), 2) := by decide +kernel
theorem dX8_restsOn_51 : decode cX8_restsOn 51 = .ok (.ireturn, 1) := by decide +kernel
theorem dX8_proves_0 : decode cX8_proves 0 = .ok (.aload_n 0, 1) := by decide +kernel
theorem dX8_proves_1 : decode cX8_proves 1 = .ok (.iload_n 1, 1) := by decide +kernel
theorem dX8_proves_2 : decode cX8_proves 2 = .ok (.invokevirtual 199, 3) := by decide +kernel
theorem dX8_proves_5 : decode cX8_proves 5 = .ok (.ifCond .ne 5, 3) := by decide +kernel
theorem dX8_proves_8 : decode cX8_proves 8 = .ok (.iconst (-1), 1) := by decide +kernel
theorem dX8_proves_9 : decode cX8_proves 9 = .ok (.ireturn, 1) := by decide +kernel
theorem dX8_proves_10 : decode cX8_proves 10 = .ok (.aload_n 0, 1) := by decide +kernel
theorem dX8_proves_11 : decode cX8_proves 11 = .ok (.iload_n 1, 1) := by decide +kernel
theorem dX8_proves_12 : decode cX8_proves 12 = .ok (.invokevirtual 212, 3) := by decide +kernel
theorem dX8_proves_15 : decode cX8_proves 15 = .ok (.ifCond .eq 16, 3) := by decide +kernel
theorem dX8_proves_18 : decode cX8_proves 18 = .ok (.aload_n 0, 1) := by decide +kernel
theorem dX8_proves_19 : decode cX8_proves 19 = .ok (.iload_n 1, 1) := by decide +kernel
theorem dX8_proves_20 : decode cX8_proves 20 = .ok (.iconst 0, 1) := by decide +kernel
theorem dX8_proves_21 : decode cX8_proves 21 = .ok (.invokevirtual 218, 3) := by decide +kernel
theorem dX8_proves_24 : decode cX8_proves 24 = .ok (.ifCond .ne 7, 3) := by decide +kernel
theorem dX8_proves_27 : decode cX8_proves 27 = .ok (.iconst 1, 1) := by decide +kernel
theorem dX8_proves_28 : decode cX8_proves 28 = .ok (.goto 4, 3) := by decide +kernel
theorem dX8_proves_31 : decode cX8_proves 31 = .ok (.iconst 0, 1) := by decide +kernel
theorem dX8_proves_32 : decode cX8_proves 32 = .ok (.ireturn, 1) := by decide +kernel
theorem dX8_isTrue_0 : decode cX8_isTrue 0 = .ok (.aload_n 0, 1) := by decide +kernel
theorem dX8_isTrue_1 : decode cX8_isTrue 1 = .ok (.iload_n 1, 1) := by decide +kernel
theorem dX8_isTrue_2 : decode cX8_isTrue 2 = .ok (.invokevirtual 99, 3) := by decide +kernel
theorem dX8_isTrue_5 : decode cX8_isTrue 5 = .ok (.ifCond .ne 5, 3) := by decide +kernel
theorem dX8_isTrue_8 : decode cX8_isTrue 8 = .ok (.iconst (-1), 1) := by decide +kernel
theorem dX8_isTrue_9 : decode cX8_isTrue 9 = .ok (.ireturn, 1) := by decide +kernel
theorem dX8_isTrue_10 : decode cX8_isTrue 10 = .ok (.iconst 1, 1) := by decide +kernel
theorem dX8_isTrue_11 : decode cX8_isTrue 11 = .ok (.istore_n 3, 1) := by decide +kernel
theorem dX8_isTrue_12 : decode cX8_isTrue 12 = .ok (.iload_n 3, 1) := by decide +kernel
theorem dX8_isTrue_13 : decode cX8_isTrue 13 = .ok (.iload_n 1, 1) := by decide +kernel
theorem dX8_isTrue_14 : decode cX8_isTrue 14 = .ok (.if_icmp .gt 207, 3) := by decide +kernel
theorem dX8_isTrue_17 : decode cX8_isTrue 17 = .ok (.aload_n 0, 1) := by decide +kernel
theorem dX8_isTrue_18 : decode cX8_isTrue 18 = .ok (.getfield 85, 3) := by decide +kernel
theorem dX8_isTrue_21 : decode cX8_isTrue 21 = .ok (.aload_n 0, 1) := by decide +kernel
theorem dX8_isTrue_22 : decode cX8_isTrue 22 = .ok (.getfield 7, 3) := by decide +kernel
theorem dX8_isTrue_25 : decode cX8_isTrue 25 = .ok (.iload_n 3, 1) := by decide +kernel
theorem dX8_isTrue_26 : decode cX8_isTrue 26 = .ok (.iaload, 1) := by decide +kernel
theorem dX8_isTrue_27 : decode cX8_isTrue 27 = .ok (.iconst 1, 1) := by decide +kernel
theorem dX8_isTrue_28 : decode cX8_isTrue 28 = .ok (.if_icmp .le 12, 3) := by decide +kernel
theorem dX8_isTrue_31 : decode cX8_isTrue 31 = .ok (.aload_n 0, 1) := by decide +kernel
theorem dX8_isTrue_32 : decode cX8_isTrue 32 = .ok (.getfield 13, 3) := by decide +kernel
theorem dX8_isTrue_35 : decode cX8_isTrue 35 = .ok (.iload_n 3, 1) := by decide +kernel
theorem dX8_isTrue_36 : decode cX8_isTrue 36 = .ok (.iaload, 1) := by decide +kernel
theorem dX8_isTrue_37 : decode cX8_isTrue 37 = .ok (.goto 4, 3) := by decide +kernel
theorem dX8_isTrue_40 : decode cX8_isTrue 40 = .ok (.iconst 0, 1) := by decide +kernel
theorem dX8_isTrue_41 : decode cX8_isTrue 41 = .ok (.baload, 1) := by decide +kernel
theorem dX8_isTrue_42 : decode cX8_isTrue 42 = .ok (.istore 4, 2) := by decide +kernel
theorem dX8_isTrue_44 : decode cX8_isTrue 44 = .ok (.aload_n 0, 1) := by decide +kernel
theorem dX8_isTrue_45 : decode cX8_isTrue 45 = .ok (.getfield 85, 3) := by decide +kernel
theorem dX8_isTrue_48 : decode cX8_isTrue 48 = .ok (.aload_n 0, 1) := by decide +kernel
theorem dX8_isTrue_49 : decode cX8_isTrue 49 = .ok (.getfield 7, 3) := by decide +kernel
theorem dX8_isTrue_52 : decode cX8_isTrue 52 = .ok (.iload_n 3, 1) := by decide +kernel
theorem dX8_isTrue_53 : decode cX8_isTrue 53 = .ok (.iaload, 1) := by decide +kernel
theorem dX8_isTrue_54 : decode cX8_isTrue 54 = .ok (.iconst 1, 1) := by decide +kernel
theorem dX8_isTrue_55 : decode cX8_isTrue 55 = .ok (.if_icmp .le 12, 3) := by decide +kernel
theorem dX8_isTrue_58 : decode cX8_isTrue 58 = .ok (.aload_n 0, 1) := by decide +kernel
theorem dX8_isTrue_59 : decode cX8_isTrue 59 = .ok (.getfield 16, 3) := by decide +kernel
theorem dX8_isTrue_62 : decode cX8_isTrue 62 = .ok (.iload_n 3, 1) := by decide +kernel
theorem dX8_isTrue_63 : decode cX8_isTrue 63 = .ok (.iaload, 1) := by decide +kernel
theorem dX8_isTrue_64 : decode cX8_isTrue 64 = .ok (.goto 4, 3) := by decide +kernel
theorem dX8_isTrue_67 : decode cX8_isTrue 67 = .ok (.iconst 0, 1) := by decide +kernel
theorem dX8_isTrue_68 : decode cX8_isTrue 68 = .ok (.baload, 1) := by decide +kernel
theorem dX8_isTrue_69 : decode cX8_isTrue 69 = .ok (.istore 5, 2) := by decide +kernel
theorem dX8_isTrue_71 : decode cX8_isTrue 71 = .ok (.aload_n 0, 1) := by decide +kernel
theorem dX8_isTrue_72 : decode cX8_isTrue 72 = .ok (.getfield 7, 3) := by decide +kernel
theorem dX8_isTrue_75 : decode cX8_isTrue 75 = .ok (.iload_n 3, 1) := by decide +kernel
theorem dX8_isTrue_76 : decode cX8_isTrue 76 = .ok (.iaload, 1) := by decide +kernel
theorem dX8_isTrue_77 : decode cX8_isTrue 77 = .ok (.tableswitch 117 0 3 #[31, 59, 69, 93], 31) := by decide +kernel
theorem dX8_isTrue_108 : decode cX8_isTrue 108 = .ok (.aload_n 0, 1) := by decide +kernel
theorem dX8_isTrue_109 : decode cX8_isTrue 109 = .ok (.getfield 85, 3) := by decide +kernel
theorem dX8_isTrue_112 : decode cX8_isTrue 112 = .ok (.iload_n 3, 1) := by decide +kernel
theorem dX8_isTrue_113 : decode cX8_isTrue 113 = .ok (.iload_n 2, 1) := by decide +kernel
theorem dX8_isTrue_114 : decode cX8_isTrue 114 = .ok (.aload_n 0, 1) := by decide +kernel
theorem dX8_isTrue_115 : decode cX8_isTrue 115 = .ok (.getfield 13, 3) := by decide +kernel
theorem dX8_isTrue_118 : decode cX8_isTrue 118 = .ok (.iload_n 3, 1) := by decide +kernel
theorem dX8_isTrue_119 : decode cX8_isTrue 119 = .ok (.iaload, 1) := by decide +kernel
theorem dX8_isTrue_120 : decode cX8_isTrue 120 = .ok (.ishr, 1) := by decide +kernel
theorem dX8_isTrue_121 : decode cX8_isTrue 121 = .ok (.iconst 1, 1) := by decide +kernel
theorem dX8_isTrue_122 : decode cX8_isTrue 122 = .ok (.iand, 1) := by decide +kernel
theorem dX8_isTrue_123 : decode cX8_isTrue 123 = .ok (.iconst 1, 1) := by decide +kernel
theorem dX8_isTrue_124 : decode cX8_isTrue 124 = .ok (.if_icmp .ne 7, 3) := by decide +kernel
theorem dX8_isTrue_127 : decode cX8_isTrue 127 = .ok (.iconst 1, 1) := by decide +kernel
theorem dX8_isTrue_128 : decode cX8_isTrue 128 = .ok (.goto 4, 3) := by decide +kernel
theorem dX8_isTrue_131 : decode cX8_isTrue 131 = .ok (.iconst 0, 1) := by decide +kernel
theorem dX8_isTrue_132 : decode cX8_isTrue 132 = .ok (.bastore, 1) := by decide +kernel
theorem dX8_isTrue_133 : decode cX8_isTrue 133 = .ok (.goto 82, 3) := by decide +kernel
theorem dX8_isTrue_136 : decode cX8_isTrue 136 = .ok (.aload_n 0, 1) := by decide +kernel
theorem dX8_isTrue_137 : decode cX8_isTrue 137 = .ok (.getfield 85, 3) := by decide +kernel
theorem dX8_isTrue_140 : decode cX8_isTrue 140 = .ok (.iload_n 3, 1) := by decide +kernel
theorem dX8_isTrue_141 : decode cX8_isTrue 141 = .ok (.iconst 0, 1) := by decide +kernel
theorem dX8_isTrue_142 : decode cX8_isTrue 142 = .ok (.bastore, 1) := by decide +kernel
theorem dX8_isTrue_143 : decode cX8_isTrue 143 = .ok (.goto 72, 3) := by decide +kernel
theorem dX8_isTrue_146 : decode cX8_isTrue 146 = .ok (.aload_n 0, 1) := by decide +kernel
theorem dX8_isTrue_147 : decode cX8_isTrue 147 = .ok (.getfield 85, 3) := by decide +kernel
theorem dX8_isTrue_150 : decode cX8_isTrue 150 = .ok (.iload_n 3, 1) := by decide +kernel
theorem dX8_isTrue_151 : decode cX8_isTrue 151 = .ok (.iload 4, 2) := by decide +kernel
theorem dX8_isTrue_153 : decode cX8_isTrue 153 = .ok (.ifCond .eq 12, 3) := by decide +kernel
theorem dX8_isTrue_156 : decode cX8_isTrue 156 = .ok (.iload 5, 2) := by decide +kernel
theorem dX8_isTrue_158 : decode cX8_isTrue 158 = .ok (.ifCond .eq 7, 3) := by decide +kernel
theorem dX8_isTrue_161 : decode cX8_isTrue 161 = .ok (.iconst 1, 1) := by decide +kernel
theorem dX8_isTrue_162 : decode cX8_isTrue 162 = .ok (.goto 4, 3) := by decide +kernel
theorem dX8_isTrue_165 : decode cX8_isTrue 165 = .ok (.iconst 0, 1) := by decide +kernel
theorem dX8_isTrue_166 : decode cX8_isTrue 166 = .ok (.bastore, 1) := by decide +kernel
theorem dX8_isTrue_167 : decode cX8_isTrue 167 = .ok (.goto 48, 3) := by decide +kernel
theorem dX8_isTrue_170 : decode cX8_isTrue 170 = .ok (.aload_n 0, 1) := by decide +kernel
theorem dX8_isTrue_171 : decode cX8_isTrue 171 = .ok (.getfield 85, 3) := by decide +kernel
theorem dX8_isTrue_174 : decode cX8_isTrue 174 = .ok (.iload_n 3, 1) := by decide +kernel
theorem dX8_isTrue_175 : decode cX8_isTrue 175 = .ok (.iload 4, 2) := by decide +kernel
theorem dX8_isTrue_177 : decode cX8_isTrue 177 = .ok (.ifCond .ne 8, 3) := by decide +kernel
theorem dX8_isTrue_180 : decode cX8_isTrue 180 = .ok (.iload 5, 2) := by decide +kernel
theorem dX8_isTrue_182 : decode cX8_isTrue 182 = .ok (.ifCond .eq 7, 3) := by decide +kernel
theorem dX8_isTrue_185 : decode cX8_isTrue 185 = .ok (.iconst 1, 1) := by decide +kernel
theorem dX8_isTrue_186 : decode cX8_isTrue 186 = .ok (.goto 4, 3) := by decide +kernel
theorem dX8_isTrue_189 : decode cX8_isTrue 189 = .ok (.iconst 0, 1) := by decide +kernel
theorem dX8_isTrue_190 : decode cX8_isTrue 190 = .ok (.bastore, 1) := by decide +kernel
theorem dX8_isTrue_191 : decode cX8_isTrue 191 = .ok (.goto 24, 3) := by decide +kernel
theorem dX8_isTrue_194 : decode cX8_isTrue 194 = .ok (.aload_n 0, 1) := by decide +kernel
theorem dX8_isTrue_195 : decode cX8_isTrue 195 = .ok (.getfield 85, 3) := by decide +kernel
theorem dX8_isTrue_198 : decode cX8_isTrue 198 = .ok (.iload_n 3, 1) := by decide +kernel
theorem dX8_isTrue_199 : decode cX8_isTrue 199 = .ok (.iload 4, 2) := by decide +kernel
theorem dX8_isTrue_201 : decode cX8_isTrue 201 = .ok (.ifCond .eq 8, 3) := by decide +kernel
theorem dX8_isTrue_204 : decode cX8_isTrue 204 = .ok (.iload 5, 2) := by decide +kernel
theorem dX8_isTrue_206 : decode cX8_isTrue 206 = .ok (.ifCond .eq 7, 3) := by decide +kernel
theorem dX8_isTrue_209 : decode cX8_isTrue 209 = .ok (.iconst 1, 1) := by decide +kernel
theorem dX8_isTrue_210 : decode cX8_isTrue 210 = .ok (.goto 4, 3) := by decide +kernel
theorem dX8_isTrue_213 : decode cX8_isTrue 213 = .ok (.iconst 0, 1) := by decide +kernel
theorem dX8_isTrue_214 : decode cX8_isTrue 214 = .ok (.bastore, 1) := by decide +kernel
theorem dX8_isTrue_215 : decode cX8_isTrue 215 = .ok (.iinc 3 1, 3) := by decide +kernel
theorem dX8_isTrue_218 : decode cX8_isTrue 218 = .ok (.goto (-206), 3) := by decide +kernel
theorem dX8_isTrue_221 : decode cX8_isTrue 221 = .ok (.aload_n 0, 1) := by decide +kernel
theorem dX8_isTrue_222 : decode cX8_isTrue 222 = .ok (.getfield 85, 3) := by decide +kernel
theorem dX8_isTrue_225 : decode cX8_isTrue 225 = .ok (.iload_n 1, 1) := by decide +kernel
theorem dX8_isTrue_226 : decode cX8_isTrue 226 = .ok (.baload, 1) := by decide +kernel
theorem dX8_isTrue_227 : decode cX8_isTrue 227 = .ok (.ifCond .eq 7, 3) := by decide +kernel
theorem dX8_isTrue_230 : decode cX8_isTrue 230 = .ok (.iconst 1, 1) := by decide +kernel
theorem dX8_isTrue_231 : decode cX8_isTrue 231 = .ok (.goto 4, 3) := by decide +kernel
theorem dX8_isTrue_234 : decode cX8_isTrue 234 = .ok (.iconst 0, 1) := by decide +kernel
theorem dX8_isTrue_235 : decode cX8_isTrue 235 = .ok (.ireturn, 1) := by decide +kernel
theorem dJ13_bitCount_95d88_0 : decode cJ13_bitCount_95d88 0 = .ok (.lload_n 0, 1) := by decide +kernel
theorem dJ13_bitCount_95d88_1 : decode cJ13_bitCount_95d88 1 = .ok (.lload_n 0, 1) := by decide +kernel
theorem dJ13_bitCount_95d88_2 : decode cJ13_bitCount_95d88 2 = .ok (.iconst 1, 1) := by decide +kernel
theorem dJ13_bitCount_95d88_3 : decode cJ13_bitCount_95d88 3 = .ok (.lushr, 1) := by decide +kernel
theorem dJ13_bitCount_95d88_4 : decode cJ13_bitCount_95d88 4 = .ok (.ldc2_w 314, 3) := by decide +kernel
theorem dJ13_bitCount_95d88_7 : decode cJ13_bitCount_95d88 7 = .ok (.land, 1) := by decide +kernel
theorem dJ13_bitCount_95d88_8 : decode cJ13_bitCount_95d88 8 = .ok (.lsub, 1) := by decide +kernel
theorem dJ13_bitCount_95d88_9 : decode cJ13_bitCount_95d88 9 = .ok (.lstore_n 0, 1) := by decide +kernel
theorem dJ13_bitCount_95d88_10 : decode cJ13_bitCount_95d88 10 = .ok (.lload_n 0, 1) := by decide +kernel
theorem dJ13_bitCount_95d88_11 : decode cJ13_bitCount_95d88 11 = .ok (.ldc2_w 316, 3) := by decide +kernel
theorem dJ13_bitCount_95d88_14 : decode cJ13_bitCount_95d88 14 = .ok (.land, 1) := by decide +kernel
theorem dJ13_bitCount_95d88_15 : decode cJ13_bitCount_95d88 15 = .ok (.lload_n 0, 1) := by decide +kernel
theorem dJ13_bitCount_95d88_16 : decode cJ13_bitCount_95d88 16 = .ok (.iconst 2, 1) := by decide +kernel
theorem dJ13_bitCount_95d88_17 : decode cJ13_bitCount_95d88 17 = .ok (.lushr, 1) := by decide +kernel
theorem dJ13_bitCount_95d88_18 : decode cJ13_bitCount_95d88 18 = .ok (.ldc2_w 316, 3) := by decide +kernel
theorem dJ13_bitCount_95d88_21 : decode cJ13_bitCount_95d88 21 = .ok (.land, 1) := by decide +kernel
theorem dJ13_bitCount_95d88_22 : decode cJ13_bitCount_95d88 22 = .ok (.ladd, 1) := by decide +kernel
theorem dJ13_bitCount_95d88_23 : decode cJ13_bitCount_95d88 23 = .ok (.lstore_n 0, 1) := by decide +kernel
theorem dJ13_bitCount_95d88_24 : decode cJ13_bitCount_95d88 24 = .ok (.lload_n 0, 1) := by decide +kernel
theorem dJ13_bitCount_95d88_25 : decode cJ13_bitCount_95d88 25 = .ok (.lload_n 0, 1) := by decide +kernel
theorem dJ13_bitCount_95d88_26 : decode cJ13_bitCount_95d88 26 = .ok (.iconst 4, 1) := by decide +kernel
theorem dJ13_bitCount_95d88_27 : decode cJ13_bitCount_95d88 27 = .ok (.lushr, 1) := by decide +kernel
theorem dJ13_bitCount_95d88_28 : decode cJ13_bitCount_95d88 28 = .ok (.ladd, 1) := by decide +kernel
theorem dJ13_bitCount_95d88_29 : decode cJ13_bitCount_95d88 29 = .ok (.ldc2_w 318, 3) := by decide +kernel
theorem dJ13_bitCount_95d88_32 : decode cJ13_bitCount_95d88 32 = .ok (.land, 1) := by decide +kernel
theorem dJ13_bitCount_95d88_33 : decode cJ13_bitCount_95d88 33 = .ok (.lstore_n 0, 1) := by decide +kernel
theorem dJ13_bitCount_95d88_34 : decode cJ13_bitCount_95d88 34 = .ok (.lload_n 0, 1) := by decide +kernel
theorem dJ13_bitCount_95d88_35 : decode cJ13_bitCount_95d88 35 = .ok (.lload_n 0, 1) := by decide +kernel
theorem dJ13_bitCount_95d88_36 : decode cJ13_bitCount_95d88 36 = .ok (.bipush 8, 2) := by decide +kernel
theorem dJ13_bitCount_95d88_38 : decode cJ13_bitCount_95d88 38 = .ok (.lushr, 1) := by decide +kernel
theorem dJ13_bitCount_95d88_39 : decode cJ13_bitCount_95d88 39 = .ok (.ladd, 1) := by decide +kernel
theorem dJ13_bitCount_95d88_40 : decode cJ13_bitCount_95d88 40 = .ok (.lstore_n 0, 1) := by decide +kernel
theorem dJ13_bitCount_95d88_41 : decode cJ13_bitCount_95d88 41 = .ok (.lload_n 0, 1) := by decide +kernel
theorem dJ13_bitCount_95d88_42 : decode cJ13_bitCount_95d88 42 = .ok (.lload_n 0, 1) := by decide +kernel
theorem dJ13_bitCount_95d88_43 : decode cJ13_bitCount_95d88 43 = .ok (.bipush 16, 2) := by decide +kernel
theorem dJ13_bitCount_95d88_45 : decode cJ13_bitCount_95d88 45 = .ok (.lushr, 1) := by decide +kernel
theorem dJ13_bitCount_95d88_46 : decode cJ13_bitCount_95d88 46 = .ok (.ladd, 1) := by decide +kernel
theorem dJ13_bitCount_95d88_47 : decode cJ13_bitCount_95d88 47 = .ok (.lstore_n 0, 1) := by decide +kernel
theorem dJ13_bitCount_95d88_48 : decode cJ13_bitCount_95d88 48 = .ok (.lload_n 0, 1) := by decide +kernel
theorem dJ13_bitCount_95d88_49 : decode cJ13_bitCount_95d88 49 = .ok (.lload_n 0, 1) := by decide +kernel
theorem dJ13_bitCount_95d88_50 : decode cJ13_bitCount_95d88 50 = .ok (.bipush 32, 2) := by decide +kernel
theorem dJ13_bitCount_95d88_52 : decode cJ13_bitCount_95d88 52 = .ok (.lushr, 1) := by decide +kernel
theorem dJ13_bitCount_95d88_53 : decode cJ13_bitCount_95d88 53 = .ok (.ladd, 1) := by decide +kernel
theorem dJ13_bitCount_95d88_54 : decode cJ13_bitCount_95d88 54 = .ok (.lstore_n 0, 1) := by decide +kernel
theorem dJ13_bitCount_95d88_55 : decode cJ13_bitCount_95d88 55 = .ok (.lload_n 0, 1) := by decide +kernel
theorem dJ13_bitCount_95d88_56 : decode cJ13_bitCount_95d88 56 = .ok (.l2i, 1) := by decide +kernel
theorem dJ13_bitCount_95d88_57 : decode cJ13_bitCount_95d88 57 = .ok (.bipush 127, 2) := by decide +kernel
theorem dJ13_bitCount_95d88_59 : decode cJ13_bitCount_95d88 59 = .ok (.iand, 1) := by decide +kernel
theorem dJ13_bitCount_95d88_60 : decode cJ13_bitCount_95d88 60 = .ok (.ireturn, 1) := by decide +kernel
theorem dJ9_max_7cf53_0 : decode cJ9_max_7cf53 0 = .ok (.iload_n 0, 1) := by decide +kernel
theorem dJ9_max_7cf53_1 : decode cJ9_max_7cf53 1 = .ok (.iload_n 1, 1) := by decide +kernel
theorem dJ9_max_7cf53_2 : decode cJ9_max_7cf53 2 = .ok (.if_icmp .lt 7, 3) := by decide +kernel
theorem dJ9_max_7cf53_5 : decode cJ9_max_7cf53 5 = .ok (.iload_n 0, 1) := by decide +kernel
theorem dJ9_max_7cf53_6 : decode cJ9_max_7cf53 6 = .ok (.goto 4, 3) := by decide +kernel
theorem dJ9_max_7cf53_9 : decode cJ9_max_7cf53 9 = .ok (.iload_n 1, 1) := by decide +kernel
theorem dJ9_max_7cf53_10 : decode cJ9_max_7cf53 10 = .ok (.ireturn, 1) := by decide +kernel
theorem dJ9_min_7cf53_0 : decode cJ9_min_7cf53 0 = .ok (.iload_n 0, 1) := by decide +kernel
theorem dJ9_min_7cf53_1 : decode cJ9_min_7cf53 1 = .ok (.iload_n 1, 1) := by decide +kernel
theorem dJ9_min_7cf53_2 : decode cJ9_min_7cf53 2 = .ok (.if_icmp .gt 7, 3) := by decide +kernel
theorem dJ9_min_7cf53_5 : decode cJ9_min_7cf53 5 = .ok (.iload_n 0, 1) := by decide +kernel
theorem dJ9_min_7cf53_6 : decode cJ9_min_7cf53 6 = .ok (.goto 4, 3) := by decide +kernel
theorem dJ9_min_7cf53_9 : decode cJ9_min_7cf53 9 = .ok (.iload_n 1, 1) := by decide +kernel
theorem dJ9_min_7cf53_10 : decode cJ9_min_7cf53 10 = .ok (.ireturn, 1) := by decide +kernel
theorem dJ7_rangeCheck_23922_0 : decode cJ7_rangeCheck_23922 0 = .ok (.iload_n 1, 1) := by decide +kernel
theorem dJ7_rangeCheck_23922_1 : decode cJ7_rangeCheck_23922 1 = .ok (.iload_n 2, 1) := by decide +kernel
theorem dJ7_rangeCheck_23922_2 : decode cJ7_rangeCheck_23922 2 = .ok (.if_icmp .le 44, 3) := by decide +kernel
theorem dJ7_rangeCheck_23922_5 : decode cJ7_rangeCheck_23922 5 = .ok (.new 43, 3) := by decide +kernel
theorem dJ7_rangeCheck_23922_8 : decode cJ7_rangeCheck_23922 8 = .ok (.dup, 1) := by decide +kernel
theorem dJ7_rangeCheck_23922_9 : decode cJ7_rangeCheck_23922 9 = .ok (.new 45, 3) := by decide +kernel
theorem dJ7_rangeCheck_23922_12 : decode cJ7_rangeCheck_23922 12 = .ok (.dup, 1) := by decide +kernel
theorem dJ7_rangeCheck_23922_13 : decode cJ7_rangeCheck_23922 13 = .ok (.invokespecial 47, 3) := by decide +kernel
theorem dJ7_rangeCheck_23922_16 : decode cJ7_rangeCheck_23922 16 = .ok (.ldc 48, 2) := by decide +kernel
theorem dJ7_rangeCheck_23922_18 : decode cJ7_rangeCheck_23922 18 = .ok (.invokevirtual 50, 3) := by decide +kernel
theorem dJ7_rangeCheck_23922_21 : decode cJ7_rangeCheck_23922 21 = .ok (.iload_n 1, 1) := by decide +kernel
theorem dJ7_rangeCheck_23922_22 : decode cJ7_rangeCheck_23922 22 = .ok (.invokevirtual 54, 3) := by decide +kernel
theorem dJ7_rangeCheck_23922_25 : decode cJ7_rangeCheck_23922 25 = .ok (.ldc 57, 2) := by decide +kernel
theorem dJ7_rangeCheck_23922_27 : decode cJ7_rangeCheck_23922 27 = .ok (.invokevirtual 50, 3) := by decide +kernel
theorem dJ7_rangeCheck_23922_30 : decode cJ7_rangeCheck_23922 30 = .ok (.iload_n 2, 1) := by decide +kernel
theorem dJ7_rangeCheck_23922_31 : decode cJ7_rangeCheck_23922 31 = .ok (.invokevirtual 54, 3) := by decide +kernel
theorem dJ7_rangeCheck_23922_34 : decode cJ7_rangeCheck_23922 34 = .ok (.ldc 59, 2) := by decide +kernel
theorem dJ7_rangeCheck_23922_36 : decode cJ7_rangeCheck_23922 36 = .ok (.invokevirtual 50, 3) := by decide +kernel
theorem dJ7_rangeCheck_23922_39 : decode cJ7_rangeCheck_23922 39 = .ok (.invokevirtual 61, 3) := by decide +kernel
theorem dJ7_rangeCheck_23922_42 : decode cJ7_rangeCheck_23922 42 = .ok (.invokespecial 65, 3) := by decide +kernel
theorem dJ7_rangeCheck_23922_45 : decode cJ7_rangeCheck_23922 45 = .ok (.athrow, 1) := by decide +kernel
theorem dJ7_rangeCheck_23922_46 : decode cJ7_rangeCheck_23922 46 = .ok (.iload_n 1, 1) := by decide +kernel
theorem dJ7_rangeCheck_23922_47 : decode cJ7_rangeCheck_23922 47 = .ok (.ifCond .ge 12, 3) := by decide +kernel
theorem dJ7_rangeCheck_23922_50 : decode cJ7_rangeCheck_23922 50 = .ok (.new 68, 3) := by decide +kernel
theorem dJ7_rangeCheck_23922_53 : decode cJ7_rangeCheck_23922 53 = .ok (.dup, 1) := by decide +kernel
theorem dJ7_rangeCheck_23922_54 : decode cJ7_rangeCheck_23922 54 = .ok (.iload_n 1, 1) := by decide +kernel
theorem dJ7_rangeCheck_23922_55 : decode cJ7_rangeCheck_23922 55 = .ok (.invokespecial 70, 3) := by decide +kernel
theorem dJ7_rangeCheck_23922_58 : decode cJ7_rangeCheck_23922 58 = .ok (.athrow, 1) := by decide +kernel
theorem dJ7_rangeCheck_23922_59 : decode cJ7_rangeCheck_23922 59 = .ok (.iload_n 2, 1) := by decide +kernel
theorem dJ7_rangeCheck_23922_60 : decode cJ7_rangeCheck_23922 60 = .ok (.iload_n 0, 1) := by decide +kernel
theorem dJ7_rangeCheck_23922_61 : decode cJ7_rangeCheck_23922 61 = .ok (.if_icmp .le 12, 3) := by decide +kernel
theorem dJ7_rangeCheck_23922_64 : decode cJ7_rangeCheck_23922 64 = .ok (.new 68, 3) := by decide +kernel
theorem dJ7_rangeCheck_23922_67 : decode cJ7_rangeCheck_23922 67 = .ok (.dup, 1) := by decide +kernel
theorem dJ7_rangeCheck_23922_68 : decode cJ7_rangeCheck_23922 68 = .ok (.iload_n 2, 1) := by decide +kernel
theorem dJ7_rangeCheck_23922_69 : decode cJ7_rangeCheck_23922 69 = .ok (.invokespecial 70, 3) := by decide +kernel
theorem dJ7_rangeCheck_23922_72 : decode cJ7_rangeCheck_23922 72 = .ok (.athrow, 1) := by decide +kernel
theorem dJ7_rangeCheck_23922_73 : decode cJ7_rangeCheck_23922 73 = .ok (.return_, 1) := by decide +kernel
theorem dJ7_fill_bad5a_0 : decode cJ7_fill_bad5a 0 = .ok (.aload_n 0, 1) := by decide +kernel
theorem dJ7_fill_bad5a_1 : decode cJ7_fill_bad5a 1 = .ok (.arraylength, 1) := by decide +kernel
theorem dJ7_fill_bad5a_2 : decode cJ7_fill_bad5a 2 = .ok (.iload_n 1, 1) := by decide +kernel
theorem dJ7_fill_bad5a_3 : decode cJ7_fill_bad5a 3 = .ok (.iload_n 2, 1) := by decide +kernel
theorem dJ7_fill_bad5a_4 : decode cJ7_fill_bad5a 4 = .ok (.invokestatic 13, 3) := by decide +kernel
theorem dJ7_fill_bad5a_7 : decode cJ7_fill_bad5a 7 = .ok (.iload_n 1, 1) := by decide +kernel
theorem dJ7_fill_bad5a_8 : decode cJ7_fill_bad5a 8 = .ok (.istore 5, 2) := by decide +kernel
theorem dJ7_fill_bad5a_10 : decode cJ7_fill_bad5a 10 = .ok (.iload 5, 2) := by decide +kernel
theorem dJ7_fill_bad5a_12 : decode cJ7_fill_bad5a 12 = .ok (.iload_n 2, 1) := by decide +kernel
theorem dJ7_fill_bad5a_13 : decode cJ7_fill_bad5a 13 = .ok (.if_icmp .ge 14, 3) := by decide +kernel
theorem dJ7_fill_bad5a_16 : decode cJ7_fill_bad5a 16 = .ok (.aload_n 0, 1) := by decide +kernel
theorem dJ7_fill_bad5a_17 : decode cJ7_fill_bad5a 17 = .ok (.iload 5, 2) := by decide +kernel
theorem dJ7_fill_bad5a_19 : decode cJ7_fill_bad5a 19 = .ok (.lload_n 3, 1) := by decide +kernel
theorem dJ7_fill_bad5a_20 : decode cJ7_fill_bad5a 20 = .ok (.lastore, 1) := by decide +kernel
theorem dJ7_fill_bad5a_21 : decode cJ7_fill_bad5a 21 = .ok (.iinc 5 1, 3) := by decide +kernel
theorem dJ7_fill_bad5a_24 : decode cJ7_fill_bad5a 24 = .ok (.goto (-14), 3) := by decide +kernel
theorem dJ7_fill_bad5a_27 : decode cJ7_fill_bad5a 27 = .ok (.return_, 1) := by decide +kernel
theorem dJ7_copyOf_59c91_0 : decode cJ7_copyOf_59c91 0 = .ok (.iload_n 1, 1) := by decide +kernel
theorem dJ7_copyOf_59c91_1 : decode cJ7_copyOf_59c91 1 = .ok (.aload_n 0, 1) := by decide +kernel
theorem dJ7_copyOf_59c91_2 : decode cJ7_copyOf_59c91 2 = .ok (.arraylength, 1) := by decide +kernel
theorem dJ7_copyOf_59c91_3 : decode cJ7_copyOf_59c91 3 = .ok (.if_icmp .ne 11, 3) := by decide +kernel
theorem dJ7_copyOf_59c91_6 : decode cJ7_copyOf_59c91 6 = .ok (.aload_n 0, 1) := by decide +kernel
theorem dJ7_copyOf_59c91_7 : decode cJ7_copyOf_59c91 7 = .ok (.invokevirtual 316, 3) := by decide +kernel
theorem dJ7_copyOf_59c91_10 : decode cJ7_copyOf_59c91 10 = .ok (.checkcast 317, 3) := by decide +kernel
theorem dJ7_copyOf_59c91_13 : decode cJ7_copyOf_59c91 13 = .ok (.areturn, 1) := by decide +kernel
theorem dJ7_copyOf_59c91_14 : decode cJ7_copyOf_59c91 14 = .ok (.iload_n 1, 1) := by decide +kernel
theorem dJ7_copyOf_59c91_15 : decode cJ7_copyOf_59c91 15 = .ok (.newarray .int, 2) := by decide +kernel
theorem dJ7_copyOf_59c91_17 : decode cJ7_copyOf_59c91 17 = .ok (.astore_n 2, 1) := by decide +kernel
theorem dJ7_copyOf_59c91_18 : decode cJ7_copyOf_59c91 18 = .ok (.aload_n 0, 1) := by decide +kernel
theorem dJ7_copyOf_59c91_19 : decode cJ7_copyOf_59c91 19 = .ok (.iconst 0, 1) := by decide +kernel
theorem dJ7_copyOf_59c91_20 : decode cJ7_copyOf_59c91 20 = .ok (.aload_n 2, 1) := by decide +kernel
theorem dJ7_copyOf_59c91_21 : decode cJ7_copyOf_59c91 21 = .ok (.iconst 0, 1) := by decide +kernel
theorem dJ7_copyOf_59c91_22 : decode cJ7_copyOf_59c91 22 = .ok (.aload_n 0, 1) := by decide +kernel
theorem dJ7_copyOf_59c91_23 : decode cJ7_copyOf_59c91 23 = .ok (.arraylength, 1) := by decide +kernel
theorem dJ7_copyOf_59c91_24 : decode cJ7_copyOf_59c91 24 = .ok (.iload_n 1, 1) := by decide +kernel
theorem dJ7_copyOf_59c91_25 : decode cJ7_copyOf_59c91 25 = .ok (.invokestatic 304, 3) := by decide +kernel
theorem dJ7_copyOf_59c91_28 : decode cJ7_copyOf_59c91 28 = .ok (.invokestatic 150, 3) := by decide +kernel
theorem dJ7_copyOf_59c91_31 : decode cJ7_copyOf_59c91 31 = .ok (.aload_n 2, 1) := by decide +kernel
theorem dJ7_copyOf_59c91_32 : decode cJ7_copyOf_59c91 32 = .ok (.areturn, 1) := by decide +kernel
theorem dJ7_copyOf_c38d5_0 : decode cJ7_copyOf_c38d5 0 = .ok (.iload_n 1, 1) := by decide +kernel
theorem dJ7_copyOf_c38d5_1 : decode cJ7_copyOf_c38d5 1 = .ok (.aload_n 0, 1) := by decide +kernel
theorem dJ7_copyOf_c38d5_2 : decode cJ7_copyOf_c38d5 2 = .ok (.arraylength, 1) := by decide +kernel
theorem dJ7_copyOf_c38d5_3 : decode cJ7_copyOf_c38d5 3 = .ok (.if_icmp .ne 11, 3) := by decide +kernel
theorem dJ7_copyOf_c38d5_6 : decode cJ7_copyOf_c38d5 6 = .ok (.aload_n 0, 1) := by decide +kernel
theorem dJ7_copyOf_c38d5_7 : decode cJ7_copyOf_c38d5 7 = .ok (.invokevirtual 319, 3) := by decide +kernel
theorem dJ7_copyOf_c38d5_10 : decode cJ7_copyOf_c38d5 10 = .ok (.checkcast 320, 3) := by decide +kernel
theorem dJ7_copyOf_c38d5_13 : decode cJ7_copyOf_c38d5 13 = .ok (.areturn, 1) := by decide +kernel
theorem dJ7_copyOf_c38d5_14 : decode cJ7_copyOf_c38d5 14 = .ok (.iload_n 1, 1) := by decide +kernel
theorem dJ7_copyOf_c38d5_15 : decode cJ7_copyOf_c38d5 15 = .ok (.newarray .long, 2) := by decide +kernel
theorem dJ7_copyOf_c38d5_17 : decode cJ7_copyOf_c38d5 17 = .ok (.astore_n 2, 1) := by decide +kernel
theorem dJ7_copyOf_c38d5_18 : decode cJ7_copyOf_c38d5 18 = .ok (.aload_n 0, 1) := by decide +kernel
theorem dJ7_copyOf_c38d5_19 : decode cJ7_copyOf_c38d5 19 = .ok (.iconst 0, 1) := by decide +kernel
theorem dJ7_copyOf_c38d5_20 : decode cJ7_copyOf_c38d5 20 = .ok (.aload_n 2, 1) := by decide +kernel
theorem dJ7_copyOf_c38d5_21 : decode cJ7_copyOf_c38d5 21 = .ok (.iconst 0, 1) := by decide +kernel
theorem dJ7_copyOf_c38d5_22 : decode cJ7_copyOf_c38d5 22 = .ok (.aload_n 0, 1) := by decide +kernel
theorem dJ7_copyOf_c38d5_23 : decode cJ7_copyOf_c38d5 23 = .ok (.arraylength, 1) := by decide +kernel
theorem dJ7_copyOf_c38d5_24 : decode cJ7_copyOf_c38d5 24 = .ok (.iload_n 1, 1) := by decide +kernel
theorem dJ7_copyOf_c38d5_25 : decode cJ7_copyOf_c38d5 25 = .ok (.invokestatic 304, 3) := by decide +kernel
theorem dJ7_copyOf_c38d5_28 : decode cJ7_copyOf_c38d5 28 = .ok (.invokestatic 150, 3) := by decide +kernel
theorem dJ7_copyOf_c38d5_31 : decode cJ7_copyOf_c38d5 31 = .ok (.aload_n 2, 1) := by decide +kernel
theorem dJ7_copyOf_c38d5_32 : decode cJ7_copyOf_c38d5 32 = .ok (.areturn, 1) := by decide +kernel
theorem dL_law_0 : decode cL_law 0 = .ok (.new 7, 3) := by decide +kernel
theorem dL_law_3 : decode cL_law 3 = .ok (.dup, 1) := by decide +kernel
theorem dL_law_4 : decode cL_law 4 = .ok (.invokespecial 9, 3) := by decide +kernel
theorem dL_law_7 : decode cL_law 7 = .ok (.astore_n 1, 1) := by decide +kernel
theorem dL_law_8 : decode cL_law 8 = .ok (.new 10, 3) := by decide +kernel
theorem dL_law_11 : decode cL_law 11 = .ok (.dup, 1) := by decide +kernel
theorem dL_law_12 : decode cL_law 12 = .ok (.invokespecial 12, 3) := by decide +kernel
theorem dL_law_15 : decode cL_law 15 = .ok (.astore_n 2, 1) := by decide +kernel
theorem dL_law_16 : decode cL_law 16 = .ok (.iconst 0, 1) := by decide +kernel
theorem dL_law_17 : decode cL_law 17 = .ok (.istore_n 3, 1) := by decide +kernel
theorem dL_law_18 : decode cL_law 18 = .ok (.iload_n 3, 1) := by decide +kernel
theorem dL_law_19 : decode cL_law 19 = .ok (.aload_n 0, 1) := by decide +kernel
theorem dL_law_20 : decode cL_law 20 = .ok (.arraylength, 1) := by decide +kernel
theorem dL_law_21 : decode cL_law 21 = .ok (.bipush 6, 2) := by decide +kernel
theorem dL_law_23 : decode cL_law 23 = .ok (.isub, 1) := by decide +kernel
theorem dL_law_24 : decode cL_law 24 = .ok (.if_icmp .gt 505, 3) := by decide +kernel
theorem dL_law_27 : decode cL_law 27 = .ok (.aload_n 0, 1) := by decide +kernel
theorem dL_law_28 : decode cL_law 28 = .ok (.iload_n 3, 1) := by decide +kernel
theorem dL_law_29 : decode cL_law 29 = .ok (.iaload, 1) := by decide +kernel
theorem dL_law_30 : decode cL_law 30 = .ok (.bipush 15, 2) := by decide +kernel
theorem dL_law_32 : decode cL_law 32 = .ok (.iand, 1) := by decide +kernel
theorem dL_law_33 : decode cL_law 33 = .ok (.tableswitch 490 0 14 #[75, 98, 111, 154, 187, 200, 213, 246, 259, 322, 355, 378, 401, 434, 457], 75) := by decide +kernel
theorem dL_law_108 : decode cL_law 108 = .ok (.aload_n 1, 1) := by decide +kernel
theorem dL_law_109 : decode cL_law 109 = .ok (.aload_n 0, 1) := by decide +kernel
theorem dL_law_110 : decode cL_law 110 = .ok (.iload_n 3, 1) := by decide +kernel
theorem dL_law_111 : decode cL_law 111 = .ok (.iconst 1, 1) := by decide +kernel
theorem dL_law_112 : decode cL_law 112 = .ok (.iadd, 1) := by decide +kernel
theorem dL_law_113 : decode cL_law 113 = .ok (.iaload, 1) := by decide +kernel
theorem dL_law_114 : decode cL_law 114 = .ok (.invokevirtual 13, 3) := by decide +kernel
theorem dL_law_117 : decode cL_law 117 = .ok (.aload_n 2, 1) := by decide +kernel
theorem dL_law_118 : decode cL_law 118 = .ok (.aload_n 0, 1) := by decide +kernel
theorem dL_law_119 : decode cL_law 119 = .ok (.iload_n 3, 1) := by decide +kernel
theorem dL_law_120 : decode cL_law 120 = .ok (.iconst 1, 1) := by decide +kernel
theorem dL_law_121 : decode cL_law 121 = .ok (.iadd, 1) := by decide +kernel
theorem dL_law_122 : decode cL_law 122 = .ok (.iaload, 1) := by decide +kernel
theorem dL_law_123 : decode cL_law 123 = .ok (.invokevirtual 17, 3) := by decide +kernel
theorem dL_law_126 : decode cL_law 126 = .ok (.if_icmp .eq 397, 3) := by decide +kernel
theorem dL_law_129 : decode cL_law 129 = .ok (.iconst 0, 1) := by decide +kernel
theorem dL_law_130 : decode cL_law 130 = .ok (.ireturn, 1) := by decide +kernel
theorem dL_law_131 : decode cL_law 131 = .ok (.aload_n 1, 1) := by decide +kernel
theorem dL_law_132 : decode cL_law 132 = .ok (.invokevirtual 18, 3) := by decide +kernel
theorem dL_law_135 : decode cL_law 135 = .ok (.aload_n 2, 1) := by decide +kernel
theorem dL_law_136 : decode cL_law 136 = .ok (.invokevirtual 22, 3) := by decide +kernel
theorem dL_law_139 : decode cL_law 139 = .ok (.if_icmp .eq 384, 3) := by decide +kernel
theorem dL_law_142 : decode cL_law 142 = .ok (.iconst 0, 1) := by decide +kernel
theorem dL_law_143 : decode cL_law 143 = .ok (.ireturn, 1) := by decide +kernel
theorem dL_law_144 : decode cL_law 144 = .ok (.aload_n 1, 1) := by decide +kernel
theorem dL_law_145 : decode cL_law 145 = .ok (.aload_n 0, 1) := by decide +kernel
theorem dL_law_146 : decode cL_law 146 = .ok (.iload_n 3, 1) := by decide +kernel
theorem dL_law_147 : decode cL_law 147 = .ok (.iconst 1, 1) := by decide +kernel
theorem dL_law_148 : decode cL_law 148 = .ok (.iadd, 1) := by decide +kernel
theorem dL_law_149 : decode cL_law 149 = .ok (.iaload, 1) := by decide +kernel
theorem dL_law_150 : decode cL_law 150 = .ok (.aload_n 0, 1) := by decide +kernel
theorem dL_law_151 : decode cL_law 151 = .ok (.iload_n 3, 1) := by decide +kernel
theorem dL_law_152 : decode cL_law 152 = .ok (.iconst 2, 1) := by decide +kernel
theorem dL_law_153 : decode cL_law 153 = .ok (.iadd, 1) := by decide +kernel
theorem dL_law_154 : decode cL_law 154 = .ok (.iaload, 1) := by decide +kernel
theorem dL_law_155 : decode cL_law 155 = .ok (.aload_n 0, 1) := by decide +kernel
theorem dL_law_156 : decode cL_law 156 = .ok (.iload_n 3, 1) := by decide +kernel
theorem dL_law_157 : decode cL_law 157 = .ok (.iconst 3, 1) := by decide +kernel
theorem dL_law_158 : decode cL_law 158 = .ok (.iadd, 1) := by decide +kernel
theorem dL_law_159 : decode cL_law 159 = .ok (.iaload, 1) := by decide +kernel
theorem dL_law_160 : decode cL_law 160 = .ok (.invokevirtual 23, 3) := by decide +kernel
theorem dL_law_163 : decode cL_law 163 = .ok (.aload_n 2, 1) := by decide +kernel
theorem dL_law_164 : decode cL_law 164 = .ok (.aload_n 0, 1) := by decide +kernel
theorem dL_law_165 : decode cL_law 165 = .ok (.iload_n 3, 1) := by decide +kernel
theorem dL_law_166 : decode cL_law 166 = .ok (.iconst 1, 1) := by decide +kernel
theorem dL_law_167 : decode cL_law 167 = .ok (.iadd, 1) := by decide +kernel
theorem dL_law_168 : decode cL_law 168 = .ok (.iaload, 1) := by decide +kernel
theorem dL_law_169 : decode cL_law 169 = .ok (.aload_n 0, 1) := by decide +kernel
theorem dL_law_170 : decode cL_law 170 = .ok (.iload_n 3, 1) := by decide +kernel
theorem dL_law_171 : decode cL_law 171 = .ok (.iconst 2, 1) := by decide +kernel
theorem dL_law_172 : decode cL_law 172 = .ok (.iadd, 1) := by decide +kernel
theorem dL_law_173 : decode cL_law 173 = .ok (.iaload, 1) := by decide +kernel
theorem dL_law_174 : decode cL_law 174 = .ok (.aload_n 0, 1) := by decide +kernel
theorem dL_law_175 : decode cL_law 175 = .ok (.iload_n 3, 1) := by decide +kernel
theorem dL_law_176 : decode cL_law 176 = .ok (.iconst 3, 1) := by decide +kernel
theorem dL_law_177 : decode cL_law 177 = .ok (.iadd, 1) := by decide +kernel
theorem dL_law_178 : decode cL_law 178 = .ok (.iaload, 1) := by decide +kernel
theorem dL_law_179 : decode cL_law 179 = .ok (.invokevirtual 27, 3) := by decide +kernel
theorem dL_law_182 : decode cL_law 182 = .ok (.if_icmp .eq 341, 3) := by decide +kernel
theorem dL_law_185 : decode cL_law 185 = .ok (.iconst 0, 1) := by decide +kernel
theorem dL_law_186 : decode cL_law 186 = .ok (.ireturn, 1) := by decide +kernel
theorem dL_law_187 : decode cL_law 187 = .ok (.aload_n 1, 1) := by decide +kernel
theorem dL_law_188 : decode cL_law 188 = .ok (.aload_n 0, 1) := by decide +kernel
theorem dL_law_189 : decode cL_law 189 = .ok (.iload_n 3, 1) := by decide +kernel
theorem dL_law_190 : decode cL_law 190 = .ok (.iconst 1, 1) := by decide +kernel
theorem dL_law_191 : decode cL_law 191 = .ok (.iadd, 1) := by decide +kernel
theorem dL_law_192 : decode cL_law 192 = .ok (.iaload, 1) := by decide +kernel
theorem dL_law_193 : decode cL_law 193 = .ok (.aload_n 0, 1) := by decide +kernel
theorem dL_law_194 : decode cL_law 194 = .ok (.iload_n 3, 1) := by decide +kernel
theorem dL_law_195 : decode cL_law 195 = .ok (.iconst 2, 1) := by decide +kernel
theorem dL_law_196 : decode cL_law 196 = .ok (.iadd, 1) := by decide +kernel
theorem dL_law_197 : decode cL_law 197 = .ok (.iaload, 1) := by decide +kernel
theorem dL_law_198 : decode cL_law 198 = .ok (.invokevirtual 28, 3) := by decide +kernel
theorem dL_law_201 : decode cL_law 201 = .ok (.aload_n 2, 1) := by decide +kernel
theorem dL_law_202 : decode cL_law 202 = .ok (.aload_n 0, 1) := by decide +kernel
theorem dL_law_203 : decode cL_law 203 = .ok (.iload_n 3, 1) := by decide +kernel
theorem dL_law_204 : decode cL_law 204 = .ok (.iconst 1, 1) := by decide +kernel
theorem dL_law_205 : decode cL_law 205 = .ok (.iadd, 1) := by decide +kernel
theorem dL_law_206 : decode cL_law 206 = .ok (.iaload, 1) := by decide +kernel
theorem dL_law_207 : decode cL_law 207 = .ok (.aload_n 0, 1) := by decide +kernel
theorem dL_law_208 : decode cL_law 208 = .ok (.iload_n 3, 1) := by decide +kernel
theorem dL_law_209 : decode cL_law 209 = .ok (.iconst 2, 1) := by decide +kernel
theorem dL_law_210 : decode cL_law 210 = .ok (.iadd, 1) := by decide +kernel
theorem dL_law_211 : decode cL_law 211 = .ok (.iaload, 1) := by decide +kernel
theorem dL_law_212 : decode cL_law 212 = .ok (.invokevirtual 32, 3) := by decide +kernel
theorem dL_law_215 : decode cL_law 215 = .ok (.if_icmp .eq 308, 3) := by decide +kernel
theorem dL_law_218 : decode cL_law 218 = .ok (.iconst 0, 1) := by decide +kernel
theorem dL_law_219 : decode cL_law 219 = .ok (.ireturn, 1) := by decide +kernel
