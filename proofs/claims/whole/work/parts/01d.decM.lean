theorem dX8_init_0 : decode cX8_init 0 = .ok (.aload_n 0, 1) := by decide +kernel
theorem dX8_init_1 : decode cX8_init 1 = .ok (.invokespecial 1, 3) := by decide +kernel
theorem dX8_init_4 : decode cX8_init 4 = .ok (.aload_n 0, 1) := by decide +kernel
theorem dX8_init_5 : decode cX8_init 5 = .ok (.iconst 1, 1) := by decide +kernel
theorem dX8_init_6 : decode cX8_init 6 = .ok (.putfield 7, 3) := by decide +kernel
theorem dX8_init_9 : decode cX8_init 9 = .ok (.aload_n 0, 1) := by decide +kernel
theorem dX8_init_10 : decode cX8_init 10 = .ok (.iconst (-1), 1) := by decide +kernel
theorem dX8_init_11 : decode cX8_init 11 = .ok (.putfield 13, 3) := by decide +kernel
theorem dX8_init_14 : decode cX8_init 14 = .ok (.aload_n 0, 1) := by decide +kernel
theorem dX8_init_15 : decode cX8_init 15 = .ok (.iconst (-1), 1) := by decide +kernel
theorem dX8_init_16 : decode cX8_init 16 = .ok (.putfield 16, 3) := by decide +kernel
theorem dX8_init_19 : decode cX8_init 19 = .ok (.aload_n 0, 1) := by decide +kernel
theorem dX8_init_20 : decode cX8_init 20 = .ok (.bipush 8, 2) := by decide +kernel
theorem dX8_init_22 : decode cX8_init 22 = .ok (.newarray .int, 2) := by decide +kernel
theorem dX8_init_24 : decode cX8_init 24 = .ok (.putfield 19, 3) := by decide +kernel
theorem dX8_init_27 : decode cX8_init 27 = .ok (.aload_n 0, 1) := by decide +kernel
theorem dX8_init_28 : decode cX8_init 28 = .ok (.bipush 30, 2) := by decide +kernel
theorem dX8_init_30 : decode cX8_init 30 = .ok (.newarray .int, 2) := by decide +kernel
theorem dX8_init_32 : decode cX8_init 32 = .ok (.putfield 23, 3) := by decide +kernel
theorem dX8_init_35 : decode cX8_init 35 = .ok (.aload_n 0, 1) := by decide +kernel
theorem dX8_init_36 : decode cX8_init 36 = .ok (.bipush 30, 2) := by decide +kernel
theorem dX8_init_38 : decode cX8_init 38 = .ok (.newarray .int, 2) := by decide +kernel
theorem dX8_init_40 : decode cX8_init 40 = .ok (.putfield 26, 3) := by decide +kernel
theorem dX8_init_43 : decode cX8_init 43 = .ok (.aload_n 0, 1) := by decide +kernel
theorem dX8_init_44 : decode cX8_init 44 = .ok (.bipush 30, 2) := by decide +kernel
theorem dX8_init_46 : decode cX8_init 46 = .ok (.newarray .int, 2) := by decide +kernel
theorem dX8_init_48 : decode cX8_init 48 = .ok (.putfield 29, 3) := by decide +kernel
theorem dX8_init_51 : decode cX8_init 51 = .ok (.aload_n 0, 1) := by decide +kernel
theorem dX8_init_52 : decode cX8_init 52 = .ok (.bipush 30, 2) := by decide +kernel
theorem dX8_init_54 : decode cX8_init 54 = .ok (.newarray .int, 2) := by decide +kernel
theorem dX8_init_56 : decode cX8_init 56 = .ok (.putfield 32, 3) := by decide +kernel
theorem dX8_init_59 : decode cX8_init 59 = .ok (.aload_n 0, 1) := by decide +kernel
theorem dX8_init_60 : decode cX8_init 60 = .ok (.bipush 30, 2) := by decide +kernel
theorem dX8_init_62 : decode cX8_init 62 = .ok (.newarray .int, 2) := by decide +kernel
theorem dX8_init_64 : decode cX8_init 64 = .ok (.putfield 35, 3) := by decide +kernel
theorem dX8_init_67 : decode cX8_init 67 = .ok (.aload_n 0, 1) := by decide +kernel
theorem dX8_init_68 : decode cX8_init 68 = .ok (.bipush 30, 2) := by decide +kernel
theorem dX8_init_70 : decode cX8_init 70 = .ok (.newarray .int, 2) := by decide +kernel
theorem dX8_init_72 : decode cX8_init 72 = .ok (.putfield 38, 3) := by decide +kernel
theorem dX8_init_75 : decode cX8_init 75 = .ok (.aload_n 0, 1) := by decide +kernel
theorem dX8_init_76 : decode cX8_init 76 = .ok (.bipush 30, 2) := by decide +kernel
theorem dX8_init_78 : decode cX8_init 78 = .ok (.newarray .int, 2) := by decide +kernel
theorem dX8_init_80 : decode cX8_init 80 = .ok (.putfield 41, 3) := by decide +kernel
theorem dX8_init_83 : decode cX8_init 83 = .ok (.aload_n 0, 1) := by decide +kernel
theorem dX8_init_84 : decode cX8_init 84 = .ok (.bipush 30, 2) := by decide +kernel
theorem dX8_init_86 : decode cX8_init 86 = .ok (.newarray .int, 2) := by decide +kernel
theorem dX8_init_88 : decode cX8_init 88 = .ok (.putfield 44, 3) := by decide +kernel
theorem dX8_init_91 : decode cX8_init 91 = .ok (.aload_n 0, 1) := by decide +kernel
theorem dX8_init_92 : decode cX8_init 92 = .ok (.bipush 30, 2) := by decide +kernel
theorem dX8_init_94 : decode cX8_init 94 = .ok (.newarray .int, 2) := by decide +kernel
theorem dX8_init_96 : decode cX8_init 96 = .ok (.putfield 47, 3) := by decide +kernel
theorem dX8_init_99 : decode cX8_init 99 = .ok (.aload_n 0, 1) := by decide +kernel
theorem dX8_init_100 : decode cX8_init 100 = .ok (.bipush 30, 2) := by decide +kernel
theorem dX8_init_102 : decode cX8_init 102 = .ok (.newarray .int, 2) := by decide +kernel
theorem dX8_init_104 : decode cX8_init 104 = .ok (.putfield 50, 3) := by decide +kernel
theorem dX8_init_107 : decode cX8_init 107 = .ok (.aload_n 0, 1) := by decide +kernel
theorem dX8_init_108 : decode cX8_init 108 = .ok (.bipush 8, 2) := by decide +kernel
theorem dX8_init_110 : decode cX8_init 110 = .ok (.newarray .int, 2) := by decide +kernel
theorem dX8_init_112 : decode cX8_init 112 = .ok (.putfield 53, 3) := by decide +kernel
theorem dX8_init_115 : decode cX8_init 115 = .ok (.aload_n 0, 1) := by decide +kernel
theorem dX8_init_116 : decode cX8_init 116 = .ok (.bipush 7, 2) := by decide +kernel
theorem dX8_init_118 : decode cX8_init 118 = .ok (.newarray .int, 2) := by decide +kernel
theorem dX8_init_120 : decode cX8_init 120 = .ok (.dup, 1) := by decide +kernel
theorem dX8_init_121 : decode cX8_init 121 = .ok (.iconst 0, 1) := by decide +kernel
theorem dX8_init_122 : decode cX8_init 122 = .ok (.bipush 12, 2) := by decide +kernel
theorem dX8_init_124 : decode cX8_init 124 = .ok (.iastore, 1) := by decide +kernel
theorem dX8_init_125 : decode cX8_init 125 = .ok (.dup, 1) := by decide +kernel
theorem dX8_init_126 : decode cX8_init 126 = .ok (.iconst 1, 1) := by decide +kernel
theorem dX8_init_127 : decode cX8_init 127 = .ok (.iconst 2, 1) := by decide +kernel
theorem dX8_init_128 : decode cX8_init 128 = .ok (.iastore, 1) := by decide +kernel
theorem dX8_init_129 : decode cX8_init 129 = .ok (.dup, 1) := by decide +kernel
theorem dX8_init_130 : decode cX8_init 130 = .ok (.iconst 2, 1) := by decide +kernel
theorem dX8_init_131 : decode cX8_init 131 = .ok (.iconst 3, 1) := by decide +kernel
theorem dX8_init_132 : decode cX8_init 132 = .ok (.iastore, 1) := by decide +kernel
theorem dX8_init_133 : decode cX8_init 133 = .ok (.dup, 1) := by decide +kernel
theorem dX8_init_134 : decode cX8_init 134 = .ok (.iconst 3, 1) := by decide +kernel
theorem dX8_init_135 : decode cX8_init 135 = .ok (.iconst 2, 1) := by decide +kernel
theorem dX8_init_136 : decode cX8_init 136 = .ok (.iastore, 1) := by decide +kernel
theorem dX8_init_137 : decode cX8_init 137 = .ok (.dup, 1) := by decide +kernel
theorem dX8_init_138 : decode cX8_init 138 = .ok (.iconst 4, 1) := by decide +kernel
theorem dX8_init_139 : decode cX8_init 139 = .ok (.bipush 20, 2) := by decide +kernel
theorem dX8_init_141 : decode cX8_init 141 = .ok (.iastore, 1) := by decide +kernel
theorem dX8_init_142 : decode cX8_init 142 = .ok (.dup, 1) := by decide +kernel
theorem dX8_init_143 : decode cX8_init 143 = .ok (.iconst 5, 1) := by decide +kernel
theorem dX8_init_144 : decode cX8_init 144 = .ok (.iconst 2, 1) := by decide +kernel
theorem dX8_init_145 : decode cX8_init 145 = .ok (.iastore, 1) := by decide +kernel
theorem dX8_init_146 : decode cX8_init 146 = .ok (.dup, 1) := by decide +kernel
theorem dX8_init_147 : decode cX8_init 147 = .ok (.bipush 6, 2) := by decide +kernel
theorem dX8_init_149 : decode cX8_init 149 = .ok (.bipush 80, 2) := by decide +kernel
theorem dX8_init_151 : decode cX8_init 151 = .ok (.iastore, 1) := by decide +kernel
theorem dX8_init_152 : decode cX8_init 152 = .ok (.putfield 56, 3) := by decide +kernel
theorem dX8_init_155 : decode cX8_init 155 = .ok (.aload_n 0, 1) := by decide +kernel
theorem dX8_init_156 : decode cX8_init 156 = .ok (.bipush 42, 2) := by decide +kernel
theorem dX8_init_158 : decode cX8_init 158 = .ok (.newarray .int, 2) := by decide +kernel
theorem dX8_init_160 : decode cX8_init 160 = .ok (.putfield 59, 3) := by decide +kernel
theorem dX8_init_163 : decode cX8_init 163 = .ok (.aload_n 0, 1) := by decide +kernel
theorem dX8_init_164 : decode cX8_init 164 = .ok (.bipush 8, 2) := by decide +kernel
theorem dX8_init_166 : decode cX8_init 166 = .ok (.newarray .int, 2) := by decide +kernel
theorem dX8_init_168 : decode cX8_init 168 = .ok (.putfield 62, 3) := by decide +kernel
theorem dX8_init_171 : decode cX8_init 171 = .ok (.aload_n 0, 1) := by decide +kernel
theorem dX8_init_172 : decode cX8_init 172 = .ok (.bipush 8, 2) := by decide +kernel
theorem dX8_init_174 : decode cX8_init 174 = .ok (.newarray .int, 2) := by decide +kernel
theorem dX8_init_176 : decode cX8_init 176 = .ok (.putfield 65, 3) := by decide +kernel
theorem dX8_init_179 : decode cX8_init 179 = .ok (.aload_n 0, 1) := by decide +kernel
theorem dX8_init_180 : decode cX8_init 180 = .ok (.bipush 8, 2) := by decide +kernel
theorem dX8_init_182 : decode cX8_init 182 = .ok (.newarray .int, 2) := by decide +kernel
theorem dX8_init_184 : decode cX8_init 184 = .ok (.putfield 68, 3) := by decide +kernel
theorem dX8_init_187 : decode cX8_init 187 = .ok (.aload_n 0, 1) := by decide +kernel
theorem dX8_init_188 : decode cX8_init 188 = .ok (.bipush 8, 2) := by decide +kernel
theorem dX8_init_190 : decode cX8_init 190 = .ok (.newarray .int, 2) := by decide +kernel
theorem dX8_init_192 : decode cX8_init 192 = .ok (.putfield 71, 3) := by decide +kernel
theorem dX8_init_195 : decode cX8_init 195 = .ok (.aload_n 0, 1) := by decide +kernel
theorem dX8_init_196 : decode cX8_init 196 = .ok (.sipush 800, 3) := by decide +kernel
theorem dX8_init_199 : decode cX8_init 199 = .ok (.newarray .long, 2) := by decide +kernel
theorem dX8_init_201 : decode cX8_init 201 = .ok (.putfield 74, 3) := by decide +kernel
theorem dX8_init_204 : decode cX8_init 204 = .ok (.aload_n 0, 1) := by decide +kernel
theorem dX8_init_205 : decode cX8_init 205 = .ok (.bipush 100, 2) := by decide +kernel
theorem dX8_init_207 : decode cX8_init 207 = .ok (.newarray .long, 2) := by decide +kernel
theorem dX8_init_209 : decode cX8_init 209 = .ok (.putfield 78, 3) := by decide +kernel
theorem dX8_init_212 : decode cX8_init 212 = .ok (.aload_n 0, 1) := by decide +kernel
theorem dX8_init_213 : decode cX8_init 213 = .ok (.bipush 43, 2) := by decide +kernel
theorem dX8_init_215 : decode cX8_init 215 = .ok (.newarray .int, 2) := by decide +kernel
theorem dX8_init_217 : decode cX8_init 217 = .ok (.dup, 1) := by decide +kernel
theorem dX8_init_218 : decode cX8_init 218 = .ok (.iconst 0, 1) := by decide +kernel
theorem dX8_init_219 : decode cX8_init 219 = .ok (.bipush 99, 2) := by decide +kernel
theorem dX8_init_221 : decode cX8_init 221 = .ok (.iastore, 1) := by decide +kernel
theorem dX8_init_222 : decode cX8_init 222 = .ok (.dup, 1) := by decide +kernel
theorem dX8_init_223 : decode cX8_init 223 = .ok (.iconst 1, 1) := by decide +kernel
theorem dX8_init_224 : decode cX8_init 224 = .ok (.bipush 97, 2) := by decide +kernel
theorem dX8_init_226 : decode cX8_init 226 = .ok (.iastore, 1) := by decide +kernel
theorem dX8_init_227 : decode cX8_init 227 = .ok (.dup, 1) := by decide +kernel
theorem dX8_init_228 : decode cX8_init 228 = .ok (.iconst 2, 1) := by decide +kernel
theorem dX8_init_229 : decode cX8_init 229 = .ok (.bipush 116, 2) := by decide +kernel
theorem dX8_init_231 : decode cX8_init 231 = .ok (.iastore, 1) := by decide +kernel
theorem dX8_init_232 : decode cX8_init 232 = .ok (.dup, 1) := by decide +kernel
theorem dX8_init_233 : decode cX8_init 233 = .ok (.iconst 3, 1) := by decide +kernel
theorem dX8_init_234 : decode cX8_init 234 = .ok (.bipush 99, 2) := by decide +kernel
theorem dX8_init_236 : decode cX8_init 236 = .ok (.iastore, 1) := by decide +kernel
theorem dX8_init_237 : decode cX8_init 237 = .ok (.dup, 1) := by decide +kernel
theorem dX8_init_238 : decode cX8_init 238 = .ok (.iconst 4, 1) := by decide +kernel
theorem dX8_init_239 : decode cX8_init 239 = .ok (.bipush 104, 2) := by decide +kernel
theorem dX8_init_241 : decode cX8_init 241 = .ok (.iastore, 1) := by decide +kernel
theorem dX8_init_242 : decode cX8_init 242 = .ok (.dup, 1) := by decide +kernel
theorem dX8_init_243 : decode cX8_init 243 = .ok (.iconst 5, 1) := by decide +kernel
theorem dX8_init_244 : decode cX8_init 244 = .ok (.bipush 32, 2) := by decide +kernel
theorem dX8_init_246 : decode cX8_init 246 = .ok (.iastore, 1) := by decide +kernel
theorem dX8_init_247 : decode cX8_init 247 = .ok (.dup, 1) := by decide +kernel
theorem dX8_init_248 : decode cX8_init 248 = .ok (.bipush 6, 2) := by decide +kernel
theorem dX8_init_250 : decode cX8_init 250 = .ok (.iconst 0, 1) := by decide +kernel
theorem dX8_init_251 : decode cX8_init 251 = .ok (.iastore, 1) := by decide +kernel
theorem dX8_init_252 : decode cX8_init 252 = .ok (.dup, 1) := by decide +kernel
theorem dX8_init_253 : decode cX8_init 253 = .ok (.bipush 7, 2) := by decide +kernel
theorem dX8_init_255 : decode cX8_init 255 = .ok (.bipush 110, 2) := by decide +kernel
theorem dX8_init_257 : decode cX8_init 257 = .ok (.iastore, 1) := by decide +kernel
theorem dX8_init_258 : decode cX8_init 258 = .ok (.dup, 1) := by decide +kernel
theorem dX8_init_259 : decode cX8_init 259 = .ok (.bipush 8, 2) := by decide +kernel
theorem dX8_init_261 : decode cX8_init 261 = .ok (.bipush 101, 2) := by decide +kernel
theorem dX8_init_263 : decode cX8_init 263 = .ok (.iastore, 1) := by decide +kernel
theorem dX8_init_264 : decode cX8_init 264 = .ok (.dup, 1) := by decide +kernel
theorem dX8_init_265 : decode cX8_init 265 = .ok (.bipush 9, 2) := by decide +kernel
theorem dX8_init_267 : decode cX8_init 267 = .ok (.bipush 97, 2) := by decide +kernel
theorem dX8_init_269 : decode cX8_init 269 = .ok (.iastore, 1) := by decide +kernel
theorem dX8_init_270 : decode cX8_init 270 = .ok (.dup, 1) := by decide +kernel
theorem dX8_init_271 : decode cX8_init 271 = .ok (.bipush 10, 2) := by decide +kernel
theorem dX8_init_273 : decode cX8_init 273 = .ok (.bipush 114, 2) := by decide +kernel
theorem dX8_init_275 : decode cX8_init 275 = .ok (.iastore, 1) := by decide +kernel
theorem dX8_init_276 : decode cX8_init 276 = .ok (.dup, 1) := by decide +kernel
theorem dX8_init_277 : decode cX8_init 277 = .ok (.bipush 11, 2) := by decide +kernel
theorem dX8_init_279 : decode cX8_init 279 = .ok (.bipush 32, 2) := by decide +kernel
theorem dX8_init_281 : decode cX8_init 281 = .ok (.iastore, 1) := by decide +kernel
theorem dX8_init_282 : decode cX8_init 282 = .ok (.dup, 1) := by decide +kernel
theorem dX8_init_283 : decode cX8_init 283 = .ok (.bipush 12, 2) := by decide +kernel
theorem dX8_init_285 : decode cX8_init 285 = .ok (.iconst 0, 1) := by decide +kernel
theorem dX8_init_286 : decode cX8_init 286 = .ok (.iastore, 1) := by decide +kernel
theorem dX8_init_287 : decode cX8_init 287 = .ok (.dup, 1) := by decide +kernel
theorem dX8_init_288 : decode cX8_init 288 = .ok (.bipush 13, 2) := by decide +kernel
theorem dX8_init_290 : decode cX8_init 290 = .ok (.bipush 115, 2) := by decide +kernel
theorem dX8_init_292 : decode cX8_init 292 = .ok (.iastore, 1) := by decide +kernel
theorem dX8_init_293 : decode cX8_init 293 = .ok (.dup, 1) := by decide +kernel
theorem dX8_init_294 : decode cX8_init 294 = .ok (.bipush 14, 2) := by decide +kernel
theorem dX8_init_296 : decode cX8_init 296 = .ok (.bipush 116, 2) := by decide +kernel
theorem dX8_init_298 : decode cX8_init 298 = .ok (.iastore, 1) := by decide +kernel
theorem dX8_init_299 : decode cX8_init 299 = .ok (.dup, 1) := by decide +kernel
theorem dX8_init_300 : decode cX8_init 300 = .ok (.bipush 15, 2) := by decide +kernel
theorem dX8_init_302 : decode cX8_init 302 = .ok (.bipush 111, 2) := by decide +kernel
theorem dX8_init_304 : decode cX8_init 304 = .ok (.iastore, 1) := by decide +kernel
theorem dX8_init_305 : decode cX8_init 305 = .ok (.dup, 1) := by decide +kernel
theorem dX8_init_306 : decode cX8_init 306 = .ok (.bipush 16, 2) := by decide +kernel
theorem dX8_init_308 : decode cX8_init 308 = .ok (.bipush 112, 2) := by decide +kernel
theorem dX8_init_310 : decode cX8_init 310 = .ok (.iastore, 1) := by decide +kernel
theorem dX8_init_311 : decode cX8_init 311 = .ok (.dup, 1) := by decide +kernel
theorem dX8_init_312 : decode cX8_init 312 = .ok (.bipush 17, 2) := by decide +kernel
theorem dX8_init_314 : decode cX8_init 314 = .ok (.bipush 32, 2) := by decide +kernel
theorem dX8_init_316 : decode cX8_init 316 = .ok (.iastore, 1) := by decide +kernel
theorem dX8_init_317 : decode cX8_init 317 = .ok (.dup, 1) := by decide +kernel
theorem dX8_init_318 : decode cX8_init 318 = .ok (.bipush 18, 2) := by decide +kernel
theorem dX8_init_320 : decode cX8_init 320 = .ok (.iconst 0, 1) := by decide +kernel
theorem dX8_init_321 : decode cX8_init 321 = .ok (.iastore, 1) := by decide +kernel
theorem dX8_init_322 : decode cX8_init 322 = .ok (.dup, 1) := by decide +kernel
theorem dX8_init_323 : decode cX8_init 323 = .ok (.bipush 19, 2) := by decide +kernel
theorem dX8_init_325 : decode cX8_init 325 = .ok (.bipush 116, 2) := by decide +kernel
theorem dX8_init_327 : decode cX8_init 327 = .ok (.iastore, 1) := by decide +kernel
theorem dX8_init_328 : decode cX8_init 328 = .ok (.dup, 1) := by decide +kernel
theorem dX8_init_329 : decode cX8_init 329 = .ok (.bipush 20, 2) := by decide +kernel
theorem dX8_init_331 : decode cX8_init 331 = .ok (.bipush 105, 2) := by decide +kernel
theorem dX8_init_333 : decode cX8_init 333 = .ok (.iastore, 1) := by decide +kernel
theorem dX8_init_334 : decode cX8_init 334 = .ok (.dup, 1) := by decide +kernel
theorem dX8_init_335 : decode cX8_init 335 = .ok (.bipush 21, 2) := by decide +kernel
theorem dX8_init_337 : decode cX8_init 337 = .ok (.bipush 114, 2) := by decide +kernel
theorem dX8_init_339 : decode cX8_init 339 = .ok (.iastore, 1) := by decide +kernel
theorem dX8_init_340 : decode cX8_init 340 = .ok (.dup, 1) := by decide +kernel
theorem dX8_init_341 : decode cX8_init 341 = .ok (.bipush 22, 2) := by decide +kernel
theorem dX8_init_343 : decode cX8_init 343 = .ok (.bipush 101, 2) := by decide +kernel
theorem dX8_init_345 : decode cX8_init 345 = .ok (.iastore, 1) := by decide +kernel
theorem dX8_init_346 : decode cX8_init 346 = .ok (.dup, 1) := by decide +kernel
theorem dX8_init_347 : decode cX8_init 347 = .ok (.bipush 23, 2) := by decide +kernel
theorem dX8_init_349 : decode cX8_init 349 = .ok (.bipush 32, 2) := by decide +kernel
theorem dX8_init_351 : decode cX8_init 351 = .ok (.iastore, 1) := by decide +kernel
theorem dX8_init_352 : decode cX8_init 352 = .ok (.dup, 1) := by decide +kernel
theorem dX8_init_353 : decode cX8_init 353 = .ok (.bipush 24, 2) := by decide +kernel
theorem dX8_init_355 : decode cX8_init 355 = .ok (.iconst 0, 1) := by decide +kernel
theorem dX8_init_356 : decode cX8_init 356 = .ok (.iastore, 1) := by decide +kernel
theorem dX8_init_357 : decode cX8_init 357 = .ok (.dup, 1) := by decide +kernel
theorem dX8_init_358 : decode cX8_init 358 = .ok (.bipush 25, 2) := by decide +kernel
theorem dX8_init_360 : decode cX8_init 360 = .ok (.bipush 104, 2) := by decide +kernel
theorem dX8_init_362 : decode cX8_init 362 = .ok (.iastore, 1) := by decide +kernel
theorem dX8_init_363 : decode cX8_init 363 = .ok (.dup, 1) := by decide +kernel
theorem dX8_init_364 : decode cX8_init 364 = .ok (.bipush 26, 2) := by decide +kernel
theorem dX8_init_366 : decode cX8_init 366 = .ok (.bipush 97, 2) := by decide +kernel
theorem dX8_init_368 : decode cX8_init 368 = .ok (.iastore, 1) := by decide +kernel
theorem dX8_init_369 : decode cX8_init 369 = .ok (.dup, 1) := by decide +kernel
theorem dX8_init_370 : decode cX8_init 370 = .ok (.bipush 27, 2) := by decide +kernel
theorem dX8_init_372 : decode cX8_init 372 = .ok (.bipush 108, 2) := by decide +kernel
theorem dX8_init_374 : decode cX8_init 374 = .ok (.iastore, 1) := by decide +kernel
theorem dX8_init_375 : decode cX8_init 375 = .ok (.dup, 1) := by decide +kernel
theorem dX8_init_376 : decode cX8_init 376 = .ok (.bipush 28, 2) := by decide +kernel
theorem dX8_init_378 : decode cX8_init 378 = .ok (.bipush 102, 2) := by decide +kernel
theorem dX8_init_380 : decode cX8_init 380 = .ok (.iastore, 1) := by decide +kernel
theorem dX8_init_381 : decode cX8_init 381 = .ok (.dup, 1) := by decide +kernel
theorem dX8_init_382 : decode cX8_init 382 = .ok (.bipush 29, 2) := by decide +kernel
theorem dX8_init_384 : decode cX8_init 384 = .ok (.bipush 32, 2) := by decide +kernel
theorem dX8_init_386 : decode cX8_init 386 = .ok (.iastore, 1) := by decide +kernel
theorem dX8_init_387 : decode cX8_init 387 = .ok (.dup, 1) := by decide +kernel
theorem dX8_init_388 : decode cX8_init 388 = .ok (.bipush 30, 2) := by decide +kernel
theorem dX8_init_390 : decode cX8_init 390 = .ok (.iconst 0, 1) := by decide +kernel
theorem dX8_init_391 : decode cX8_init 391 = .ok (.iastore, 1) := by decide +kernel
theorem dX8_init_392 : decode cX8_init 392 = .ok (.dup, 1) := by decide +kernel
theorem dX8_init_393 : decode cX8_init 393 = .ok (.bipush 31, 2) := by decide +kernel
theorem dX8_init_395 : decode cX8_init 395 = .ok (.bipush 115, 2) := by decide +kernel
theorem dX8_init_397 : decode cX8_init 397 = .ok (.iastore, 1) := by decide +kernel
theorem dX8_init_398 : decode cX8_init 398 = .ok (.dup, 1) := by decide +kernel
theorem dX8_init_399 : decode cX8_init 399 = .ok (.bipush 32, 2) := by decide +kernel
theorem dX8_init_401 : decode cX8_init 401 = .ok (.bipush 101, 2) := by decide +kernel
theorem dX8_init_403 : decode cX8_init 403 = .ok (.iastore, 1) := by decide +kernel
theorem dX8_init_404 : decode cX8_init 404 = .ok (.dup, 1) := by decide +kernel
theorem dX8_init_405 : decode cX8_init 405 = .ok (.bipush 33, 2) := by decide +kernel
theorem dX8_init_407 : decode cX8_init 407 = .ok (.bipush 101, 2) := by decide +kernel
theorem dX8_init_409 : decode cX8_init 409 = .ok (.iastore, 1) := by decide +kernel
theorem dX8_init_410 : decode cX8_init 410 = .ok (.dup, 1) := by decide +kernel
theorem dX8_init_411 : decode cX8_init 411 = .ok (.bipush 34, 2) := by decide +kernel
theorem dX8_init_413 : decode cX8_init 413 = .ok (.bipush 32, 2) := by decide +kernel
theorem dX8_init_415 : decode cX8_init 415 = .ok (.iastore, 1) := by decide +kernel
theorem dX8_init_416 : decode cX8_init 416 = .ok (.dup, 1) := by decide +kernel
theorem dX8_init_417 : decode cX8_init 417 = .ok (.bipush 35, 2) := by decide +kernel
theorem dX8_init_419 : decode cX8_init 419 = .ok (.iconst 0, 1) := by decide +kernel
theorem dX8_init_420 : decode cX8_init 420 = .ok (.iastore, 1) := by decide +kernel
theorem dX8_init_421 : decode cX8_init 421 = .ok (.dup, 1) := by decide +kernel
theorem dX8_init_422 : decode cX8_init 422 = .ok (.bipush 36, 2) := by decide +kernel
theorem dX8_init_424 : decode cX8_init 424 = .ok (.bipush 115, 2) := by decide +kernel
theorem dX8_init_426 : decode cX8_init 426 = .ok (.iastore, 1) := by decide +kernel
theorem dX8_init_427 : decode cX8_init 427 = .ok (.dup, 1) := by decide +kernel
theorem dX8_init_428 : decode cX8_init 428 = .ok (.bipush 37, 2) := by decide +kernel
theorem dX8_init_430 : decode cX8_init 430 = .ok (.bipush 116, 2) := by decide +kernel
theorem dX8_init_432 : decode cX8_init 432 = .ok (.iastore, 1) := by decide +kernel
theorem dX8_init_433 : decode cX8_init 433 = .ok (.dup, 1) := by decide +kernel
theorem dX8_init_434 : decode cX8_init 434 = .ok (.bipush 38, 2) := by decide +kernel
theorem dX8_init_436 : decode cX8_init 436 = .ok (.bipush 97, 2) := by decide +kernel
theorem dX8_init_438 : decode cX8_init 438 = .ok (.iastore, 1) := by decide +kernel
theorem dX8_init_439 : decode cX8_init 439 = .ok (.dup, 1) := by decide +kernel
theorem dX8_init_440 : decode cX8_init 440 = .ok (.bipush 39, 2) := by decide +kernel
theorem dX8_init_442 : decode cX8_init 442 = .ok (.bipush 110, 2) := by decide +kernel
theorem dX8_init_444 : decode cX8_init 444 = .ok (.iastore, 1) := by decide +kernel
theorem dX8_init_445 : decode cX8_init 445 = .ok (.dup, 1) := by decide +kernel
theorem dX8_init_446 : decode cX8_init 446 = .ok (.bipush 40, 2) := by decide +kernel
theorem dX8_init_448 : decode cX8_init 448 = .ok (.bipush 100, 2) := by decide +kernel
theorem dX8_init_450 : decode cX8_init 450 = .ok (.iastore, 1) := by decide +kernel
theorem dX8_init_451 : decode cX8_init 451 = .ok (.dup, 1) := by decide +kernel
theorem dX8_init_452 : decode cX8_init 452 = .ok (.bipush 41, 2) := by decide +kernel
theorem dX8_init_454 : decode cX8_init 454 = .ok (.bipush 32, 2) := by decide +kernel
theorem dX8_init_456 : decode cX8_init 456 = .ok (.iastore, 1) := by decide +kernel
theorem dX8_init_457 : decode cX8_init 457 = .ok (.dup, 1) := by decide +kernel
theorem dX8_init_458 : decode cX8_init 458 = .ok (.bipush 42, 2) := by decide +kernel
theorem dX8_init_460 : decode cX8_init 460 = .ok (.iconst 0, 1) := by decide +kernel
theorem dX8_init_461 : decode cX8_init 461 = .ok (.iastore, 1) := by decide +kernel
theorem dX8_init_462 : decode cX8_init 462 = .ok (.putfield 81, 3) := by decide +kernel
theorem dX8_init_465 : decode cX8_init 465 = .ok (.aload_n 0, 1) := by decide +kernel
theorem dX8_init_466 : decode cX8_init 466 = .ok (.bipush 7, 2) := by decide +kernel
theorem dX8_init_468 : decode cX8_init 468 = .ok (.newarray .int, 2) := by decide +kernel
theorem dX8_init_470 : decode cX8_init 470 = .ok (.putfield 84, 3) := by decide +kernel
theorem dX8_init_473 : decode cX8_init 473 = .ok (.aload_n 0, 1) := by decide +kernel
theorem dX8_init_474 : decode cX8_init 474 = .ok (.iconst (-1), 1) := by decide +kernel
theorem dX8_init_475 : decode cX8_init 475 = .ok (.putfield 87, 3) := by decide +kernel
theorem dX8_init_478 : decode cX8_init 478 = .ok (.aload_n 0, 1) := by decide +kernel
theorem dX8_init_479 : decode cX8_init 479 = .ok (.bipush 30, 2) := by decide +kernel
theorem dX8_init_481 : decode cX8_init 481 = .ok (.newarray .int, 2) := by decide +kernel
theorem dX8_init_483 : decode cX8_init 483 = .ok (.putfield 90, 3) := by decide +kernel
theorem dX8_init_486 : decode cX8_init 486 = .ok (.aload_n 0, 1) := by decide +kernel
theorem dX8_init_487 : decode cX8_init 487 = .ok (.bipush 30, 2) := by decide +kernel
theorem dX8_init_489 : decode cX8_init 489 = .ok (.newarray .int, 2) := by decide +kernel
theorem dX8_init_491 : decode cX8_init 491 = .ok (.putfield 93, 3) := by decide +kernel
theorem dX8_init_494 : decode cX8_init 494 = .ok (.aload_n 0, 1) := by decide +kernel
theorem dX8_init_495 : decode cX8_init 495 = .ok (.bipush 30, 2) := by decide +kernel
theorem dX8_init_497 : decode cX8_init 497 = .ok (.newarray .int, 2) := by decide +kernel
theorem dX8_init_499 : decode cX8_init 499 = .ok (.putfield 96, 3) := by decide +kernel
theorem dX8_init_502 : decode cX8_init 502 = .ok (.aload_n 0, 1) := by decide +kernel
theorem dX8_init_503 : decode cX8_init 503 = .ok (.bipush 30, 2) := by decide +kernel
theorem dX8_init_505 : decode cX8_init 505 = .ok (.newarray .int, 2) := by decide +kernel
theorem dX8_init_507 : decode cX8_init 507 = .ok (.putfield 99, 3) := by decide +kernel
theorem dX8_init_510 : decode cX8_init 510 = .ok (.aload_n 0, 1) := by decide +kernel
theorem dX8_init_511 : decode cX8_init 511 = .ok (.bipush 48, 2) := by decide +kernel
theorem dX8_init_513 : decode cX8_init 513 = .ok (.newarray .int, 2) := by decide +kernel
theorem dX8_init_515 : decode cX8_init 515 = .ok (.putfield 102, 3) := by decide +kernel
theorem dX8_init_518 : decode cX8_init 518 = .ok (.aload_n 0, 1) := by decide +kernel
theorem dX8_init_519 : decode cX8_init 519 = .ok (.bipush 30, 2) := by decide +kernel
theorem dX8_init_521 : decode cX8_init 521 = .ok (.newarray .int, 2) := by decide +kernel
theorem dX8_init_523 : decode cX8_init 523 = .ok (.putfield 105, 3) := by decide +kernel
theorem dX8_init_526 : decode cX8_init 526 = .ok (.aload_n 0, 1) := by decide +kernel
theorem dX8_init_527 : decode cX8_init 527 = .ok (.bipush 30, 2) := by decide +kernel
theorem dX8_init_529 : decode cX8_init 529 = .ok (.newarray .int, 2) := by decide +kernel
theorem dX8_init_531 : decode cX8_init 531 = .ok (.putfield 108, 3) := by decide +kernel
theorem dX8_init_534 : decode cX8_init 534 = .ok (.aload_n 0, 1) := by decide +kernel
theorem dX8_init_535 : decode cX8_init 535 = .ok (.bipush 30, 2) := by decide +kernel
theorem dX8_init_537 : decode cX8_init 537 = .ok (.newarray .int, 2) := by decide +kernel
theorem dX8_init_539 : decode cX8_init 539 = .ok (.putfield 111, 3) := by decide +kernel
theorem dX8_init_542 : decode cX8_init 542 = .ok (.aload_n 0, 1) := by decide +kernel
theorem dX8_init_543 : decode cX8_init 543 = .ok (.bipush 30, 2) := by decide +kernel
theorem dX8_init_545 : decode cX8_init 545 = .ok (.newarray .int, 2) := by decide +kernel
theorem dX8_init_547 : decode cX8_init 547 = .ok (.putfield 114, 3) := by decide +kernel
theorem dX8_init_550 : decode cX8_init 550 = .ok (.aload_n 0, 1) := by decide +kernel
theorem dX8_init_551 : decode cX8_init 551 = .ok (.sipush 200, 3) := by decide +kernel
theorem dX8_init_554 : decode cX8_init 554 = .ok (.newarray .int, 2) := by decide +kernel
theorem dX8_init_556 : decode cX8_init 556 = .ok (.putfield 117, 3) := by decide +kernel
theorem dX8_init_559 : decode cX8_init 559 = .ok (.aload_n 0, 1) := by decide +kernel
theorem dX8_init_560 : decode cX8_init 560 = .ok (.sipush 200, 3) := by decide +kernel
theorem dX8_init_563 : decode cX8_init 563 = .ok (.newarray .int, 2) := by decide +kernel
theorem dX8_init_565 : decode cX8_init 565 = .ok (.putfield 120, 3) := by decide +kernel
theorem dX8_init_568 : decode cX8_init 568 = .ok (.aload_n 0, 1) := by decide +kernel
theorem dX8_init_569 : decode cX8_init 569 = .ok (.bipush 20, 2) := by decide +kernel
theorem dX8_init_571 : decode cX8_init 571 = .ok (.newarray .int, 2) := by decide +kernel
theorem dX8_init_573 : decode cX8_init 573 = .ok (.putfield 123, 3) := by decide +kernel
theorem dX8_init_576 : decode cX8_init 576 = .ok (.aload_n 0, 1) := by decide +kernel
theorem dX8_init_577 : decode cX8_init 577 = .ok (.iconst (-1), 1) := by decide +kernel
theorem dX8_init_578 : decode cX8_init 578 = .ok (.putfield 126, 3) := by decide +kernel
theorem dX8_init_581 : decode cX8_init 581 = .ok (.aload_n 0, 1) := by decide +kernel
theorem dX8_init_582 : decode cX8_init 582 = .ok (.sipush 360, 3) := by decide +kernel
theorem dX8_init_585 : decode cX8_init 585 = .ok (.newarray .int, 2) := by decide +kernel
theorem dX8_init_587 : decode cX8_init 587 = .ok (.putfield 129, 3) := by decide +kernel
theorem dX8_init_590 : decode cX8_init 590 = .ok (.return_, 1) := by decide +kernel
theorem dX8_no_0 : decode cX8_no 0 = .ok (.aload_n 0, 1) := by decide +kernel
theorem dX8_no_1 : decode cX8_no 1 = .ok (.getfield 19, 3) := by decide +kernel
theorem dX8_no_4 : decode cX8_no 4 = .ok (.iload_n 1, 1) := by decide +kernel
theorem dX8_no_5 : decode cX8_no 5 = .ok (.ineg, 1) := by decide +kernel
theorem dX8_no_6 : decode cX8_no 6 = .ok (.dup2, 1) := by decide +kernel
theorem dX8_no_7 : decode cX8_no 7 = .ok (.iaload, 1) := by decide +kernel
theorem dX8_no_8 : decode cX8_no 8 = .ok (.iconst 1, 1) := by decide +kernel
theorem dX8_no_9 : decode cX8_no 9 = .ok (.iadd, 1) := by decide +kernel
theorem dX8_no_10 : decode cX8_no 10 = .ok (.iastore, 1) := by decide +kernel
theorem dX8_no_11 : decode cX8_no 11 = .ok (.iload_n 1, 1) := by decide +kernel
theorem dX8_no_12 : decode cX8_no 12 = .ok (.ireturn, 1) := by decide +kernel
theorem dX8_noTen_0 : decode cX8_noTen 0 = .ok (.aload_n 0, 1) := by decide +kernel
theorem dX8_noTen_1 : decode cX8_noTen 1 = .ok (.getfield 19, 3) := by decide +kernel
theorem dX8_noTen_4 : decode cX8_noTen 4 = .ok (.iload_n 1, 1) := by decide +kernel
theorem dX8_noTen_5 : decode cX8_noTen 5 = .ok (.ineg, 1) := by decide +kernel
theorem dX8_noTen_6 : decode cX8_noTen 6 = .ok (.dup2, 1) := by decide +kernel
theorem dX8_noTen_7 : decode cX8_noTen 7 = .ok (.iaload, 1) := by decide +kernel
theorem dX8_noTen_8 : decode cX8_noTen 8 = .ok (.iconst 1, 1) := by decide +kernel
theorem dX8_noTen_9 : decode cX8_noTen 9 = .ok (.iadd, 1) := by decide +kernel
theorem dX8_noTen_10 : decode cX8_noTen 10 = .ok (.iastore, 1) := by decide +kernel
theorem dX8_noTen_11 : decode cX8_noTen 11 = .ok (.iload_n 1, 1) := by decide +kernel
theorem dX8_noTen_12 : decode cX8_noTen 12 = .ok (.bipush 10, 2) := by decide +kernel
theorem dX8_noTen_14 : decode cX8_noTen 14 = .ok (.isub, 1) := by decide +kernel
theorem dX8_noTen_15 : decode cX8_noTen 15 = .ok (.ireturn, 1) := by decide +kernel
theorem dX8_isShelf_0 : decode cX8_isShelf 0 = .ok (.iload_n 1, 1) := by decide +kernel
theorem dX8_isShelf_1 : decode cX8_isShelf 1 = .ok (.ifCond .lt 13, 3) := by decide +kernel
theorem dX8_isShelf_4 : decode cX8_isShelf 4 = .ok (.iload_n 1, 1) := by decide +kernel
theorem dX8_isShelf_5 : decode cX8_isShelf 5 = .ok (.bipush 8, 2) := by decide +kernel
theorem dX8_isShelf_7 : decode cX8_isShelf 7 = .ok (.if_icmp .ge 7, 3) := by decide +kernel
theorem dX8_isShelf_10 : decode cX8_isShelf 10 = .ok (.iconst 1, 1) := by decide +kernel
theorem dX8_isShelf_11 : decode cX8_isShelf 11 = .ok (.goto 4, 3) := by decide +kernel
theorem dX8_isShelf_14 : decode cX8_isShelf 14 = .ok (.iconst 0, 1) := by decide +kernel
theorem dX8_isShelf_15 : decode cX8_isShelf 15 = .ok (.ireturn, 1) := by decide +kernel
theorem dX8_isSeat_0 : decode cX8_isSeat 0 = .ok (.iload_n 1, 1) := by decide +kernel
theorem dX8_isSeat_1 : decode cX8_isSeat 1 = .ok (.ifCond .lt 13, 3) := by decide +kernel
theorem dX8_isSeat_4 : decode cX8_isSeat 4 = .ok (.iload_n 1, 1) := by decide +kernel
theorem dX8_isSeat_5 : decode cX8_isSeat 5 = .ok (.bipush 48, 2) := by decide +kernel
theorem dX8_isSeat_7 : decode cX8_isSeat 7 = .ok (.if_icmp .ge 7, 3) := by decide +kernel
theorem dX8_isSeat_10 : decode cX8_isSeat 10 = .ok (.iconst 1, 1) := by decide +kernel
theorem dX8_isSeat_11 : decode cX8_isSeat 11 = .ok (.goto 4, 3) := by decide +kernel
theorem dX8_isSeat_14 : decode cX8_isSeat 14 = .ok (.iconst 0, 1) := by decide +kernel
theorem dX8_isSeat_15 : decode cX8_isSeat 15 = .ok (.ireturn, 1) := by decide +kernel
theorem dX8_isPerson_0 : decode cX8_isPerson 0 = .ok (.iload_n 1, 1) := by decide +kernel
theorem dX8_isPerson_1 : decode cX8_isPerson 1 = .ok (.ifCond .lt 15, 3) := by decide +kernel
theorem dX8_isPerson_4 : decode cX8_isPerson 4 = .ok (.iload_n 1, 1) := by decide +kernel
theorem dX8_isPerson_5 : decode cX8_isPerson 5 = .ok (.aload_n 0, 1) := by decide +kernel
theorem dX8_isPerson_6 : decode cX8_isPerson 6 = .ok (.getfield 132, 3) := by decide +kernel
theorem dX8_isPerson_9 : decode cX8_isPerson 9 = .ok (.if_icmp .ge 7, 3) := by decide +kernel
theorem dX8_isPerson_12 : decode cX8_isPerson 12 = .ok (.iconst 1, 1) := by decide +kernel
theorem dX8_isPerson_13 : decode cX8_isPerson 13 = .ok (.goto 4, 3) := by decide +kernel
theorem dX8_isPerson_16 : decode cX8_isPerson 16 = .ok (.iconst 0, 1) := by decide +kernel
theorem dX8_isPerson_17 : decode cX8_isPerson 17 = .ok (.ireturn, 1) := by decide +kernel
theorem dX8_isLaws_0 : decode cX8_isLaws 0 = .ok (.iload_n 1, 1) := by decide +kernel
theorem dX8_isLaws_1 : decode cX8_isLaws 1 = .ok (.iconst (-1), 1) := by decide +kernel
theorem dX8_isLaws_2 : decode cX8_isLaws 2 = .ok (.if_icmp .lt 15, 3) := by decide +kernel
theorem dX8_isLaws_5 : decode cX8_isLaws 5 = .ok (.iload_n 1, 1) := by decide +kernel
theorem dX8_isLaws_6 : decode cX8_isLaws 6 = .ok (.aload_n 0, 1) := by decide +kernel
theorem dX8_isLaws_7 : decode cX8_isLaws 7 = .ok (.getfield 135, 3) := by decide +kernel
theorem dX8_isLaws_10 : decode cX8_isLaws 10 = .ok (.if_icmp .ge 7, 3) := by decide +kernel
theorem dX8_isLaws_13 : decode cX8_isLaws 13 = .ok (.iconst 1, 1) := by decide +kernel
theorem dX8_isLaws_14 : decode cX8_isLaws 14 = .ok (.goto 4, 3) := by decide +kernel
theorem dX8_isLaws_17 : decode cX8_isLaws 17 = .ok (.iconst 0, 1) := by decide +kernel
theorem dX8_isLaws_18 : decode cX8_isLaws 18 = .ok (.ireturn, 1) := by decide +kernel
theorem dX8_row_0 : decode cX8_row 0 = .ok (.aload_n 0, 1) := by decide +kernel
theorem dX8_row_1 : decode cX8_row 1 = .ok (.iload_n 1, 1) := by decide +kernel
theorem dX8_row_2 : decode cX8_row 2 = .ok (.invokevirtual 138, 3) := by decide +kernel
theorem dX8_row_5 : decode cX8_row 5 = .ok (.ifCond .ne 9, 3) := by decide +kernel
theorem dX8_row_8 : decode cX8_row 8 = .ok (.aload_n 0, 1) := by decide +kernel
theorem dX8_row_9 : decode cX8_row 9 = .ok (.iconst (-1), 1) := by decide +kernel
theorem dX8_row_10 : decode cX8_row 10 = .ok (.invokevirtual 142, 3) := by decide +kernel
theorem dX8_row_13 : decode cX8_row 13 = .ok (.ireturn, 1) := by decide +kernel
theorem dX8_row_14 : decode cX8_row 14 = .ok (.iload_n 3, 1) := by decide +kernel
theorem dX8_row_15 : decode cX8_row 15 = .ok (.ifCond .ge 10, 3) := by decide +kernel
theorem dX8_row_18 : decode cX8_row 18 = .ok (.aload_n 0, 1) := by decide +kernel
theorem dX8_row_19 : decode cX8_row 19 = .ok (.bipush (-4), 2) := by decide +kernel
theorem dX8_row_21 : decode cX8_row 21 = .ok (.invokevirtual 142, 3) := by decide +kernel
theorem dX8_row_24 : decode cX8_row 24 = .ok (.ireturn, 1) := by decide +kernel
theorem dX8_row_25 : decode cX8_row 25 = .ok (.iload_n 2, 1) := by decide +kernel
theorem dX8_row_26 : decode cX8_row 26 = .ok (.ifCond .lt 8, 3) := by decide +kernel
theorem dX8_row_29 : decode cX8_row 29 = .ok (.iload_n 2, 1) := by decide +kernel
theorem dX8_row_30 : decode cX8_row 30 = .ok (.iconst 3, 1) := by decide +kernel
theorem dX8_row_31 : decode cX8_row 31 = .ok (.if_icmp .le 10, 3) := by decide +kernel
theorem dX8_row_34 : decode cX8_row 34 = .ok (.aload_n 0, 1) := by decide +kernel
theorem dX8_row_35 : decode cX8_row 35 = .ok (.bipush (-6), 2) := by decide +kernel
theorem dX8_row_37 : decode cX8_row 37 = .ok (.invokevirtual 142, 3) := by decide +kernel
theorem dX8_row_40 : decode cX8_row 40 = .ok (.ireturn, 1) := by decide +kernel
theorem dX8_row_41 : decode cX8_row 41 = .ok (.iload_n 3, 1) := by decide +kernel
theorem dX8_row_42 : decode cX8_row 42 = .ok (.bipush 100, 2) := by decide +kernel
theorem dX8_row_44 : decode cX8_row 44 = .ok (.if_icmp .le 10, 3) := by decide +kernel
theorem dX8_row_47 : decode cX8_row 47 = .ok (.aload_n 0, 1) := by decide +kernel
theorem dX8_row_48 : decode cX8_row 48 = .ok (.bipush (-7), 2) := by decide +kernel
theorem dX8_row_50 : decode cX8_row 50 = .ok (.invokevirtual 142, 3) := by decide +kernel
theorem dX8_row_53 : decode cX8_row 53 = .ok (.ireturn, 1) := by decide +kernel
theorem dX8_row_54 : decode cX8_row 54 = .ok (.aload_n 0, 1) := by decide +kernel
theorem dX8_row_55 : decode cX8_row 55 = .ok (.getfield 62, 3) := by decide +kernel
theorem dX8_row_58 : decode cX8_row 58 = .ok (.iload_n 1, 1) := by decide +kernel
theorem dX8_row_59 : decode cX8_row 59 = .ok (.iconst 1, 1) := by decide +kernel
theorem dX8_row_60 : decode cX8_row 60 = .ok (.iastore, 1) := by decide +kernel
theorem dX8_row_61 : decode cX8_row 61 = .ok (.aload_n 0, 1) := by decide +kernel
theorem dX8_row_62 : decode cX8_row 62 = .ok (.getfield 65, 3) := by decide +kernel
theorem dX8_row_65 : decode cX8_row 65 = .ok (.iload_n 1, 1) := by decide +kernel
theorem dX8_row_66 : decode cX8_row 66 = .ok (.iload_n 2, 1) := by decide +kernel
theorem dX8_row_67 : decode cX8_row 67 = .ok (.iastore, 1) := by decide +kernel
theorem dX8_row_68 : decode cX8_row 68 = .ok (.aload_n 0, 1) := by decide +kernel
theorem dX8_row_69 : decode cX8_row 69 = .ok (.getfield 68, 3) := by decide +kernel
theorem dX8_row_72 : decode cX8_row 72 = .ok (.iload_n 1, 1) := by decide +kernel
theorem dX8_row_73 : decode cX8_row 73 = .ok (.iload_n 3, 1) := by decide +kernel
theorem dX8_row_74 : decode cX8_row 74 = .ok (.iastore, 1) := by decide +kernel
theorem dX8_row_75 : decode cX8_row 75 = .ok (.iconst 0, 1) := by decide +kernel
theorem dX8_row_76 : decode cX8_row 76 = .ok (.istore 4, 2) := by decide +kernel
theorem dX8_row_78 : decode cX8_row 78 = .ok (.iload 4, 2) := by decide +kernel
theorem dX8_row_80 : decode cX8_row 80 = .ok (.bipush 100, 2) := by decide +kernel
theorem dX8_row_82 : decode cX8_row 82 = .ok (.if_icmp .ge 22, 3) := by decide +kernel
theorem dX8_row_85 : decode cX8_row 85 = .ok (.aload_n 0, 1) := by decide +kernel
theorem dX8_row_86 : decode cX8_row 86 = .ok (.getfield 74, 3) := by decide +kernel
theorem dX8_row_89 : decode cX8_row 89 = .ok (.bipush 100, 2) := by decide +kernel
theorem dX8_row_91 : decode cX8_row 91 = .ok (.iload_n 1, 1) := by decide +kernel
theorem dX8_row_92 : decode cX8_row 92 = .ok (.imul, 1) := by decide +kernel
theorem dX8_row_93 : decode cX8_row 93 = .ok (.iload 4, 2) := by decide +kernel
theorem dX8_row_95 : decode cX8_row 95 = .ok (.iadd, 1) := by decide +kernel
theorem dX8_row_96 : decode cX8_row 96 = .ok (.lconst 0, 1) := by decide +kernel
theorem dX8_row_97 : decode cX8_row 97 = .ok (.lastore, 1) := by decide +kernel
theorem dX8_row_98 : decode cX8_row 98 = .ok (.iinc 4 1, 3) := by decide +kernel
theorem dX8_row_101 : decode cX8_row 101 = .ok (.goto (-23), 3) := by decide +kernel
theorem dX8_row_104 : decode cX8_row 104 = .ok (.iconst 1, 1) := by decide +kernel
theorem dX8_row_105 : decode cX8_row 105 = .ok (.ireturn, 1) := by decide +kernel
theorem dX8_set_0 : decode cX8_set 0 = .ok (.aload_n 0, 1) := by decide +kernel
theorem dX8_set_1 : decode cX8_set 1 = .ok (.iload_n 1, 1) := by decide +kernel
theorem dX8_set_2 : decode cX8_set 2 = .ok (.invokevirtual 138, 3) := by decide +kernel
theorem dX8_set_5 : decode cX8_set 5 = .ok (.ifCond .ne 9, 3) := by decide +kernel
theorem dX8_set_8 : decode cX8_set 8 = .ok (.aload_n 0, 1) := by decide +kernel
theorem dX8_set_9 : decode cX8_set 9 = .ok (.iconst (-1), 1) := by decide +kernel
theorem dX8_set_10 : decode cX8_set 10 = .ok (.invokevirtual 142, 3) := by decide +kernel
theorem dX8_set_13 : decode cX8_set 13 = .ok (.ireturn, 1) := by decide +kernel
theorem dX8_set_14 : decode cX8_set 14 = .ok (.aload_n 0, 1) := by decide +kernel
theorem dX8_set_15 : decode cX8_set 15 = .ok (.getfield 62, 3) := by decide +kernel
theorem dX8_set_18 : decode cX8_set 18 = .ok (.iload_n 1, 1) := by decide +kernel
theorem dX8_set_19 : decode cX8_set 19 = .ok (.iaload, 1) := by decide +kernel
theorem dX8_set_20 : decode cX8_set 20 = .ok (.iconst 2, 1) := by decide +kernel
theorem dX8_set_21 : decode cX8_set 21 = .ok (.if_icmp .ne 10, 3) := by decide +kernel
theorem dX8_set_24 : decode cX8_set 24 = .ok (.aload_n 0, 1) := by decide +kernel
theorem dX8_set_25 : decode cX8_set 25 = .ok (.bipush (-2), 2) := by decide +kernel
theorem dX8_set_27 : decode cX8_set 27 = .ok (.invokevirtual 142, 3) := by decide +kernel
theorem dX8_set_30 : decode cX8_set 30 = .ok (.ireturn, 1) := by decide +kernel
theorem dX8_set_31 : decode cX8_set 31 = .ok (.aload_n 0, 1) := by decide +kernel
theorem dX8_set_32 : decode cX8_set 32 = .ok (.getfield 62, 3) := by decide +kernel
theorem dX8_set_35 : decode cX8_set 35 = .ok (.iload_n 1, 1) := by decide +kernel
theorem dX8_set_36 : decode cX8_set 36 = .ok (.iaload, 1) := by decide +kernel
theorem dX8_set_37 : decode cX8_set 37 = .ok (.ifCond .ne 10, 3) := by decide +kernel
theorem dX8_set_40 : decode cX8_set 40 = .ok (.aload_n 0, 1) := by decide +kernel
theorem dX8_set_41 : decode cX8_set 41 = .ok (.bipush (-3), 2) := by decide +kernel
theorem dX8_set_43 : decode cX8_set 43 = .ok (.invokevirtual 142, 3) := by decide +kernel
theorem dX8_set_46 : decode cX8_set 46 = .ok (.ireturn, 1) := by decide +kernel
theorem dX8_set_47 : decode cX8_set 47 = .ok (.iload_n 2, 1) := by decide +kernel
theorem dX8_set_48 : decode cX8_set 48 = .ok (.ifCond .lt 13, 3) := by decide +kernel
theorem dX8_set_51 : decode cX8_set 51 = .ok (.iload_n 2, 1) := by decide +kernel
theorem dX8_set_52 : decode cX8_set 52 = .ok (.aload_n 0, 1) := by decide +kernel
theorem dX8_set_53 : decode cX8_set 53 = .ok (.getfield 68, 3) := by decide +kernel
theorem dX8_set_56 : decode cX8_set 56 = .ok (.iload_n 1, 1) := by decide +kernel
theorem dX8_set_57 : decode cX8_set 57 = .ok (.iaload, 1) := by decide +kernel
theorem dX8_set_58 : decode cX8_set 58 = .ok (.if_icmp .lt 10, 3) := by decide +kernel
theorem dX8_set_61 : decode cX8_set 61 = .ok (.aload_n 0, 1) := by decide +kernel
theorem dX8_set_62 : decode cX8_set 62 = .ok (.bipush (-5), 2) := by decide +kernel
theorem dX8_set_64 : decode cX8_set 64 = .ok (.invokevirtual 142, 3) := by decide +kernel
theorem dX8_set_67 : decode cX8_set 67 = .ok (.ireturn, 1) := by decide +kernel
theorem dX8_set_68 : decode cX8_set 68 = .ok (.aload_n 0, 1) := by decide +kernel
theorem dX8_set_69 : decode cX8_set 69 = .ok (.getfield 74, 3) := by decide +kernel
theorem dX8_set_72 : decode cX8_set 72 = .ok (.bipush 100, 2) := by decide +kernel
theorem dX8_set_74 : decode cX8_set 74 = .ok (.iload_n 1, 1) := by decide +kernel
theorem dX8_set_75 : decode cX8_set 75 = .ok (.imul, 1) := by decide +kernel
theorem dX8_set_76 : decode cX8_set 76 = .ok (.iload_n 2, 1) := by decide +kernel
theorem dX8_set_77 : decode cX8_set 77 = .ok (.iadd, 1) := by decide +kernel
theorem dX8_set_78 : decode cX8_set 78 = .ok (.aload_n 0, 1) := by decide +kernel
theorem dX8_set_79 : decode cX8_set 79 = .ok (.getfield 65, 3) := by decide +kernel
theorem dX8_set_82 : decode cX8_set 82 = .ok (.iload_n 1, 1) := by decide +kernel
theorem dX8_set_83 : decode cX8_set 83 = .ok (.iaload, 1) := by decide +kernel
theorem dX8_set_84 : decode cX8_set 84 = .ok (.ifCond .ne 10, 3) := by decide +kernel
theorem dX8_set_87 : decode cX8_set 87 = .ok (.lload_n 3, 1) := by decide +kernel
theorem dX8_set_88 : decode cX8_set 88 = .ok (.l2i, 1) := by decide +kernel
theorem dX8_set_89 : decode cX8_set 89 = .ok (.i2b, 1) := by decide +kernel
theorem dX8_set_90 : decode cX8_set 90 = .ok (.i2l, 1) := by decide +kernel
theorem dX8_set_91 : decode cX8_set 91 = .ok (.goto 37, 3) := by decide +kernel
theorem dX8_set_94 : decode cX8_set 94 = .ok (.aload_n 0, 1) := by decide +kernel
theorem dX8_set_95 : decode cX8_set 95 = .ok (.getfield 65, 3) := by decide +kernel
theorem dX8_set_98 : decode cX8_set 98 = .ok (.iload_n 1, 1) := by decide +kernel
theorem dX8_set_99 : decode cX8_set 99 = .ok (.iaload, 1) := by decide +kernel
theorem dX8_set_100 : decode cX8_set 100 = .ok (.iconst 1, 1) := by decide +kernel
theorem dX8_set_101 : decode cX8_set 101 = .ok (.if_icmp .ne 10, 3) := by decide +kernel
theorem dX8_set_104 : decode cX8_set 104 = .ok (.lload_n 3, 1) := by decide +kernel
theorem dX8_set_105 : decode cX8_set 105 = .ok (.l2i, 1) := by decide +kernel
theorem dX8_set_106 : decode cX8_set 106 = .ok (.i2s, 1) := by decide +kernel
theorem dX8_set_107 : decode cX8_set 107 = .ok (.i2l, 1) := by decide +kernel
theorem dX8_set_108 : decode cX8_set 108 = .ok (.goto 20, 3) := by decide +kernel
theorem dX8_set_111 : decode cX8_set 111 = .ok (.aload_n 0, 1) := by decide +kernel
theorem dX8_set_112 : decode cX8_set 112 = .ok (.getfield 65, 3) := by decide +kernel
theorem dX8_set_115 : decode cX8_set 115 = .ok (.iload_n 1, 1) := by decide +kernel
theorem dX8_set_116 : decode cX8_set 116 = .ok (.iaload, 1) := by decide +kernel
theorem dX8_set_117 : decode cX8_set 117 = .ok (.iconst 2, 1) := by decide +kernel
theorem dX8_set_118 : decode cX8_set 118 = .ok (.if_icmp .ne 9, 3) := by decide +kernel
theorem dX8_set_121 : decode cX8_set 121 = .ok (.lload_n 3, 1) := by decide +kernel
theorem dX8_set_122 : decode cX8_set 122 = .ok (.l2i, 1) := by decide +kernel
theorem dX8_set_123 : decode cX8_set 123 = .ok (.i2l, 1) := by decide +kernel
theorem dX8_set_124 : decode cX8_set 124 = .ok (.goto 4, 3) := by decide +kernel
theorem dX8_set_127 : decode cX8_set 127 = .ok (.lload_n 3, 1) := by decide +kernel
theorem dX8_set_128 : decode cX8_set 128 = .ok (.lastore, 1) := by decide +kernel
theorem dX8_set_129 : decode cX8_set 129 = .ok (.iconst 1, 1) := by decide +kernel
theorem dX8_set_130 : decode cX8_set 130 = .ok (.ireturn, 1) := by decide +kernel
theorem dX8_copy_0 : decode cX8_copy 0 = .ok (.aload_n 0, 1) := by decide +kernel
theorem dX8_copy_1 : decode cX8_copy 1 = .ok (.iload_n 1, 1) := by decide +kernel
theorem dX8_copy_2 : decode cX8_copy 2 = .ok (.invokevirtual 138, 3) := by decide +kernel
theorem dX8_copy_5 : decode cX8_copy 5 = .ok (.ifCond .eq 11, 3) := by decide +kernel
theorem dX8_copy_8 : decode cX8_copy 8 = .ok (.aload_n 0, 1) := by decide +kernel
theorem dX8_copy_9 : decode cX8_copy 9 = .ok (.iload_n 2, 1) := by decide +kernel
theorem dX8_copy_10 : decode cX8_copy 10 = .ok (.invokevirtual 138, 3) := by decide +kernel
theorem dX8_copy_13 : decode cX8_copy 13 = .ok (.ifCond .ne 9, 3) := by decide +kernel
theorem dX8_copy_16 : decode cX8_copy 16 = .ok (.aload_n 0, 1) := by decide +kernel
theorem dX8_copy_17 : decode cX8_copy 17 = .ok (.iconst (-1), 1) := by decide +kernel
theorem dX8_copy_18 : decode cX8_copy 18 = .ok (.invokevirtual 142, 3) := by decide +kernel
theorem dX8_copy_21 : decode cX8_copy 21 = .ok (.ireturn, 1) := by decide +kernel
theorem dX8_copy_22 : decode cX8_copy 22 = .ok (.aload_n 0, 1) := by decide +kernel
theorem dX8_copy_23 : decode cX8_copy 23 = .ok (.getfield 62, 3) := by decide +kernel
theorem dX8_copy_26 : decode cX8_copy 26 = .ok (.iload_n 1, 1) := by decide +kernel
theorem dX8_copy_27 : decode cX8_copy 27 = .ok (.iaload, 1) := by decide +kernel
theorem dX8_copy_28 : decode cX8_copy 28 = .ok (.iconst 2, 1) := by decide +kernel
theorem dX8_copy_29 : decode cX8_copy 29 = .ok (.if_icmp .eq 48, 3) := by decide +kernel
theorem dX8_copy_32 : decode cX8_copy 32 = .ok (.aload_n 0, 1) := by decide +kernel
theorem dX8_copy_33 : decode cX8_copy 33 = .ok (.getfield 62, 3) := by decide +kernel
theorem dX8_copy_36 : decode cX8_copy 36 = .ok (.iload_n 2, 1) := by decide +kernel
theorem dX8_copy_37 : decode cX8_copy 37 = .ok (.iaload, 1) := by decide +kernel
theorem dX8_copy_38 : decode cX8_copy 38 = .ok (.iconst 2, 1) := by decide +kernel
theorem dX8_copy_39 : decode cX8_copy 39 = .ok (.if_icmp .eq 38, 3) := by decide +kernel
theorem dX8_copy_42 : decode cX8_copy 42 = .ok (.aload_n 0, 1) := by decide +kernel
theorem dX8_copy_43 : decode cX8_copy 43 = .ok (.getfield 62, 3) := by decide +kernel
theorem dX8_copy_46 : decode cX8_copy 46 = .ok (.iload_n 1, 1) := by decide +kernel
theorem dX8_copy_47 : decode cX8_copy 47 = .ok (.iaload, 1) := by decide +kernel
theorem dX8_copy_48 : decode cX8_copy 48 = .ok (.iconst 1, 1) := by decide +kernel
theorem dX8_copy_49 : decode cX8_copy 49 = .ok (.if_icmp .ne 35, 3) := by decide +kernel
theorem dX8_copy_52 : decode cX8_copy 52 = .ok (.aload_n 0, 1) := by decide +kernel
theorem dX8_copy_53 : decode cX8_copy 53 = .ok (.getfield 62, 3) := by decide +kernel
theorem dX8_copy_56 : decode cX8_copy 56 = .ok (.iload_n 2, 1) := by decide +kernel
theorem dX8_copy_57 : decode cX8_copy 57 = .ok (.iaload, 1) := by decide +kernel
theorem dX8_copy_58 : decode cX8_copy 58 = .ok (.iconst 1, 1) := by decide +kernel
theorem dX8_copy_59 : decode cX8_copy 59 = .ok (.if_icmp .ne 25, 3) := by decide +kernel
theorem dX8_copy_62 : decode cX8_copy 62 = .ok (.aload_n 0, 1) := by decide +kernel
theorem dX8_copy_63 : decode cX8_copy 63 = .ok (.getfield 65, 3) := by decide +kernel
theorem dX8_copy_66 : decode cX8_copy 66 = .ok (.iload_n 1, 1) := by decide +kernel
theorem dX8_copy_67 : decode cX8_copy 67 = .ok (.iaload, 1) := by decide +kernel
theorem dX8_copy_68 : decode cX8_copy 68 = .ok (.aload_n 0, 1) := by decide +kernel
theorem dX8_copy_69 : decode cX8_copy 69 = .ok (.getfield 65, 3) := by decide +kernel
theorem dX8_copy_72 : decode cX8_copy 72 = .ok (.iload_n 2, 1) := by decide +kernel
theorem dX8_copy_73 : decode cX8_copy 73 = .ok (.iaload, 1) := by decide +kernel
theorem dX8_copy_74 : decode cX8_copy 74 = .ok (.if_icmp .eq 10, 3) := by decide +kernel
theorem dX8_copy_77 : decode cX8_copy 77 = .ok (.aload_n 0, 1) := by decide +kernel
theorem dX8_copy_78 : decode cX8_copy 78 = .ok (.bipush (-2), 2) := by decide +kernel
theorem dX8_copy_80 : decode cX8_copy 80 = .ok (.invokevirtual 142, 3) := by decide +kernel
theorem dX8_copy_83 : decode cX8_copy 83 = .ok (.ireturn, 1) := by decide +kernel
theorem dX8_copy_84 : decode cX8_copy 84 = .ok (.aload_n 0, 1) := by decide +kernel
theorem dX8_copy_85 : decode cX8_copy 85 = .ok (.getfield 62, 3) := by decide +kernel
theorem dX8_copy_88 : decode cX8_copy 88 = .ok (.iload_n 1, 1) := by decide +kernel
theorem dX8_copy_89 : decode cX8_copy 89 = .ok (.iaload, 1) := by decide +kernel
theorem dX8_copy_90 : decode cX8_copy 90 = .ok (.ifCond .eq 12, 3) := by decide +kernel
theorem dX8_copy_93 : decode cX8_copy 93 = .ok (.aload_n 0, 1) := by decide +kernel
theorem dX8_copy_94 : decode cX8_copy 94 = .ok (.getfield 62, 3) := by decide +kernel
theorem dX8_copy_97 : decode cX8_copy 97 = .ok (.iload_n 2, 1) := by decide +kernel
theorem dX8_copy_98 : decode cX8_copy 98 = .ok (.iaload, 1) := by decide +kernel
theorem dX8_copy_99 : decode cX8_copy 99 = .ok (.ifCond .ne 10, 3) := by decide +kernel
theorem dX8_copy_102 : decode cX8_copy 102 = .ok (.aload_n 0, 1) := by decide +kernel
theorem dX8_copy_103 : decode cX8_copy 103 = .ok (.bipush (-3), 2) := by decide +kernel
theorem dX8_copy_105 : decode cX8_copy 105 = .ok (.invokevirtual 142, 3) := by decide +kernel
theorem dX8_copy_108 : decode cX8_copy 108 = .ok (.ireturn, 1) := by decide +kernel
theorem dX8_copy_109 : decode cX8_copy 109 = .ok (.iload 5, 2) := by decide +kernel
theorem dX8_copy_111 : decode cX8_copy 111 = .ok (.ifCond .ge 10, 3) := by decide +kernel
theorem dX8_copy_114 : decode cX8_copy 114 = .ok (.aload_n 0, 1) := by decide +kernel
theorem dX8_copy_115 : decode cX8_copy 115 = .ok (.bipush (-4), 2) := by decide +kernel
theorem dX8_copy_117 : decode cX8_copy 117 = .ok (.invokevirtual 142, 3) := by decide +kernel
theorem dX8_copy_120 : decode cX8_copy 120 = .ok (.ireturn, 1) := by decide +kernel
theorem dX8_copy_121 : decode cX8_copy 121 = .ok (.iload_n 3, 1) := by decide +kernel
theorem dX8_copy_122 : decode cX8_copy 122 = .ok (.ifCond .lt 35, 3) := by decide +kernel
theorem dX8_copy_125 : decode cX8_copy 125 = .ok (.iload 4, 2) := by decide +kernel
theorem dX8_copy_127 : decode cX8_copy 127 = .ok (.ifCond .lt 30, 3) := by decide +kernel
theorem dX8_copy_130 : decode cX8_copy 130 = .ok (.iload_n 3, 1) := by decide +kernel
theorem dX8_copy_131 : decode cX8_copy 131 = .ok (.aload_n 0, 1) := by decide +kernel
theorem dX8_copy_132 : decode cX8_copy 132 = .ok (.getfield 68, 3) := by decide +kernel
theorem dX8_copy_135 : decode cX8_copy 135 = .ok (.iload_n 1, 1) := by decide +kernel
theorem dX8_copy_136 : decode cX8_copy 136 = .ok (.iaload, 1) := by decide +kernel
theorem dX8_copy_137 : decode cX8_copy 137 = .ok (.iload 5, 2) := by decide +kernel
theorem dX8_copy_139 : decode cX8_copy 139 = .ok (.isub, 1) := by decide +kernel
theorem dX8_copy_140 : decode cX8_copy 140 = .ok (.if_icmp .gt 17, 3) := by decide +kernel
theorem dX8_copy_143 : decode cX8_copy 143 = .ok (.iload 4, 2) := by decide +kernel
theorem dX8_copy_145 : decode cX8_copy 145 = .ok (.aload_n 0, 1) := by decide +kernel
theorem dX8_copy_146 : decode cX8_copy 146 = .ok (.getfield 68, 3) := by decide +kernel
theorem dX8_copy_149 : decode cX8_copy 149 = .ok (.iload_n 2, 1) := by decide +kernel
theorem dX8_copy_150 : decode cX8_copy 150 = .ok (.iaload, 1) := by decide +kernel
theorem dX8_copy_151 : decode cX8_copy 151 = .ok (.iload 5, 2) := by decide +kernel
theorem dX8_copy_153 : decode cX8_copy 153 = .ok (.isub, 1) := by decide +kernel
theorem dX8_copy_154 : decode cX8_copy 154 = .ok (.if_icmp .le 10, 3) := by decide +kernel
theorem dX8_copy_157 : decode cX8_copy 157 = .ok (.aload_n 0, 1) := by decide +kernel
theorem dX8_copy_158 : decode cX8_copy 158 = .ok (.bipush (-5), 2) := by decide +kernel
theorem dX8_copy_160 : decode cX8_copy 160 = .ok (.invokevirtual 142, 3) := by decide +kernel
theorem dX8_copy_163 : decode cX8_copy 163 = .ok (.ireturn, 1) := by decide +kernel
theorem dX8_copy_164 : decode cX8_copy 164 = .ok (.iconst 0, 1) := by decide +kernel
theorem dX8_copy_165 : decode cX8_copy 165 = .ok (.istore 6, 2) := by decide +kernel
theorem dX8_copy_167 : decode cX8_copy 167 = .ok (.iload 6, 2) := by decide +kernel
theorem dX8_copy_169 : decode cX8_copy 169 = .ok (.iload 5, 2) := by decide +kernel
theorem dX8_copy_171 : decode cX8_copy 171 = .ok (.if_icmp .ge 30, 3) := by decide +kernel
theorem dX8_copy_174 : decode cX8_copy 174 = .ok (.aload_n 0, 1) := by decide +kernel
theorem dX8_copy_175 : decode cX8_copy 175 = .ok (.getfield 78, 3) := by decide +kernel
theorem dX8_copy_178 : decode cX8_copy 178 = .ok (.iload 6, 2) := by decide +kernel
theorem dX8_copy_180 : decode cX8_copy 180 = .ok (.aload_n 0, 1) := by decide +kernel
theorem dX8_copy_181 : decode cX8_copy 181 = .ok (.getfield 74, 3) := by decide +kernel
theorem dX8_copy_184 : decode cX8_copy 184 = .ok (.bipush 100, 2) := by decide +kernel
theorem dX8_copy_186 : decode cX8_copy 186 = .ok (.iload_n 1, 1) := by decide +kernel
theorem dX8_copy_187 : decode cX8_copy 187 = .ok (.imul, 1) := by decide +kernel
theorem dX8_copy_188 : decode cX8_copy 188 = .ok (.iload_n 3, 1) := by decide +kernel
theorem dX8_copy_189 : decode cX8_copy 189 = .ok (.iadd, 1) := by decide +kernel
theorem dX8_copy_190 : decode cX8_copy 190 = .ok (.iload 6, 2) := by decide +kernel
theorem dX8_copy_192 : decode cX8_copy 192 = .ok (.iadd, 1) := by decide +kernel
theorem dX8_copy_193 : decode cX8_copy 193 = .ok (.laload, 1) := by decide +kernel
theorem dX8_copy_194 : decode cX8_copy 194 = .ok (.lastore, 1) := by decide +kernel
theorem dX8_copy_195 : decode cX8_copy 195 = .ok (.iinc 6 1, 3) := by decide +kernel
theorem dX8_copy_198 : decode cX8_copy 198 = .ok (.goto (-31), 3) := by decide +kernel
theorem dX8_copy_201 : decode cX8_copy 201 = .ok (.iconst 0, 1) := by decide +kernel
theorem dX8_copy_202 : decode cX8_copy 202 = .ok (.istore 6, 2) := by decide +kernel
theorem dX8_copy_204 : decode cX8_copy 204 = .ok (.iload 6, 2) := by decide +kernel
theorem dX8_copy_206 : decode cX8_copy 206 = .ok (.iload 5, 2) := by decide +kernel
theorem dX8_copy_208 : decode cX8_copy 208 = .ok (.if_icmp .ge 31, 3) := by decide +kernel
theorem dX8_copy_211 : decode cX8_copy 211 = .ok (.aload_n 0, 1) := by decide +kernel
theorem dX8_copy_212 : decode cX8_copy 212 = .ok (.getfield 74, 3) := by decide +kernel
theorem dX8_copy_215 : decode cX8_copy 215 = .ok (.bipush 100, 2) := by decide +kernel
theorem dX8_copy_217 : decode cX8_copy 217 = .ok (.iload_n 2, 1) := by decide +kernel
theorem dX8_copy_218 : decode cX8_copy 218 = .ok (.imul, 1) := by decide +kernel
theorem dX8_copy_219 : decode cX8_copy 219 = .ok (.iload 4, 2) := by decide +kernel
theorem dX8_copy_221 : decode cX8_copy 221 = .ok (.iadd, 1) := by decide +kernel
theorem dX8_copy_222 : decode cX8_copy 222 = .ok (.iload 6, 2) := by decide +kernel
theorem dX8_copy_224 : decode cX8_copy 224 = .ok (.iadd, 1) := by decide +kernel
theorem dX8_copy_225 : decode cX8_copy 225 = .ok (.aload_n 0, 1) := by decide +kernel
theorem dX8_copy_226 : decode cX8_copy 226 = .ok (.getfield 78, 3) := by decide +kernel
theorem dX8_copy_229 : decode cX8_copy 229 = .ok (.iload 6, 2) := by decide +kernel
theorem dX8_copy_231 : decode cX8_copy 231 = .ok (.laload, 1) := by decide +kernel
theorem dX8_copy_232 : decode cX8_copy 232 = .ok (.lastore, 1) := by decide +kernel
theorem dX8_copy_233 : decode cX8_copy 233 = .ok (.iinc 6 1, 3) := by decide +kernel
theorem dX8_copy_236 : decode cX8_copy 236 = .ok (.goto (-32), 3) := by decide +kernel
theorem dX8_copy_239 : decode cX8_copy 239 = .ok (.iconst 1, 1) := by decide +kernel
theorem dX8_copy_240 : decode cX8_copy 240 = .ok (.ireturn, 1) := by decide +kernel
theorem dX8_element_0 : decode cX8_element 0 = .ok (.aload_n 0, 1) := by decide +kernel
theorem dX8_element_1 : decode cX8_element 1 = .ok (.iload_n 1, 1) := by decide +kernel
theorem dX8_element_2 : decode cX8_element 2 = .ok (.invokevirtual 138, 3) := by decide +kernel
theorem dX8_element_5 : decode cX8_element 5 = .ok (.ifCond .eq 41, 3) := by decide +kernel
theorem dX8_element_8 : decode cX8_element 8 = .ok (.aload_n 0, 1) := by decide +kernel
theorem dX8_element_9 : decode cX8_element 9 = .ok (.getfield 62, 3) := by decide +kernel
theorem dX8_element_12 : decode cX8_element 12 = .ok (.iload_n 1, 1) := by decide +kernel
theorem dX8_element_13 : decode cX8_element 13 = .ok (.iaload, 1) := by decide +kernel
theorem dX8_element_14 : decode cX8_element 14 = .ok (.iconst 1, 1) := by decide +kernel
theorem dX8_element_15 : decode cX8_element 15 = .ok (.if_icmp .ne 31, 3) := by decide +kernel
theorem dX8_element_18 : decode cX8_element 18 = .ok (.iload_n 2, 1) := by decide +kernel
theorem dX8_element_19 : decode cX8_element 19 = .ok (.ifCond .lt 27, 3) := by decide +kernel
theorem dX8_element_22 : decode cX8_element 22 = .ok (.iload_n 2, 1) := by decide +kernel
theorem dX8_element_23 : decode cX8_element 23 = .ok (.aload_n 0, 1) := by decide +kernel
theorem dX8_element_24 : decode cX8_element 24 = .ok (.getfield 68, 3) := by decide +kernel
theorem dX8_element_27 : decode cX8_element 27 = .ok (.iload_n 1, 1) := by decide +kernel
theorem dX8_element_28 : decode cX8_element 28 = .ok (.iaload, 1) := by decide +kernel
theorem dX8_element_29 : decode cX8_element 29 = .ok (.if_icmp .ge 17, 3) := by decide +kernel
theorem dX8_element_32 : decode cX8_element 32 = .ok (.aload_n 0, 1) := by decide +kernel
theorem dX8_element_33 : decode cX8_element 33 = .ok (.getfield 74, 3) := by decide +kernel
theorem dX8_element_36 : decode cX8_element 36 = .ok (.bipush 100, 2) := by decide +kernel
theorem dX8_element_38 : decode cX8_element 38 = .ok (.iload_n 1, 1) := by decide +kernel
theorem dX8_element_39 : decode cX8_element 39 = .ok (.imul, 1) := by decide +kernel
theorem dX8_element_40 : decode cX8_element 40 = .ok (.iload_n 2, 1) := by decide +kernel
theorem dX8_element_41 : decode cX8_element 41 = .ok (.iadd, 1) := by decide +kernel
theorem dX8_element_42 : decode cX8_element 42 = .ok (.laload, 1) := by decide +kernel
theorem dX8_element_43 : decode cX8_element 43 = .ok (.goto 4, 3) := by decide +kernel
theorem dX8_element_46 : decode cX8_element 46 = .ok (.lconst 0, 1) := by decide +kernel
theorem dX8_element_47 : decode cX8_element 47 = .ok (.lreturn, 1) := by decide +kernel
theorem dX8_show_0 : decode cX8_show 0 = .ok (.aload_n 0, 1) := by decide +kernel
theorem dX8_show_1 : decode cX8_show 1 = .ok (.iload_n 1, 1) := by decide +kernel
theorem dX8_show_2 : decode cX8_show 2 = .ok (.invokevirtual 138, 3) := by decide +kernel
theorem dX8_show_5 : decode cX8_show 5 = .ok (.ifCond .eq 16, 3) := by decide +kernel
theorem dX8_show_8 : decode cX8_show 8 = .ok (.iload_n 2, 1) := by decide +kernel
theorem dX8_show_9 : decode cX8_show 9 = .ok (.iconst (-1), 1) := by decide +kernel
theorem dX8_show_10 : decode cX8_show 10 = .ok (.if_icmp .eq 17, 3) := by decide +kernel
theorem dX8_show_13 : decode cX8_show 13 = .ok (.aload_n 0, 1) := by decide +kernel
theorem dX8_show_14 : decode cX8_show 14 = .ok (.iload_n 2, 1) := by decide +kernel
theorem dX8_show_15 : decode cX8_show 15 = .ok (.invokevirtual 146, 3) := by decide +kernel
theorem dX8_show_18 : decode cX8_show 18 = .ok (.ifCond .ne 9, 3) := by decide +kernel
theorem dX8_show_21 : decode cX8_show 21 = .ok (.aload_n 0, 1) := by decide +kernel
theorem dX8_show_22 : decode cX8_show 22 = .ok (.iconst (-1), 1) := by decide +kernel
theorem dX8_show_23 : decode cX8_show 23 = .ok (.invokevirtual 142, 3) := by decide +kernel
theorem dX8_show_26 : decode cX8_show 26 = .ok (.ireturn, 1) := by decide +kernel
theorem dX8_show_27 : decode cX8_show 27 = .ok (.aload_n 0, 1) := by decide +kernel
theorem dX8_show_28 : decode cX8_show 28 = .ok (.getfield 62, 3) := by decide +kernel
theorem dX8_show_31 : decode cX8_show 31 = .ok (.iload_n 1, 1) := by decide +kernel
theorem dX8_show_32 : decode cX8_show 32 = .ok (.iload_n 2, 1) := by decide +kernel
theorem dX8_show_33 : decode cX8_show 33 = .ok (.iconst (-1), 1) := by decide +kernel
theorem dX8_show_34 : decode cX8_show 34 = .ok (.if_icmp .ne 7, 3) := by decide +kernel
theorem dX8_show_37 : decode cX8_show 37 = .ok (.iconst 0, 1) := by decide +kernel
theorem dX8_show_38 : decode cX8_show 38 = .ok (.goto 4, 3) := by decide +kernel
theorem dX8_show_41 : decode cX8_show 41 = .ok (.iconst 2, 1) := by decide +kernel
theorem dX8_show_42 : decode cX8_show 42 = .ok (.iastore, 1) := by decide +kernel
theorem dX8_show_43 : decode cX8_show 43 = .ok (.aload_n 0, 1) := by decide +kernel
theorem dX8_show_44 : decode cX8_show 44 = .ok (.getfield 71, 3) := by decide +kernel
theorem dX8_show_47 : decode cX8_show 47 = .ok (.iload_n 1, 1) := by decide +kernel
theorem dX8_show_48 : decode cX8_show 48 = .ok (.iload_n 2, 1) := by decide +kernel
theorem dX8_show_49 : decode cX8_show 49 = .ok (.iastore, 1) := by decide +kernel
theorem dX8_show_50 : decode cX8_show 50 = .ok (.iload_n 2, 1) := by decide +kernel
theorem dX8_show_51 : decode cX8_show 51 = .ok (.iconst (-1), 1) := by decide +kernel
theorem dX8_show_52 : decode cX8_show 52 = .ok (.if_icmp .ne 7, 3) := by decide +kernel
theorem dX8_show_55 : decode cX8_show 55 = .ok (.iconst 0, 1) := by decide +kernel
theorem dX8_show_56 : decode cX8_show 56 = .ok (.goto 4, 3) := by decide +kernel
theorem dX8_show_59 : decode cX8_show 59 = .ok (.iconst 1, 1) := by decide +kernel
theorem dX8_show_60 : decode cX8_show 60 = .ok (.ireturn, 1) := by decide +kernel
theorem dX8_holds_0 : decode cX8_holds 0 = .ok (.aload_n 0, 1) := by decide +kernel
theorem dX8_holds_1 : decode cX8_holds 1 = .ok (.iload_n 1, 1) := by decide +kernel
theorem dX8_holds_2 : decode cX8_holds 2 = .ok (.invokevirtual 138, 3) := by decide +kernel
theorem dX8_holds_5 : decode cX8_holds 5 = .ok (.ifCond .eq 12, 3) := by decide +kernel
theorem dX8_holds_8 : decode cX8_holds 8 = .ok (.aload_n 0, 1) := by decide +kernel
theorem dX8_holds_9 : decode cX8_holds 9 = .ok (.getfield 62, 3) := by decide +kernel
theorem dX8_holds_12 : decode cX8_holds 12 = .ok (.iload_n 1, 1) := by decide +kernel
theorem dX8_holds_13 : decode cX8_holds 13 = .ok (.iaload, 1) := by decide +kernel
theorem dX8_holds_14 : decode cX8_holds 14 = .ok (.ifCond .ne 5, 3) := by decide +kernel
theorem dX8_holds_17 : decode cX8_holds 17 = .ok (.iconst (-1), 1) := by decide +kernel
theorem dX8_holds_18 : decode cX8_holds 18 = .ok (.ireturn, 1) := by decide +kernel
theorem dX8_holds_19 : decode cX8_holds 19 = .ok (.aload_n 0, 1) := by decide +kernel
theorem dX8_holds_20 : decode cX8_holds 20 = .ok (.getfield 62, 3) := by decide +kernel
theorem dX8_holds_23 : decode cX8_holds 23 = .ok (.iload_n 1, 1) := by decide +kernel
theorem dX8_holds_24 : decode cX8_holds 24 = .ok (.iaload, 1) := by decide +kernel
theorem dX8_holds_25 : decode cX8_holds 25 = .ok (.iconst 1, 1) := by decide +kernel
theorem dX8_holds_26 : decode cX8_holds 26 = .ok (.if_icmp .ne 15, 3) := by decide +kernel
theorem dX8_holds_29 : decode cX8_holds 29 = .ok (.bipush 100, 2) := by decide +kernel
theorem dX8_holds_31 : decode cX8_holds 31 = .ok (.aload_n 0, 1) := by decide +kernel
theorem dX8_holds_32 : decode cX8_holds 32 = .ok (.getfield 65, 3) := by decide +kernel
theorem dX8_holds_35 : decode cX8_holds 35 = .ok (.iload_n 1, 1) := by decide +kernel
theorem dX8_holds_36 : decode cX8_holds 36 = .ok (.iaload, 1) := by decide +kernel
theorem dX8_holds_37 : decode cX8_holds 37 = .ok (.iadd, 1) := by decide +kernel
theorem dX8_holds_38 : decode cX8_holds 38 = .ok (.goto 9, 3) := by decide +kernel
theorem dX8_holds_41 : decode cX8_holds 41 = .ok (.aload_n 0, 1) := by decide +kernel
theorem dX8_holds_42 : decode cX8_holds 42 = .ok (.getfield 71, 3) := by decide +kernel
theorem dX8_holds_45 : decode cX8_holds 45 = .ok (.iload_n 1, 1) := by decide +kernel
theorem dX8_holds_46 : decode cX8_holds 46 = .ok (.iaload, 1) := by decide +kernel
theorem dX8_holds_47 : decode cX8_holds 47 = .ok (.ireturn, 1) := by decide +kernel
theorem dX8_says_0 : decode cX8_says 0 = .ok (.aload_n 0, 1) := by decide +kernel
theorem dX8_says_1 : decode cX8_says 1 = .ok (.iload_n 1, 1) := by decide +kernel
theorem dX8_says_2 : decode cX8_says 2 = .ok (.invokevirtual 138, 3) := by decide +kernel
theorem dX8_says_5 : decode cX8_says 5 = .ok (.ifCond .eq 13, 3) := by decide +kernel
theorem dX8_says_8 : decode cX8_says 8 = .ok (.iload_n 2, 1) := by decide +kernel
theorem dX8_says_9 : decode cX8_says 9 = .ok (.ifCond .lt 9, 3) := by decide +kernel
theorem dX8_says_12 : decode cX8_says 12 = .ok (.iload_n 2, 1) := by decide +kernel
theorem dX8_says_13 : decode cX8_says 13 = .ok (.bipush 6, 2) := by decide +kernel
theorem dX8_says_15 : decode cX8_says 15 = .ok (.if_icmp .le 9, 3) := by decide +kernel
theorem dX8_says_18 : decode cX8_says 18 = .ok (.aload_n 0, 1) := by decide +kernel
theorem dX8_says_19 : decode cX8_says 19 = .ok (.iconst (-1), 1) := by decide +kernel
theorem dX8_says_20 : decode cX8_says 20 = .ok (.invokevirtual 142, 3) := by decide +kernel
theorem dX8_says_23 : decode cX8_says 23 = .ok (.ireturn, 1) := by decide +kernel
theorem dX8_says_24 : decode cX8_says 24 = .ok (.aload_n 0, 1) := by decide +kernel
theorem dX8_says_25 : decode cX8_says 25 = .ok (.getfield 62, 3) := by decide +kernel
theorem dX8_says_28 : decode cX8_says 28 = .ok (.iload_n 1, 1) := by decide +kernel
theorem dX8_says_29 : decode cX8_says 29 = .ok (.iaload, 1) := by decide +kernel
theorem dX8_says_30 : decode cX8_says 30 = .ok (.iconst 1, 1) := by decide +kernel
theorem dX8_says_31 : decode cX8_says 31 = .ok (.if_icmp .ne 10, 3) := by decide +kernel
theorem dX8_says_34 : decode cX8_says 34 = .ok (.aload_n 0, 1) := by decide +kernel
theorem dX8_says_35 : decode cX8_says 35 = .ok (.bipush (-2), 2) := by decide +kernel
theorem dX8_says_37 : decode cX8_says 37 = .ok (.invokevirtual 142, 3) := by decide +kernel
theorem dX8_says_40 : decode cX8_says 40 = .ok (.ireturn, 1) := by decide +kernel
theorem dX8_says_41 : decode cX8_says 41 = .ok (.aload_n 0, 1) := by decide +kernel
theorem dX8_says_42 : decode cX8_says 42 = .ok (.getfield 62, 3) := by decide +kernel
theorem dX8_says_45 : decode cX8_says 45 = .ok (.iload_n 1, 1) := by decide +kernel
theorem dX8_says_46 : decode cX8_says 46 = .ok (.iaload, 1) := by decide +kernel
theorem dX8_says_47 : decode cX8_says 47 = .ok (.ifCond .ne 10, 3) := by decide +kernel
theorem dX8_says_50 : decode cX8_says 50 = .ok (.aload_n 0, 1) := by decide +kernel
theorem dX8_says_51 : decode cX8_says 51 = .ok (.bipush (-3), 2) := by decide +kernel
theorem dX8_says_53 : decode cX8_says 53 = .ok (.invokevirtual 142, 3) := by decide +kernel
theorem dX8_says_56 : decode cX8_says 56 = .ok (.ireturn, 1) := by decide +kernel
theorem dX8_says_57 : decode cX8_says 57 = .ok (.aload_n 0, 1) := by decide +kernel
theorem dX8_says_58 : decode cX8_says 58 = .ok (.getfield 71, 3) := by decide +kernel
theorem dX8_says_61 : decode cX8_says 61 = .ok (.iload_n 1, 1) := by decide +kernel
theorem dX8_says_62 : decode cX8_says 62 = .ok (.iaload, 1) := by decide +kernel
theorem dX8_says_63 : decode cX8_says 63 = .ok (.istore_n 3, 1) := by decide +kernel
theorem dX8_says_64 : decode cX8_says 64 = .ok (.aload_n 0, 1) := by decide +kernel
theorem dX8_says_65 : decode cX8_says 65 = .ok (.getfield 23, 3) := by decide +kernel
theorem dX8_says_68 : decode cX8_says 68 = .ok (.iload_n 3, 1) := by decide +kernel
theorem dX8_says_69 : decode cX8_says 69 = .ok (.iaload, 1) := by decide +kernel
theorem dX8_says_70 : decode cX8_says 70 = .ok (.istore 4, 2) := by decide +kernel
theorem dX8_says_72 : decode cX8_says 72 = .ok (.iload_n 2, 1) := by decide +kernel
theorem dX8_says_73 : decode cX8_says 73 = .ok (.iconst 1, 1) := by decide +kernel
theorem dX8_says_74 : decode cX8_says 74 = .ok (.if_icmp .ne 10, 3) := by decide +kernel
theorem dX8_says_77 : decode cX8_says 77 = .ok (.iload 4, 2) := by decide +kernel
theorem dX8_says_79 : decode cX8_says 79 = .ok (.bipush 6, 2) := by decide +kernel
theorem dX8_says_81 : decode cX8_says 81 = .ok (.if_icmp .eq 20, 3) := by decide +kernel
theorem dX8_says_84 : decode cX8_says 84 = .ok (.iload_n 2, 1) := by decide +kernel
theorem dX8_says_85 : decode cX8_says 85 = .ok (.iconst 2, 1) := by decide +kernel
theorem dX8_says_86 : decode cX8_says 86 = .ok (.if_icmp .ne 19, 3) := by decide +kernel
theorem dX8_says_89 : decode cX8_says 89 = .ok (.iload 4, 2) := by decide +kernel
theorem dX8_says_91 : decode cX8_says 91 = .ok (.iconst 3, 1) := by decide +kernel
theorem dX8_says_92 : decode cX8_says 92 = .ok (.if_icmp .lt 13, 3) := by decide +kernel
theorem dX8_says_95 : decode cX8_says 95 = .ok (.iload 4, 2) := by decide +kernel
theorem dX8_says_97 : decode cX8_says 97 = .ok (.iconst 5, 1) := by decide +kernel
theorem dX8_says_98 : decode cX8_says 98 = .ok (.if_icmp .gt 7, 3) := by decide +kernel
theorem dX8_says_101 : decode cX8_says 101 = .ok (.iconst 1, 1) := by decide +kernel
theorem dX8_says_102 : decode cX8_says 102 = .ok (.goto 4, 3) := by decide +kernel
theorem dX8_says_105 : decode cX8_says 105 = .ok (.iconst 0, 1) := by decide +kernel
theorem dX8_says_106 : decode cX8_says 106 = .ok (.istore 5, 2) := by decide +kernel
theorem dX8_says_108 : decode cX8_says 108 = .ok (.iload_n 2, 1) := by decide +kernel
theorem dX8_says_109 : decode cX8_says 109 = .ok (.ifCond .eq 21, 3) := by decide +kernel
theorem dX8_says_112 : decode cX8_says 112 = .ok (.iload_n 2, 1) := by decide +kernel
theorem dX8_says_113 : decode cX8_says 113 = .ok (.iload 4, 2) := by decide +kernel
theorem dX8_says_115 : decode cX8_says 115 = .ok (.if_icmp .eq 15, 3) := by decide +kernel
theorem dX8_says_118 : decode cX8_says 118 = .ok (.iload 5, 2) := by decide +kernel
theorem dX8_says_120 : decode cX8_says 120 = .ok (.ifCond .ne 10, 3) := by decide +kernel
theorem dX8_says_123 : decode cX8_says 123 = .ok (.aload_n 0, 1) := by decide +kernel
theorem dX8_says_124 : decode cX8_says 124 = .ok (.bipush (-2), 2) := by decide +kernel
theorem dX8_says_126 : decode cX8_says 126 = .ok (.invokevirtual 142, 3) := by decide +kernel
theorem dX8_says_129 : decode cX8_says 129 = .ok (.ireturn, 1) := by decide +kernel
theorem dX8_says_130 : decode cX8_says 130 = .ok (.iload_n 2, 1) := by decide +kernel
theorem dX8_says_131 : decode cX8_says 131 = .ok (.tableswitch 74 0 6 #[41, 48, 55, 61, 67, 74, 48], 41) := by decide +kernel
theorem dX8_says_172 : decode cX8_says 172 = .ok (.aload_n 0, 1) := by decide +kernel
theorem dX8_says_173 : decode cX8_says 173 = .ok (.getfield 29, 3) := by decide +kernel
theorem dX8_says_176 : decode cX8_says 176 = .ok (.iload_n 3, 1) := by decide +kernel
theorem dX8_says_177 : decode cX8_says 177 = .ok (.iaload, 1) := by decide +kernel
theorem dX8_says_178 : decode cX8_says 178 = .ok (.ireturn, 1) := by decide +kernel
theorem dX8_says_179 : decode cX8_says 179 = .ok (.aload_n 0, 1) := by decide +kernel
theorem dX8_says_180 : decode cX8_says 180 = .ok (.getfield 35, 3) := by decide +kernel
theorem dX8_says_183 : decode cX8_says 183 = .ok (.iload_n 3, 1) := by decide +kernel
theorem dX8_says_184 : decode cX8_says 184 = .ok (.iaload, 1) := by decide +kernel
theorem dX8_says_185 : decode cX8_says 185 = .ok (.ireturn, 1) := by decide +kernel
theorem dX8_says_186 : decode cX8_says 186 = .ok (.aload_n 0, 1) := by decide +kernel
theorem dX8_says_187 : decode cX8_says 187 = .ok (.iload_n 3, 1) := by decide +kernel
theorem dX8_says_188 : decode cX8_says 188 = .ok (.invokevirtual 149, 3) := by decide +kernel
theorem dX8_says_191 : decode cX8_says 191 = .ok (.ireturn, 1) := by decide +kernel
theorem dX8_says_192 : decode cX8_says 192 = .ok (.aload_n 0, 1) := by decide +kernel
theorem dX8_says_193 : decode cX8_says 193 = .ok (.iload_n 3, 1) := by decide +kernel
theorem dX8_says_194 : decode cX8_says 194 = .ok (.invokevirtual 152, 3) := by decide +kernel
theorem dX8_says_197 : decode cX8_says 197 = .ok (.ireturn, 1) := by decide +kernel
theorem dX8_says_198 : decode cX8_says 198 = .ok (.aload_n 0, 1) := by decide +kernel
theorem dX8_says_199 : decode cX8_says 199 = .ok (.getfield 38, 3) := by decide +kernel
theorem dX8_says_202 : decode cX8_says 202 = .ok (.iload_n 3, 1) := by decide +kernel
theorem dX8_says_203 : decode cX8_says 203 = .ok (.iaload, 1) := by decide +kernel
theorem dX8_says_204 : decode cX8_says 204 = .ok (.ireturn, 1) := by decide +kernel
theorem dX8_says_205 : decode cX8_says 205 = .ok (.aload_n 0, 1) := by decide +kernel
theorem dX8_says_206 : decode cX8_says 206 = .ok (.getfield 41, 3) := by decide +kernel
theorem dX8_says_209 : decode cX8_says 209 = .ok (.iload_n 3, 1) := by decide +kernel
theorem dX8_says_210 : decode cX8_says 210 = .ok (.iaload, 1) := by decide +kernel
theorem dX8_says_211 : decode cX8_says 211 = .ok (.iconst 1, 1) := by decide +kernel
theorem dX8_says_212 : decode cX8_says 212 = .ok (.if_icmp .ne 12, 3) := by decide +kernel
theorem dX8_says_215 : decode cX8_says 215 = .ok (.aload_n 0, 1) := by decide +kernel
theorem dX8_says_216 : decode cX8_says 216 = .ok (.getfield 44, 3) := by decide +kernel
theorem dX8_says_219 : decode cX8_says 219 = .ok (.iload_n 3, 1) := by decide +kernel
theorem dX8_says_220 : decode cX8_says 220 = .ok (.iaload, 1) := by decide +kernel
theorem dX8_says_221 : decode cX8_says 221 = .ok (.goto 4, 3) := by decide +kernel
theorem dX8_says_224 : decode cX8_says 224 = .ok (.iconst 0, 1) := by decide +kernel
theorem dX8_says_225 : decode cX8_says 225 = .ok (.ireturn, 1) := by decide +kernel
theorem dX8_wants_0 : decode cX8_wants 0 = .ok (.aload_n 0, 1) := by decide +kernel
theorem dX8_wants_1 : decode cX8_wants 1 = .ok (.iload_n 1, 1) := by decide +kernel
theorem dX8_wants_2 : decode cX8_wants 2 = .ok (.invokevirtual 138, 3) := by decide +kernel
theorem dX8_wants_5 : decode cX8_wants 5 = .ok (.ifCond .ne 7, 3) := by decide +kernel
theorem dX8_wants_8 : decode cX8_wants 8 = .ok (.iconst (-1), 1) := by decide +kernel
theorem dX8_wants_9 : decode cX8_wants 9 = .ok (.goto 33, 3) := by decide +kernel
theorem dX8_wants_12 : decode cX8_wants 12 = .ok (.aload_n 0, 1) := by decide +kernel
theorem dX8_wants_13 : decode cX8_wants 13 = .ok (.getfield 62, 3) := by decide +kernel
theorem dX8_wants_16 : decode cX8_wants 16 = .ok (.iload_n 1, 1) := by decide +kernel
theorem dX8_wants_17 : decode cX8_wants 17 = .ok (.iaload, 1) := by decide +kernel
theorem dX8_wants_18 : decode cX8_wants 18 = .ok (.iconst 2, 1) := by decide +kernel
theorem dX8_wants_19 : decode cX8_wants 19 = .ok (.if_icmp .ne 8, 3) := by decide +kernel
theorem dX8_wants_22 : decode cX8_wants 22 = .ok (.bipush (-2), 2) := by decide +kernel
theorem dX8_wants_24 : decode cX8_wants 24 = .ok (.goto 18, 3) := by decide +kernel
theorem dX8_wants_27 : decode cX8_wants 27 = .ok (.aload_n 0, 1) := by decide +kernel
theorem dX8_wants_28 : decode cX8_wants 28 = .ok (.getfield 62, 3) := by decide +kernel
theorem dX8_wants_31 : decode cX8_wants 31 = .ok (.iload_n 1, 1) := by decide +kernel
theorem dX8_wants_32 : decode cX8_wants 32 = .ok (.iaload, 1) := by decide +kernel
theorem dX8_wants_33 : decode cX8_wants 33 = .ok (.ifCond .ne 8, 3) := by decide +kernel
theorem dX8_wants_36 : decode cX8_wants 36 = .ok (.bipush (-3), 2) := by decide +kernel
theorem dX8_wants_38 : decode cX8_wants 38 = .ok (.goto 4, 3) := by decide +kernel
theorem dX8_wants_41 : decode cX8_wants 41 = .ok (.iconst 0, 1) := by decide +kernel
theorem dX8_wants_42 : decode cX8_wants 42 = .ok (.ireturn, 1) := by decide +kernel
theorem dX8_intAt_0 : decode cX8_intAt 0 = .ok (.aload_n 0, 1) := by decide +kernel
theorem dX8_intAt_1 : decode cX8_intAt 1 = .ok (.getfield 74, 3) := by decide +kernel
theorem dX8_intAt_4 : decode cX8_intAt 4 = .ok (.bipush 100, 2) := by decide +kernel
theorem dX8_intAt_6 : decode cX8_intAt 6 = .ok (.iload_n 1, 1) := by decide +kernel
theorem dX8_intAt_7 : decode cX8_intAt 7 = .ok (.imul, 1) := by decide +kernel
theorem dX8_intAt_8 : decode cX8_intAt 8 = .ok (.iload_n 2, 1) := by decide +kernel
theorem dX8_intAt_9 : decode cX8_intAt 9 = .ok (.iadd, 1) := by decide +kernel
theorem dX8_intAt_10 : decode cX8_intAt 10 = .ok (.laload, 1) := by decide +kernel
theorem dX8_intAt_11 : decode cX8_intAt 11 = .ok (.l2i, 1) := by decide +kernel
theorem dX8_intAt_12 : decode cX8_intAt 12 = .ok (.ireturn, 1) := by decide +kernel
theorem dX8_onSeat_0 : decode cX8_onSeat 0 = .ok (.iconst 0, 1) := by decide +kernel
theorem dX8_onSeat_1 : decode cX8_onSeat 1 = .ok (.istore_n 2, 1) := by decide +kernel
theorem dX8_onSeat_2 : decode cX8_onSeat 2 = .ok (.iload_n 2, 1) := by decide +kernel
theorem dX8_onSeat_3 : decode cX8_onSeat 3 = .ok (.aload_n 0, 1) := by decide +kernel
theorem dX8_onSeat_4 : decode cX8_onSeat 4 = .ok (.getfield 132, 3) := by decide +kernel
theorem dX8_onSeat_7 : decode cX8_onSeat 7 = .ok (.if_icmp .ge 21, 3) := by decide +kernel
theorem dX8_onSeat_10 : decode cX8_onSeat 10 = .ok (.aload_n 0, 1) := by decide +kernel
theorem dX8_onSeat_11 : decode cX8_onSeat 11 = .ok (.getfield 26, 3) := by decide +kernel
theorem dX8_onSeat_14 : decode cX8_onSeat 14 = .ok (.iload_n 2, 1) := by decide +kernel
theorem dX8_onSeat_15 : decode cX8_onSeat 15 = .ok (.iaload, 1) := by decide +kernel
theorem dX8_onSeat_16 : decode cX8_onSeat 16 = .ok (.iload_n 1, 1) := by decide +kernel
theorem dX8_onSeat_17 : decode cX8_onSeat 17 = .ok (.if_icmp .ne 5, 3) := by decide +kernel
theorem dX8_onSeat_20 : decode cX8_onSeat 20 = .ok (.iload_n 2, 1) := by decide +kernel
theorem dX8_onSeat_21 : decode cX8_onSeat 21 = .ok (.ireturn, 1) := by decide +kernel
theorem dX8_onSeat_22 : decode cX8_onSeat 22 = .ok (.iinc 2 1, 3) := by decide +kernel
theorem dX8_onSeat_25 : decode cX8_onSeat 25 = .ok (.goto (-23), 3) := by decide +kernel
theorem dX8_onSeat_28 : decode cX8_onSeat 28 = .ok (.iconst (-1), 1) := by decide +kernel
theorem dX8_onSeat_29 : decode cX8_onSeat 29 = .ok (.ireturn, 1) := by decide +kernel
theorem dX8_isOne_0 : decode cX8_isOne 0 = .ok (.iload_n 1, 1) := by decide +kernel
theorem dX8_isOne_1 : decode cX8_isOne 1 = .ok (.ifCond .lt 21, 3) := by decide +kernel
theorem dX8_isOne_4 : decode cX8_isOne 4 = .ok (.iload_n 1, 1) := by decide +kernel
theorem dX8_isOne_5 : decode cX8_isOne 5 = .ok (.bipush 6, 2) := by decide +kernel
theorem dX8_isOne_7 : decode cX8_isOne 7 = .ok (.if_icmp .gt 15, 3) := by decide +kernel
theorem dX8_isOne_10 : decode cX8_isOne 10 = .ok (.aload_n 0, 1) := by decide +kernel
theorem dX8_isOne_11 : decode cX8_isOne 11 = .ok (.iload_n 2, 1) := by decide +kernel
theorem dX8_isOne_12 : decode cX8_isOne 12 = .ok (.invokevirtual 155, 3) := by decide +kernel
theorem dX8_isOne_15 : decode cX8_isOne 15 = .ok (.ifCond .eq 7, 3) := by decide +kernel
theorem dX8_isOne_18 : decode cX8_isOne 18 = .ok (.iconst 1, 1) := by decide +kernel
theorem dX8_isOne_19 : decode cX8_isOne 19 = .ok (.goto 4, 3) := by decide +kernel
theorem dX8_isOne_22 : decode cX8_isOne 22 = .ok (.iconst 0, 1) := by decide +kernel
theorem dX8_isOne_23 : decode cX8_isOne 23 = .ok (.ireturn, 1) := by decide +kernel
theorem dX8_isSo_0 : decode cX8_isSo 0 = .ok (.iload_n 2, 1) := by decide +kernel
theorem dX8_isSo_1 : decode cX8_isSo 1 = .ok (.ifCond .lt 45, 3) := by decide +kernel
theorem dX8_isSo_4 : decode cX8_isSo 4 = .ok (.iload_n 2, 1) := by decide +kernel
theorem dX8_isSo_5 : decode cX8_isSo 5 = .ok (.bipush 99, 2) := by decide +kernel
theorem dX8_isSo_7 : decode cX8_isSo 7 = .ok (.if_icmp .gt 39, 3) := by decide +kernel
theorem dX8_isSo_10 : decode cX8_isSo 10 = .ok (.iload_n 3, 1) := by decide +kernel
theorem dX8_isSo_11 : decode cX8_isSo 11 = .ok (.iconst 1, 1) := by decide +kernel
theorem dX8_isSo_12 : decode cX8_isSo 12 = .ok (.if_icmp .lt 34, 3) := by decide +kernel
theorem dX8_isSo_15 : decode cX8_isSo 15 = .ok (.iload_n 3, 1) := by decide +kernel
theorem dX8_isSo_16 : decode cX8_isSo 16 = .ok (.bipush 9, 2) := by decide +kernel
theorem dX8_isSo_18 : decode cX8_isSo 18 = .ok (.if_icmp .gt 28, 3) := by decide +kernel
theorem dX8_isSo_21 : decode cX8_isSo 21 = .ok (.iload 4, 2) := by decide +kernel
theorem dX8_isSo_23 : decode cX8_isSo 23 = .ok (.ifCond .lt 23, 3) := by decide +kernel
theorem dX8_isSo_26 : decode cX8_isSo 26 = .ok (.iload 4, 2) := by decide +kernel
theorem dX8_isSo_28 : decode cX8_isSo 28 = .ok (.bipush 99, 2) := by decide +kernel
theorem dX8_isSo_30 : decode cX8_isSo 30 = .ok (.if_icmp .gt 16, 3) := by decide +kernel
theorem dX8_isSo_33 : decode cX8_isSo 33 = .ok (.aload_n 0, 1) := by decide +kernel
theorem dX8_isSo_34 : decode cX8_isSo 34 = .ok (.iload_n 1, 1) := by decide +kernel
theorem dX8_isSo_35 : decode cX8_isSo 35 = .ok (.invokevirtual 158, 3) := by decide +kernel
theorem dX8_isSo_38 : decode cX8_isSo 38 = .ok (.iconst (-1), 1) := by decide +kernel
theorem dX8_isSo_39 : decode cX8_isSo 39 = .ok (.if_icmp .ne 7, 3) := by decide +kernel
theorem dX8_isSo_42 : decode cX8_isSo 42 = .ok (.iconst 1, 1) := by decide +kernel
theorem dX8_isSo_43 : decode cX8_isSo 43 = .ok (.goto 4, 3) := by decide +kernel
theorem dX8_isSo_46 : decode cX8_isSo 46 = .ok (.iconst 0, 1) := by decide +kernel
theorem dX8_isSo_47 : decode cX8_isSo 47 = .ok (.ireturn, 1) := by decide +kernel
theorem dX8_comes_0 : decode cX8_comes 0 = .ok (.aload_n 0, 1) := by decide +kernel
theorem dX8_comes_1 : decode cX8_comes 1 = .ok (.getfield 23, 3) := by decide +kernel
theorem dX8_comes_4 : decode cX8_comes 4 = .ok (.aload_n 0, 1) := by decide +kernel
theorem dX8_comes_5 : decode cX8_comes 5 = .ok (.getfield 132, 3) := by decide +kernel
theorem dX8_comes_8 : decode cX8_comes 8 = .ok (.iload_n 1, 1) := by decide +kernel
theorem dX8_comes_9 : decode cX8_comes 9 = .ok (.iastore, 1) := by decide +kernel
theorem dX8_comes_10 : decode cX8_comes 10 = .ok (.aload_n 0, 1) := by decide +kernel
theorem dX8_comes_11 : decode cX8_comes 11 = .ok (.getfield 26, 3) := by decide +kernel
theorem dX8_comes_14 : decode cX8_comes 14 = .ok (.aload_n 0, 1) := by decide +kernel
theorem dX8_comes_15 : decode cX8_comes 15 = .ok (.getfield 132, 3) := by decide +kernel
theorem dX8_comes_18 : decode cX8_comes 18 = .ok (.iload_n 2, 1) := by decide +kernel
theorem dX8_comes_19 : decode cX8_comes 19 = .ok (.iastore, 1) := by decide +kernel
theorem dX8_comes_20 : decode cX8_comes 20 = .ok (.aload_n 0, 1) := by decide +kernel
theorem dX8_comes_21 : decode cX8_comes 21 = .ok (.getfield 29, 3) := by decide +kernel
theorem dX8_comes_24 : decode cX8_comes 24 = .ok (.aload_n 0, 1) := by decide +kernel
theorem dX8_comes_25 : decode cX8_comes 25 = .ok (.getfield 132, 3) := by decide +kernel
theorem dX8_comes_28 : decode cX8_comes 28 = .ok (.iload_n 3, 1) := by decide +kernel
theorem dX8_comes_29 : decode cX8_comes 29 = .ok (.iastore, 1) := by decide +kernel
theorem dX8_comes_30 : decode cX8_comes 30 = .ok (.aload_n 0, 1) := by decide +kernel
theorem dX8_comes_31 : decode cX8_comes 31 = .ok (.getfield 32, 3) := by decide +kernel
theorem dX8_comes_34 : decode cX8_comes 34 = .ok (.aload_n 0, 1) := by decide +kernel
theorem dX8_comes_35 : decode cX8_comes 35 = .ok (.getfield 132, 3) := by decide +kernel
theorem dX8_comes_38 : decode cX8_comes 38 = .ok (.iload 4, 2) := by decide +kernel
theorem dX8_comes_40 : decode cX8_comes 40 = .ok (.iastore, 1) := by decide +kernel
theorem dX8_comes_41 : decode cX8_comes 41 = .ok (.aload_n 0, 1) := by decide +kernel
theorem dX8_comes_42 : decode cX8_comes 42 = .ok (.getfield 35, 3) := by decide +kernel
theorem dX8_comes_45 : decode cX8_comes 45 = .ok (.aload_n 0, 1) := by decide +kernel
theorem dX8_comes_46 : decode cX8_comes 46 = .ok (.getfield 132, 3) := by decide +kernel
theorem dX8_comes_49 : decode cX8_comes 49 = .ok (.iload 5, 2) := by decide +kernel
theorem dX8_comes_51 : decode cX8_comes 51 = .ok (.iastore, 1) := by decide +kernel
theorem dX8_comes_52 : decode cX8_comes 52 = .ok (.aload_n 0, 1) := by decide +kernel
theorem dX8_comes_53 : decode cX8_comes 53 = .ok (.getfield 38, 3) := by decide +kernel
theorem dX8_comes_56 : decode cX8_comes 56 = .ok (.aload_n 0, 1) := by decide +kernel
theorem dX8_comes_57 : decode cX8_comes 57 = .ok (.getfield 132, 3) := by decide +kernel
theorem dX8_comes_60 : decode cX8_comes 60 = .ok (.iconst 0, 1) := by decide +kernel
theorem dX8_comes_61 : decode cX8_comes 61 = .ok (.iastore, 1) := by decide +kernel
theorem dX8_comes_62 : decode cX8_comes 62 = .ok (.aload_n 0, 1) := by decide +kernel
theorem dX8_comes_63 : decode cX8_comes 63 = .ok (.getfield 41, 3) := by decide +kernel
theorem dX8_comes_66 : decode cX8_comes 66 = .ok (.aload_n 0, 1) := by decide +kernel
theorem dX8_comes_67 : decode cX8_comes 67 = .ok (.getfield 132, 3) := by decide +kernel
theorem dX8_comes_70 : decode cX8_comes 70 = .ok (.iconst 0, 1) := by decide +kernel
theorem dX8_comes_71 : decode cX8_comes 71 = .ok (.iastore, 1) := by decide +kernel
theorem dX8_comes_72 : decode cX8_comes 72 = .ok (.aload_n 0, 1) := by decide +kernel
theorem dX8_comes_73 : decode cX8_comes 73 = .ok (.getfield 44, 3) := by decide +kernel
theorem dX8_comes_76 : decode cX8_comes 76 = .ok (.aload_n 0, 1) := by decide +kernel
theorem dX8_comes_77 : decode cX8_comes 77 = .ok (.getfield 132, 3) := by decide +kernel
theorem dX8_comes_80 : decode cX8_comes 80 = .ok (.iconst 0, 1) := by decide +kernel
theorem dX8_comes_81 : decode cX8_comes 81 = .ok (.iastore, 1) := by decide +kernel
theorem dX8_comes_82 : decode cX8_comes 82 = .ok (.aload_n 0, 1) := by decide +kernel
theorem dX8_comes_83 : decode cX8_comes 83 = .ok (.getfield 47, 3) := by decide +kernel
theorem dX8_comes_86 : decode cX8_comes 86 = .ok (.aload_n 0, 1) := by decide +kernel
theorem dX8_comes_87 : decode cX8_comes 87 = .ok (.getfield 132, 3) := by decide +kernel
theorem dX8_comes_90 : decode cX8_comes 90 = .ok (.iconst 0, 1) := by decide +kernel
theorem dX8_comes_91 : decode cX8_comes 91 = .ok (.iastore, 1) := by decide +kernel
theorem dX8_comes_92 : decode cX8_comes 92 = .ok (.aload_n 0, 1) := by decide +kernel
theorem dX8_comes_93 : decode cX8_comes 93 = .ok (.getfield 50, 3) := by decide +kernel
theorem dX8_comes_96 : decode cX8_comes 96 = .ok (.aload_n 0, 1) := by decide +kernel
theorem dX8_comes_97 : decode cX8_comes 97 = .ok (.getfield 132, 3) := by decide +kernel
theorem dX8_comes_100 : decode cX8_comes 100 = .ok (.iconst 0, 1) := by decide +kernel
theorem dX8_comes_101 : decode cX8_comes 101 = .ok (.iastore, 1) := by decide +kernel
theorem dX8_comes_102 : decode cX8_comes 102 = .ok (.aload_n 0, 1) := by decide +kernel
theorem dX8_comes_103 : decode cX8_comes 103 = .ok (.dup, 1) := by decide +kernel
theorem dX8_comes_104 : decode cX8_comes 104 = .ok (.getfield 132, 3) := by decide +kernel
theorem dX8_comes_107 : decode cX8_comes 107 = .ok (.iconst 1, 1) := by decide +kernel
theorem dX8_comes_108 : decode cX8_comes 108 = .ok (.iadd, 1) := by decide +kernel
theorem dX8_comes_109 : decode cX8_comes 109 = .ok (.putfield 132, 3) := by decide +kernel
theorem dX8_comes_112 : decode cX8_comes 112 = .ok (.return_, 1) := by decide +kernel
theorem dX8_person_0 : decode cX8_person 0 = .ok (.aload_n 0, 1) := by decide +kernel
theorem dX8_person_1 : decode cX8_person 1 = .ok (.iload_n 1, 1) := by decide +kernel
theorem dX8_person_2 : decode cX8_person 2 = .ok (.iload_n 2, 1) := by decide +kernel
theorem dX8_person_3 : decode cX8_person 3 = .ok (.invokevirtual 161, 3) := by decide +kernel
theorem dX8_person_6 : decode cX8_person 6 = .ok (.ifCond .ne 9, 3) := by decide +kernel
theorem dX8_person_9 : decode cX8_person 9 = .ok (.aload_n 0, 1) := by decide +kernel
theorem dX8_person_10 : decode cX8_person 10 = .ok (.iconst (-1), 1) := by decide +kernel
theorem dX8_person_11 : decode cX8_person 11 = .ok (.invokevirtual 142, 3) := by decide +kernel
theorem dX8_person_14 : decode cX8_person 14 = .ok (.ireturn, 1) := by decide +kernel
theorem dX8_person_15 : decode cX8_person 15 = .ok (.aload_n 0, 1) := by decide +kernel
theorem dX8_person_16 : decode cX8_person 16 = .ok (.iload_n 2, 1) := by decide +kernel
theorem dX8_person_17 : decode cX8_person 17 = .ok (.iload_n 3, 1) := by decide +kernel
theorem dX8_person_18 : decode cX8_person 18 = .ok (.iload 4, 2) := by decide +kernel
theorem dX8_person_20 : decode cX8_person 20 = .ok (.iload 5, 2) := by decide +kernel
theorem dX8_person_22 : decode cX8_person 22 = .ok (.invokevirtual 165, 3) := by decide +kernel
theorem dX8_person_25 : decode cX8_person 25 = .ok (.ifCond .ne 10, 3) := by decide +kernel
theorem dX8_person_28 : decode cX8_person 28 = .ok (.aload_n 0, 1) := by decide +kernel
theorem dX8_person_29 : decode cX8_person 29 = .ok (.bipush (-6), 2) := by decide +kernel
theorem dX8_person_31 : decode cX8_person 31 = .ok (.invokevirtual 142, 3) := by decide +kernel
theorem dX8_person_34 : decode cX8_person 34 = .ok (.ireturn, 1) := by decide +kernel
theorem dX8_person_35 : decode cX8_person 35 = .ok (.aload_n 0, 1) := by decide +kernel
theorem dX8_person_36 : decode cX8_person 36 = .ok (.getfield 132, 3) := by decide +kernel
theorem dX8_person_39 : decode cX8_person 39 = .ok (.bipush 30, 2) := by decide +kernel
theorem dX8_person_41 : decode cX8_person 41 = .ok (.if_icmp .ne 10, 3) := by decide +kernel
theorem dX8_person_44 : decode cX8_person 44 = .ok (.aload_n 0, 1) := by decide +kernel
theorem dX8_person_45 : decode cX8_person 45 = .ok (.bipush (-7), 2) := by decide +kernel
theorem dX8_person_47 : decode cX8_person 47 = .ok (.invokevirtual 142, 3) := by decide +kernel
theorem dX8_person_50 : decode cX8_person 50 = .ok (.ireturn, 1) := by decide +kernel
theorem dX8_person_51 : decode cX8_person 51 = .ok (.aload_n 0, 1) := by decide +kernel
theorem dX8_person_52 : decode cX8_person 52 = .ok (.iload_n 1, 1) := by decide +kernel
theorem dX8_person_53 : decode cX8_person 53 = .ok (.iload_n 2, 1) := by decide +kernel
theorem dX8_person_54 : decode cX8_person 54 = .ok (.iload_n 3, 1) := by decide +kernel
theorem dX8_person_55 : decode cX8_person 55 = .ok (.iload 4, 2) := by decide +kernel
theorem dX8_person_57 : decode cX8_person 57 = .ok (.iload 5, 2) := by decide +kernel
theorem dX8_person_59 : decode cX8_person 59 = .ok (.invokevirtual 169, 3) := by decide +kernel
theorem dX8_person_62 : decode cX8_person 62 = .ok (.aload_n 0, 1) := by decide +kernel
theorem dX8_person_63 : decode cX8_person 63 = .ok (.getfield 132, 3) := by decide +kernel
theorem dX8_person_66 : decode cX8_person 66 = .ok (.iconst 1, 1) := by decide +kernel
theorem dX8_person_67 : decode cX8_person 67 = .ok (.isub, 1) := by decide +kernel
theorem dX8_person_68 : decode cX8_person 68 = .ok (.ireturn, 1) := by decide +kernel
theorem dX8_people_0 : decode cX8_people 0 = .ok (.aload_n 0, 1) := by decide +kernel
theorem dX8_people_1 : decode cX8_people 1 = .ok (.iload_n 1, 1) := by decide +kernel
theorem dX8_people_2 : decode cX8_people 2 = .ok (.invokevirtual 173, 3) := by decide +kernel
theorem dX8_people_5 : decode cX8_people 5 = .ok (.istore 4, 2) := by decide +kernel
theorem dX8_people_7 : decode cX8_people 7 = .ok (.iload 4, 2) := by decide +kernel
theorem dX8_people_9 : decode cX8_people 9 = .ok (.ifCond .eq 10, 3) := by decide +kernel
theorem dX8_people_12 : decode cX8_people 12 = .ok (.aload_n 0, 1) := by decide +kernel
theorem dX8_people_13 : decode cX8_people 13 = .ok (.iload 4, 2) := by decide +kernel
theorem dX8_people_15 : decode cX8_people 15 = .ok (.invokevirtual 142, 3) := by decide +kernel
theorem dX8_people_18 : decode cX8_people 18 = .ok (.ireturn, 1) := by decide +kernel
theorem dX8_people_19 : decode cX8_people 19 = .ok (.iload_n 3, 1) := by decide +kernel
theorem dX8_people_20 : decode cX8_people 20 = .ok (.ifCond .ge 10, 3) := by decide +kernel
theorem dX8_people_23 : decode cX8_people 23 = .ok (.aload_n 0, 1) := by decide +kernel
theorem dX8_people_24 : decode cX8_people 24 = .ok (.bipush (-4), 2) := by decide +kernel
theorem dX8_people_26 : decode cX8_people 26 = .ok (.invokevirtual 142, 3) := by decide +kernel
theorem dX8_people_29 : decode cX8_people 29 = .ok (.ireturn, 1) := by decide +kernel
theorem dX8_people_30 : decode cX8_people 30 = .ok (.iload_n 2, 1) := by decide +kernel
theorem dX8_people_31 : decode cX8_people 31 = .ok (.ifCond .lt 15, 3) := by decide +kernel
theorem dX8_people_34 : decode cX8_people 34 = .ok (.iload_n 2, 1) := by decide +kernel
theorem dX8_people_35 : decode cX8_people 35 = .ok (.aload_n 0, 1) := by decide +kernel
theorem dX8_people_36 : decode cX8_people 36 = .ok (.getfield 68, 3) := by decide +kernel
theorem dX8_people_39 : decode cX8_people 39 = .ok (.iload_n 1, 1) := by decide +kernel
theorem dX8_people_40 : decode cX8_people 40 = .ok (.iaload, 1) := by decide +kernel
theorem dX8_people_41 : decode cX8_people 41 = .ok (.iload_n 3, 1) := by decide +kernel
theorem dX8_people_42 : decode cX8_people 42 = .ok (.isub, 1) := by decide +kernel
theorem dX8_people_43 : decode cX8_people 43 = .ok (.if_icmp .le 10, 3) := by decide +kernel
theorem dX8_people_46 : decode cX8_people 46 = .ok (.aload_n 0, 1) := by decide +kernel
theorem dX8_people_47 : decode cX8_people 47 = .ok (.bipush (-5), 2) := by decide +kernel
theorem dX8_people_49 : decode cX8_people 49 = .ok (.invokevirtual 142, 3) := by decide +kernel
theorem dX8_people_52 : decode cX8_people 52 = .ok (.ireturn, 1) := by decide +kernel
theorem dX8_people_53 : decode cX8_people 53 = .ok (.iload_n 3, 1) := by decide +kernel
theorem dX8_people_54 : decode cX8_people 54 = .ok (.iconst 5, 1) := by decide +kernel
theorem dX8_people_55 : decode cX8_people 55 = .ok (.irem, 1) := by decide +kernel
theorem dX8_people_56 : decode cX8_people 56 = .ok (.ifCond .eq 10, 3) := by decide +kernel
theorem dX8_people_59 : decode cX8_people 59 = .ok (.aload_n 0, 1) := by decide +kernel
theorem dX8_people_60 : decode cX8_people 60 = .ok (.bipush (-6), 2) := by decide +kernel
theorem dX8_people_62 : decode cX8_people 62 = .ok (.invokevirtual 142, 3) := by decide +kernel
theorem dX8_people_65 : decode cX8_people 65 = .ok (.ireturn, 1) := by decide +kernel
theorem dX8_people_66 : decode cX8_people 66 = .ok (.iconst 0, 1) := by decide +kernel
theorem dX8_people_67 : decode cX8_people 67 = .ok (.istore 5, 2) := by decide +kernel
theorem dX8_people_69 : decode cX8_people 69 = .ok (.iload_n 2, 1) := by decide +kernel
theorem dX8_people_70 : decode cX8_people 70 = .ok (.istore 6, 2) := by decide +kernel
theorem dX8_people_72 : decode cX8_people 72 = .ok (.iload 6, 2) := by decide +kernel
theorem dX8_people_74 : decode cX8_people 74 = .ok (.iload_n 2, 1) := by decide +kernel
theorem dX8_people_75 : decode cX8_people 75 = .ok (.iload_n 3, 1) := by decide +kernel
theorem dX8_people_76 : decode cX8_people 76 = .ok (.iadd, 1) := by decide +kernel
theorem dX8_people_77 : decode cX8_people 77 = .ok (.if_icmp .ge 126, 3) := by decide +kernel
theorem dX8_people_80 : decode cX8_people 80 = .ok (.aload_n 0, 1) := by decide +kernel
theorem dX8_people_81 : decode cX8_people 81 = .ok (.iload_n 1, 1) := by decide +kernel
theorem dX8_people_82 : decode cX8_people 82 = .ok (.iload 6, 2) := by decide +kernel
theorem dX8_people_84 : decode cX8_people 84 = .ok (.invokevirtual 176, 3) := by decide +kernel
theorem dX8_people_87 : decode cX8_people 87 = .ok (.istore 7, 2) := by decide +kernel
theorem dX8_people_89 : decode cX8_people 89 = .ok (.aload_n 0, 1) := by decide +kernel
theorem dX8_people_90 : decode cX8_people 90 = .ok (.iload_n 1, 1) := by decide +kernel
theorem dX8_people_91 : decode cX8_people 91 = .ok (.iload 6, 2) := by decide +kernel
theorem dX8_people_93 : decode cX8_people 93 = .ok (.iconst 1, 1) := by decide +kernel
theorem dX8_people_94 : decode cX8_people 94 = .ok (.iadd, 1) := by decide +kernel
theorem dX8_people_95 : decode cX8_people 95 = .ok (.invokevirtual 176, 3) := by decide +kernel
theorem dX8_people_98 : decode cX8_people 98 = .ok (.istore 8, 2) := by decide +kernel
theorem dX8_people_100 : decode cX8_people 100 = .ok (.aload_n 0, 1) := by decide +kernel
theorem dX8_people_101 : decode cX8_people 101 = .ok (.getfield 132, 3) := by decide +kernel
theorem dX8_people_104 : decode cX8_people 104 = .ok (.bipush 30, 2) := by decide +kernel
theorem dX8_people_106 : decode cX8_people 106 = .ok (.if_icmp .eq 50, 3) := by decide +kernel
theorem dX8_people_109 : decode cX8_people 109 = .ok (.aload_n 0, 1) := by decide +kernel
theorem dX8_people_110 : decode cX8_people 110 = .ok (.iload 7, 2) := by decide +kernel
theorem dX8_people_112 : decode cX8_people 112 = .ok (.iload 8, 2) := by decide +kernel
theorem dX8_people_114 : decode cX8_people 114 = .ok (.invokevirtual 161, 3) := by decide +kernel
theorem dX8_people_117 : decode cX8_people 117 = .ok (.ifCond .eq 39, 3) := by decide +kernel
theorem dX8_people_120 : decode cX8_people 120 = .ok (.aload_n 0, 1) := by decide +kernel
theorem dX8_people_121 : decode cX8_people 121 = .ok (.iload 8, 2) := by decide +kernel
theorem dX8_people_123 : decode cX8_people 123 = .ok (.aload_n 0, 1) := by decide +kernel
theorem dX8_people_124 : decode cX8_people 124 = .ok (.iload_n 1, 1) := by decide +kernel
theorem dX8_people_125 : decode cX8_people 125 = .ok (.iload 6, 2) := by decide +kernel
theorem dX8_people_127 : decode cX8_people 127 = .ok (.iconst 2, 1) := by decide +kernel
theorem dX8_people_128 : decode cX8_people 128 = .ok (.iadd, 1) := by decide +kernel
theorem dX8_people_129 : decode cX8_people 129 = .ok (.invokevirtual 176, 3) := by decide +kernel
theorem dX8_people_132 : decode cX8_people 132 = .ok (.aload_n 0, 1) := by decide +kernel
theorem dX8_people_133 : decode cX8_people 133 = .ok (.iload_n 1, 1) := by decide +kernel
theorem dX8_people_134 : decode cX8_people 134 = .ok (.iload 6, 2) := by decide +kernel
theorem dX8_people_136 : decode cX8_people 136 = .ok (.iconst 3, 1) := by decide +kernel
theorem dX8_people_137 : decode cX8_people 137 = .ok (.iadd, 1) := by decide +kernel
theorem dX8_people_138 : decode cX8_people 138 = .ok (.invokevirtual 176, 3) := by decide +kernel
theorem dX8_people_141 : decode cX8_people 141 = .ok (.aload_n 0, 1) := by decide +kernel
theorem dX8_people_142 : decode cX8_people 142 = .ok (.iload_n 1, 1) := by decide +kernel
theorem dX8_people_143 : decode cX8_people 143 = .ok (.iload 6, 2) := by decide +kernel
theorem dX8_people_145 : decode cX8_people 145 = .ok (.iconst 4, 1) := by decide +kernel
theorem dX8_people_146 : decode cX8_people 146 = .ok (.iadd, 1) := by decide +kernel
theorem dX8_people_147 : decode cX8_people 147 = .ok (.invokevirtual 176, 3) := by decide +kernel
theorem dX8_people_150 : decode cX8_people 150 = .ok (.invokevirtual 165, 3) := by decide +kernel
theorem dX8_people_153 : decode cX8_people 153 = .ok (.ifCond .ne 6, 3) := by decide +kernel
theorem dX8_people_156 : decode cX8_people 156 = .ok (.iload 5, 2) := by decide +kernel
theorem dX8_people_158 : decode cX8_people 158 = .ok (.ireturn, 1) := by decide +kernel
theorem dX8_people_159 : decode cX8_people 159 = .ok (.aload_n 0, 1) := by decide +kernel
theorem dX8_people_160 : decode cX8_people 160 = .ok (.iload 7, 2) := by decide +kernel
theorem dX8_people_162 : decode cX8_people 162 = .ok (.iload 8, 2) := by decide +kernel
theorem dX8_people_164 : decode cX8_people 164 = .ok (.aload_n 0, 1) := by decide +kernel
theorem dX8_people_165 : decode cX8_people 165 = .ok (.iload_n 1, 1) := by decide +kernel
theorem dX8_people_166 : decode cX8_people 166 = .ok (.iload 6, 2) := by decide +kernel
theorem dX8_people_168 : decode cX8_people 168 = .ok (.iconst 2, 1) := by decide +kernel
theorem dX8_people_169 : decode cX8_people 169 = .ok (.iadd, 1) := by decide +kernel
theorem dX8_people_170 : decode cX8_people 170 = .ok (.invokevirtual 176, 3) := by decide +kernel
theorem dX8_people_173 : decode cX8_people 173 = .ok (.aload_n 0, 1) := by decide +kernel
theorem dX8_people_174 : decode cX8_people 174 = .ok (.iload_n 1, 1) := by decide +kernel
theorem dX8_people_175 : decode cX8_people 175 = .ok (.iload 6, 2) := by decide +kernel
theorem dX8_people_177 : decode cX8_people 177 = .ok (.iconst 3, 1) := by decide +kernel
theorem dX8_people_178 : decode cX8_people 178 = .ok (.iadd, 1) := by decide +kernel
theorem dX8_people_179 : decode cX8_people 179 = .ok (.invokevirtual 176, 3) := by decide +kernel
theorem dX8_people_182 : decode cX8_people 182 = .ok (.aload_n 0, 1) := by decide +kernel
theorem dX8_people_183 : decode cX8_people 183 = .ok (.iload_n 1, 1) := by decide +kernel
theorem dX8_people_184 : decode cX8_people 184 = .ok (.iload 6, 2) := by decide +kernel
theorem dX8_people_186 : decode cX8_people 186 = .ok (.iconst 4, 1) := by decide +kernel
theorem dX8_people_187 : decode cX8_people 187 = .ok (.iadd, 1) := by decide +kernel
theorem dX8_people_188 : decode cX8_people 188 = .ok (.invokevirtual 176, 3) := by decide +kernel
theorem dX8_people_191 : decode cX8_people 191 = .ok (.invokevirtual 169, 3) := by decide +kernel
theorem dX8_people_194 : decode cX8_people 194 = .ok (.iinc 5 1, 3) := by decide +kernel
theorem dX8_people_197 : decode cX8_people 197 = .ok (.iinc 6 5, 3) := by decide +kernel
theorem dX8_people_200 : decode cX8_people 200 = .ok (.goto (-128), 3) := by decide +kernel
theorem dX8_people_203 : decode cX8_people 203 = .ok (.iload 5, 2) := by decide +kernel
theorem dX8_people_205 : decode cX8_people 205 = .ok (.ireturn, 1) := by decide +kernel
theorem dX8_personOf_0 : decode cX8_personOf 0 = .ok (.aload_n 0, 1) := by decide +kernel
theorem dX8_personOf_1 : decode cX8_personOf 1 = .ok (.iload_n 1, 1) := by decide +kernel
theorem dX8_personOf_2 : decode cX8_personOf 2 = .ok (.invokevirtual 146, 3) := by decide +kernel
theorem dX8_personOf_5 : decode cX8_personOf 5 = .ok (.ifCond .eq 13, 3) := by decide +kernel
theorem dX8_personOf_8 : decode cX8_personOf 8 = .ok (.iload_n 2, 1) := by decide +kernel
theorem dX8_personOf_9 : decode cX8_personOf 9 = .ok (.ifCond .lt 9, 3) := by decide +kernel
theorem dX8_personOf_12 : decode cX8_personOf 12 = .ok (.iload_n 2, 1) := by decide +kernel
theorem dX8_personOf_13 : decode cX8_personOf 13 = .ok (.bipush 9, 2) := by decide +kernel
theorem dX8_personOf_15 : decode cX8_personOf 15 = .ok (.if_icmp .le 10, 3) := by decide +kernel
theorem dX8_personOf_18 : decode cX8_personOf 18 = .ok (.aload_n 0, 1) := by decide +kernel
theorem dX8_personOf_19 : decode cX8_personOf 19 = .ok (.bipush (-5), 2) := by decide +kernel
theorem dX8_personOf_21 : decode cX8_personOf 21 = .ok (.invokevirtual 142, 3) := by decide +kernel
theorem dX8_personOf_24 : decode cX8_personOf 24 = .ok (.ireturn, 1) := by decide +kernel
theorem dX8_personOf_25 : decode cX8_personOf 25 = .ok (.iload_n 2, 1) := by decide +kernel
theorem dX8_personOf_26 : decode cX8_personOf 26 = .ok (.tableswitch 127 0 8 #[50, 57, 64, 71, 78, 85, 92, 99, 120], 50) := by decide +kernel
theorem dX8_personOf_76 : decode cX8_personOf 76 = .ok (.aload_n 0, 1) := by decide +kernel
theorem dX8_personOf_77 : decode cX8_personOf 77 = .ok (.getfield 23, 3) := by decide +kernel
theorem dX8_personOf_80 : decode cX8_personOf 80 = .ok (.iload_n 1, 1) := by decide +kernel
theorem dX8_personOf_81 : decode cX8_personOf 81 = .ok (.iaload, 1) := by decide +kernel
theorem dX8_personOf_82 : decode cX8_personOf 82 = .ok (.ireturn, 1) := by decide +kernel
theorem dX8_personOf_83 : decode cX8_personOf 83 = .ok (.aload_n 0, 1) := by decide +kernel
theorem dX8_personOf_84 : decode cX8_personOf 84 = .ok (.getfield 26, 3) := by decide +kernel
theorem dX8_personOf_87 : decode cX8_personOf 87 = .ok (.iload_n 1, 1) := by decide +kernel
theorem dX8_personOf_88 : decode cX8_personOf 88 = .ok (.iaload, 1) := by decide +kernel
theorem dX8_personOf_89 : decode cX8_personOf 89 = .ok (.ireturn, 1) := by decide +kernel
theorem dX8_personOf_90 : decode cX8_personOf 90 = .ok (.aload_n 0, 1) := by decide +kernel
theorem dX8_personOf_91 : decode cX8_personOf 91 = .ok (.getfield 29, 3) := by decide +kernel
theorem dX8_personOf_94 : decode cX8_personOf 94 = .ok (.iload_n 1, 1) := by decide +kernel
theorem dX8_personOf_95 : decode cX8_personOf 95 = .ok (.iaload, 1) := by decide +kernel
theorem dX8_personOf_96 : decode cX8_personOf 96 = .ok (.ireturn, 1) := by decide +kernel
theorem dX8_personOf_97 : decode cX8_personOf 97 = .ok (.aload_n 0, 1) := by decide +kernel
theorem dX8_personOf_98 : decode cX8_personOf 98 = .ok (.getfield 32, 3) := by decide +kernel
theorem dX8_personOf_101 : decode cX8_personOf 101 = .ok (.iload_n 1, 1) := by decide +kernel
theorem dX8_personOf_102 : decode cX8_personOf 102 = .ok (.iaload, 1) := by decide +kernel
theorem dX8_personOf_103 : decode cX8_personOf 103 = .ok (.ireturn, 1) := by decide +kernel
theorem dX8_personOf_104 : decode cX8_personOf 104 = .ok (.aload_n 0, 1) := by decide +kernel
theorem dX8_personOf_105 : decode cX8_personOf 105 = .ok (.getfield 35, 3) := by decide +kernel
theorem dX8_personOf_108 : decode cX8_personOf 108 = .ok (.iload_n 1, 1) := by decide +kernel
theorem dX8_personOf_109 : decode cX8_personOf 109 = .ok (.iaload, 1) := by decide +kernel
theorem dX8_personOf_110 : decode cX8_personOf 110 = .ok (.ireturn, 1) := by decide +kernel
theorem dX8_personOf_111 : decode cX8_personOf 111 = .ok (.aload_n 0, 1) := by decide +kernel
theorem dX8_personOf_112 : decode cX8_personOf 112 = .ok (.getfield 38, 3) := by decide +kernel
theorem dX8_personOf_115 : decode cX8_personOf 115 = .ok (.iload_n 1, 1) := by decide +kernel
theorem dX8_personOf_116 : decode cX8_personOf 116 = .ok (.iaload, 1) := by decide +kernel
theorem dX8_personOf_117 : decode cX8_personOf 117 = .ok (.ireturn, 1) := by decide +kernel
theorem dX8_personOf_118 : decode cX8_personOf 118 = .ok (.aload_n 0, 1) := by decide +kernel
theorem dX8_personOf_119 : decode cX8_personOf 119 = .ok (.getfield 41, 3) := by decide +kernel
theorem dX8_personOf_122 : decode cX8_personOf 122 = .ok (.iload_n 1, 1) := by decide +kernel
theorem dX8_personOf_123 : decode cX8_personOf 123 = .ok (.iaload, 1) := by decide +kernel
theorem dX8_personOf_124 : decode cX8_personOf 124 = .ok (.ireturn, 1) := by decide +kernel
theorem dX8_personOf_125 : decode cX8_personOf 125 = .ok (.aload_n 0, 1) := by decide +kernel
theorem dX8_personOf_126 : decode cX8_personOf 126 = .ok (.getfield 41, 3) := by decide +kernel
theorem dX8_personOf_129 : decode cX8_personOf 129 = .ok (.iload_n 1, 1) := by decide +kernel
theorem dX8_personOf_130 : decode cX8_personOf 130 = .ok (.iaload, 1) := by decide +kernel
theorem dX8_personOf_131 : decode cX8_personOf 131 = .ok (.iconst 1, 1) := by decide +kernel
theorem dX8_personOf_132 : decode cX8_personOf 132 = .ok (.if_icmp .ne 12, 3) := by decide +kernel
theorem dX8_personOf_135 : decode cX8_personOf 135 = .ok (.aload_n 0, 1) := by decide +kernel
theorem dX8_personOf_136 : decode cX8_personOf 136 = .ok (.getfield 44, 3) := by decide +kernel
theorem dX8_personOf_139 : decode cX8_personOf 139 = .ok (.iload_n 1, 1) := by decide +kernel
theorem dX8_personOf_140 : decode cX8_personOf 140 = .ok (.iaload, 1) := by decide +kernel
theorem dX8_personOf_141 : decode cX8_personOf 141 = .ok (.goto 4, 3) := by decide +kernel
theorem dX8_personOf_144 : decode cX8_personOf 144 = .ok (.iconst 0, 1) := by decide +kernel
theorem dX8_personOf_145 : decode cX8_personOf 145 = .ok (.ireturn, 1) := by decide +kernel
theorem dX8_personOf_146 : decode cX8_personOf 146 = .ok (.aload_n 0, 1) := by decide +kernel
theorem dX8_personOf_147 : decode cX8_personOf 147 = .ok (.getfield 47, 3) := by decide +kernel
theorem dX8_personOf_150 : decode cX8_personOf 150 = .ok (.iload_n 1, 1) := by decide +kernel
theorem dX8_personOf_151 : decode cX8_personOf 151 = .ok (.iaload, 1) := by decide +kernel
theorem dX8_personOf_152 : decode cX8_personOf 152 = .ok (.ireturn, 1) := by decide +kernel
theorem dX8_personOf_153 : decode cX8_personOf 153 = .ok (.aload_n 0, 1) := by decide +kernel
theorem dX8_personOf_154 : decode cX8_personOf 154 = .ok (.getfield 50, 3) := by decide +kernel
theorem dX8_personOf_157 : decode cX8_personOf 157 = .ok (.iload_n 1, 1) := by decide +kernel
theorem dX8_personOf_158 : decode cX8_personOf 158 = .ok (.iaload, 1) := by decide +kernel
theorem dX8_personOf_159 : decode cX8_personOf 159 = .ok (.ireturn, 1) := by decide +kernel
theorem dX8_move_0 : decode cX8_move 0 = .ok (.aload_n 0, 1) := by decide +kernel
theorem dX8_move_1 : decode cX8_move 1 = .ok (.iload_n 1, 1) := by decide +kernel
theorem dX8_move_2 : decode cX8_move 2 = .ok (.invokevirtual 146, 3) := by decide +kernel
theorem dX8_move_5 : decode cX8_move 5 = .ok (.ifCond .eq 11, 3) := by decide +kernel
theorem dX8_move_8 : decode cX8_move 8 = .ok (.aload_n 0, 1) := by decide +kernel
theorem dX8_move_9 : decode cX8_move 9 = .ok (.iload_n 2, 1) := by decide +kernel
theorem dX8_move_10 : decode cX8_move 10 = .ok (.invokevirtual 155, 3) := by decide +kernel
theorem dX8_move_13 : decode cX8_move 13 = .ok (.ifCond .ne 9, 3) := by decide +kernel
theorem dX8_move_16 : decode cX8_move 16 = .ok (.aload_n 0, 1) := by decide +kernel
theorem dX8_move_17 : decode cX8_move 17 = .ok (.iconst (-1), 1) := by decide +kernel
theorem dX8_move_18 : decode cX8_move 18 = .ok (.invokevirtual 142, 3) := by decide +kernel
theorem dX8_move_21 : decode cX8_move 21 = .ok (.ireturn, 1) := by decide +kernel
theorem dX8_move_22 : decode cX8_move 22 = .ok (.aload_n 0, 1) := by decide +kernel
theorem dX8_move_23 : decode cX8_move 23 = .ok (.iload_n 2, 1) := by decide +kernel
theorem dX8_move_24 : decode cX8_move 24 = .ok (.invokevirtual 158, 3) := by decide +kernel
theorem dX8_move_27 : decode cX8_move 27 = .ok (.iconst (-1), 1) := by decide +kernel
theorem dX8_move_28 : decode cX8_move 28 = .ok (.if_icmp .eq 10, 3) := by decide +kernel
theorem dX8_move_31 : decode cX8_move 31 = .ok (.aload_n 0, 1) := by decide +kernel
theorem dX8_move_32 : decode cX8_move 32 = .ok (.bipush (-6), 2) := by decide +kernel
theorem dX8_move_34 : decode cX8_move 34 = .ok (.invokevirtual 142, 3) := by decide +kernel
theorem dX8_move_37 : decode cX8_move 37 = .ok (.ireturn, 1) := by decide +kernel
theorem dX8_move_38 : decode cX8_move 38 = .ok (.aload_n 0, 1) := by decide +kernel
theorem dX8_move_39 : decode cX8_move 39 = .ok (.getfield 26, 3) := by decide +kernel
theorem dX8_move_42 : decode cX8_move 42 = .ok (.iload_n 1, 1) := by decide +kernel
theorem dX8_move_43 : decode cX8_move 43 = .ok (.iaload, 1) := by decide +kernel
theorem dX8_move_44 : decode cX8_move 44 = .ok (.istore_n 3, 1) := by decide +kernel
theorem dX8_move_45 : decode cX8_move 45 = .ok (.aload_n 0, 1) := by decide +kernel
theorem dX8_move_46 : decode cX8_move 46 = .ok (.getfield 26, 3) := by decide +kernel
theorem dX8_move_49 : decode cX8_move 49 = .ok (.iload_n 1, 1) := by decide +kernel
theorem dX8_move_50 : decode cX8_move 50 = .ok (.iload_n 2, 1) := by decide +kernel
theorem dX8_move_51 : decode cX8_move 51 = .ok (.iastore, 1) := by decide +kernel
theorem dX8_move_52 : decode cX8_move 52 = .ok (.iload_n 3, 1) := by decide +kernel
theorem dX8_move_53 : decode cX8_move 53 = .ok (.ireturn, 1) := by decide +kernel
theorem dX8_alter_0 : decode cX8_alter 0 = .ok (.aload_n 0, 1) := by decide +kernel
theorem dX8_alter_1 : decode cX8_alter 1 = .ok (.iload_n 1, 1) := by decide +kernel
theorem dX8_alter_2 : decode cX8_alter 2 = .ok (.invokevirtual 146, 3) := by decide +kernel
theorem dX8_alter_5 : decode cX8_alter 5 = .ok (.ifCond .ne 9, 3) := by decide +kernel
theorem dX8_alter_8 : decode cX8_alter 8 = .ok (.aload_n 0, 1) := by decide +kernel
theorem dX8_alter_9 : decode cX8_alter 9 = .ok (.iconst (-1), 1) := by decide +kernel
theorem dX8_alter_10 : decode cX8_alter 10 = .ok (.invokevirtual 142, 3) := by decide +kernel
theorem dX8_alter_13 : decode cX8_alter 13 = .ok (.ireturn, 1) := by decide +kernel
theorem dX8_alter_14 : decode cX8_alter 14 = .ok (.iload_n 2, 1) := by decide +kernel
theorem dX8_alter_15 : decode cX8_alter 15 = .ok (.ifCond .lt 12, 3) := by decide +kernel
theorem dX8_alter_18 : decode cX8_alter 18 = .ok (.iload_n 2, 1) := by decide +kernel
theorem dX8_alter_19 : decode cX8_alter 19 = .ok (.iconst 3, 1) := by decide +kernel
theorem dX8_alter_20 : decode cX8_alter 20 = .ok (.if_icmp .gt 7, 3) := by decide +kernel
theorem dX8_alter_23 : decode cX8_alter 23 = .ok (.iload_n 3, 1) := by decide +kernel
theorem dX8_alter_24 : decode cX8_alter 24 = .ok (.ifCond .ge 10, 3) := by decide +kernel
theorem dX8_alter_27 : decode cX8_alter 27 = .ok (.aload_n 0, 1) := by decide +kernel
theorem dX8_alter_28 : decode cX8_alter 28 = .ok (.bipush (-6), 2) := by decide +kernel
theorem dX8_alter_30 : decode cX8_alter 30 = .ok (.invokevirtual 142, 3) := by decide +kernel
theorem dX8_alter_33 : decode cX8_alter 33 = .ok (.ireturn, 1) := by decide +kernel
theorem dX8_alter_34 : decode cX8_alter 34 = .ok (.iload_n 2, 1) := by decide +kernel
theorem dX8_alter_35 : decode cX8_alter 35 = .ok (.ifCond .ne 34, 3) := by decide +kernel
theorem dX8_alter_38 : decode cX8_alter 38 = .ok (.iload_n 3, 1) := by decide +kernel
theorem dX8_alter_39 : decode cX8_alter 39 = .ok (.bipush 99, 2) := by decide +kernel
theorem dX8_alter_41 : decode cX8_alter 41 = .ok (.if_icmp .le 10, 3) := by decide +kernel
theorem dX8_alter_44 : decode cX8_alter 44 = .ok (.aload_n 0, 1) := by decide +kernel
theorem dX8_alter_45 : decode cX8_alter 45 = .ok (.bipush (-6), 2) := by decide +kernel
theorem dX8_alter_47 : decode cX8_alter 47 = .ok (.invokevirtual 142, 3) := by decide +kernel
theorem dX8_alter_50 : decode cX8_alter 50 = .ok (.ireturn, 1) := by decide +kernel
theorem dX8_alter_51 : decode cX8_alter 51 = .ok (.aload_n 0, 1) := by decide +kernel
theorem dX8_alter_52 : decode cX8_alter 52 = .ok (.getfield 29, 3) := by decide +kernel
theorem dX8_alter_55 : decode cX8_alter 55 = .ok (.iload_n 1, 1) := by decide +kernel
theorem dX8_alter_56 : decode cX8_alter 56 = .ok (.iaload, 1) := by decide +kernel
theorem dX8_alter_57 : decode cX8_alter 57 = .ok (.istore 4, 2) := by decide +kernel
theorem dX8_alter_59 : decode cX8_alter 59 = .ok (.aload_n 0, 1) := by decide +kernel
theorem dX8_alter_60 : decode cX8_alter 60 = .ok (.getfield 29, 3) := by decide +kernel
theorem dX8_alter_63 : decode cX8_alter 63 = .ok (.iload_n 1, 1) := by decide +kernel
theorem dX8_alter_64 : decode cX8_alter 64 = .ok (.iload_n 3, 1) := by decide +kernel
theorem dX8_alter_65 : decode cX8_alter 65 = .ok (.iastore, 1) := by decide +kernel
theorem dX8_alter_66 : decode cX8_alter 66 = .ok (.goto 122, 3) := by decide +kernel
theorem dX8_alter_69 : decode cX8_alter 69 = .ok (.iload_n 2, 1) := by decide +kernel
theorem dX8_alter_70 : decode cX8_alter 70 = .ok (.iconst 1, 1) := by decide +kernel
theorem dX8_alter_71 : decode cX8_alter 71 = .ok (.if_icmp .ne 49, 3) := by decide +kernel
theorem dX8_alter_74 : decode cX8_alter 74 = .ok (.iload_n 3, 1) := by decide +kernel
theorem dX8_alter_75 : decode cX8_alter 75 = .ok (.iconst 1, 1) := by decide +kernel
theorem dX8_alter_76 : decode cX8_alter 76 = .ok (.if_icmp .lt 9, 3) := by decide +kernel
theorem dX8_alter_79 : decode cX8_alter 79 = .ok (.iload_n 3, 1) := by decide +kernel
theorem dX8_alter_80 : decode cX8_alter 80 = .ok (.bipush 9, 2) := by decide +kernel
theorem dX8_alter_82 : decode cX8_alter 82 = .ok (.if_icmp .le 10, 3) := by decide +kernel
theorem dX8_alter_85 : decode cX8_alter 85 = .ok (.aload_n 0, 1) := by decide +kernel
theorem dX8_alter_86 : decode cX8_alter 86 = .ok (.bipush (-6), 2) := by decide +kernel
theorem dX8_alter_88 : decode cX8_alter 88 = .ok (.invokevirtual 142, 3) := by decide +kernel
theorem dX8_alter_91 : decode cX8_alter 91 = .ok (.ireturn, 1) := by decide +kernel
theorem dX8_alter_92 : decode cX8_alter 92 = .ok (.aload_n 0, 1) := by decide +kernel
theorem dX8_alter_93 : decode cX8_alter 93 = .ok (.getfield 32, 3) := by decide +kernel
theorem dX8_alter_96 : decode cX8_alter 96 = .ok (.iload_n 1, 1) := by decide +kernel
theorem dX8_alter_97 : decode cX8_alter 97 = .ok (.iaload, 1) := by decide +kernel
theorem dX8_alter_98 : decode cX8_alter 98 = .ok (.istore 4, 2) := by decide +kernel
theorem dX8_alter_100 : decode cX8_alter 100 = .ok (.aload_n 0, 1) := by decide +kernel
theorem dX8_alter_101 : decode cX8_alter 101 = .ok (.getfield 32, 3) := by decide +kernel
theorem dX8_alter_104 : decode cX8_alter 104 = .ok (.iload_n 1, 1) := by decide +kernel
theorem dX8_alter_105 : decode cX8_alter 105 = .ok (.iload_n 3, 1) := by decide +kernel
theorem dX8_alter_106 : decode cX8_alter 106 = .ok (.iastore, 1) := by decide +kernel
theorem dX8_alter_107 : decode cX8_alter 107 = .ok (.aload_n 0, 1) := by decide +kernel
theorem dX8_alter_108 : decode cX8_alter 108 = .ok (.getfield 38, 3) := by decide +kernel
theorem dX8_alter_111 : decode cX8_alter 111 = .ok (.iload_n 1, 1) := by decide +kernel
theorem dX8_alter_112 : decode cX8_alter 112 = .ok (.dup2, 1) := by decide +kernel
theorem dX8_alter_113 : decode cX8_alter 113 = .ok (.iaload, 1) := by decide +kernel
theorem dX8_alter_114 : decode cX8_alter 114 = .ok (.iload_n 3, 1) := by decide +kernel
theorem dX8_alter_115 : decode cX8_alter 115 = .ok (.irem, 1) := by decide +kernel
theorem dX8_alter_116 : decode cX8_alter 116 = .ok (.iastore, 1) := by decide +kernel
theorem dX8_alter_117 : decode cX8_alter 117 = .ok (.goto 71, 3) := by decide +kernel
theorem dX8_alter_120 : decode cX8_alter 120 = .ok (.iload_n 2, 1) := by decide +kernel
theorem dX8_alter_121 : decode cX8_alter 121 = .ok (.iconst 2, 1) := by decide +kernel
theorem dX8_alter_122 : decode cX8_alter 122 = .ok (.if_icmp .ne 34, 3) := by decide +kernel
theorem dX8_alter_125 : decode cX8_alter 125 = .ok (.iload_n 3, 1) := by decide +kernel
theorem dX8_alter_126 : decode cX8_alter 126 = .ok (.bipush 99, 2) := by decide +kernel
theorem dX8_alter_128 : decode cX8_alter 128 = .ok (.if_icmp .le 10, 3) := by decide +kernel
theorem dX8_alter_131 : decode cX8_alter 131 = .ok (.aload_n 0, 1) := by decide +kernel
theorem dX8_alter_132 : decode cX8_alter 132 = .ok (.bipush (-6), 2) := by decide +kernel
theorem dX8_alter_134 : decode cX8_alter 134 = .ok (.invokevirtual 142, 3) := by decide +kernel
theorem dX8_alter_137 : decode cX8_alter 137 = .ok (.ireturn, 1) := by decide +kernel
theorem dX8_alter_138 : decode cX8_alter 138 = .ok (.aload_n 0, 1) := by decide +kernel
theorem dX8_alter_139 : decode cX8_alter 139 = .ok (.getfield 35, 3) := by decide +kernel
theorem dX8_alter_142 : decode cX8_alter 142 = .ok (.iload_n 1, 1) := by decide +kernel
theorem dX8_alter_143 : decode cX8_alter 143 = .ok (.iaload, 1) := by decide +kernel
theorem dX8_alter_144 : decode cX8_alter 144 = .ok (.istore 4, 2) := by decide +kernel
theorem dX8_alter_146 : decode cX8_alter 146 = .ok (.aload_n 0, 1) := by decide +kernel
theorem dX8_alter_147 : decode cX8_alter 147 = .ok (.getfield 35, 3) := by decide +kernel
theorem dX8_alter_150 : decode cX8_alter 150 = .ok (.iload_n 1, 1) := by decide +kernel
theorem dX8_alter_151 : decode cX8_alter 151 = .ok (.iload_n 3, 1) := by decide +kernel
theorem dX8_alter_152 : decode cX8_alter 152 = .ok (.iastore, 1) := by decide +kernel
theorem dX8_alter_153 : decode cX8_alter 153 = .ok (.goto 35, 3) := by decide +kernel
theorem dX8_alter_156 : decode cX8_alter 156 = .ok (.iload_n 3, 1) := by decide +kernel
theorem dX8_alter_157 : decode cX8_alter 157 = .ok (.aload_n 0, 1) := by decide +kernel
theorem dX8_alter_158 : decode cX8_alter 158 = .ok (.getfield 32, 3) := by decide +kernel
theorem dX8_alter_161 : decode cX8_alter 161 = .ok (.iload_n 1, 1) := by decide +kernel
theorem dX8_alter_162 : decode cX8_alter 162 = .ok (.iaload, 1) := by decide +kernel
theorem dX8_alter_163 : decode cX8_alter 163 = .ok (.if_icmp .lt 10, 3) := by decide +kernel
theorem dX8_alter_166 : decode cX8_alter 166 = .ok (.aload_n 0, 1) := by decide +kernel
theorem dX8_alter_167 : decode cX8_alter 167 = .ok (.bipush (-6), 2) := by decide +kernel
theorem dX8_alter_169 : decode cX8_alter 169 = .ok (.invokevirtual 142, 3) := by decide +kernel
theorem dX8_alter_172 : decode cX8_alter 172 = .ok (.ireturn, 1) := by decide +kernel
theorem dX8_alter_173 : decode cX8_alter 173 = .ok (.aload_n 0, 1) := by decide +kernel
theorem dX8_alter_174 : decode cX8_alter 174 = .ok (.getfield 38, 3) := by decide +kernel
theorem dX8_alter_177 : decode cX8_alter 177 = .ok (.iload_n 1, 1) := by decide +kernel
theorem dX8_alter_178 : decode cX8_alter 178 = .ok (.iaload, 1) := by decide +kernel
theorem dX8_alter_179 : decode cX8_alter 179 = .ok (.istore 4, 2) := by decide +kernel
theorem dX8_alter_181 : decode cX8_alter 181 = .ok (.aload_n 0, 1) := by decide +kernel
theorem dX8_alter_182 : decode cX8_alter 182 = .ok (.getfield 38, 3) := by decide +kernel
theorem dX8_alter_185 : decode cX8_alter 185 = .ok (.iload_n 1, 1) := by decide +kernel
theorem dX8_alter_186 : decode cX8_alter 186 = .ok (.iload_n 3, 1) := by decide +kernel
theorem dX8_alter_187 : decode cX8_alter 187 = .ok (.iastore, 1) := by decide +kernel
theorem dX8_alter_188 : decode cX8_alter 188 = .ok (.iload 4, 2) := by decide +kernel
theorem dX8_alter_190 : decode cX8_alter 190 = .ok (.ireturn, 1) := by decide +kernel
theorem dX8_glove_0 : decode cX8_glove 0 = .ok (.aload_n 0, 1) := by decide +kernel
theorem dX8_glove_1 : decode cX8_glove 1 = .ok (.iload_n 1, 1) := by decide +kernel
theorem dX8_glove_2 : decode cX8_glove 2 = .ok (.invokevirtual 146, 3) := by decide +kernel
theorem dX8_glove_5 : decode cX8_glove 5 = .ok (.ifCond .ne 9, 3) := by decide +kernel
theorem dX8_glove_8 : decode cX8_glove 8 = .ok (.aload_n 0, 1) := by decide +kernel
theorem dX8_glove_9 : decode cX8_glove 9 = .ok (.iconst (-1), 1) := by decide +kernel
theorem dX8_glove_10 : decode cX8_glove 10 = .ok (.invokevirtual 142, 3) := by decide +kernel
theorem dX8_glove_13 : decode cX8_glove 13 = .ok (.ireturn, 1) := by decide +kernel
theorem dX8_glove_14 : decode cX8_glove 14 = .ok (.iload_n 2, 1) := by decide +kernel
theorem dX8_glove_15 : decode cX8_glove 15 = .ok (.ifCond .eq 7, 3) := by decide +kernel
theorem dX8_glove_18 : decode cX8_glove 18 = .ok (.iconst 1, 1) := by decide +kernel
theorem dX8_glove_19 : decode cX8_glove 19 = .ok (.goto 4, 3) := by decide +kernel
theorem dX8_glove_22 : decode cX8_glove 22 = .ok (.iconst 0, 1) := by decide +kernel
theorem dX8_glove_23 : decode cX8_glove 23 = .ok (.istore_n 3, 1) := by decide +kernel
theorem dX8_glove_24 : decode cX8_glove 24 = .ok (.aload_n 0, 1) := by decide +kernel
theorem dX8_glove_25 : decode cX8_glove 25 = .ok (.getfield 50, 3) := by decide +kernel
theorem dX8_glove_28 : decode cX8_glove 28 = .ok (.iload_n 1, 1) := by decide +kernel
theorem dX8_glove_29 : decode cX8_glove 29 = .ok (.iaload, 1) := by decide +kernel
theorem dX8_glove_30 : decode cX8_glove 30 = .ok (.iload_n 3, 1) := by decide +kernel
theorem dX8_glove_31 : decode cX8_glove 31 = .ok (.if_icmp .ne 5, 3) := by decide +kernel
theorem dX8_glove_34 : decode cX8_glove 34 = .ok (.iconst 0, 1) := by decide +kernel
theorem dX8_glove_35 : decode cX8_glove 35 = .ok (.ireturn, 1) := by decide +kernel
theorem dX8_glove_36 : decode cX8_glove 36 = .ok (.aload_n 0, 1) := by decide +kernel
theorem dX8_glove_37 : decode cX8_glove 37 = .ok (.getfield 50, 3) := by decide +kernel
theorem dX8_glove_40 : decode cX8_glove 40 = .ok (.iload_n 1, 1) := by decide +kernel
theorem dX8_glove_41 : decode cX8_glove 41 = .ok (.iload_n 3, 1) := by decide +kernel
theorem dX8_glove_42 : decode cX8_glove 42 = .ok (.iastore, 1) := by decide +kernel
theorem dX8_glove_43 : decode cX8_glove 43 = .ok (.iconst 1, 1) := by decide +kernel
theorem dX8_glove_44 : decode cX8_glove 44 = .ok (.ireturn, 1) := by decide +kernel
theorem dX8_word_0 : decode cX8_word 0 = .ok (.iconst 0, 1) := by decide +kernel
theorem dX8_word_1 : decode cX8_word 1 = .ok (.istore_n 1, 1) := by decide +kernel
theorem dX8_word_2 : decode cX8_word 2 = .ok (.aload_n 0, 1) := by decide +kernel
theorem dX8_word_3 : decode cX8_word 3 = .ok (.getfield 180, 3) := by decide +kernel
theorem dX8_word_6 : decode cX8_word 6 = .ok (.istore_n 2, 1) := by decide +kernel
theorem dX8_word_7 : decode cX8_word 7 = .ok (.iconst 0, 1) := by decide +kernel
theorem dX8_word_8 : decode cX8_word 8 = .ok (.istore_n 3, 1) := by decide +kernel
theorem dX8_word_9 : decode cX8_word 9 = .ok (.iload_n 3, 1) := by decide +kernel
theorem dX8_word_10 : decode cX8_word 10 = .ok (.bipush 7, 2) := by decide +kernel
theorem dX8_word_12 : decode cX8_word 12 = .ok (.if_icmp .ge 118, 3) := by decide +kernel
theorem dX8_word_15 : decode cX8_word 15 = .ok (.aload_n 0, 1) := by decide +kernel
theorem dX8_word_16 : decode cX8_word 16 = .ok (.getfield 180, 3) := by decide +kernel
theorem dX8_word_19 : decode cX8_word 19 = .ok (.istore 4, 2) := by decide +kernel
theorem dX8_word_21 : decode cX8_word 21 = .ok (.iload_n 1, 1) := by decide +kernel
theorem dX8_word_22 : decode cX8_word 22 = .ok (.istore 5, 2) := by decide +kernel
theorem dX8_word_24 : decode cX8_word 24 = .ok (.aload_n 0, 1) := by decide +kernel
theorem dX8_word_25 : decode cX8_word 25 = .ok (.getfield 81, 3) := by decide +kernel
theorem dX8_word_28 : decode cX8_word 28 = .ok (.iload 5, 2) := by decide +kernel
theorem dX8_word_30 : decode cX8_word 30 = .ok (.iaload, 1) := by decide +kernel
theorem dX8_word_31 : decode cX8_word 31 = .ok (.ifCond .eq 44, 3) := by decide +kernel
theorem dX8_word_34 : decode cX8_word 34 = .ok (.iload 4, 2) := by decide +kernel
theorem dX8_word_36 : decode cX8_word 36 = .ok (.aload_n 0, 1) := by decide +kernel
theorem dX8_word_37 : decode cX8_word 37 = .ok (.getfield 183, 3) := by decide +kernel
theorem dX8_word_40 : decode cX8_word 40 = .ok (.if_icmp .ge 35, 3) := by decide +kernel
theorem dX8_word_43 : decode cX8_word 43 = .ok (.aload_n 0, 1) := by decide +kernel
theorem dX8_word_44 : decode cX8_word 44 = .ok (.getfield 74, 3) := by decide +kernel
theorem dX8_word_47 : decode cX8_word 47 = .ok (.aload_n 0, 1) := by decide +kernel
theorem dX8_word_48 : decode cX8_word 48 = .ok (.getfield 186, 3) := by decide +kernel
theorem dX8_word_51 : decode cX8_word 51 = .ok (.iload 4, 2) := by decide +kernel
theorem dX8_word_53 : decode cX8_word 53 = .ok (.iadd, 1) := by decide +kernel
theorem dX8_word_54 : decode cX8_word 54 = .ok (.laload, 1) := by decide +kernel
theorem dX8_word_55 : decode cX8_word 55 = .ok (.l2i, 1) := by decide +kernel
theorem dX8_word_56 : decode cX8_word 56 = .ok (.aload_n 0, 1) := by decide +kernel
theorem dX8_word_57 : decode cX8_word 57 = .ok (.getfield 81, 3) := by decide +kernel
theorem dX8_word_60 : decode cX8_word 60 = .ok (.iload 5, 2) := by decide +kernel
theorem dX8_word_62 : decode cX8_word 62 = .ok (.iaload, 1) := by decide +kernel
theorem dX8_word_63 : decode cX8_word 63 = .ok (.if_icmp .ne 12, 3) := by decide +kernel
theorem dX8_word_66 : decode cX8_word 66 = .ok (.iinc 4 1, 3) := by decide +kernel
theorem dX8_word_69 : decode cX8_word 69 = .ok (.iinc 5 1, 3) := by decide +kernel
theorem dX8_word_72 : decode cX8_word 72 = .ok (.goto (-48), 3) := by decide +kernel
theorem dX8_word_75 : decode cX8_word 75 = .ok (.aload_n 0, 1) := by decide +kernel
theorem dX8_word_76 : decode cX8_word 76 = .ok (.getfield 81, 3) := by decide +kernel
theorem dX8_word_79 : decode cX8_word 79 = .ok (.iload 5, 2) := by decide +kernel
theorem dX8_word_81 : decode cX8_word 81 = .ok (.iaload, 1) := by decide +kernel
theorem dX8_word_82 : decode cX8_word 82 = .ok (.ifCond .ne 11, 3) := by decide +kernel
theorem dX8_word_85 : decode cX8_word 85 = .ok (.aload_n 0, 1) := by decide +kernel
theorem dX8_word_86 : decode cX8_word 86 = .ok (.iload 4, 2) := by decide +kernel
theorem dX8_word_88 : decode cX8_word 88 = .ok (.putfield 180, 3) := by decide +kernel
theorem dX8_word_91 : decode cX8_word 91 = .ok (.iload_n 3, 1) := by decide +kernel
theorem dX8_word_92 : decode cX8_word 92 = .ok (.ireturn, 1) := by decide +kernel
theorem dX8_word_93 : decode cX8_word 93 = .ok (.iload 4, 2) := by decide +kernel
theorem dX8_word_95 : decode cX8_word 95 = .ok (.iload_n 2, 1) := by decide +kernel
theorem dX8_word_96 : decode cX8_word 96 = .ok (.if_icmp .le 8, 3) := by decide +kernel
theorem dX8_word_99 : decode cX8_word 99 = .ok (.iload 4, 2) := by decide +kernel
theorem dX8_word_101 : decode cX8_word 101 = .ok (.goto 4, 3) := by decide +kernel
theorem dX8_word_104 : decode cX8_word 104 = .ok (.iload_n 2, 1) := by decide +kernel
theorem dX8_word_105 : decode cX8_word 105 = .ok (.istore_n 2, 1) := by decide +kernel
theorem dX8_word_106 : decode cX8_word 106 = .ok (.aload_n 0, 1) := by decide +kernel
theorem dX8_word_107 : decode cX8_word 107 = .ok (.getfield 81, 3) := by decide +kernel
theorem dX8_word_110 : decode cX8_word 110 = .ok (.iload_n 1, 1) := by decide +kernel
theorem dX8_word_111 : decode cX8_word 111 = .ok (.iaload, 1) := by decide +kernel
theorem dX8_word_112 : decode cX8_word 112 = .ok (.ifCond .eq 9, 3) := by decide +kernel
theorem dX8_word_115 : decode cX8_word 115 = .ok (.iinc 1 1, 3) := by decide +kernel
theorem dX8_word_118 : decode cX8_word 118 = .ok (.goto (-12), 3) := by decide +kernel
theorem dX8_word_121 : decode cX8_word 121 = .ok (.iinc 1 1, 3) := by decide +kernel
theorem dX8_word_124 : decode cX8_word 124 = .ok (.iinc 3 1, 3) := by decide +kernel
theorem dX8_word_127 : decode cX8_word 127 = .ok (.goto (-118), 3) := by decide +kernel
theorem dX8_word_130 : decode cX8_word 130 = .ok (.aload_n 0, 1) := by decide +kernel
theorem dX8_word_131 : decode cX8_word 131 = .ok (.iload_n 2, 1) := by decide +kernel
theorem dX8_word_132 : decode cX8_word 132 = .ok (.putfield 189, 3) := by decide +kernel
theorem dX8_word_135 : decode cX8_word 135 = .ok (.iconst (-1), 1) := by decide +kernel
theorem dX8_word_136 : decode cX8_word 136 = .ok (.ireturn, 1) := by decide +kernel
theorem dX8_isDigit_0 : decode cX8_isDigit 0 = .ok (.aload_n 0, 1) := by decide +kernel
theorem dX8_isDigit_1 : decode cX8_isDigit 1 = .ok (.getfield 180, 3) := by decide +kernel
theorem dX8_isDigit_4 : decode cX8_isDigit 4 = .ok (.aload_n 0, 1) := by decide +kernel
theorem dX8_isDigit_5 : decode cX8_isDigit 5 = .ok (.getfield 183, 3) := by decide +kernel
theorem dX8_isDigit_8 : decode cX8_isDigit 8 = .ok (.if_icmp .ge 47, 3) := by decide +kernel
theorem dX8_isDigit_11 : decode cX8_isDigit 11 = .ok (.aload_n 0, 1) := by decide +kernel
theorem dX8_isDigit_12 : decode cX8_isDigit 12 = .ok (.getfield 74, 3) := by decide +kernel
theorem dX8_isDigit_15 : decode cX8_isDigit 15 = .ok (.aload_n 0, 1) := by decide +kernel
theorem dX8_isDigit_16 : decode cX8_isDigit 16 = .ok (.getfield 186, 3) := by decide +kernel
theorem dX8_isDigit_19 : decode cX8_isDigit 19 = .ok (.aload_n 0, 1) := by decide +kernel
theorem dX8_isDigit_20 : decode cX8_isDigit 20 = .ok (.getfield 180, 3) := by decide +kernel
theorem dX8_isDigit_23 : decode cX8_isDigit 23 = .ok (.iadd, 1) := by decide +kernel
theorem dX8_isDigit_24 : decode cX8_isDigit 24 = .ok (.laload, 1) := by decide +kernel
theorem dX8_isDigit_25 : decode cX8_isDigit 25 = .ok (.l2i, 1) := by decide +kernel
theorem dX8_isDigit_26 : decode cX8_isDigit 26 = .ok (.bipush 48, 2) := by decide +kernel
theorem dX8_isDigit_28 : decode cX8_isDigit 28 = .ok (.if_icmp .lt 27, 3) := by decide +kernel
theorem dX8_isDigit_31 : decode cX8_isDigit 31 = .ok (.aload_n 0, 1) := by decide +kernel
theorem dX8_isDigit_32 : decode cX8_isDigit 32 = .ok (.getfield 74, 3) := by decide +kernel
theorem dX8_isDigit_35 : decode cX8_isDigit 35 = .ok (.aload_n 0, 1) := by decide +kernel
theorem dX8_isDigit_36 : decode cX8_isDigit 36 = .ok (.getfield 186, 3) := by decide +kernel
theorem dX8_isDigit_39 : decode cX8_isDigit 39 = .ok (.aload_n 0, 1) := by decide +kernel
theorem dX8_isDigit_40 : decode cX8_isDigit 40 = .ok (.getfield 180, 3) := by decide +kernel
theorem dX8_isDigit_43 : decode cX8_isDigit 43 = .ok (.iadd, 1) := by decide +kernel
theorem dX8_isDigit_44 : decode cX8_isDigit 44 = .ok (.laload, 1) := by decide +kernel
theorem dX8_isDigit_45 : decode cX8_isDigit 45 = .ok (.l2i, 1) := by decide +kernel
theorem dX8_isDigit_46 : decode cX8_isDigit 46 = .ok (.bipush 57, 2) := by decide +kernel
theorem dX8_isDigit_48 : decode cX8_isDigit 48 = .ok (.if_icmp .gt 7, 3) := by decide +kernel
theorem dX8_isDigit_51 : decode cX8_isDigit 51 = .ok (.iconst 1, 1) := by decide +kernel
theorem dX8_isDigit_52 : decode cX8_isDigit 52 = .ok (.goto 4, 3) := by decide +kernel
theorem dX8_isDigit_55 : decode cX8_isDigit 55 = .ok (.iconst 0, 1) := by decide +kernel
theorem dX8_isDigit_56 : decode cX8_isDigit 56 = .ok (.ireturn, 1) := by decide +kernel
theorem dX8_oneLaw_0 : decode cX8_oneLaw 0 = .ok (.aload_n 0, 1) := by decide +kernel
theorem dX8_oneLaw_1 : decode cX8_oneLaw 1 = .ok (.invokevirtual 192, 3) := by decide +kernel
theorem dX8_oneLaw_4 : decode cX8_oneLaw 4 = .ok (.istore_n 1, 1) := by decide +kernel
theorem dX8_oneLaw_5 : decode cX8_oneLaw 5 = .ok (.iload_n 1, 1) := by decide +kernel
theorem dX8_oneLaw_6 : decode cX8_oneLaw 6 = .ok (.iconst (-1), 1) := by decide +kernel
theorem dX8_oneLaw_7 : decode cX8_oneLaw 7 = .ok (.if_icmp .ne 5, 3) := by decide +kernel
theorem dX8_oneLaw_10 : decode cX8_oneLaw 10 = .ok (.iconst 0, 1) := by decide +kernel
theorem dX8_oneLaw_11 : decode cX8_oneLaw 11 = .ok (.ireturn, 1) := by decide +kernel
theorem dX8_oneLaw_12 : decode cX8_oneLaw 12 = .ok (.aload_n 0, 1) := by decide +kernel
theorem dX8_oneLaw_13 : decode cX8_oneLaw 13 = .ok (.aload_n 0, 1) := by decide +kernel
theorem dX8_oneLaw_14 : decode cX8_oneLaw 14 = .ok (.getfield 180, 3) := by decide +kernel
theorem dX8_oneLaw_17 : decode cX8_oneLaw 17 = .ok (.putfield 189, 3) := by decide +kernel
theorem dX8_oneLaw_20 : decode cX8_oneLaw 20 = .ok (.aload_n 0, 1) := by decide +kernel
theorem dX8_oneLaw_21 : decode cX8_oneLaw 21 = .ok (.invokevirtual 196, 3) := by decide +kernel
theorem dX8_oneLaw_24 : decode cX8_oneLaw 24 = .ok (.ifCond .ne 5, 3) := by decide +kernel
theorem dX8_oneLaw_27 : decode cX8_oneLaw 27 = .ok (.iconst 0, 1) := by decide +kernel
theorem dX8_oneLaw_28 : decode cX8_oneLaw 28 = .ok (.ireturn, 1) := by decide +kernel
theorem dX8_oneLaw_29 : decode cX8_oneLaw 29 = .ok (.aload_n 0, 1) := by decide +kernel
theorem dX8_oneLaw_30 : decode cX8_oneLaw 30 = .ok (.getfield 74, 3) := by decide +kernel
theorem dX8_oneLaw_33 : decode cX8_oneLaw 33 = .ok (.aload_n 0, 1) := by decide +kernel
theorem dX8_oneLaw_34 : decode cX8_oneLaw 34 = .ok (.getfield 186, 3) := by decide +kernel
theorem dX8_oneLaw_37 : decode cX8_oneLaw 37 = .ok (.aload_n 0, 1) := by decide +kernel
theorem dX8_oneLaw_38 : decode cX8_oneLaw 38 = .ok (.getfield 180, 3) := by decide +kernel
theorem dX8_oneLaw_41 : decode cX8_oneLaw 41 = .ok (.iadd, 1) := by decide +kernel
theorem dX8_oneLaw_42 : decode cX8_oneLaw 42 = .ok (.laload, 1) := by decide +kernel
theorem dX8_oneLaw_43 : decode cX8_oneLaw 43 = .ok (.l2i, 1) := by decide +kernel
theorem dX8_oneLaw_44 : decode cX8_oneLaw 44 = .ok (.bipush 48, 2) := by decide +kernel
theorem dX8_oneLaw_46 : decode cX8_oneLaw 46 = .ok (.isub, 1) := by decide +kernel
theorem dX8_oneLaw_47 : decode cX8_oneLaw 47 = .ok (.istore_n 2, 1) := by decide +kernel
theorem dX8_oneLaw_48 : decode cX8_oneLaw 48 = .ok (.aload_n 0, 1) := by decide +kernel
theorem dX8_oneLaw_49 : decode cX8_oneLaw 49 = .ok (.dup, 1) := by decide +kernel
theorem dX8_oneLaw_50 : decode cX8_oneLaw 50 = .ok (.getfield 180, 3) := by decide +kernel
theorem dX8_oneLaw_53 : decode cX8_oneLaw 53 = .ok (.iconst 1, 1) := by decide +kernel
theorem dX8_oneLaw_54 : decode cX8_oneLaw 54 = .ok (.iadd, 1) := by decide +kernel
theorem dX8_oneLaw_55 : decode cX8_oneLaw 55 = .ok (.putfield 180, 3) := by decide +kernel
theorem dX8_oneLaw_58 : decode cX8_oneLaw 58 = .ok (.aload_n 0, 1) := by decide +kernel
theorem dX8_oneLaw_59 : decode cX8_oneLaw 59 = .ok (.invokevirtual 196, 3) := by decide +kernel
theorem dX8_oneLaw_62 : decode cX8_oneLaw 62 = .ok (.ifCond .eq 37, 3) := by decide +kernel
theorem dX8_oneLaw_65 : decode cX8_oneLaw 65 = .ok (.bipush 10, 2) := by decide +kernel
theorem dX8_oneLaw_67 : decode cX8_oneLaw 67 = .ok (.iload_n 2, 1) := by decide +kernel
theorem dX8_oneLaw_68 : decode cX8_oneLaw 68 = .ok (.imul, 1) := by decide +kernel
theorem dX8_oneLaw_69 : decode cX8_oneLaw 69 = .ok (.aload_n 0, 1) := by decide +kernel
theorem dX8_oneLaw_70 : decode cX8_oneLaw 70 = .ok (.getfield 74, 3) := by decide +kernel
theorem dX8_oneLaw_73 : decode cX8_oneLaw 73 = .ok (.aload_n 0, 1) := by decide +kernel
theorem dX8_oneLaw_74 : decode cX8_oneLaw 74 = .ok (.getfield 186, 3) := by decide +kernel
theorem dX8_oneLaw_77 : decode cX8_oneLaw 77 = .ok (.aload_n 0, 1) := by decide +kernel
theorem dX8_oneLaw_78 : decode cX8_oneLaw 78 = .ok (.getfield 180, 3) := by decide +kernel
theorem dX8_oneLaw_81 : decode cX8_oneLaw 81 = .ok (.iadd, 1) := by decide +kernel
theorem dX8_oneLaw_82 : decode cX8_oneLaw 82 = .ok (.laload, 1) := by decide +kernel
theorem dX8_oneLaw_83 : decode cX8_oneLaw 83 = .ok (.l2i, 1) := by decide +kernel
theorem dX8_oneLaw_84 : decode cX8_oneLaw 84 = .ok (.iadd, 1) := by decide +kernel
theorem dX8_oneLaw_85 : decode cX8_oneLaw 85 = .ok (.bipush 48, 2) := by decide +kernel
theorem dX8_oneLaw_87 : decode cX8_oneLaw 87 = .ok (.isub, 1) := by decide +kernel
theorem dX8_oneLaw_88 : decode cX8_oneLaw 88 = .ok (.istore_n 2, 1) := by decide +kernel
theorem dX8_oneLaw_89 : decode cX8_oneLaw 89 = .ok (.aload_n 0, 1) := by decide +kernel
theorem dX8_oneLaw_90 : decode cX8_oneLaw 90 = .ok (.dup, 1) := by decide +kernel
theorem dX8_oneLaw_91 : decode cX8_oneLaw 91 = .ok (.getfield 180, 3) := by decide +kernel
theorem dX8_oneLaw_94 : decode cX8_oneLaw 94 = .ok (.iconst 1, 1) := by decide +kernel
theorem dX8_oneLaw_95 : decode cX8_oneLaw 95 = .ok (.iadd, 1) := by decide +kernel
theorem dX8_oneLaw_96 : decode cX8_oneLaw 96 = .ok (.putfield 180, 3) := by decide +kernel
theorem dX8_oneLaw_99 : decode cX8_oneLaw 99 = .ok (.aload_n 0, 1) := by decide +kernel
theorem dX8_oneLaw_100 : decode cX8_oneLaw 100 = .ok (.getfield 84, 3) := by decide +kernel
theorem dX8_oneLaw_103 : decode cX8_oneLaw 103 = .ok (.iload_n 1, 1) := by decide +kernel
theorem dX8_oneLaw_104 : decode cX8_oneLaw 104 = .ok (.iload_n 2, 1) := by decide +kernel
theorem dX8_oneLaw_105 : decode cX8_oneLaw 105 = .ok (.iastore, 1) := by decide +kernel
theorem dX8_oneLaw_106 : decode cX8_oneLaw 106 = .ok (.iconst 1, 1) := by decide +kernel
theorem dX8_oneLaw_107 : decode cX8_oneLaw 107 = .ok (.ireturn, 1) := by decide +kernel
theorem dX8_readsLaws_0 : decode cX8_readsLaws 0 = .ok (.iconst 0, 1) := by decide +kernel
theorem dX8_readsLaws_1 : decode cX8_readsLaws 1 = .ok (.istore_n 1, 1) := by decide +kernel
theorem dX8_readsLaws_2 : decode cX8_readsLaws 2 = .ok (.iload_n 1, 1) := by decide +kernel
theorem dX8_readsLaws_3 : decode cX8_readsLaws 3 = .ok (.bipush 7, 2) := by decide +kernel
theorem dX8_readsLaws_5 : decode cX8_readsLaws 5 = .ok (.if_icmp .ge 21, 3) := by decide +kernel
theorem dX8_readsLaws_8 : decode cX8_readsLaws 8 = .ok (.aload_n 0, 1) := by decide +kernel
theorem dX8_readsLaws_9 : decode cX8_readsLaws 9 = .ok (.getfield 84, 3) := by decide +kernel
theorem dX8_readsLaws_12 : decode cX8_readsLaws 12 = .ok (.iload_n 1, 1) := by decide +kernel
theorem dX8_readsLaws_13 : decode cX8_readsLaws 13 = .ok (.aload_n 0, 1) := by decide +kernel
theorem dX8_readsLaws_14 : decode cX8_readsLaws 14 = .ok (.getfield 56, 3) := by decide +kernel
theorem dX8_readsLaws_17 : decode cX8_readsLaws 17 = .ok (.iload_n 1, 1) := by decide +kernel
theorem dX8_readsLaws_18 : decode cX8_readsLaws 18 = .ok (.iaload, 1) := by decide +kernel
theorem dX8_readsLaws_19 : decode cX8_readsLaws 19 = .ok (.iastore, 1) := by decide +kernel
theorem dX8_readsLaws_20 : decode cX8_readsLaws 20 = .ok (.iinc 1 1, 3) := by decide +kernel
theorem dX8_readsLaws_23 : decode cX8_readsLaws 23 = .ok (.goto (-21), 3) := by decide +kernel
theorem dX8_readsLaws_26 : decode cX8_readsLaws 26 = .ok (.aload_n 0, 1) := by decide +kernel
theorem dX8_readsLaws_27 : decode cX8_readsLaws 27 = .ok (.invokevirtual 200, 3) := by decide +kernel
theorem dX8_readsLaws_30 : decode cX8_readsLaws 30 = .ok (.ifCond .ne 5, 3) := by decide +kernel
theorem dX8_readsLaws_33 : decode cX8_readsLaws 33 = .ok (.iconst 0, 1) := by decide +kernel
theorem dX8_readsLaws_34 : decode cX8_readsLaws 34 = .ok (.ireturn, 1) := by decide +kernel
theorem dX8_readsLaws_35 : decode cX8_readsLaws 35 = .ok (.aload_n 0, 1) := by decide +kernel
theorem dX8_readsLaws_36 : decode cX8_readsLaws 36 = .ok (.getfield 180, 3) := by decide +kernel
theorem dX8_readsLaws_39 : decode cX8_readsLaws 39 = .ok (.aload_n 0, 1) := by decide +kernel
theorem dX8_readsLaws_40 : decode cX8_readsLaws 40 = .ok (.getfield 183, 3) := by decide +kernel
theorem dX8_readsLaws_43 : decode cX8_readsLaws 43 = .ok (.if_icmp .ge 52, 3) := by decide +kernel
theorem dX8_readsLaws_46 : decode cX8_readsLaws 46 = .ok (.aload_n 0, 1) := by decide +kernel
theorem dX8_readsLaws_47 : decode cX8_readsLaws 47 = .ok (.aload_n 0, 1) := by decide +kernel
theorem dX8_readsLaws_48 : decode cX8_readsLaws 48 = .ok (.getfield 180, 3) := by decide +kernel
theorem dX8_readsLaws_51 : decode cX8_readsLaws 51 = .ok (.putfield 189, 3) := by decide +kernel
theorem dX8_readsLaws_54 : decode cX8_readsLaws 54 = .ok (.aload_n 0, 1) := by decide +kernel
theorem dX8_readsLaws_55 : decode cX8_readsLaws 55 = .ok (.getfield 74, 3) := by decide +kernel
theorem dX8_readsLaws_58 : decode cX8_readsLaws 58 = .ok (.aload_n 0, 1) := by decide +kernel
theorem dX8_readsLaws_59 : decode cX8_readsLaws 59 = .ok (.getfield 186, 3) := by decide +kernel
theorem dX8_readsLaws_62 : decode cX8_readsLaws 62 = .ok (.aload_n 0, 1) := by decide +kernel
theorem dX8_readsLaws_63 : decode cX8_readsLaws 63 = .ok (.getfield 180, 3) := by decide +kernel
theorem dX8_readsLaws_66 : decode cX8_readsLaws 66 = .ok (.iadd, 1) := by decide +kernel
theorem dX8_readsLaws_67 : decode cX8_readsLaws 67 = .ok (.laload, 1) := by decide +kernel
theorem dX8_readsLaws_68 : decode cX8_readsLaws 68 = .ok (.l2i, 1) := by decide +kernel
theorem dX8_readsLaws_69 : decode cX8_readsLaws 69 = .ok (.bipush 59, 2) := by decide +kernel
theorem dX8_readsLaws_71 : decode cX8_readsLaws 71 = .ok (.if_icmp .eq 5, 3) := by decide +kernel
theorem dX8_readsLaws_74 : decode cX8_readsLaws 74 = .ok (.iconst 0, 1) := by decide +kernel
theorem dX8_readsLaws_75 : decode cX8_readsLaws 75 = .ok (.ireturn, 1) := by decide +kernel
theorem dX8_readsLaws_76 : decode cX8_readsLaws 76 = .ok (.aload_n 0, 1) := by decide +kernel
theorem dX8_readsLaws_77 : decode cX8_readsLaws 77 = .ok (.dup, 1) := by decide +kernel
theorem dX8_readsLaws_78 : decode cX8_readsLaws 78 = .ok (.getfield 180, 3) := by decide +kernel
theorem dX8_readsLaws_81 : decode cX8_readsLaws 81 = .ok (.iconst 1, 1) := by decide +kernel
theorem dX8_readsLaws_82 : decode cX8_readsLaws 82 = .ok (.iadd, 1) := by decide +kernel
theorem dX8_readsLaws_83 : decode cX8_readsLaws 83 = .ok (.putfield 180, 3) := by decide +kernel
theorem dX8_readsLaws_86 : decode cX8_readsLaws 86 = .ok (.aload_n 0, 1) := by decide +kernel
theorem dX8_readsLaws_87 : decode cX8_readsLaws 87 = .ok (.invokevirtual 200, 3) := by decide +kernel
theorem dX8_readsLaws_90 : decode cX8_readsLaws 90 = .ok (.ifCond .ne (-55), 3) := by decide +kernel
theorem dX8_readsLaws_93 : decode cX8_readsLaws 93 = .ok (.iconst 0, 1) := by decide +kernel
theorem dX8_readsLaws_94 : decode cX8_readsLaws 94 = .ok (.ireturn, 1) := by decide +kernel
theorem dX8_readsLaws_95 : decode cX8_readsLaws 95 = .ok (.iconst 1, 1) := by decide +kernel
theorem dX8_readsLaws_96 : decode cX8_readsLaws 96 = .ok (.ireturn, 1) := by decide +kernel
theorem dX8_laws_0 : decode cX8_laws 0 = .ok (.aload_n 0, 1) := by decide +kernel
theorem dX8_laws_1 : decode cX8_laws 1 = .ok (.iload_n 1, 1) := by decide +kernel
theorem dX8_laws_2 : decode cX8_laws 2 = .ok (.invokevirtual 173, 3) := by decide +kernel
theorem dX8_laws_5 : decode cX8_laws 5 = .ok (.istore_n 2, 1) := by decide +kernel
theorem dX8_laws_6 : decode cX8_laws 6 = .ok (.iload_n 2, 1) := by decide +kernel
theorem dX8_laws_7 : decode cX8_laws 7 = .ok (.ifCond .eq 9, 3) := by decide +kernel
theorem dX8_laws_10 : decode cX8_laws 10 = .ok (.aload_n 0, 1) := by decide +kernel
theorem dX8_laws_11 : decode cX8_laws 11 = .ok (.iload_n 2, 1) := by decide +kernel
theorem dX8_laws_12 : decode cX8_laws 12 = .ok (.invokevirtual 142, 3) := by decide +kernel
theorem dX8_laws_15 : decode cX8_laws 15 = .ok (.ireturn, 1) := by decide +kernel
theorem dX8_laws_16 : decode cX8_laws 16 = .ok (.aload_n 0, 1) := by decide +kernel
theorem dX8_laws_17 : decode cX8_laws 17 = .ok (.bipush 100, 2) := by decide +kernel
theorem dX8_laws_19 : decode cX8_laws 19 = .ok (.iload_n 1, 1) := by decide +kernel
theorem dX8_laws_20 : decode cX8_laws 20 = .ok (.imul, 1) := by decide +kernel
theorem dX8_laws_21 : decode cX8_laws 21 = .ok (.putfield 186, 3) := by decide +kernel
theorem dX8_laws_24 : decode cX8_laws 24 = .ok (.aload_n 0, 1) := by decide +kernel
theorem dX8_laws_25 : decode cX8_laws 25 = .ok (.iconst 0, 1) := by decide +kernel
theorem dX8_laws_26 : decode cX8_laws 26 = .ok (.putfield 180, 3) := by decide +kernel
theorem dX8_laws_29 : decode cX8_laws 29 = .ok (.aload_n 0, 1) := by decide +kernel
theorem dX8_laws_30 : decode cX8_laws 30 = .ok (.aload_n 0, 1) := by decide +kernel
theorem dX8_laws_31 : decode cX8_laws 31 = .ok (.getfield 68, 3) := by decide +kernel
theorem dX8_laws_34 : decode cX8_laws 34 = .ok (.iload_n 1, 1) := by decide +kernel
theorem dX8_laws_35 : decode cX8_laws 35 = .ok (.iaload, 1) := by decide +kernel
theorem dX8_laws_36 : decode cX8_laws 36 = .ok (.putfield 183, 3) := by decide +kernel
theorem dX8_laws_39 : decode cX8_laws 39 = .ok (.aload_n 0, 1) := by decide +kernel
theorem dX8_laws_40 : decode cX8_laws 40 = .ok (.iconst (-1), 1) := by decide +kernel
theorem dX8_laws_41 : decode cX8_laws 41 = .ok (.putfield 16, 3) := by decide +kernel
theorem dX8_laws_44 : decode cX8_laws 44 = .ok (.aload_n 0, 1) := by decide +kernel
theorem dX8_laws_45 : decode cX8_laws 45 = .ok (.invokevirtual 203, 3) := by decide +kernel
theorem dX8_laws_48 : decode cX8_laws 48 = .ok (.ifCond .ne 18, 3) := by decide +kernel
theorem dX8_laws_51 : decode cX8_laws 51 = .ok (.aload_n 0, 1) := by decide +kernel
theorem dX8_laws_52 : decode cX8_laws 52 = .ok (.aload_n 0, 1) := by decide +kernel
theorem dX8_laws_53 : decode cX8_laws 53 = .ok (.getfield 189, 3) := by decide +kernel
theorem dX8_laws_56 : decode cX8_laws 56 = .ok (.putfield 16, 3) := by decide +kernel
theorem dX8_laws_59 : decode cX8_laws 59 = .ok (.aload_n 0, 1) := by decide +kernel
theorem dX8_laws_60 : decode cX8_laws 60 = .ok (.bipush (-6), 2) := by decide +kernel
theorem dX8_laws_62 : decode cX8_laws 62 = .ok (.invokevirtual 142, 3) := by decide +kernel
theorem dX8_laws_65 : decode cX8_laws 65 = .ok (.ireturn, 1) := by decide +kernel
theorem dX8_laws_66 : decode cX8_laws 66 = .ok (.aload_n 0, 1) := by decide +kernel
theorem dX8_laws_67 : decode cX8_laws 67 = .ok (.getfield 135, 3) := by decide +kernel
theorem dX8_laws_70 : decode cX8_laws 70 = .ok (.bipush 6, 2) := by decide +kernel
theorem dX8_laws_72 : decode cX8_laws 72 = .ok (.if_icmp .ne 10, 3) := by decide +kernel
theorem dX8_laws_75 : decode cX8_laws 75 = .ok (.aload_n 0, 1) := by decide +kernel
theorem dX8_laws_76 : decode cX8_laws 76 = .ok (.bipush (-7), 2) := by decide +kernel
theorem dX8_laws_78 : decode cX8_laws 78 = .ok (.invokevirtual 142, 3) := by decide +kernel
theorem dX8_laws_81 : decode cX8_laws 81 = .ok (.ireturn, 1) := by decide +kernel
theorem dX8_laws_82 : decode cX8_laws 82 = .ok (.iconst 0, 1) := by decide +kernel
theorem dX8_laws_83 : decode cX8_laws 83 = .ok (.istore_n 3, 1) := by decide +kernel
theorem dX8_laws_84 : decode cX8_laws 84 = .ok (.iload_n 3, 1) := by decide +kernel
theorem dX8_laws_85 : decode cX8_laws 85 = .ok (.bipush 7, 2) := by decide +kernel
theorem dX8_laws_87 : decode cX8_laws 87 = .ok (.if_icmp .ge 29, 3) := by decide +kernel
theorem dX8_laws_90 : decode cX8_laws 90 = .ok (.aload_n 0, 1) := by decide +kernel
theorem dX8_laws_91 : decode cX8_laws 91 = .ok (.getfield 59, 3) := by decide +kernel
theorem dX8_laws_94 : decode cX8_laws 94 = .ok (.bipush 7, 2) := by decide +kernel
theorem dX8_laws_96 : decode cX8_laws 96 = .ok (.aload_n 0, 1) := by decide +kernel
theorem dX8_laws_97 : decode cX8_laws 97 = .ok (.getfield 135, 3) := by decide +kernel
theorem dX8_laws_100 : decode cX8_laws 100 = .ok (.imul, 1) := by decide +kernel
theorem dX8_laws_101 : decode cX8_laws 101 = .ok (.iload_n 3, 1) := by decide +kernel
theorem dX8_laws_102 : decode cX8_laws 102 = .ok (.iadd, 1) := by decide +kernel
theorem dX8_laws_103 : decode cX8_laws 103 = .ok (.aload_n 0, 1) := by decide +kernel
theorem dX8_laws_104 : decode cX8_laws 104 = .ok (.getfield 84, 3) := by decide +kernel
theorem dX8_laws_107 : decode cX8_laws 107 = .ok (.iload_n 3, 1) := by decide +kernel
theorem dX8_laws_108 : decode cX8_laws 108 = .ok (.iaload, 1) := by decide +kernel
theorem dX8_laws_109 : decode cX8_laws 109 = .ok (.iastore, 1) := by decide +kernel
theorem dX8_laws_110 : decode cX8_laws 110 = .ok (.iinc 3 1, 3) := by decide +kernel
theorem dX8_laws_113 : decode cX8_laws 113 = .ok (.goto (-29), 3) := by decide +kernel
theorem dX8_laws_116 : decode cX8_laws 116 = .ok (.aload_n 0, 1) := by decide +kernel
theorem dX8_laws_117 : decode cX8_laws 117 = .ok (.dup, 1) := by decide +kernel
theorem dX8_laws_118 : decode cX8_laws 118 = .ok (.getfield 135, 3) := by decide +kernel
theorem dX8_laws_121 : decode cX8_laws 121 = .ok (.dup_x1, 1) := by decide +kernel
theorem dX8_laws_122 : decode cX8_laws 122 = .ok (.iconst 1, 1) := by decide +kernel
theorem dX8_laws_123 : decode cX8_laws 123 = .ok (.iadd, 1) := by decide +kernel
theorem dX8_laws_124 : decode cX8_laws 124 = .ok (.putfield 135, 3) := by decide +kernel
theorem dX8_laws_127 : decode cX8_laws 127 = .ok (.ireturn, 1) := by decide +kernel
theorem dX8_fault_0 : decode cX8_fault 0 = .ok (.aload_n 0, 1) := by decide +kernel
theorem dX8_fault_1 : decode cX8_fault 1 = .ok (.getfield 16, 3) := by decide +kernel
theorem dX8_fault_4 : decode cX8_fault 4 = .ok (.ireturn, 1) := by decide +kernel
theorem dX8_law_0 : decode cX8_law 0 = .ok (.iload_n 1, 1) := by decide +kernel
theorem dX8_law_1 : decode cX8_law 1 = .ok (.ifCond .lt 21, 3) := by decide +kernel
theorem dX8_law_4 : decode cX8_law 4 = .ok (.iload_n 1, 1) := by decide +kernel
theorem dX8_law_5 : decode cX8_law 5 = .ok (.aload_n 0, 1) := by decide +kernel
theorem dX8_law_6 : decode cX8_law 6 = .ok (.getfield 135, 3) := by decide +kernel
theorem dX8_law_9 : decode cX8_law 9 = .ok (.if_icmp .ge 13, 3) := by decide +kernel
theorem dX8_law_12 : decode cX8_law 12 = .ok (.iload_n 2, 1) := by decide +kernel
theorem dX8_law_13 : decode cX8_law 13 = .ok (.ifCond .lt 9, 3) := by decide +kernel
theorem dX8_law_16 : decode cX8_law 16 = .ok (.iload_n 2, 1) := by decide +kernel
theorem dX8_law_17 : decode cX8_law 17 = .ok (.bipush 6, 2) := by decide +kernel
theorem dX8_law_19 : decode cX8_law 19 = .ok (.if_icmp .le 10, 3) := by decide +kernel
theorem dX8_law_22 : decode cX8_law 22 = .ok (.aload_n 0, 1) := by decide +kernel
theorem dX8_law_23 : decode cX8_law 23 = .ok (.bipush (-5), 2) := by decide +kernel
theorem dX8_law_25 : decode cX8_law 25 = .ok (.invokevirtual 142, 3) := by decide +kernel
theorem dX8_law_28 : decode cX8_law 28 = .ok (.ireturn, 1) := by decide +kernel
theorem dX8_law_29 : decode cX8_law 29 = .ok (.aload_n 0, 1) := by decide +kernel
theorem dX8_law_30 : decode cX8_law 30 = .ok (.getfield 59, 3) := by decide +kernel
theorem dX8_law_33 : decode cX8_law 33 = .ok (.bipush 7, 2) := by decide +kernel
theorem dX8_law_35 : decode cX8_law 35 = .ok (.iload_n 1, 1) := by decide +kernel
theorem dX8_law_36 : decode cX8_law 36 = .ok (.imul, 1) := by decide +kernel
theorem dX8_law_37 : decode cX8_law 37 = .ok (.iload_n 2, 1) := by decide +kernel
theorem dX8_law_38 : decode cX8_law 38 = .ok (.iadd, 1) := by decide +kernel
theorem dX8_law_39 : decode cX8_law 39 = .ok (.iaload, 1) := by decide +kernel
theorem dX8_law_40 : decode cX8_law 40 = .ok (.ireturn, 1) := by decide +kernel
theorem dX8_force_0 : decode cX8_force 0 = .ok (.aload_n 0, 1) := by decide +kernel
theorem dX8_force_1 : decode cX8_force 1 = .ok (.iload_n 1, 1) := by decide +kernel
theorem dX8_force_2 : decode cX8_force 2 = .ok (.invokevirtual 206, 3) := by decide +kernel
theorem dX8_force_5 : decode cX8_force 5 = .ok (.ifCond .ne 9, 3) := by decide +kernel
theorem dX8_force_8 : decode cX8_force 8 = .ok (.aload_n 0, 1) := by decide +kernel
theorem dX8_force_9 : decode cX8_force 9 = .ok (.iconst (-1), 1) := by decide +kernel
theorem dX8_force_10 : decode cX8_force 10 = .ok (.invokevirtual 209, 3) := by decide +kernel
theorem dX8_force_13 : decode cX8_force 13 = .ok (.ireturn, 1) := by decide +kernel
theorem dX8_force_14 : decode cX8_force 14 = .ok (.aload_n 0, 1) := by decide +kernel
theorem dX8_force_15 : decode cX8_force 15 = .ok (.getfield 13, 3) := by decide +kernel
theorem dX8_force_18 : decode cX8_force 18 = .ok (.istore_n 2, 1) := by decide +kernel
theorem dX8_force_19 : decode cX8_force 19 = .ok (.aload_n 0, 1) := by decide +kernel
theorem dX8_force_20 : decode cX8_force 20 = .ok (.iload_n 1, 1) := by decide +kernel
theorem dX8_force_21 : decode cX8_force 21 = .ok (.putfield 13, 3) := by decide +kernel
theorem dX8_force_24 : decode cX8_force 24 = .ok (.iload_n 2, 1) := by decide +kernel
theorem dX8_force_25 : decode cX8_force 25 = .ok (.ireturn, 1) := by decide +kernel
theorem dX8_seed_0 : decode cX8_seed 0 = .ok (.aload_n 0, 1) := by decide +kernel
theorem dX8_seed_1 : decode cX8_seed 1 = .ok (.getfield 7, 3) := by decide +kernel
theorem dX8_seed_4 : decode cX8_seed 4 = .ok (.istore_n 2, 1) := by decide +kernel
theorem dX8_seed_5 : decode cX8_seed 5 = .ok (.aload_n 0, 1) := by decide +kernel
theorem dX8_seed_6 : decode cX8_seed 6 = .ok (.iload_n 1, 1) := by decide +kernel
theorem dX8_seed_7 : decode cX8_seed 7 = .ok (.putfield 7, 3) := by decide +kernel
theorem dX8_seed_10 : decode cX8_seed 10 = .ok (.iload_n 2, 1) := by decide +kernel
theorem dX8_seed_11 : decode cX8_seed 11 = .ok (.ireturn, 1) := by decide +kernel
theorem dX8_rule_0 : decode cX8_rule 0 = .ok (.aload_n 0, 1) := by decide +kernel
theorem dX8_rule_1 : decode cX8_rule 1 = .ok (.getfield 87, 3) := by decide +kernel
theorem dX8_rule_4 : decode cX8_rule 4 = .ok (.iconst (-1), 1) := by decide +kernel
theorem dX8_rule_5 : decode cX8_rule 5 = .ok (.if_icmp .ne 12, 3) := by decide +kernel
theorem dX8_rule_8 : decode cX8_rule 8 = .ok (.aload_n 0, 1) := by decide +kernel
theorem dX8_rule_9 : decode cX8_rule 9 = .ok (.getfield 56, 3) := by decide +kernel
theorem dX8_rule_12 : decode cX8_rule 12 = .ok (.iload_n 1, 1) := by decide +kernel
theorem dX8_rule_13 : decode cX8_rule 13 = .ok (.iaload, 1) := by decide +kernel
theorem dX8_rule_14 : decode cX8_rule 14 = .ok (.goto 17, 3) := by decide +kernel
theorem dX8_rule_17 : decode cX8_rule 17 = .ok (.aload_n 0, 1) := by decide +kernel
theorem dX8_rule_18 : decode cX8_rule 18 = .ok (.getfield 59, 3) := by decide +kernel
theorem dX8_rule_21 : decode cX8_rule 21 = .ok (.bipush 7, 2) := by decide +kernel
theorem dX8_rule_23 : decode cX8_rule 23 = .ok (.aload_n 0, 1) := by decide +kernel
theorem dX8_rule_24 : decode cX8_rule 24 = .ok (.getfield 87, 3) := by decide +kernel
theorem dX8_rule_27 : decode cX8_rule 27 = .ok (.imul, 1) := by decide +kernel
theorem dX8_rule_28 : decode cX8_rule 28 = .ok (.iload_n 1, 1) := by decide +kernel
theorem dX8_rule_29 : decode cX8_rule 29 = .ok (.iadd, 1) := by decide +kernel
theorem dX8_rule_30 : decode cX8_rule 30 = .ok (.iaload, 1) := by decide +kernel
theorem dX8_rule_31 : decode cX8_rule 31 = .ok (.ireturn, 1) := by decide +kernel
theorem dX8_draw_0 : decode cX8_draw 0 = .ok (.aload_n 0, 1) := by decide +kernel
theorem dX8_draw_1 : decode cX8_draw 1 = .ok (.aload_n 0, 1) := by decide +kernel
theorem dX8_draw_2 : decode cX8_draw 2 = .ok (.getfield 7, 3) := by decide +kernel
theorem dX8_draw_5 : decode cX8_draw 5 = .ok (.ldc 212, 2) := by decide +kernel
theorem dX8_draw_7 : decode cX8_draw 7 = .ok (.imul, 1) := by decide +kernel
theorem dX8_draw_8 : decode cX8_draw 8 = .ok (.sipush 12345, 3) := by decide +kernel
theorem dX8_draw_11 : decode cX8_draw 11 = .ok (.iadd, 1) := by decide +kernel
theorem dX8_draw_12 : decode cX8_draw 12 = .ok (.putfield 7, 3) := by decide +kernel
theorem dX8_draw_15 : decode cX8_draw 15 = .ok (.aload_n 0, 1) := by decide +kernel
theorem dX8_draw_16 : decode cX8_draw 16 = .ok (.getfield 7, 3) := by decide +kernel
theorem dX8_draw_19 : decode cX8_draw 19 = .ok (.bipush 16, 2) := by decide +kernel
theorem dX8_draw_21 : decode cX8_draw 21 = .ok (.iushr, 1) := by decide +kernel
theorem dX8_draw_22 : decode cX8_draw 22 = .ok (.iload_n 1, 1) := by decide +kernel
theorem dX8_draw_23 : decode cX8_draw 23 = .ok (.irem, 1) := by decide +kernel
theorem dX8_draw_24 : decode cX8_draw 24 = .ok (.ireturn, 1) := by decide +kernel
theorem dX8_far_0 : decode cX8_far 0 = .ok (.iload_n 1, 1) := by decide +kernel
theorem dX8_far_1 : decode cX8_far 1 = .ok (.bipush 8, 2) := by decide +kernel
theorem dX8_far_3 : decode cX8_far 3 = .ok (.idiv, 1) := by decide +kernel
theorem dX8_far_4 : decode cX8_far 4 = .ok (.iload_n 2, 1) := by decide +kernel
theorem dX8_far_5 : decode cX8_far 5 = .ok (.bipush 8, 2) := by decide +kernel
theorem dX8_far_7 : decode cX8_far 7 = .ok (.idiv, 1) := by decide +kernel
theorem dX8_far_8 : decode cX8_far 8 = .ok (.isub, 1) := by decide +kernel
theorem dX8_far_9 : decode cX8_far 9 = .ok (.istore_n 3, 1) := by decide +kernel
theorem dX8_far_10 : decode cX8_far 10 = .ok (.iload_n 1, 1) := by decide +kernel
theorem dX8_far_11 : decode cX8_far 11 = .ok (.bipush 8, 2) := by decide +kernel
theorem dX8_far_13 : decode cX8_far 13 = .ok (.irem, 1) := by decide +kernel
theorem dX8_far_14 : decode cX8_far 14 = .ok (.iload_n 2, 1) := by decide +kernel
theorem dX8_far_15 : decode cX8_far 15 = .ok (.bipush 8, 2) := by decide +kernel
theorem dX8_far_17 : decode cX8_far 17 = .ok (.irem, 1) := by decide +kernel
theorem dX8_far_18 : decode cX8_far 18 = .ok (.isub, 1) := by decide +kernel
theorem dX8_far_19 : decode cX8_far 19 = .ok (.istore 4, 2) := by decide +kernel
theorem dX8_far_21 : decode cX8_far 21 = .ok (.iload_n 3, 1) := by decide +kernel
theorem dX8_far_22 : decode cX8_far 22 = .ok (.ifCond .ge 8, 3) := by decide +kernel
theorem dX8_far_25 : decode cX8_far 25 = .ok (.iload_n 3, 1) := by decide +kernel
theorem dX8_far_26 : decode cX8_far 26 = .ok (.ineg, 1) := by decide +kernel
theorem dX8_far_27 : decode cX8_far 27 = .ok (.goto 4, 3) := by decide +kernel
theorem dX8_far_30 : decode cX8_far 30 = .ok (.iload_n 3, 1) := by decide +kernel
theorem dX8_far_31 : decode cX8_far 31 = .ok (.iload 4, 2) := by decide +kernel
theorem dX8_far_33 : decode cX8_far 33 = .ok (.ifCond .ge 9, 3) := by decide +kernel
theorem dX8_far_36 : decode cX8_far 36 = .ok (.iload 4, 2) := by decide +kernel
theorem dX8_far_38 : decode cX8_far 38 = .ok (.ineg, 1) := by decide +kernel
theorem dX8_far_39 : decode cX8_far 39 = .ok (.goto 5, 3) := by decide +kernel
theorem dX8_far_42 : decode cX8_far 42 = .ok (.iload 4, 2) := by decide +kernel
theorem dX8_far_44 : decode cX8_far 44 = .ok (.iadd, 1) := by decide +kernel
theorem dX8_far_45 : decode cX8_far 45 = .ok (.ireturn, 1) := by decide +kernel
theorem dX8_heardBy_0 : decode cX8_heardBy 0 = .ok (.iconst 0, 1) := by decide +kernel
theorem dX8_heardBy_1 : decode cX8_heardBy 1 = .ok (.istore_n 2, 1) := by decide +kernel
theorem dX8_heardBy_2 : decode cX8_heardBy 2 = .ok (.iconst 0, 1) := by decide +kernel
theorem dX8_heardBy_3 : decode cX8_heardBy 3 = .ok (.istore_n 3, 1) := by decide +kernel
theorem dX8_heardBy_4 : decode cX8_heardBy 4 = .ok (.iload_n 3, 1) := by decide +kernel
theorem dX8_heardBy_5 : decode cX8_heardBy 5 = .ok (.aload_n 0, 1) := by decide +kernel
theorem dX8_heardBy_6 : decode cX8_heardBy 6 = .ok (.getfield 132, 3) := by decide +kernel
theorem dX8_heardBy_9 : decode cX8_heardBy 9 = .ok (.if_icmp .ge 48, 3) := by decide +kernel
theorem dX8_heardBy_12 : decode cX8_heardBy 12 = .ok (.iload_n 3, 1) := by decide +kernel
theorem dX8_heardBy_13 : decode cX8_heardBy 13 = .ok (.iload_n 1, 1) := by decide +kernel
theorem dX8_heardBy_14 : decode cX8_heardBy 14 = .ok (.if_icmp .eq 37, 3) := by decide +kernel
theorem dX8_heardBy_17 : decode cX8_heardBy 17 = .ok (.aload_n 0, 1) := by decide +kernel
theorem dX8_heardBy_18 : decode cX8_heardBy 18 = .ok (.getfield 41, 3) := by decide +kernel
theorem dX8_heardBy_21 : decode cX8_heardBy 21 = .ok (.iload_n 3, 1) := by decide +kernel
theorem dX8_heardBy_22 : decode cX8_heardBy 22 = .ok (.iaload, 1) := by decide +kernel
theorem dX8_heardBy_23 : decode cX8_heardBy 23 = .ok (.iconst 1, 1) := by decide +kernel
theorem dX8_heardBy_24 : decode cX8_heardBy 24 = .ok (.if_icmp .ne 27, 3) := by decide +kernel
theorem dX8_heardBy_27 : decode cX8_heardBy 27 = .ok (.iload_n 2, 1) := by decide +kernel
theorem dX8_heardBy_28 : decode cX8_heardBy 28 = .ok (.bipush 12, 2) := by decide +kernel
theorem dX8_heardBy_30 : decode cX8_heardBy 30 = .ok (.iconst 1, 1) := by decide +kernel
theorem dX8_heardBy_31 : decode cX8_heardBy 31 = .ok (.aload_n 0, 1) := by decide +kernel
theorem dX8_heardBy_32 : decode cX8_heardBy 32 = .ok (.aload_n 0, 1) := by decide +kernel
theorem dX8_heardBy_33 : decode cX8_heardBy 33 = .ok (.getfield 26, 3) := by decide +kernel
theorem dX8_heardBy_36 : decode cX8_heardBy 36 = .ok (.iload_n 1, 1) := by decide +kernel
theorem dX8_heardBy_37 : decode cX8_heardBy 37 = .ok (.iaload, 1) := by decide +kernel
theorem dX8_heardBy_38 : decode cX8_heardBy 38 = .ok (.aload_n 0, 1) := by decide +kernel
theorem dX8_heardBy_39 : decode cX8_heardBy 39 = .ok (.getfield 26, 3) := by decide +kernel
theorem dX8_heardBy_42 : decode cX8_heardBy 42 = .ok (.iload_n 3, 1) := by decide +kernel
theorem dX8_heardBy_43 : decode cX8_heardBy 43 = .ok (.iaload, 1) := by decide +kernel
theorem dX8_heardBy_44 : decode cX8_heardBy 44 = .ok (.invokevirtual 213, 3) := by decide +kernel
theorem dX8_heardBy_47 : decode cX8_heardBy 47 = .ok (.iadd, 1) := by decide +kernel
theorem dX8_heardBy_48 : decode cX8_heardBy 48 = .ok (.idiv, 1) := by decide +kernel
theorem dX8_heardBy_49 : decode cX8_heardBy 49 = .ok (.iadd, 1) := by decide +kernel
theorem dX8_heardBy_50 : decode cX8_heardBy 50 = .ok (.istore_n 2, 1) := by decide +kernel
theorem dX8_heardBy_51 : decode cX8_heardBy 51 = .ok (.iinc 3 1, 3) := by decide +kernel
theorem dX8_heardBy_54 : decode cX8_heardBy 54 = .ok (.goto (-50), 3) := by decide +kernel
theorem dX8_heardBy_57 : decode cX8_heardBy 57 = .ok (.iload_n 2, 1) := by decide +kernel
theorem dX8_heardBy_58 : decode cX8_heardBy 58 = .ok (.ireturn, 1) := by decide +kernel
theorem dX8_besideOf_0 : decode cX8_besideOf 0 = .ok (.iconst 0, 1) := by decide +kernel
theorem dX8_besideOf_1 : decode cX8_besideOf 1 = .ok (.istore_n 2, 1) := by decide +kernel
theorem dX8_besideOf_2 : decode cX8_besideOf 2 = .ok (.iconst 0, 1) := by decide +kernel
theorem dX8_besideOf_3 : decode cX8_besideOf 3 = .ok (.istore_n 3, 1) := by decide +kernel
theorem dX8_besideOf_4 : decode cX8_besideOf 4 = .ok (.iload_n 3, 1) := by decide +kernel
theorem dX8_besideOf_5 : decode cX8_besideOf 5 = .ok (.aload_n 0, 1) := by decide +kernel
theorem dX8_besideOf_6 : decode cX8_besideOf 6 = .ok (.getfield 132, 3) := by decide +kernel
theorem dX8_besideOf_9 : decode cX8_besideOf 9 = .ok (.if_icmp .ge 42, 3) := by decide +kernel
theorem dX8_besideOf_12 : decode cX8_besideOf 12 = .ok (.aload_n 0, 1) := by decide +kernel
theorem dX8_besideOf_13 : decode cX8_besideOf 13 = .ok (.getfield 41, 3) := by decide +kernel
theorem dX8_besideOf_16 : decode cX8_besideOf 16 = .ok (.iload_n 3, 1) := by decide +kernel
theorem dX8_besideOf_17 : decode cX8_besideOf 17 = .ok (.iaload, 1) := by decide +kernel
theorem dX8_besideOf_18 : decode cX8_besideOf 18 = .ok (.iconst 1, 1) := by decide +kernel
theorem dX8_besideOf_19 : decode cX8_besideOf 19 = .ok (.if_icmp .ne 26, 3) := by decide +kernel
theorem dX8_besideOf_22 : decode cX8_besideOf 22 = .ok (.aload_n 0, 1) := by decide +kernel
theorem dX8_besideOf_23 : decode cX8_besideOf 23 = .ok (.aload_n 0, 1) := by decide +kernel
theorem dX8_besideOf_24 : decode cX8_besideOf 24 = .ok (.getfield 26, 3) := by decide +kernel
theorem dX8_besideOf_27 : decode cX8_besideOf 27 = .ok (.iload_n 1, 1) := by decide +kernel
theorem dX8_besideOf_28 : decode cX8_besideOf 28 = .ok (.iaload, 1) := by decide +kernel
theorem dX8_besideOf_29 : decode cX8_besideOf 29 = .ok (.aload_n 0, 1) := by decide +kernel
theorem dX8_besideOf_30 : decode cX8_besideOf 30 = .ok (.getfield 26, 3) := by decide +kernel
theorem dX8_besideOf_33 : decode cX8_besideOf 33 = .ok (.iload_n 3, 1) := by decide +kernel
theorem dX8_besideOf_34 : decode cX8_besideOf 34 = .ok (.iaload, 1) := by decide +kernel
theorem dX8_besideOf_35 : decode cX8_besideOf 35 = .ok (.invokevirtual 213, 3) := by decide +kernel
theorem dX8_besideOf_38 : decode cX8_besideOf 38 = .ok (.iconst 1, 1) := by decide +kernel
theorem dX8_besideOf_39 : decode cX8_besideOf 39 = .ok (.if_icmp .ne 6, 3) := by decide +kernel
theorem dX8_besideOf_42 : decode cX8_besideOf 42 = .ok (.iinc 2 1, 3) := by decide +kernel
theorem dX8_besideOf_45 : decode cX8_besideOf 45 = .ok (.iinc 3 1, 3) := by decide +kernel
theorem dX8_besideOf_48 : decode cX8_besideOf 48 = .ok (.goto (-44), 3) := by decide +kernel
theorem dX8_besideOf_51 : decode cX8_besideOf 51 = .ok (.iload_n 2, 1) := by decide +kernel
theorem dX8_besideOf_52 : decode cX8_besideOf 52 = .ok (.ireturn, 1) := by decide +kernel
theorem dX8_begins_0 : decode cX8_begins 0 = .ok (.aload_n 0, 1) := by decide +kernel
theorem dX8_begins_1 : decode cX8_begins 1 = .ok (.getfield 90, 3) := by decide +kernel
theorem dX8_begins_4 : decode cX8_begins 4 = .ok (.iload_n 1, 1) := by decide +kernel
theorem dX8_begins_5 : decode cX8_begins 5 = .ok (.iaload, 1) := by decide +kernel
theorem dX8_begins_6 : decode cX8_begins 6 = .ok (.istore_n 2, 1) := by decide +kernel
theorem dX8_begins_7 : decode cX8_begins 7 = .ok (.iload_n 2, 1) := by decide +kernel
theorem dX8_begins_8 : decode cX8_begins 8 = .ok (.ifCond .le 26, 3) := by decide +kernel
theorem dX8_begins_11 : decode cX8_begins 11 = .ok (.iload_n 2, 1) := by decide +kernel
theorem dX8_begins_12 : decode cX8_begins 12 = .ok (.aload_n 0, 1) := by decide +kernel
theorem dX8_begins_13 : decode cX8_begins 13 = .ok (.getfield 29, 3) := by decide +kernel
theorem dX8_begins_16 : decode cX8_begins 16 = .ok (.iload_n 1, 1) := by decide +kernel
theorem dX8_begins_17 : decode cX8_begins 17 = .ok (.iaload, 1) := by decide +kernel
theorem dX8_begins_18 : decode cX8_begins 18 = .ok (.bipush 10, 2) := by decide +kernel
theorem dX8_begins_20 : decode cX8_begins 20 = .ok (.idiv, 1) := by decide +kernel
theorem dX8_begins_21 : decode cX8_begins 21 = .ok (.iadd, 1) := by decide +kernel
theorem dX8_begins_22 : decode cX8_begins 22 = .ok (.aload_n 0, 1) := by decide +kernel
theorem dX8_begins_23 : decode cX8_begins 23 = .ok (.iconst 0, 1) := by decide +kernel
theorem dX8_begins_24 : decode cX8_begins 24 = .ok (.invokevirtual 216, 3) := by decide +kernel
theorem dX8_begins_27 : decode cX8_begins 27 = .ok (.if_icmp .lt 7, 3) := by decide +kernel
theorem dX8_begins_30 : decode cX8_begins 30 = .ok (.iconst 1, 1) := by decide +kernel
theorem dX8_begins_31 : decode cX8_begins 31 = .ok (.goto 4, 3) := by decide +kernel
theorem dX8_begins_34 : decode cX8_begins 34 = .ok (.iconst 0, 1) := by decide +kernel
theorem dX8_begins_35 : decode cX8_begins 35 = .ok (.istore_n 3, 1) := by decide +kernel
theorem dX8_begins_36 : decode cX8_begins 36 = .ok (.aload_n 0, 1) := by decide +kernel
theorem dX8_begins_37 : decode cX8_begins 37 = .ok (.getfield 219, 3) := by decide +kernel
theorem dX8_begins_40 : decode cX8_begins 40 = .ok (.ifCond .ne 20, 3) := by decide +kernel
theorem dX8_begins_43 : decode cX8_begins 43 = .ok (.aload_n 0, 1) := by decide +kernel
theorem dX8_begins_44 : decode cX8_begins 44 = .ok (.getfield 223, 3) := by decide +kernel
theorem dX8_begins_47 : decode cX8_begins 47 = .ok (.aload_n 0, 1) := by decide +kernel
theorem dX8_begins_48 : decode cX8_begins 48 = .ok (.getfield 35, 3) := by decide +kernel
theorem dX8_begins_51 : decode cX8_begins 51 = .ok (.iload_n 1, 1) := by decide +kernel
theorem dX8_begins_52 : decode cX8_begins 52 = .ok (.iaload, 1) := by decide +kernel
theorem dX8_begins_53 : decode cX8_begins 53 = .ok (.if_icmp .lt 7, 3) := by decide +kernel
theorem dX8_begins_56 : decode cX8_begins 56 = .ok (.iconst 1, 1) := by decide +kernel
theorem dX8_begins_57 : decode cX8_begins 57 = .ok (.goto 4, 3) := by decide +kernel
theorem dX8_begins_60 : decode cX8_begins 60 = .ok (.iconst 0, 1) := by decide +kernel
theorem dX8_begins_61 : decode cX8_begins 61 = .ok (.istore 4, 2) := by decide +kernel
theorem dX8_begins_63 : decode cX8_begins 63 = .ok (.aload_n 0, 1) := by decide +kernel
theorem dX8_begins_64 : decode cX8_begins 64 = .ok (.getfield 23, 3) := by decide +kernel
theorem dX8_begins_67 : decode cX8_begins 67 = .ok (.iload_n 1, 1) := by decide +kernel
theorem dX8_begins_68 : decode cX8_begins 68 = .ok (.iaload, 1) := by decide +kernel
theorem dX8_begins_69 : decode cX8_begins 69 = .ok (.tableswitch 116 1 6 #[39, 42, 44, 42, 77, 101], 39) := by decide +kernel
theorem dX8_begins_108 : decode cX8_begins 108 = .ok (.iload 4, 2) := by decide +kernel
theorem dX8_begins_110 : decode cX8_begins 110 = .ok (.ireturn, 1) := by decide +kernel
theorem dX8_begins_111 : decode cX8_begins 111 = .ok (.iload_n 3, 1) := by decide +kernel
theorem dX8_begins_112 : decode cX8_begins 112 = .ok (.ireturn, 1) := by decide +kernel
theorem dX8_begins_113 : decode cX8_begins 113 = .ok (.iload_n 3, 1) := by decide +kernel
theorem dX8_begins_114 : decode cX8_begins 114 = .ok (.ifCond .ne 26, 3) := by decide +kernel
theorem dX8_begins_117 : decode cX8_begins 117 = .ok (.aload_n 0, 1) := by decide +kernel
theorem dX8_begins_118 : decode cX8_begins 118 = .ok (.getfield 93, 3) := by decide +kernel
theorem dX8_begins_121 : decode cX8_begins 121 = .ok (.iload_n 1, 1) := by decide +kernel
theorem dX8_begins_122 : decode cX8_begins 122 = .ok (.iaload, 1) := by decide +kernel
theorem dX8_begins_123 : decode cX8_begins 123 = .ok (.ifCond .le 21, 3) := by decide +kernel
theorem dX8_begins_126 : decode cX8_begins 126 = .ok (.aload_n 0, 1) := by decide +kernel
theorem dX8_begins_127 : decode cX8_begins 127 = .ok (.getfield 93, 3) := by decide +kernel
theorem dX8_begins_130 : decode cX8_begins 130 = .ok (.iload_n 1, 1) := by decide +kernel
theorem dX8_begins_131 : decode cX8_begins 131 = .ok (.iaload, 1) := by decide +kernel
theorem dX8_begins_132 : decode cX8_begins 132 = .ok (.aload_n 0, 1) := by decide +kernel
theorem dX8_begins_133 : decode cX8_begins 133 = .ok (.iconst 1, 1) := by decide +kernel
theorem dX8_begins_134 : decode cX8_begins 134 = .ok (.invokevirtual 216, 3) := by decide +kernel
theorem dX8_begins_137 : decode cX8_begins 137 = .ok (.if_icmp .lt 7, 3) := by decide +kernel
theorem dX8_begins_140 : decode cX8_begins 140 = .ok (.iconst 1, 1) := by decide +kernel
theorem dX8_begins_141 : decode cX8_begins 141 = .ok (.goto 4, 3) := by decide +kernel
theorem dX8_begins_144 : decode cX8_begins 144 = .ok (.iconst 0, 1) := by decide +kernel
theorem dX8_begins_145 : decode cX8_begins 145 = .ok (.ireturn, 1) := by decide +kernel
theorem dX8_begins_146 : decode cX8_begins 146 = .ok (.iload_n 3, 1) := by decide +kernel
theorem dX8_begins_147 : decode cX8_begins 147 = .ok (.ifCond .eq 21, 3) := by decide +kernel
theorem dX8_begins_150 : decode cX8_begins 150 = .ok (.aload_n 0, 1) := by decide +kernel
theorem dX8_begins_151 : decode cX8_begins 151 = .ok (.getfield 29, 3) := by decide +kernel
theorem dX8_begins_154 : decode cX8_begins 154 = .ok (.iload_n 1, 1) := by decide +kernel
theorem dX8_begins_155 : decode cX8_begins 155 = .ok (.iaload, 1) := by decide +kernel
theorem dX8_begins_156 : decode cX8_begins 156 = .ok (.aload_n 0, 1) := by decide +kernel
theorem dX8_begins_157 : decode cX8_begins 157 = .ok (.iconst 4, 1) := by decide +kernel
theorem dX8_begins_158 : decode cX8_begins 158 = .ok (.invokevirtual 216, 3) := by decide +kernel
theorem dX8_begins_161 : decode cX8_begins 161 = .ok (.if_icmp .lt 7, 3) := by decide +kernel
theorem dX8_begins_164 : decode cX8_begins 164 = .ok (.iconst 1, 1) := by decide +kernel
theorem dX8_begins_165 : decode cX8_begins 165 = .ok (.goto 4, 3) := by decide +kernel
theorem dX8_begins_168 : decode cX8_begins 168 = .ok (.iconst 0, 1) := by decide +kernel
theorem dX8_begins_169 : decode cX8_begins 169 = .ok (.ireturn, 1) := by decide +kernel
theorem dX8_begins_170 : decode cX8_begins 170 = .ok (.iload 4, 2) := by decide +kernel
theorem dX8_begins_172 : decode cX8_begins 172 = .ok (.ifCond .ne 7, 3) := by decide +kernel
theorem dX8_begins_175 : decode cX8_begins 175 = .ok (.iload_n 2, 1) := by decide +kernel
theorem dX8_begins_176 : decode cX8_begins 176 = .ok (.ifCond .le 7, 3) := by decide +kernel
theorem dX8_begins_179 : decode cX8_begins 179 = .ok (.iconst 1, 1) := by decide +kernel
theorem dX8_begins_180 : decode cX8_begins 180 = .ok (.goto 4, 3) := by decide +kernel
theorem dX8_begins_183 : decode cX8_begins 183 = .ok (.iconst 0, 1) := by decide +kernel
theorem dX8_begins_184 : decode cX8_begins 184 = .ok (.ireturn, 1) := by decide +kernel
theorem dX8_begins_185 : decode cX8_begins 185 = .ok (.iconst 0, 1) := by decide +kernel
theorem dX8_begins_186 : decode cX8_begins 186 = .ok (.ireturn, 1) := by decide +kernel
theorem dX8_stops_0 : decode cX8_stops 0 = .ok (.aload_n 0, 1) := by decide +kernel
theorem dX8_stops_1 : decode cX8_stops 1 = .ok (.getfield 44, 3) := by decide +kernel
theorem dX8_stops_4 : decode cX8_stops 4 = .ok (.iload_n 1, 1) := by decide +kernel
theorem dX8_stops_5 : decode cX8_stops 5 = .ok (.iaload, 1) := by decide +kernel
theorem dX8_stops_6 : decode cX8_stops 6 = .ok (.istore_n 2, 1) := by decide +kernel
theorem dX8_stops_7 : decode cX8_stops 7 = .ok (.aload_n 0, 1) := by decide +kernel
theorem dX8_stops_8 : decode cX8_stops 8 = .ok (.getfield 23, 3) := by decide +kernel
theorem dX8_stops_11 : decode cX8_stops 11 = .ok (.iload_n 1, 1) := by decide +kernel
theorem dX8_stops_12 : decode cX8_stops 12 = .ok (.iaload, 1) := by decide +kernel
theorem dX8_stops_13 : decode cX8_stops 13 = .ok (.iconst 5, 1) := by decide +kernel
theorem dX8_stops_14 : decode cX8_stops 14 = .ok (.if_icmp .ne 21, 3) := by decide +kernel
theorem dX8_stops_17 : decode cX8_stops 17 = .ok (.aload_n 0, 1) := by decide +kernel
theorem dX8_stops_18 : decode cX8_stops 18 = .ok (.bipush 10, 2) := by decide +kernel
theorem dX8_stops_20 : decode cX8_stops 20 = .ok (.invokevirtual 226, 3) := by decide +kernel
theorem dX8_stops_23 : decode cX8_stops 23 = .ok (.aload_n 0, 1) := by decide +kernel
theorem dX8_stops_24 : decode cX8_stops 24 = .ok (.iconst 3, 1) := by decide +kernel
theorem dX8_stops_25 : decode cX8_stops 25 = .ok (.invokevirtual 216, 3) := by decide +kernel
theorem dX8_stops_28 : decode cX8_stops 28 = .ok (.if_icmp .ge 7, 3) := by decide +kernel
theorem dX8_stops_31 : decode cX8_stops 31 = .ok (.iconst 1, 1) := by decide +kernel
theorem dX8_stops_32 : decode cX8_stops 32 = .ok (.goto 4, 3) := by decide +kernel
theorem dX8_stops_35 : decode cX8_stops 35 = .ok (.iconst 0, 1) := by decide +kernel
theorem dX8_stops_36 : decode cX8_stops 36 = .ok (.istore_n 3, 1) := by decide +kernel
theorem dX8_stops_37 : decode cX8_stops 37 = .ok (.iload_n 2, 1) := by decide +kernel
theorem dX8_stops_38 : decode cX8_stops 38 = .ok (.aload_n 0, 1) := by decide +kernel
theorem dX8_stops_39 : decode cX8_stops 39 = .ok (.getfield 29, 3) := by decide +kernel
theorem dX8_stops_42 : decode cX8_stops 42 = .ok (.iload_n 1, 1) := by decide +kernel
theorem dX8_stops_43 : decode cX8_stops 43 = .ok (.iaload, 1) := by decide +kernel
theorem dX8_stops_44 : decode cX8_stops 44 = .ok (.if_icmp .le 7, 3) := by decide +kernel
theorem dX8_stops_47 : decode cX8_stops 47 = .ok (.iconst 1, 1) := by decide +kernel
theorem dX8_stops_48 : decode cX8_stops 48 = .ok (.goto 4, 3) := by decide +kernel
theorem dX8_stops_51 : decode cX8_stops 51 = .ok (.iconst 0, 1) := by decide +kernel
theorem dX8_stops_52 : decode cX8_stops 52 = .ok (.istore 4, 2) := by decide +kernel
theorem dX8_stops_54 : decode cX8_stops 54 = .ok (.iload 4, 2) := by decide +kernel
theorem dX8_stops_56 : decode cX8_stops 56 = .ok (.ifCond .ne 17, 3) := by decide +kernel
theorem dX8_stops_59 : decode cX8_stops 59 = .ok (.aload_n 0, 1) := by decide +kernel
theorem dX8_stops_60 : decode cX8_stops 60 = .ok (.getfield 90, 3) := by decide +kernel
theorem dX8_stops_63 : decode cX8_stops 63 = .ok (.iload_n 1, 1) := by decide +kernel
theorem dX8_stops_64 : decode cX8_stops 64 = .ok (.iaload, 1) := by decide +kernel
theorem dX8_stops_65 : decode cX8_stops 65 = .ok (.aload_n 0, 1) := by decide +kernel
theorem dX8_stops_66 : decode cX8_stops 66 = .ok (.iconst 2, 1) := by decide +kernel
theorem dX8_stops_67 : decode cX8_stops 67 = .ok (.invokevirtual 216, 3) := by decide +kernel
theorem dX8_stops_70 : decode cX8_stops 70 = .ok (.if_icmp .ge 7, 3) := by decide +kernel
theorem dX8_stops_73 : decode cX8_stops 73 = .ok (.iconst 1, 1) := by decide +kernel
theorem dX8_stops_74 : decode cX8_stops 74 = .ok (.goto 4, 3) := by decide +kernel
theorem dX8_stops_77 : decode cX8_stops 77 = .ok (.iconst 0, 1) := by decide +kernel
theorem dX8_stops_78 : decode cX8_stops 78 = .ok (.istore 5, 2) := by decide +kernel
theorem dX8_stops_80 : decode cX8_stops 80 = .ok (.aload_n 0, 1) := by decide +kernel
theorem dX8_stops_81 : decode cX8_stops 81 = .ok (.getfield 23, 3) := by decide +kernel
theorem dX8_stops_84 : decode cX8_stops 84 = .ok (.iload_n 1, 1) := by decide +kernel
theorem dX8_stops_85 : decode cX8_stops 85 = .ok (.iaload, 1) := by decide +kernel
theorem dX8_stops_86 : decode cX8_stops 86 = .ok (.tableswitch 125 0 6 #[42, 45, 125, 70, 125, 95, 110], 42) := by decide +kernel
theorem dX8_stops_128 : decode cX8_stops 128 = .ok (.iload 4, 2) := by decide +kernel
theorem dX8_stops_130 : decode cX8_stops 130 = .ok (.ireturn, 1) := by decide +kernel
theorem dX8_stops_131 : decode cX8_stops 131 = .ok (.iload 4, 2) := by decide +kernel
theorem dX8_stops_133 : decode cX8_stops 133 = .ok (.ifCond .ne 17, 3) := by decide +kernel
theorem dX8_stops_136 : decode cX8_stops 136 = .ok (.aload_n 0, 1) := by decide +kernel
theorem dX8_stops_137 : decode cX8_stops 137 = .ok (.getfield 90, 3) := by decide +kernel
theorem dX8_stops_140 : decode cX8_stops 140 = .ok (.iload_n 1, 1) := by decide +kernel
theorem dX8_stops_141 : decode cX8_stops 141 = .ok (.iaload, 1) := by decide +kernel
theorem dX8_stops_142 : decode cX8_stops 142 = .ok (.ifCond .ne 12, 3) := by decide +kernel
theorem dX8_stops_145 : decode cX8_stops 145 = .ok (.iload_n 2, 1) := by decide +kernel
theorem dX8_stops_146 : decode cX8_stops 146 = .ok (.iconst 5, 1) := by decide +kernel
theorem dX8_stops_147 : decode cX8_stops 147 = .ok (.if_icmp .lt 7, 3) := by decide +kernel
theorem dX8_stops_150 : decode cX8_stops 150 = .ok (.iconst 1, 1) := by decide +kernel
theorem dX8_stops_151 : decode cX8_stops 151 = .ok (.goto 4, 3) := by decide +kernel
theorem dX8_stops_154 : decode cX8_stops 154 = .ok (.iconst 0, 1) := by decide +kernel
theorem dX8_stops_155 : decode cX8_stops 155 = .ok (.ireturn, 1) := by decide +kernel
theorem dX8_stops_156 : decode cX8_stops 156 = .ok (.iload 5, 2) := by decide +kernel
theorem dX8_stops_158 : decode cX8_stops 158 = .ok (.ifCond .eq 21, 3) := by decide +kernel
theorem dX8_stops_161 : decode cX8_stops 161 = .ok (.aload_n 0, 1) := by decide +kernel
theorem dX8_stops_162 : decode cX8_stops 162 = .ok (.getfield 93, 3) := by decide +kernel
theorem dX8_stops_165 : decode cX8_stops 165 = .ok (.iload_n 1, 1) := by decide +kernel
theorem dX8_stops_166 : decode cX8_stops 166 = .ok (.iaload, 1) := by decide +kernel
theorem dX8_stops_167 : decode cX8_stops 167 = .ok (.aload_n 0, 1) := by decide +kernel
theorem dX8_stops_168 : decode cX8_stops 168 = .ok (.iconst 1, 1) := by decide +kernel
theorem dX8_stops_169 : decode cX8_stops 169 = .ok (.invokevirtual 216, 3) := by decide +kernel
theorem dX8_stops_172 : decode cX8_stops 172 = .ok (.if_icmp .ge 7, 3) := by decide +kernel
theorem dX8_stops_175 : decode cX8_stops 175 = .ok (.iconst 1, 1) := by decide +kernel
theorem dX8_stops_176 : decode cX8_stops 176 = .ok (.goto 4, 3) := by decide +kernel
theorem dX8_stops_179 : decode cX8_stops 179 = .ok (.iconst 0, 1) := by decide +kernel
theorem dX8_stops_180 : decode cX8_stops 180 = .ok (.ireturn, 1) := by decide +kernel
theorem dX8_stops_181 : decode cX8_stops 181 = .ok (.iload 5, 2) := by decide +kernel
theorem dX8_stops_183 : decode cX8_stops 183 = .ok (.ifCond .ne 7, 3) := by decide +kernel
theorem dX8_stops_186 : decode cX8_stops 186 = .ok (.iload_n 3, 1) := by decide +kernel
theorem dX8_stops_187 : decode cX8_stops 187 = .ok (.ifCond .eq 7, 3) := by decide +kernel
theorem dX8_stops_190 : decode cX8_stops 190 = .ok (.iconst 1, 1) := by decide +kernel
theorem dX8_stops_191 : decode cX8_stops 191 = .ok (.goto 4, 3) := by decide +kernel
theorem dX8_stops_194 : decode cX8_stops 194 = .ok (.iconst 0, 1) := by decide +kernel
theorem dX8_stops_195 : decode cX8_stops 195 = .ok (.ireturn, 1) := by decide +kernel
theorem dX8_stops_196 : decode cX8_stops 196 = .ok (.iload_n 2, 1) := by decide +kernel
theorem dX8_stops_197 : decode cX8_stops 197 = .ok (.aload_n 0, 1) := by decide +kernel
theorem dX8_stops_198 : decode cX8_stops 198 = .ok (.iconst 4, 1) := by decide +kernel
theorem dX8_stops_199 : decode cX8_stops 199 = .ok (.invokevirtual 216, 3) := by decide +kernel
theorem dX8_stops_202 : decode cX8_stops 202 = .ok (.if_icmp .lt 7, 3) := by decide +kernel
theorem dX8_stops_205 : decode cX8_stops 205 = .ok (.iconst 1, 1) := by decide +kernel
theorem dX8_stops_206 : decode cX8_stops 206 = .ok (.goto 4, 3) := by decide +kernel
theorem dX8_stops_209 : decode cX8_stops 209 = .ok (.iconst 0, 1) := by decide +kernel
theorem dX8_stops_210 : decode cX8_stops 210 = .ok (.ireturn, 1) := by decide +kernel
theorem dX8_stops_211 : decode cX8_stops 211 = .ok (.iload 5, 2) := by decide +kernel
theorem dX8_stops_213 : decode cX8_stops 213 = .ok (.ireturn, 1) := by decide +kernel
theorem dX8_clapping_0 : decode cX8_clapping 0 = .ok (.iconst 0, 1) := by decide +kernel
theorem dX8_clapping_1 : decode cX8_clapping 1 = .ok (.istore_n 1, 1) := by decide +kernel
theorem dX8_clapping_2 : decode cX8_clapping 2 = .ok (.iconst 0, 1) := by decide +kernel
theorem dX8_clapping_3 : decode cX8_clapping 3 = .ok (.istore_n 2, 1) := by decide +kernel
theorem dX8_clapping_4 : decode cX8_clapping 4 = .ok (.iload_n 2, 1) := by decide +kernel
theorem dX8_clapping_5 : decode cX8_clapping 5 = .ok (.aload_n 0, 1) := by decide +kernel
theorem dX8_clapping_6 : decode cX8_clapping 6 = .ok (.getfield 132, 3) := by decide +kernel
theorem dX8_clapping_9 : decode cX8_clapping 9 = .ok (.if_icmp .ge 22, 3) := by decide +kernel
theorem dX8_clapping_12 : decode cX8_clapping 12 = .ok (.aload_n 0, 1) := by decide +kernel
theorem dX8_clapping_13 : decode cX8_clapping 13 = .ok (.getfield 41, 3) := by decide +kernel
theorem dX8_clapping_16 : decode cX8_clapping 16 = .ok (.iload_n 2, 1) := by decide +kernel
theorem dX8_clapping_17 : decode cX8_clapping 17 = .ok (.iaload, 1) := by decide +kernel
theorem dX8_clapping_18 : decode cX8_clapping 18 = .ok (.iconst 1, 1) := by decide +kernel
theorem dX8_clapping_19 : decode cX8_clapping 19 = .ok (.if_icmp .ne 6, 3) := by decide +kernel
theorem dX8_clapping_22 : decode cX8_clapping 22 = .ok (.iinc 1 1, 3) := by decide +kernel
theorem dX8_clapping_25 : decode cX8_clapping 25 = .ok (.iinc 2 1, 3) := by decide +kernel
theorem dX8_clapping_28 : decode cX8_clapping 28 = .ok (.goto (-24), 3) := by decide +kernel
theorem dX8_clapping_31 : decode cX8_clapping 31 = .ok (.iload_n 1, 1) := by decide +kernel
theorem dX8_clapping_32 : decode cX8_clapping 32 = .ok (.ireturn, 1) := by decide +kernel
theorem dX8_isRising_0 : decode cX8_isRising 0 = .ok (.aload_n 0, 1) := by decide +kernel
theorem dX8_isRising_1 : decode cX8_isRising 1 = .ok (.getfield 41, 3) := by decide +kernel
theorem dX8_isRising_4 : decode cX8_isRising 4 = .ok (.iload_n 1, 1) := by decide +kernel
theorem dX8_isRising_5 : decode cX8_isRising 5 = .ok (.iaload, 1) := by decide +kernel
theorem dX8_isRising_6 : decode cX8_isRising 6 = .ok (.iconst 1, 1) := by decide +kernel
theorem dX8_isRising_7 : decode cX8_isRising 7 = .ok (.if_icmp .ne 20, 3) := by decide +kernel
theorem dX8_isRising_10 : decode cX8_isRising 10 = .ok (.aload_n 0, 1) := by decide +kernel
theorem dX8_isRising_11 : decode cX8_isRising 11 = .ok (.getfield 29, 3) := by decide +kernel
theorem dX8_isRising_14 : decode cX8_isRising 14 = .ok (.iload_n 1, 1) := by decide +kernel
theorem dX8_isRising_15 : decode cX8_isRising 15 = .ok (.iaload, 1) := by decide +kernel
theorem dX8_isRising_16 : decode cX8_isRising 16 = .ok (.aload_n 0, 1) := by decide +kernel
theorem dX8_isRising_17 : decode cX8_isRising 17 = .ok (.bipush 6, 2) := by decide +kernel
theorem dX8_isRising_19 : decode cX8_isRising 19 = .ok (.invokevirtual 216, 3) := by decide +kernel
theorem dX8_isRising_22 : decode cX8_isRising 22 = .ok (.if_icmp .lt 5, 3) := by decide +kernel
theorem dX8_isRising_25 : decode cX8_isRising 25 = .ok (.iconst 1, 1) := by decide +kernel
theorem dX8_isRising_26 : decode cX8_isRising 26 = .ok (.ireturn, 1) := by decide +kernel
theorem dX8_isRising_27 : decode cX8_isRising 27 = .ok (.aload_n 0, 1) := by decide +kernel
theorem dX8_isRising_28 : decode cX8_isRising 28 = .ok (.getfield 26, 3) := by decide +kernel
theorem dX8_isRising_31 : decode cX8_isRising 31 = .ok (.iload_n 1, 1) := by decide +kernel
theorem dX8_isRising_32 : decode cX8_isRising 32 = .ok (.iaload, 1) := by decide +kernel
theorem dX8_isRising_33 : decode cX8_isRising 33 = .ok (.istore_n 2, 1) := by decide +kernel
theorem dX8_isRising_34 : decode cX8_isRising 34 = .ok (.iconst 0, 1) := by decide +kernel
theorem dX8_isRising_35 : decode cX8_isRising 35 = .ok (.istore_n 3, 1) := by decide +kernel
theorem dX8_isRising_36 : decode cX8_isRising 36 = .ok (.iload_n 2, 1) := by decide +kernel
theorem dX8_isRising_37 : decode cX8_isRising 37 = .ok (.bipush 8, 2) := by decide +kernel
theorem dX8_isRising_39 : decode cX8_isRising 39 = .ok (.if_icmp .ge 5, 3) := by decide +kernel
theorem dX8_isRising_42 : decode cX8_isRising 42 = .ok (.iconst 0, 1) := by decide +kernel
theorem dX8_isRising_43 : decode cX8_isRising 43 = .ok (.ireturn, 1) := by decide +kernel
theorem dX8_isRising_44 : decode cX8_isRising 44 = .ok (.iconst (-1), 1) := by decide +kernel
theorem dX8_isRising_45 : decode cX8_isRising 45 = .ok (.istore 4, 2) := by decide +kernel
theorem dX8_isRising_47 : decode cX8_isRising 47 = .ok (.iload 4, 2) := by decide +kernel
theorem dX8_isRising_49 : decode cX8_isRising 49 = .ok (.iconst 1, 1) := by decide +kernel
theorem dX8_isRising_50 : decode cX8_isRising 50 = .ok (.if_icmp .gt 67, 3) := by decide +kernel
theorem dX8_isRising_53 : decode cX8_isRising 53 = .ok (.iload_n 2, 1) := by decide +kernel
theorem dX8_isRising_54 : decode cX8_isRising 54 = .ok (.bipush 8, 2) := by decide +kernel
theorem dX8_isRising_56 : decode cX8_isRising 56 = .ok (.irem, 1) := by decide +kernel
theorem dX8_isRising_57 : decode cX8_isRising 57 = .ok (.iload 4, 2) := by decide +kernel
theorem dX8_isRising_59 : decode cX8_isRising 59 = .ok (.iadd, 1) := by decide +kernel
theorem dX8_isRising_60 : decode cX8_isRising 60 = .ok (.istore 5, 2) := by decide +kernel
theorem dX8_isRising_62 : decode cX8_isRising 62 = .ok (.iload 5, 2) := by decide +kernel
theorem dX8_isRising_64 : decode cX8_isRising 64 = .ok (.ifCond .lt 47, 3) := by decide +kernel
theorem dX8_isRising_67 : decode cX8_isRising 67 = .ok (.iload 5, 2) := by decide +kernel
theorem dX8_isRising_69 : decode cX8_isRising 69 = .ok (.bipush 7, 2) := by decide +kernel
theorem dX8_isRising_71 : decode cX8_isRising 71 = .ok (.if_icmp .le 6, 3) := by decide +kernel
theorem dX8_isRising_74 : decode cX8_isRising 74 = .ok (.goto 37, 3) := by decide +kernel
theorem dX8_isRising_77 : decode cX8_isRising 77 = .ok (.aload_n 0, 1) := by decide +kernel
theorem dX8_isRising_78 : decode cX8_isRising 78 = .ok (.getfield 102, 3) := by decide +kernel
theorem dX8_isRising_81 : decode cX8_isRising 81 = .ok (.iload_n 2, 1) := by decide +kernel
theorem dX8_isRising_82 : decode cX8_isRising 82 = .ok (.bipush 8, 2) := by decide +kernel
theorem dX8_isRising_84 : decode cX8_isRising 84 = .ok (.isub, 1) := by decide +kernel
theorem dX8_isRising_85 : decode cX8_isRising 85 = .ok (.iload 4, 2) := by decide +kernel
theorem dX8_isRising_87 : decode cX8_isRising 87 = .ok (.iadd, 1) := by decide +kernel
theorem dX8_isRising_88 : decode cX8_isRising 88 = .ok (.iaload, 1) := by decide +kernel
theorem dX8_isRising_89 : decode cX8_isRising 89 = .ok (.istore 6, 2) := by decide +kernel
theorem dX8_isRising_91 : decode cX8_isRising 91 = .ok (.iload 6, 2) := by decide +kernel
theorem dX8_isRising_93 : decode cX8_isRising 93 = .ok (.iconst (-1), 1) := by decide +kernel
theorem dX8_isRising_94 : decode cX8_isRising 94 = .ok (.if_icmp .eq 17, 3) := by decide +kernel
theorem dX8_isRising_97 : decode cX8_isRising 97 = .ok (.aload_n 0, 1) := by decide +kernel
theorem dX8_isRising_98 : decode cX8_isRising 98 = .ok (.getfield 99, 3) := by decide +kernel
theorem dX8_isRising_101 : decode cX8_isRising 101 = .ok (.iload 6, 2) := by decide +kernel
theorem dX8_isRising_103 : decode cX8_isRising 103 = .ok (.iaload, 1) := by decide +kernel
theorem dX8_isRising_104 : decode cX8_isRising 104 = .ok (.iconst 1, 1) := by decide +kernel
theorem dX8_isRising_105 : decode cX8_isRising 105 = .ok (.if_icmp .ne 6, 3) := by decide +kernel
theorem dX8_isRising_108 : decode cX8_isRising 108 = .ok (.iinc 3 1, 3) := by decide +kernel
theorem dX8_isRising_111 : decode cX8_isRising 111 = .ok (.iinc 4 1, 3) := by decide +kernel
theorem dX8_isRising_114 : decode cX8_isRising 114 = .ok (.goto (-67), 3) := by decide +kernel
theorem dX8_isRising_117 : decode cX8_isRising 117 = .ok (.iload_n 3, 1) := by decide +kernel
theorem dX8_isRising_118 : decode cX8_isRising 118 = .ok (.ifCond .le 16, 3) := by decide +kernel
theorem dX8_isRising_121 : decode cX8_isRising 121 = .ok (.iload_n 3, 1) := by decide +kernel
theorem dX8_isRising_122 : decode cX8_isRising 122 = .ok (.aload_n 0, 1) := by decide +kernel
theorem dX8_isRising_123 : decode cX8_isRising 123 = .ok (.iconst 5, 1) := by decide +kernel
theorem dX8_isRising_124 : decode cX8_isRising 124 = .ok (.invokevirtual 216, 3) := by decide +kernel
theorem dX8_isRising_127 : decode cX8_isRising 127 = .ok (.if_icmp .lt 7, 3) := by decide +kernel
theorem dX8_isRising_130 : decode cX8_isRising 130 = .ok (.iconst 1, 1) := by decide +kernel
theorem dX8_isRising_131 : decode cX8_isRising 131 = .ok (.goto 4, 3) := by decide +kernel
theorem dX8_isRising_134 : decode cX8_isRising 134 = .ok (.iconst 0, 1) := by decide +kernel
theorem dX8_isRising_135 : decode cX8_isRising 135 = .ok (.ireturn, 1) := by decide +kernel
theorem dX8_tick_0 : decode cX8_tick 0 = .ok (.iconst 0, 1) := by decide +kernel
theorem dX8_tick_1 : decode cX8_tick 1 = .ok (.istore_n 1, 1) := by decide +kernel
theorem dX8_tick_2 : decode cX8_tick 2 = .ok (.iload_n 1, 1) := by decide +kernel
theorem dX8_tick_3 : decode cX8_tick 3 = .ok (.aload_n 0, 1) := by decide +kernel
theorem dX8_tick_4 : decode cX8_tick 4 = .ok (.getfield 132, 3) := by decide +kernel
theorem dX8_tick_7 : decode cX8_tick 7 = .ok (.if_icmp .ge 57, 3) := by decide +kernel
theorem dX8_tick_10 : decode cX8_tick 10 = .ok (.aload_n 0, 1) := by decide +kernel
theorem dX8_tick_11 : decode cX8_tick 11 = .ok (.getfield 90, 3) := by decide +kernel
theorem dX8_tick_14 : decode cX8_tick 14 = .ok (.iload_n 1, 1) := by decide +kernel
theorem dX8_tick_15 : decode cX8_tick 15 = .ok (.aload_n 0, 1) := by decide +kernel
theorem dX8_tick_16 : decode cX8_tick 16 = .ok (.getfield 41, 3) := by decide +kernel
theorem dX8_tick_19 : decode cX8_tick 19 = .ok (.iload_n 1, 1) := by decide +kernel
theorem dX8_tick_20 : decode cX8_tick 20 = .ok (.iaload, 1) := by decide +kernel
theorem dX8_tick_21 : decode cX8_tick 21 = .ok (.iconst 2, 1) := by decide +kernel
theorem dX8_tick_22 : decode cX8_tick 22 = .ok (.if_icmp .ne 7, 3) := by decide +kernel
theorem dX8_tick_25 : decode cX8_tick 25 = .ok (.iconst 0, 1) := by decide +kernel
theorem dX8_tick_26 : decode cX8_tick 26 = .ok (.goto 8, 3) := by decide +kernel
theorem dX8_tick_29 : decode cX8_tick 29 = .ok (.aload_n 0, 1) := by decide +kernel
theorem dX8_tick_30 : decode cX8_tick 30 = .ok (.iload_n 1, 1) := by decide +kernel
theorem dX8_tick_31 : decode cX8_tick 31 = .ok (.invokevirtual 149, 3) := by decide +kernel
theorem dX8_tick_34 : decode cX8_tick 34 = .ok (.iastore, 1) := by decide +kernel
theorem dX8_tick_35 : decode cX8_tick 35 = .ok (.aload_n 0, 1) := by decide +kernel
theorem dX8_tick_36 : decode cX8_tick 36 = .ok (.getfield 93, 3) := by decide +kernel
theorem dX8_tick_39 : decode cX8_tick 39 = .ok (.iload_n 1, 1) := by decide +kernel
theorem dX8_tick_40 : decode cX8_tick 40 = .ok (.aload_n 0, 1) := by decide +kernel
theorem dX8_tick_41 : decode cX8_tick 41 = .ok (.iload_n 1, 1) := by decide +kernel
theorem dX8_tick_42 : decode cX8_tick 42 = .ok (.invokevirtual 152, 3) := by decide +kernel
theorem dX8_tick_45 : decode cX8_tick 45 = .ok (.iastore, 1) := by decide +kernel
theorem dX8_tick_46 : decode cX8_tick 46 = .ok (.aload_n 0, 1) := by decide +kernel
theorem dX8_tick_47 : decode cX8_tick 47 = .ok (.getfield 99, 3) := by decide +kernel
theorem dX8_tick_50 : decode cX8_tick 50 = .ok (.iload_n 1, 1) := by decide +kernel
theorem dX8_tick_51 : decode cX8_tick 51 = .ok (.aload_n 0, 1) := by decide +kernel
theorem dX8_tick_52 : decode cX8_tick 52 = .ok (.getfield 47, 3) := by decide +kernel
theorem dX8_tick_55 : decode cX8_tick 55 = .ok (.iload_n 1, 1) := by decide +kernel
theorem dX8_tick_56 : decode cX8_tick 56 = .ok (.iaload, 1) := by decide +kernel
theorem dX8_tick_57 : decode cX8_tick 57 = .ok (.iastore, 1) := by decide +kernel
theorem dX8_tick_58 : decode cX8_tick 58 = .ok (.iinc 1 1, 3) := by decide +kernel
theorem dX8_tick_61 : decode cX8_tick 61 = .ok (.goto (-59), 3) := by decide +kernel
theorem dX8_tick_64 : decode cX8_tick 64 = .ok (.iconst 0, 1) := by decide +kernel
theorem dX8_tick_65 : decode cX8_tick 65 = .ok (.istore_n 1, 1) := by decide +kernel
theorem dX8_tick_66 : decode cX8_tick 66 = .ok (.iload_n 1, 1) := by decide +kernel
theorem dX8_tick_67 : decode cX8_tick 67 = .ok (.aload_n 0, 1) := by decide +kernel
theorem dX8_tick_68 : decode cX8_tick 68 = .ok (.getfield 132, 3) := by decide +kernel
theorem dX8_tick_71 : decode cX8_tick 71 = .ok (.if_icmp .ge 73, 3) := by decide +kernel
theorem dX8_tick_74 : decode cX8_tick 74 = .ok (.aload_n 0, 1) := by decide +kernel
theorem dX8_tick_75 : decode cX8_tick 75 = .ok (.getfield 96, 3) := by decide +kernel
theorem dX8_tick_78 : decode cX8_tick 78 = .ok (.iload_n 1, 1) := by decide +kernel
theorem dX8_tick_79 : decode cX8_tick 79 = .ok (.aload_n 0, 1) := by decide +kernel
theorem dX8_tick_80 : decode cX8_tick 80 = .ok (.getfield 41, 3) := by decide +kernel
theorem dX8_tick_83 : decode cX8_tick 83 = .ok (.iload_n 1, 1) := by decide +kernel
theorem dX8_tick_84 : decode cX8_tick 84 = .ok (.iaload, 1) := by decide +kernel
theorem dX8_tick_85 : decode cX8_tick 85 = .ok (.iastore, 1) := by decide +kernel
theorem dX8_tick_86 : decode cX8_tick 86 = .ok (.aload_n 0, 1) := by decide +kernel
theorem dX8_tick_87 : decode cX8_tick 87 = .ok (.getfield 41, 3) := by decide +kernel
theorem dX8_tick_90 : decode cX8_tick 90 = .ok (.iload_n 1, 1) := by decide +kernel
theorem dX8_tick_91 : decode cX8_tick 91 = .ok (.iaload, 1) := by decide +kernel
theorem dX8_tick_92 : decode cX8_tick 92 = .ok (.ifCond .ne 21, 3) := by decide +kernel
theorem dX8_tick_95 : decode cX8_tick 95 = .ok (.aload_n 0, 1) := by decide +kernel
theorem dX8_tick_96 : decode cX8_tick 96 = .ok (.iload_n 1, 1) := by decide +kernel
theorem dX8_tick_97 : decode cX8_tick 97 = .ok (.invokevirtual 229, 3) := by decide +kernel
theorem dX8_tick_100 : decode cX8_tick 100 = .ok (.ifCond .eq 13, 3) := by decide +kernel
theorem dX8_tick_103 : decode cX8_tick 103 = .ok (.aload_n 0, 1) := by decide +kernel
theorem dX8_tick_104 : decode cX8_tick 104 = .ok (.getfield 96, 3) := by decide +kernel
theorem dX8_tick_107 : decode cX8_tick 107 = .ok (.iload_n 1, 1) := by decide +kernel
theorem dX8_tick_108 : decode cX8_tick 108 = .ok (.iconst 1, 1) := by decide +kernel
theorem dX8_tick_109 : decode cX8_tick 109 = .ok (.iastore, 1) := by decide +kernel
theorem dX8_tick_110 : decode cX8_tick 110 = .ok (.goto 28, 3) := by decide +kernel
theorem dX8_tick_113 : decode cX8_tick 113 = .ok (.aload_n 0, 1) := by decide +kernel
theorem dX8_tick_114 : decode cX8_tick 114 = .ok (.getfield 41, 3) := by decide +kernel
theorem dX8_tick_117 : decode cX8_tick 117 = .ok (.iload_n 1, 1) := by decide +kernel
theorem dX8_tick_118 : decode cX8_tick 118 = .ok (.iaload, 1) := by decide +kernel
theorem dX8_tick_119 : decode cX8_tick 119 = .ok (.iconst 1, 1) := by decide +kernel
theorem dX8_tick_120 : decode cX8_tick 120 = .ok (.if_icmp .ne 18, 3) := by decide +kernel
theorem dX8_tick_123 : decode cX8_tick 123 = .ok (.aload_n 0, 1) := by decide +kernel
theorem dX8_tick_124 : decode cX8_tick 124 = .ok (.iload_n 1, 1) := by decide +kernel
theorem dX8_tick_125 : decode cX8_tick 125 = .ok (.invokevirtual 232, 3) := by decide +kernel
theorem dX8_tick_128 : decode cX8_tick 128 = .ok (.ifCond .eq 10, 3) := by decide +kernel
theorem dX8_tick_131 : decode cX8_tick 131 = .ok (.aload_n 0, 1) := by decide +kernel
theorem dX8_tick_132 : decode cX8_tick 132 = .ok (.getfield 96, 3) := by decide +kernel
theorem dX8_tick_135 : decode cX8_tick 135 = .ok (.iload_n 1, 1) := by decide +kernel
theorem dX8_tick_136 : decode cX8_tick 136 = .ok (.iconst 2, 1) := by decide +kernel
theorem dX8_tick_137 : decode cX8_tick 137 = .ok (.iastore, 1) := by decide +kernel
theorem dX8_tick_138 : decode cX8_tick 138 = .ok (.iinc 1 1, 3) := by decide +kernel
theorem dX8_tick_141 : decode cX8_tick 141 = .ok (.goto (-75), 3) := by decide +kernel
theorem dX8_tick_144 : decode cX8_tick 144 = .ok (.iconst 0, 1) := by decide +kernel
theorem dX8_tick_145 : decode cX8_tick 145 = .ok (.istore_n 1, 1) := by decide +kernel
theorem dX8_tick_146 : decode cX8_tick 146 = .ok (.iload_n 1, 1) := by decide +kernel
theorem dX8_tick_147 : decode cX8_tick 147 = .ok (.aload_n 0, 1) := by decide +kernel
theorem dX8_tick_148 : decode cX8_tick 148 = .ok (.getfield 132, 3) := by decide +kernel
theorem dX8_tick_151 : decode cX8_tick 151 = .ok (.if_icmp .ge 59, 3) := by decide +kernel
theorem dX8_tick_154 : decode cX8_tick 154 = .ok (.aload_n 0, 1) := by decide +kernel
theorem dX8_tick_155 : decode cX8_tick 155 = .ok (.getfield 44, 3) := by decide +kernel
theorem dX8_tick_158 : decode cX8_tick 158 = .ok (.iload_n 1, 1) := by decide +kernel
theorem dX8_tick_159 : decode cX8_tick 159 = .ok (.aload_n 0, 1) := by decide +kernel
theorem dX8_tick_160 : decode cX8_tick 160 = .ok (.getfield 41, 3) := by decide +kernel
theorem dX8_tick_163 : decode cX8_tick 163 = .ok (.iload_n 1, 1) := by decide +kernel
theorem dX8_tick_164 : decode cX8_tick 164 = .ok (.iaload, 1) := by decide +kernel
theorem dX8_tick_165 : decode cX8_tick 165 = .ok (.iconst 1, 1) := by decide +kernel
theorem dX8_tick_166 : decode cX8_tick 166 = .ok (.if_icmp .ne 24, 3) := by decide +kernel
theorem dX8_tick_169 : decode cX8_tick 169 = .ok (.aload_n 0, 1) := by decide +kernel
theorem dX8_tick_170 : decode cX8_tick 170 = .ok (.getfield 96, 3) := by decide +kernel
theorem dX8_tick_173 : decode cX8_tick 173 = .ok (.iload_n 1, 1) := by decide +kernel
theorem dX8_tick_174 : decode cX8_tick 174 = .ok (.iaload, 1) := by decide +kernel
theorem dX8_tick_175 : decode cX8_tick 175 = .ok (.iconst 1, 1) := by decide +kernel
theorem dX8_tick_176 : decode cX8_tick 176 = .ok (.if_icmp .ne 14, 3) := by decide +kernel
theorem dX8_tick_179 : decode cX8_tick 179 = .ok (.aload_n 0, 1) := by decide +kernel
theorem dX8_tick_180 : decode cX8_tick 180 = .ok (.getfield 44, 3) := by decide +kernel
theorem dX8_tick_183 : decode cX8_tick 183 = .ok (.iload_n 1, 1) := by decide +kernel
theorem dX8_tick_184 : decode cX8_tick 184 = .ok (.iaload, 1) := by decide +kernel
theorem dX8_tick_185 : decode cX8_tick 185 = .ok (.iconst 1, 1) := by decide +kernel
theorem dX8_tick_186 : decode cX8_tick 186 = .ok (.iadd, 1) := by decide +kernel
theorem dX8_tick_187 : decode cX8_tick 187 = .ok (.goto 4, 3) := by decide +kernel
theorem dX8_tick_190 : decode cX8_tick 190 = .ok (.iconst 0, 1) := by decide +kernel
theorem dX8_tick_191 : decode cX8_tick 191 = .ok (.iastore, 1) := by decide +kernel
theorem dX8_tick_192 : decode cX8_tick 192 = .ok (.aload_n 0, 1) := by decide +kernel
theorem dX8_tick_193 : decode cX8_tick 193 = .ok (.getfield 41, 3) := by decide +kernel
theorem dX8_tick_196 : decode cX8_tick 196 = .ok (.iload_n 1, 1) := by decide +kernel
theorem dX8_tick_197 : decode cX8_tick 197 = .ok (.aload_n 0, 1) := by decide +kernel
theorem dX8_tick_198 : decode cX8_tick 198 = .ok (.getfield 96, 3) := by decide +kernel
theorem dX8_tick_201 : decode cX8_tick 201 = .ok (.iload_n 1, 1) := by decide +kernel
theorem dX8_tick_202 : decode cX8_tick 202 = .ok (.iaload, 1) := by decide +kernel
theorem dX8_tick_203 : decode cX8_tick 203 = .ok (.iastore, 1) := by decide +kernel
theorem dX8_tick_204 : decode cX8_tick 204 = .ok (.iinc 1 1, 3) := by decide +kernel
theorem dX8_tick_207 : decode cX8_tick 207 = .ok (.goto (-61), 3) := by decide +kernel
theorem dX8_tick_210 : decode cX8_tick 210 = .ok (.aload_n 0, 1) := by decide +kernel
theorem dX8_tick_211 : decode cX8_tick 211 = .ok (.iconst 0, 1) := by decide +kernel
theorem dX8_tick_212 : decode cX8_tick 212 = .ok (.putfield 235, 3) := by decide +kernel
theorem dX8_tick_215 : decode cX8_tick 215 = .ok (.aload_n 0, 1) := by decide +kernel
theorem dX8_tick_216 : decode cX8_tick 216 = .ok (.aload_n 0, 1) := by decide +kernel
theorem dX8_tick_217 : decode cX8_tick 217 = .ok (.invokevirtual 238, 3) := by decide +kernel
theorem dX8_tick_220 : decode cX8_tick 220 = .ok (.putfield 241, 3) := by decide +kernel
theorem dX8_tick_223 : decode cX8_tick 223 = .ok (.iconst 0, 1) := by decide +kernel
theorem dX8_tick_224 : decode cX8_tick 224 = .ok (.istore_n 1, 1) := by decide +kernel
theorem dX8_tick_225 : decode cX8_tick 225 = .ok (.iconst 0, 1) := by decide +kernel
theorem dX8_tick_226 : decode cX8_tick 226 = .ok (.istore_n 2, 1) := by decide +kernel
theorem dX8_tick_227 : decode cX8_tick 227 = .ok (.iload_n 2, 1) := by decide +kernel
theorem dX8_tick_228 : decode cX8_tick 228 = .ok (.aload_n 0, 1) := by decide +kernel
theorem dX8_tick_229 : decode cX8_tick 229 = .ok (.getfield 132, 3) := by decide +kernel
theorem dX8_tick_232 : decode cX8_tick 232 = .ok (.if_icmp .ge 55, 3) := by decide +kernel
theorem dX8_tick_235 : decode cX8_tick 235 = .ok (.aload_n 0, 1) := by decide +kernel
theorem dX8_tick_236 : decode cX8_tick 236 = .ok (.getfield 41, 3) := by decide +kernel
theorem dX8_tick_239 : decode cX8_tick 239 = .ok (.iload_n 2, 1) := by decide +kernel
theorem dX8_tick_240 : decode cX8_tick 240 = .ok (.iaload, 1) := by decide +kernel
theorem dX8_tick_241 : decode cX8_tick 241 = .ok (.iconst 1, 1) := by decide +kernel
theorem dX8_tick_242 : decode cX8_tick 242 = .ok (.if_icmp .ne 39, 3) := by decide +kernel
theorem dX8_tick_245 : decode cX8_tick 245 = .ok (.aload_n 0, 1) := by decide +kernel
theorem dX8_tick_246 : decode cX8_tick 246 = .ok (.getfield 223, 3) := by decide +kernel
theorem dX8_tick_249 : decode cX8_tick 249 = .ok (.aload_n 0, 1) := by decide +kernel
theorem dX8_tick_250 : decode cX8_tick 250 = .ok (.getfield 38, 3) := by decide +kernel
theorem dX8_tick_253 : decode cX8_tick 253 = .ok (.iload_n 2, 1) := by decide +kernel
theorem dX8_tick_254 : decode cX8_tick 254 = .ok (.iaload, 1) := by decide +kernel
theorem dX8_tick_255 : decode cX8_tick 255 = .ok (.iadd, 1) := by decide +kernel
theorem dX8_tick_256 : decode cX8_tick 256 = .ok (.aload_n 0, 1) := by decide +kernel
theorem dX8_tick_257 : decode cX8_tick 257 = .ok (.getfield 32, 3) := by decide +kernel
theorem dX8_tick_260 : decode cX8_tick 260 = .ok (.iload_n 2, 1) := by decide +kernel
theorem dX8_tick_261 : decode cX8_tick 261 = .ok (.iaload, 1) := by decide +kernel
theorem dX8_tick_262 : decode cX8_tick 262 = .ok (.irem, 1) := by decide +kernel
theorem dX8_tick_263 : decode cX8_tick 263 = .ok (.ifCond .ne 18, 3) := by decide +kernel
theorem dX8_tick_266 : decode cX8_tick 266 = .ok (.aload_n 0, 1) := by decide +kernel
theorem dX8_tick_267 : decode cX8_tick 267 = .ok (.dup, 1) := by decide +kernel
theorem dX8_tick_268 : decode cX8_tick 268 = .ok (.getfield 235, 3) := by decide +kernel
theorem dX8_tick_271 : decode cX8_tick 271 = .ok (.iconst 1, 1) := by decide +kernel
theorem dX8_tick_272 : decode cX8_tick 272 = .ok (.iload_n 2, 1) := by decide +kernel
theorem dX8_tick_273 : decode cX8_tick 273 = .ok (.ishl, 1) := by decide +kernel
theorem dX8_tick_274 : decode cX8_tick 274 = .ok (.ior, 1) := by decide +kernel
theorem dX8_tick_275 : decode cX8_tick 275 = .ok (.putfield 235, 3) := by decide +kernel
theorem dX8_tick_278 : decode cX8_tick 278 = .ok (.iinc 1 1, 3) := by decide +kernel
theorem dX8_tick_281 : decode cX8_tick 281 = .ok (.iinc 2 1, 3) := by decide +kernel
theorem dX8_tick_284 : decode cX8_tick 284 = .ok (.goto (-57), 3) := by decide +kernel
theorem dX8_tick_287 : decode cX8_tick 287 = .ok (.iconst 0, 1) := by decide +kernel
theorem dX8_tick_288 : decode cX8_tick 288 = .ok (.istore_n 2, 1) := by decide +kernel
theorem dX8_tick_289 : decode cX8_tick 289 = .ok (.iload_n 2, 1) := by decide +kernel
theorem dX8_tick_290 : decode cX8_tick 290 = .ok (.aload_n 0, 1) := by decide +kernel
theorem dX8_tick_291 : decode cX8_tick 291 = .ok (.getfield 132, 3) := by decide +kernel
theorem dX8_tick_294 : decode cX8_tick 294 = .ok (.if_icmp .ge 71, 3) := by decide +kernel
theorem dX8_tick_297 : decode cX8_tick 297 = .ok (.aload_n 0, 1) := by decide +kernel
theorem dX8_tick_298 : decode cX8_tick 298 = .ok (.getfield 23, 3) := by decide +kernel
theorem dX8_tick_301 : decode cX8_tick 301 = .ok (.iload_n 2, 1) := by decide +kernel
theorem dX8_tick_302 : decode cX8_tick 302 = .ok (.iaload, 1) := by decide +kernel
theorem dX8_tick_303 : decode cX8_tick 303 = .ok (.iconst 4, 1) := by decide +kernel
theorem dX8_tick_304 : decode cX8_tick 304 = .ok (.if_icmp .ne 55, 3) := by decide +kernel
theorem dX8_tick_307 : decode cX8_tick 307 = .ok (.aload_n 0, 1) := by decide +kernel
theorem dX8_tick_308 : decode cX8_tick 308 = .ok (.getfield 41, 3) := by decide +kernel
theorem dX8_tick_311 : decode cX8_tick 311 = .ok (.iload_n 2, 1) := by decide +kernel
theorem dX8_tick_312 : decode cX8_tick 312 = .ok (.iaload, 1) := by decide +kernel
theorem dX8_tick_313 : decode cX8_tick 313 = .ok (.iconst 1, 1) := by decide +kernel
theorem dX8_tick_314 : decode cX8_tick 314 = .ok (.if_icmp .ne 45, 3) := by decide +kernel
theorem dX8_tick_317 : decode cX8_tick 317 = .ok (.aload_n 0, 1) := by decide +kernel
theorem dX8_tick_318 : decode cX8_tick 318 = .ok (.getfield 235, 3) := by decide +kernel
theorem dX8_tick_321 : decode cX8_tick 321 = .ok (.iload_n 2, 1) := by decide +kernel
theorem dX8_tick_322 : decode cX8_tick 322 = .ok (.ishr, 1) := by decide +kernel
theorem dX8_tick_323 : decode cX8_tick 323 = .ok (.iconst 1, 1) := by decide +kernel
theorem dX8_tick_324 : decode cX8_tick 324 = .ok (.iand, 1) := by decide +kernel
theorem dX8_tick_325 : decode cX8_tick 325 = .ok (.ifCond .ne 34, 3) := by decide +kernel
theorem dX8_tick_328 : decode cX8_tick 328 = .ok (.iconst 2, 1) := by decide +kernel
theorem dX8_tick_329 : decode cX8_tick 329 = .ok (.iload_n 1, 1) := by decide +kernel
theorem dX8_tick_330 : decode cX8_tick 330 = .ok (.imul, 1) := by decide +kernel
theorem dX8_tick_331 : decode cX8_tick 331 = .ok (.aload_n 0, 1) := by decide +kernel
theorem dX8_tick_332 : decode cX8_tick 332 = .ok (.getfield 241, 3) := by decide +kernel
theorem dX8_tick_335 : decode cX8_tick 335 = .ok (.if_icmp .le 24, 3) := by decide +kernel
theorem dX8_tick_338 : decode cX8_tick 338 = .ok (.aload_n 0, 1) := by decide +kernel
theorem dX8_tick_339 : decode cX8_tick 339 = .ok (.getfield 38, 3) := by decide +kernel
theorem dX8_tick_342 : decode cX8_tick 342 = .ok (.iload_n 2, 1) := by decide +kernel
theorem dX8_tick_343 : decode cX8_tick 343 = .ok (.aload_n 0, 1) := by decide +kernel
theorem dX8_tick_344 : decode cX8_tick 344 = .ok (.getfield 38, 3) := by decide +kernel
theorem dX8_tick_347 : decode cX8_tick 347 = .ok (.iload_n 2, 1) := by decide +kernel
theorem dX8_tick_348 : decode cX8_tick 348 = .ok (.iaload, 1) := by decide +kernel
theorem dX8_tick_349 : decode cX8_tick 349 = .ok (.iconst 1, 1) := by decide +kernel
theorem dX8_tick_350 : decode cX8_tick 350 = .ok (.iadd, 1) := by decide +kernel
theorem dX8_tick_351 : decode cX8_tick 351 = .ok (.aload_n 0, 1) := by decide +kernel
theorem dX8_tick_352 : decode cX8_tick 352 = .ok (.getfield 32, 3) := by decide +kernel
theorem dX8_tick_355 : decode cX8_tick 355 = .ok (.iload_n 2, 1) := by decide +kernel
theorem dX8_tick_356 : decode cX8_tick 356 = .ok (.iaload, 1) := by decide +kernel
theorem dX8_tick_357 : decode cX8_tick 357 = .ok (.irem, 1) := by decide +kernel
theorem dX8_tick_358 : decode cX8_tick 358 = .ok (.iastore, 1) := by decide +kernel
theorem dX8_tick_359 : decode cX8_tick 359 = .ok (.iinc 2 1, 3) := by decide +kernel
theorem dX8_tick_362 : decode cX8_tick 362 = .ok (.goto (-73), 3) := by decide +kernel
theorem dX8_tick_365 : decode cX8_tick 365 = .ok (.iconst 0, 1) := by decide +kernel
theorem dX8_tick_366 : decode cX8_tick 366 = .ok (.istore_n 2, 1) := by decide +kernel
theorem dX8_tick_367 : decode cX8_tick 367 = .ok (.iload_n 2, 1) := by decide +kernel
theorem dX8_tick_368 : decode cX8_tick 368 = .ok (.bipush 48, 2) := by decide +kernel
theorem dX8_tick_370 : decode cX8_tick 370 = .ok (.if_icmp .ge 16, 3) := by decide +kernel
theorem dX8_tick_373 : decode cX8_tick 373 = .ok (.aload_n 0, 1) := by decide +kernel
theorem dX8_tick_374 : decode cX8_tick 374 = .ok (.getfield 102, 3) := by decide +kernel
theorem dX8_tick_377 : decode cX8_tick 377 = .ok (.iload_n 2, 1) := by decide +kernel
theorem dX8_tick_378 : decode cX8_tick 378 = .ok (.iconst (-1), 1) := by decide +kernel
theorem dX8_tick_379 : decode cX8_tick 379 = .ok (.iastore, 1) := by decide +kernel
theorem dX8_tick_380 : decode cX8_tick 380 = .ok (.iinc 2 1, 3) := by decide +kernel
theorem dX8_tick_383 : decode cX8_tick 383 = .ok (.goto (-16), 3) := by decide +kernel
theorem dX8_tick_386 : decode cX8_tick 386 = .ok (.iconst 0, 1) := by decide +kernel
theorem dX8_tick_387 : decode cX8_tick 387 = .ok (.istore_n 2, 1) := by decide +kernel
theorem dX8_tick_388 : decode cX8_tick 388 = .ok (.iload_n 2, 1) := by decide +kernel
theorem dX8_tick_389 : decode cX8_tick 389 = .ok (.aload_n 0, 1) := by decide +kernel
theorem dX8_tick_390 : decode cX8_tick 390 = .ok (.getfield 132, 3) := by decide +kernel
theorem dX8_tick_393 : decode cX8_tick 393 = .ok (.if_icmp .ge 21, 3) := by decide +kernel
theorem dX8_tick_396 : decode cX8_tick 396 = .ok (.aload_n 0, 1) := by decide +kernel
theorem dX8_tick_397 : decode cX8_tick 397 = .ok (.getfield 102, 3) := by decide +kernel
theorem dX8_tick_400 : decode cX8_tick 400 = .ok (.aload_n 0, 1) := by decide +kernel
theorem dX8_tick_401 : decode cX8_tick 401 = .ok (.getfield 26, 3) := by decide +kernel
theorem dX8_tick_404 : decode cX8_tick 404 = .ok (.iload_n 2, 1) := by decide +kernel
theorem dX8_tick_405 : decode cX8_tick 405 = .ok (.iaload, 1) := by decide +kernel
theorem dX8_tick_406 : decode cX8_tick 406 = .ok (.iload_n 2, 1) := by decide +kernel
theorem dX8_tick_407 : decode cX8_tick 407 = .ok (.iastore, 1) := by decide +kernel
theorem dX8_tick_408 : decode cX8_tick 408 = .ok (.iinc 2 1, 3) := by decide +kernel
theorem dX8_tick_411 : decode cX8_tick 411 = .ok (.goto (-23), 3) := by decide +kernel
theorem dX8_tick_414 : decode cX8_tick 414 = .ok (.iconst 0, 1) := by decide +kernel
theorem dX8_tick_415 : decode cX8_tick 415 = .ok (.istore_n 2, 1) := by decide +kernel
theorem dX8_tick_416 : decode cX8_tick 416 = .ok (.iload_n 2, 1) := by decide +kernel
theorem dX8_tick_417 : decode cX8_tick 417 = .ok (.aload_n 0, 1) := by decide +kernel
theorem dX8_tick_418 : decode cX8_tick 418 = .ok (.getfield 132, 3) := by decide +kernel
theorem dX8_tick_421 : decode cX8_tick 421 = .ok (.if_icmp .ge 24, 3) := by decide +kernel
theorem dX8_tick_424 : decode cX8_tick 424 = .ok (.aload_n 0, 1) := by decide +kernel
theorem dX8_tick_425 : decode cX8_tick 425 = .ok (.iload_n 2, 1) := by decide +kernel
theorem dX8_tick_426 : decode cX8_tick 426 = .ok (.invokevirtual 244, 3) := by decide +kernel
theorem dX8_tick_429 : decode cX8_tick 429 = .ok (.ifCond .eq 10, 3) := by decide +kernel
theorem dX8_tick_432 : decode cX8_tick 432 = .ok (.aload_n 0, 1) := by decide +kernel
theorem dX8_tick_433 : decode cX8_tick 433 = .ok (.getfield 47, 3) := by decide +kernel
theorem dX8_tick_436 : decode cX8_tick 436 = .ok (.iload_n 2, 1) := by decide +kernel
theorem dX8_tick_437 : decode cX8_tick 437 = .ok (.iconst 1, 1) := by decide +kernel
theorem dX8_tick_438 : decode cX8_tick 438 = .ok (.iastore, 1) := by decide +kernel
theorem dX8_tick_439 : decode cX8_tick 439 = .ok (.iinc 2 1, 3) := by decide +kernel
theorem dX8_tick_442 : decode cX8_tick 442 = .ok (.goto (-26), 3) := by decide +kernel
theorem dX8_tick_445 : decode cX8_tick 445 = .ok (.aload_n 0, 1) := by decide +kernel
theorem dX8_tick_446 : decode cX8_tick 446 = .ok (.dup, 1) := by decide +kernel
theorem dX8_tick_447 : decode cX8_tick 447 = .ok (.getfield 223, 3) := by decide +kernel
theorem dX8_tick_450 : decode cX8_tick 450 = .ok (.iconst 1, 1) := by decide +kernel
theorem dX8_tick_451 : decode cX8_tick 451 = .ok (.iadd, 1) := by decide +kernel
theorem dX8_tick_452 : decode cX8_tick 452 = .ok (.putfield 223, 3) := by decide +kernel
theorem dX8_tick_455 : decode cX8_tick 455 = .ok (.return_, 1) := by decide +kernel
theorem dX8_tick__0 : decode cX8_tick_ 0 = .ok (.iload_n 1, 1) := by decide +kernel
theorem dX8_tick__1 : decode cX8_tick_ 1 = .ok (.iconst 1, 1) := by decide +kernel
theorem dX8_tick__2 : decode cX8_tick_ 2 = .ok (.if_icmp .lt 21, 3) := by decide +kernel
theorem dX8_tick__5 : decode cX8_tick_ 5 = .ok (.iload_n 1, 1) := by decide +kernel
theorem dX8_tick__6 : decode cX8_tick_ 6 = .ok (.bipush 100, 2) := by decide +kernel
theorem dX8_tick__8 : decode cX8_tick_ 8 = .ok (.if_icmp .gt 15, 3) := by decide +kernel
theorem dX8_tick__11 : decode cX8_tick_ 11 = .ok (.aload_n 0, 1) := by decide +kernel
theorem dX8_tick__12 : decode cX8_tick_ 12 = .ok (.getfield 223, 3) := by decide +kernel
theorem dX8_tick__15 : decode cX8_tick_ 15 = .ok (.iload_n 1, 1) := by decide +kernel
theorem dX8_tick__16 : decode cX8_tick_ 16 = .ok (.iadd, 1) := by decide +kernel
theorem dX8_tick__17 : decode cX8_tick_ 17 = .ok (.sipush 9999, 3) := by decide +kernel
theorem dX8_tick__20 : decode cX8_tick_ 20 = .ok (.if_icmp .le 10, 3) := by decide +kernel
theorem dX8_tick__23 : decode cX8_tick_ 23 = .ok (.aload_n 0, 1) := by decide +kernel
theorem dX8_tick__24 : decode cX8_tick_ 24 = .ok (.bipush (-6), 2) := by decide +kernel
theorem dX8_tick__26 : decode cX8_tick_ 26 = .ok (.invokevirtual 142, 3) := by decide +kernel
theorem dX8_tick__29 : decode cX8_tick_ 29 = .ok (.ireturn, 1) := by decide +kernel
theorem dX8_tick__30 : decode cX8_tick_ 30 = .ok (.aload_n 0, 1) := by decide +kernel
theorem dX8_tick__31 : decode cX8_tick_ 31 = .ok (.aload_n 0, 1) := by decide +kernel
theorem dX8_tick__32 : decode cX8_tick_ 32 = .ok (.getfield 13, 3) := by decide +kernel
theorem dX8_tick__35 : decode cX8_tick_ 35 = .ok (.putfield 87, 3) := by decide +kernel
theorem dX8_tick__38 : decode cX8_tick_ 38 = .ok (.iconst 0, 1) := by decide +kernel
theorem dX8_tick__39 : decode cX8_tick_ 39 = .ok (.istore_n 2, 1) := by decide +kernel
theorem dX8_tick__40 : decode cX8_tick_ 40 = .ok (.iload_n 2, 1) := by decide +kernel
theorem dX8_tick__41 : decode cX8_tick_ 41 = .ok (.iload_n 1, 1) := by decide +kernel
theorem dX8_tick__42 : decode cX8_tick_ 42 = .ok (.if_icmp .ge 13, 3) := by decide +kernel
theorem dX8_tick__45 : decode cX8_tick_ 45 = .ok (.aload_n 0, 1) := by decide +kernel
theorem dX8_tick__46 : decode cX8_tick_ 46 = .ok (.invokevirtual 247, 3) := by decide +kernel
theorem dX8_tick__49 : decode cX8_tick_ 49 = .ok (.iinc 2 1, 3) := by decide +kernel
theorem dX8_tick__52 : decode cX8_tick_ 52 = .ok (.goto (-12), 3) := by decide +kernel
theorem dX8_tick__55 : decode cX8_tick_ 55 = .ok (.aload_n 0, 1) := by decide +kernel
theorem dX8_tick__56 : decode cX8_tick_ 56 = .ok (.invokevirtual 238, 3) := by decide +kernel
theorem dX8_tick__59 : decode cX8_tick_ 59 = .ok (.ireturn, 1) := by decide +kernel
theorem dX8_begin_0 : decode cX8_begin 0 = .ok (.aload_n 0, 1) := by decide +kernel
theorem dX8_begin_1 : decode cX8_begin 1 = .ok (.iload_n 1, 1) := by decide +kernel
theorem dX8_begin_2 : decode cX8_begin 2 = .ok (.invokevirtual 146, 3) := by decide +kernel
theorem dX8_begin_5 : decode cX8_begin 5 = .ok (.ifCond .ne 9, 3) := by decide +kernel
theorem dX8_begin_8 : decode cX8_begin 8 = .ok (.aload_n 0, 1) := by decide +kernel
theorem dX8_begin_9 : decode cX8_begin 9 = .ok (.iconst (-1), 1) := by decide +kernel
theorem dX8_begin_10 : decode cX8_begin 10 = .ok (.invokevirtual 142, 3) := by decide +kernel
theorem dX8_begin_13 : decode cX8_begin 13 = .ok (.ireturn, 1) := by decide +kernel
theorem dX8_begin_14 : decode cX8_begin 14 = .ok (.aload_n 0, 1) := by decide +kernel
theorem dX8_begin_15 : decode cX8_begin 15 = .ok (.getfield 41, 3) := by decide +kernel
theorem dX8_begin_18 : decode cX8_begin 18 = .ok (.iload_n 1, 1) := by decide +kernel
theorem dX8_begin_19 : decode cX8_begin 19 = .ok (.iaload, 1) := by decide +kernel
theorem dX8_begin_20 : decode cX8_begin 20 = .ok (.ifCond .eq 10, 3) := by decide +kernel
theorem dX8_begin_23 : decode cX8_begin 23 = .ok (.aload_n 0, 1) := by decide +kernel
theorem dX8_begin_24 : decode cX8_begin 24 = .ok (.bipush (-6), 2) := by decide +kernel
theorem dX8_begin_26 : decode cX8_begin 26 = .ok (.invokevirtual 142, 3) := by decide +kernel
theorem dX8_begin_29 : decode cX8_begin 29 = .ok (.ireturn, 1) := by decide +kernel
theorem dX8_begin_30 : decode cX8_begin 30 = .ok (.aload_n 0, 1) := by decide +kernel
theorem dX8_begin_31 : decode cX8_begin 31 = .ok (.getfield 41, 3) := by decide +kernel
theorem dX8_begin_34 : decode cX8_begin 34 = .ok (.iload_n 1, 1) := by decide +kernel
theorem dX8_begin_35 : decode cX8_begin 35 = .ok (.iconst 1, 1) := by decide +kernel
theorem dX8_begin_36 : decode cX8_begin 36 = .ok (.iastore, 1) := by decide +kernel
theorem dX8_begin_37 : decode cX8_begin 37 = .ok (.aload_n 0, 1) := by decide +kernel
theorem dX8_begin_38 : decode cX8_begin 38 = .ok (.getfield 44, 3) := by decide +kernel
theorem dX8_begin_41 : decode cX8_begin 41 = .ok (.iload_n 1, 1) := by decide +kernel
theorem dX8_begin_42 : decode cX8_begin 42 = .ok (.iconst 0, 1) := by decide +kernel
theorem dX8_begin_43 : decode cX8_begin 43 = .ok (.iastore, 1) := by decide +kernel
theorem dX8_begin_44 : decode cX8_begin 44 = .ok (.iconst 1, 1) := by decide +kernel
theorem dX8_begin_45 : decode cX8_begin 45 = .ok (.ireturn, 1) := by decide +kernel
theorem dX8_quiets_0 : decode cX8_quiets 0 = .ok (.iconst 0, 1) := by decide +kernel
theorem dX8_quiets_1 : decode cX8_quiets 1 = .ok (.istore_n 1, 1) := by decide +kernel
theorem dX8_quiets_2 : decode cX8_quiets 2 = .ok (.iload_n 1, 1) := by decide +kernel
theorem dX8_quiets_3 : decode cX8_quiets 3 = .ok (.aload_n 0, 1) := by decide +kernel
theorem dX8_quiets_4 : decode cX8_quiets 4 = .ok (.getfield 132, 3) := by decide +kernel
theorem dX8_quiets_7 : decode cX8_quiets 7 = .ok (.if_icmp .ge 37, 3) := by decide +kernel
theorem dX8_quiets_10 : decode cX8_quiets 10 = .ok (.aload_n 0, 1) := by decide +kernel
theorem dX8_quiets_11 : decode cX8_quiets 11 = .ok (.getfield 41, 3) := by decide +kernel
theorem dX8_quiets_14 : decode cX8_quiets 14 = .ok (.iload_n 1, 1) := by decide +kernel
theorem dX8_quiets_15 : decode cX8_quiets 15 = .ok (.iconst 0, 1) := by decide +kernel
theorem dX8_quiets_16 : decode cX8_quiets 16 = .ok (.iastore, 1) := by decide +kernel
theorem dX8_quiets_17 : decode cX8_quiets 17 = .ok (.aload_n 0, 1) := by decide +kernel
theorem dX8_quiets_18 : decode cX8_quiets 18 = .ok (.getfield 44, 3) := by decide +kernel
theorem dX8_quiets_21 : decode cX8_quiets 21 = .ok (.iload_n 1, 1) := by decide +kernel
theorem dX8_quiets_22 : decode cX8_quiets 22 = .ok (.iconst 0, 1) := by decide +kernel
theorem dX8_quiets_23 : decode cX8_quiets 23 = .ok (.iastore, 1) := by decide +kernel
theorem dX8_quiets_24 : decode cX8_quiets 24 = .ok (.aload_n 0, 1) := by decide +kernel
theorem dX8_quiets_25 : decode cX8_quiets 25 = .ok (.getfield 47, 3) := by decide +kernel
theorem dX8_quiets_28 : decode cX8_quiets 28 = .ok (.iload_n 1, 1) := by decide +kernel
theorem dX8_quiets_29 : decode cX8_quiets 29 = .ok (.iconst 0, 1) := by decide +kernel
theorem dX8_quiets_30 : decode cX8_quiets 30 = .ok (.iastore, 1) := by decide +kernel
theorem dX8_quiets_31 : decode cX8_quiets 31 = .ok (.aload_n 0, 1) := by decide +kernel
theorem dX8_quiets_32 : decode cX8_quiets 32 = .ok (.getfield 38, 3) := by decide +kernel
theorem dX8_quiets_35 : decode cX8_quiets 35 = .ok (.iload_n 1, 1) := by decide +kernel
theorem dX8_quiets_36 : decode cX8_quiets 36 = .ok (.iconst 0, 1) := by decide +kernel
theorem dX8_quiets_37 : decode cX8_quiets 37 = .ok (.iastore, 1) := by decide +kernel
theorem dX8_quiets_38 : decode cX8_quiets 38 = .ok (.iinc 1 1, 3) := by decide +kernel
theorem dX8_quiets_41 : decode cX8_quiets 41 = .ok (.goto (-39), 3) := by decide +kernel
theorem dX8_quiets_44 : decode cX8_quiets 44 = .ok (.aload_n 0, 1) := by decide +kernel
theorem dX8_quiets_45 : decode cX8_quiets 45 = .ok (.iconst 0, 1) := by decide +kernel
theorem dX8_quiets_46 : decode cX8_quiets 46 = .ok (.putfield 223, 3) := by decide +kernel
theorem dX8_quiets_49 : decode cX8_quiets 49 = .ok (.return_, 1) := by decide +kernel
theorem dX8_hush_0 : decode cX8_hush 0 = .ok (.iconst 0, 1) := by decide +kernel
theorem dX8_hush_1 : decode cX8_hush 1 = .ok (.istore_n 1, 1) := by decide +kernel
theorem dX8_hush_2 : decode cX8_hush 2 = .ok (.iconst 0, 1) := by decide +kernel
theorem dX8_hush_3 : decode cX8_hush 3 = .ok (.istore_n 2, 1) := by decide +kernel
theorem dX8_hush_4 : decode cX8_hush 4 = .ok (.iload_n 2, 1) := by decide +kernel
theorem dX8_hush_5 : decode cX8_hush 5 = .ok (.aload_n 0, 1) := by decide +kernel
theorem dX8_hush_6 : decode cX8_hush 6 = .ok (.getfield 132, 3) := by decide +kernel
theorem dX8_hush_9 : decode cX8_hush 9 = .ok (.if_icmp .ge 21, 3) := by decide +kernel
theorem dX8_hush_12 : decode cX8_hush 12 = .ok (.aload_n 0, 1) := by decide +kernel
theorem dX8_hush_13 : decode cX8_hush 13 = .ok (.getfield 41, 3) := by decide +kernel
theorem dX8_hush_16 : decode cX8_hush 16 = .ok (.iload_n 2, 1) := by decide +kernel
theorem dX8_hush_17 : decode cX8_hush 17 = .ok (.iaload, 1) := by decide +kernel
theorem dX8_hush_18 : decode cX8_hush 18 = .ok (.ifCond .eq 6, 3) := by decide +kernel
theorem dX8_hush_21 : decode cX8_hush 21 = .ok (.iinc 1 1, 3) := by decide +kernel
theorem dX8_hush_24 : decode cX8_hush 24 = .ok (.iinc 2 1, 3) := by decide +kernel
theorem dX8_hush_27 : decode cX8_hush 27 = .ok (.goto (-23), 3) := by decide +kernel
theorem dX8_hush_30 : decode cX8_hush 30 = .ok (.aload_n 0, 1) := by decide +kernel
theorem dX8_hush_31 : decode cX8_hush 31 = .ok (.invokevirtual 250, 3) := by decide +kernel
theorem dX8_hush_34 : decode cX8_hush 34 = .ok (.aload_n 0, 1) := by decide +kernel
theorem dX8_hush_35 : decode cX8_hush 35 = .ok (.iconst 0, 1) := by decide +kernel
theorem dX8_hush_36 : decode cX8_hush 36 = .ok (.putfield 235, 3) := by decide +kernel
theorem dX8_hush_39 : decode cX8_hush 39 = .ok (.aload_n 0, 1) := by decide +kernel
theorem dX8_hush_40 : decode cX8_hush 40 = .ok (.iconst 0, 1) := by decide +kernel
theorem dX8_hush_41 : decode cX8_hush 41 = .ok (.putfield 241, 3) := by decide +kernel
theorem dX8_hush_44 : decode cX8_hush 44 = .ok (.iload_n 1, 1) := by decide +kernel
theorem dX8_hush_45 : decode cX8_hush 45 = .ok (.ireturn, 1) := by decide +kernel
theorem dX8_heard_0 : decode cX8_heard 0 = .ok (.aload_n 0, 1) := by decide +kernel
theorem dX8_heard_1 : decode cX8_heard 1 = .ok (.iload_n 1, 1) := by decide +kernel
theorem dX8_heard_2 : decode cX8_heard 2 = .ok (.invokevirtual 146, 3) := by decide +kernel
theorem dX8_heard_5 : decode cX8_heard 5 = .ok (.ifCond .eq 11, 3) := by decide +kernel
theorem dX8_heard_8 : decode cX8_heard 8 = .ok (.aload_n 0, 1) := by decide +kernel
theorem dX8_heard_9 : decode cX8_heard 9 = .ok (.iload_n 1, 1) := by decide +kernel
theorem dX8_heard_10 : decode cX8_heard 10 = .ok (.invokevirtual 149, 3) := by decide +kernel
theorem dX8_heard_13 : decode cX8_heard 13 = .ok (.goto 8, 3) := by decide +kernel
theorem dX8_heard_16 : decode cX8_heard 16 = .ok (.aload_n 0, 1) := by decide +kernel
theorem dX8_heard_17 : decode cX8_heard 17 = .ok (.iconst (-1), 1) := by decide +kernel
theorem dX8_heard_18 : decode cX8_heard 18 = .ok (.invokevirtual 142, 3) := by decide +kernel
theorem dX8_heard_21 : decode cX8_heard 21 = .ok (.ireturn, 1) := by decide +kernel
theorem dX8_beside_0 : decode cX8_beside 0 = .ok (.aload_n 0, 1) := by decide +kernel
theorem dX8_beside_1 : decode cX8_beside 1 = .ok (.iload_n 1, 1) := by decide +kernel
theorem dX8_beside_2 : decode cX8_beside 2 = .ok (.invokevirtual 146, 3) := by decide +kernel
theorem dX8_beside_5 : decode cX8_beside 5 = .ok (.ifCond .eq 11, 3) := by decide +kernel
theorem dX8_beside_8 : decode cX8_beside 8 = .ok (.aload_n 0, 1) := by decide +kernel
theorem dX8_beside_9 : decode cX8_beside 9 = .ok (.iload_n 1, 1) := by decide +kernel
theorem dX8_beside_10 : decode cX8_beside 10 = .ok (.invokevirtual 152, 3) := by decide +kernel
theorem dX8_beside_13 : decode cX8_beside 13 = .ok (.goto 8, 3) := by decide +kernel
theorem dX8_beside_16 : decode cX8_beside 16 = .ok (.aload_n 0, 1) := by decide +kernel
theorem dX8_beside_17 : decode cX8_beside 17 = .ok (.iconst (-1), 1) := by decide +kernel
theorem dX8_beside_18 : decode cX8_beside 18 = .ok (.invokevirtual 142, 3) := by decide +kernel
theorem dX8_beside_21 : decode cX8_beside 21 = .ok (.ireturn, 1) := by decide +kernel
theorem dX8_bits_0 : decode cX8_bits 0 = .ok (.iconst 0, 1) := by decide +kernel
theorem dX8_bits_1 : decode cX8_bits 1 = .ok (.istore_n 2, 1) := by decide +kernel
theorem dX8_bits_2 : decode cX8_bits 2 = .ok (.iload_n 1, 1) := by decide +kernel
theorem dX8_bits_3 : decode cX8_bits 3 = .ok (.istore_n 3, 1) := by decide +kernel
theorem dX8_bits_4 : decode cX8_bits 4 = .ok (.iload_n 3, 1) := by decide +kernel
theorem dX8_bits_5 : decode cX8_bits 5 = .ok (.ifCond .eq 15, 3) := by decide +kernel
theorem dX8_bits_8 : decode cX8_bits 8 = .ok (.iinc 2 1, 3) := by decide +kernel
theorem dX8_bits_11 : decode cX8_bits 11 = .ok (.iload_n 3, 1) := by decide +kernel
theorem dX8_bits_12 : decode cX8_bits 12 = .ok (.iload_n 3, 1) := by decide +kernel
theorem dX8_bits_13 : decode cX8_bits 13 = .ok (.iconst 1, 1) := by decide +kernel
theorem dX8_bits_14 : decode cX8_bits 14 = .ok (.isub, 1) := by decide +kernel
theorem dX8_bits_15 : decode cX8_bits 15 = .ok (.iand, 1) := by decide +kernel
theorem dX8_bits_16 : decode cX8_bits 16 = .ok (.istore_n 3, 1) := by decide +kernel
theorem dX8_bits_17 : decode cX8_bits 17 = .ok (.goto (-13), 3) := by decide +kernel
theorem dX8_bits_20 : decode cX8_bits 20 = .ok (.iload_n 2, 1) := by decide +kernel
theorem dX8_bits_21 : decode cX8_bits 21 = .ok (.ireturn, 1) := by decide +kernel
theorem dX8_many_0 : decode cX8_many 0 = .ok (.iload_n 1, 1) := by decide +kernel
theorem dX8_many_1 : decode cX8_many 1 = .ok (.ifCond .lt 8, 3) := by decide +kernel
theorem dX8_many_4 : decode cX8_many 4 = .ok (.iload_n 1, 1) := by decide +kernel
theorem dX8_many_5 : decode cX8_many 5 = .ok (.iconst 3, 1) := by decide +kernel
theorem dX8_many_6 : decode cX8_many 6 = .ok (.if_icmp .le 10, 3) := by decide +kernel
theorem dX8_many_9 : decode cX8_many 9 = .ok (.aload_n 0, 1) := by decide +kernel
theorem dX8_many_10 : decode cX8_many 10 = .ok (.bipush (-5), 2) := by decide +kernel
theorem dX8_many_12 : decode cX8_many 12 = .ok (.invokevirtual 142, 3) := by decide +kernel
theorem dX8_many_15 : decode cX8_many 15 = .ok (.ireturn, 1) := by decide +kernel
theorem dX8_many_16 : decode cX8_many 16 = .ok (.iload_n 1, 1) := by decide +kernel
theorem dX8_many_17 : decode cX8_many 17 = .ok (.ifCond .ne 8, 3) := by decide +kernel
theorem dX8_many_20 : decode cX8_many 20 = .ok (.aload_n 0, 1) := by decide +kernel
theorem dX8_many_21 : decode cX8_many 21 = .ok (.invokevirtual 238, 3) := by decide +kernel
theorem dX8_many_24 : decode cX8_many 24 = .ok (.ireturn, 1) := by decide +kernel
theorem dX8_many_25 : decode cX8_many 25 = .ok (.iload_n 1, 1) := by decide +kernel
theorem dX8_many_26 : decode cX8_many 26 = .ok (.iconst 1, 1) := by decide +kernel
theorem dX8_many_27 : decode cX8_many 27 = .ok (.if_icmp .ne 12, 3) := by decide +kernel
theorem dX8_many_30 : decode cX8_many 30 = .ok (.aload_n 0, 1) := by decide +kernel
theorem dX8_many_31 : decode cX8_many 31 = .ok (.aload_n 0, 1) := by decide +kernel
theorem dX8_many_32 : decode cX8_many 32 = .ok (.getfield 235, 3) := by decide +kernel
theorem dX8_many_35 : decode cX8_many 35 = .ok (.invokevirtual 253, 3) := by decide +kernel
theorem dX8_many_38 : decode cX8_many 38 = .ok (.ireturn, 1) := by decide +kernel
theorem dX8_many_39 : decode cX8_many 39 = .ok (.iconst 0, 1) := by decide +kernel
theorem dX8_many_40 : decode cX8_many 40 = .ok (.istore_n 2, 1) := by decide +kernel
theorem dX8_many_41 : decode cX8_many 41 = .ok (.iconst 0, 1) := by decide +kernel
theorem dX8_many_42 : decode cX8_many 42 = .ok (.istore_n 3, 1) := by decide +kernel
theorem dX8_many_43 : decode cX8_many 43 = .ok (.iload_n 3, 1) := by decide +kernel
theorem dX8_many_44 : decode cX8_many 44 = .ok (.aload_n 0, 1) := by decide +kernel
theorem dX8_many_45 : decode cX8_many 45 = .ok (.getfield 132, 3) := by decide +kernel
theorem dX8_many_48 : decode cX8_many 48 = .ok (.if_icmp .ge 40, 3) := by decide +kernel
theorem dX8_many_51 : decode cX8_many 51 = .ok (.iload_n 1, 1) := by decide +kernel
theorem dX8_many_52 : decode cX8_many 52 = .ok (.iconst 2, 1) := by decide +kernel
theorem dX8_many_53 : decode cX8_many 53 = .ok (.if_icmp .ne 16, 3) := by decide +kernel
theorem dX8_many_56 : decode cX8_many 56 = .ok (.aload_n 0, 1) := by decide +kernel
theorem dX8_many_57 : decode cX8_many 57 = .ok (.getfield 47, 3) := by decide +kernel
theorem dX8_many_60 : decode cX8_many 60 = .ok (.iload_n 3, 1) := by decide +kernel
theorem dX8_many_61 : decode cX8_many 61 = .ok (.iaload, 1) := by decide +kernel
theorem dX8_many_62 : decode cX8_many 62 = .ok (.iconst 1, 1) := by decide +kernel
theorem dX8_many_63 : decode cX8_many 63 = .ok (.if_icmp .ne 19, 3) := by decide +kernel
theorem dX8_many_66 : decode cX8_many 66 = .ok (.goto 13, 3) := by decide +kernel
theorem dX8_many_69 : decode cX8_many 69 = .ok (.aload_n 0, 1) := by decide +kernel
theorem dX8_many_70 : decode cX8_many 70 = .ok (.getfield 41, 3) := by decide +kernel
theorem dX8_many_73 : decode cX8_many 73 = .ok (.iload_n 3, 1) := by decide +kernel
theorem dX8_many_74 : decode cX8_many 74 = .ok (.iaload, 1) := by decide +kernel
theorem dX8_many_75 : decode cX8_many 75 = .ok (.iconst 2, 1) := by decide +kernel
theorem dX8_many_76 : decode cX8_many 76 = .ok (.if_icmp .ne 6, 3) := by decide +kernel
theorem dX8_many_79 : decode cX8_many 79 = .ok (.iinc 2 1, 3) := by decide +kernel
theorem dX8_many_82 : decode cX8_many 82 = .ok (.iinc 3 1, 3) := by decide +kernel
theorem dX8_many_85 : decode cX8_many 85 = .ok (.goto (-42), 3) := by decide +kernel
theorem dX8_many_88 : decode cX8_many 88 = .ok (.iload_n 2, 1) := by decide +kernel
theorem dX8_many_89 : decode cX8_many 89 = .ok (.ireturn, 1) := by decide +kernel
theorem dX8_hits_0 : decode cX8_hits 0 = .ok (.aload_n 0, 1) := by decide +kernel
theorem dX8_hits_1 : decode cX8_hits 1 = .ok (.getfield 235, 3) := by decide +kernel
theorem dX8_hits_4 : decode cX8_hits 4 = .ok (.ireturn, 1) := by decide +kernel
theorem dX8_step_0 : decode cX8_step 0 = .ok (.aload_n 0, 1) := by decide +kernel
theorem dX8_step_1 : decode cX8_step 1 = .ok (.getfield 241, 3) := by decide +kernel
theorem dX8_step_4 : decode cX8_step 4 = .ok (.ifCond .ne 7, 3) := by decide +kernel
theorem dX8_step_7 : decode cX8_step 7 = .ok (.iconst 0, 1) := by decide +kernel
theorem dX8_step_8 : decode cX8_step 8 = .ok (.goto 19, 3) := by decide +kernel
theorem dX8_step_11 : decode cX8_step 11 = .ok (.bipush 100, 2) := by decide +kernel
theorem dX8_step_13 : decode cX8_step 13 = .ok (.aload_n 0, 1) := by decide +kernel
theorem dX8_step_14 : decode cX8_step 14 = .ok (.aload_n 0, 1) := by decide +kernel
theorem dX8_step_15 : decode cX8_step 15 = .ok (.getfield 235, 3) := by decide +kernel
theorem dX8_step_18 : decode cX8_step 18 = .ok (.invokevirtual 253, 3) := by decide +kernel
theorem dX8_step_21 : decode cX8_step 21 = .ok (.imul, 1) := by decide +kernel
theorem dX8_step_22 : decode cX8_step 22 = .ok (.aload_n 0, 1) := by decide +kernel
theorem dX8_step_23 : decode cX8_step 23 = .ok (.getfield 241, 3) := by decide +kernel
theorem dX8_step_26 : decode cX8_step 26 = .ok (.idiv, 1) := by decide +kernel
theorem dX8_step_27 : decode cX8_step 27 = .ok (.ireturn, 1) := by decide +kernel
theorem dX8_keepsAll_0 : decode cX8_keepsAll 0 = .ok (.iconst 0, 1) := by decide +kernel
theorem dX8_keepsAll_1 : decode cX8_keepsAll 1 = .ok (.istore_n 1, 1) := by decide +kernel
theorem dX8_keepsAll_2 : decode cX8_keepsAll 2 = .ok (.iload_n 1, 1) := by decide +kernel
theorem dX8_keepsAll_3 : decode cX8_keepsAll 3 = .ok (.aload_n 0, 1) := by decide +kernel
theorem dX8_keepsAll_4 : decode cX8_keepsAll 4 = .ok (.getfield 132, 3) := by decide +kernel
theorem dX8_keepsAll_7 : decode cX8_keepsAll 7 = .ok (.if_icmp .ge 57, 3) := by decide +kernel
theorem dX8_keepsAll_10 : decode cX8_keepsAll 10 = .ok (.aload_n 0, 1) := by decide +kernel
theorem dX8_keepsAll_11 : decode cX8_keepsAll 11 = .ok (.getfield 105, 3) := by decide +kernel
theorem dX8_keepsAll_14 : decode cX8_keepsAll 14 = .ok (.iload_n 1, 1) := by decide +kernel
theorem dX8_keepsAll_15 : decode cX8_keepsAll 15 = .ok (.aload_n 0, 1) := by decide +kernel
theorem dX8_keepsAll_16 : decode cX8_keepsAll 16 = .ok (.getfield 41, 3) := by decide +kernel
theorem dX8_keepsAll_19 : decode cX8_keepsAll 19 = .ok (.iload_n 1, 1) := by decide +kernel
theorem dX8_keepsAll_20 : decode cX8_keepsAll 20 = .ok (.iaload, 1) := by decide +kernel
theorem dX8_keepsAll_21 : decode cX8_keepsAll 21 = .ok (.iastore, 1) := by decide +kernel
theorem dX8_keepsAll_22 : decode cX8_keepsAll 22 = .ok (.aload_n 0, 1) := by decide +kernel
theorem dX8_keepsAll_23 : decode cX8_keepsAll 23 = .ok (.getfield 108, 3) := by decide +kernel
theorem dX8_keepsAll_26 : decode cX8_keepsAll 26 = .ok (.iload_n 1, 1) := by decide +kernel
theorem dX8_keepsAll_27 : decode cX8_keepsAll 27 = .ok (.aload_n 0, 1) := by decide +kernel
theorem dX8_keepsAll_28 : decode cX8_keepsAll 28 = .ok (.getfield 44, 3) := by decide +kernel
theorem dX8_keepsAll_31 : decode cX8_keepsAll 31 = .ok (.iload_n 1, 1) := by decide +kernel
theorem dX8_keepsAll_32 : decode cX8_keepsAll 32 = .ok (.iaload, 1) := by decide +kernel
theorem dX8_keepsAll_33 : decode cX8_keepsAll 33 = .ok (.iastore, 1) := by decide +kernel
theorem dX8_keepsAll_34 : decode cX8_keepsAll 34 = .ok (.aload_n 0, 1) := by decide +kernel
theorem dX8_keepsAll_35 : decode cX8_keepsAll 35 = .ok (.getfield 111, 3) := by decide +kernel
theorem dX8_keepsAll_38 : decode cX8_keepsAll 38 = .ok (.iload_n 1, 1) := by decide +kernel
theorem dX8_keepsAll_39 : decode cX8_keepsAll 39 = .ok (.aload_n 0, 1) := by decide +kernel
theorem dX8_keepsAll_40 : decode cX8_keepsAll 40 = .ok (.getfield 47, 3) := by decide +kernel
theorem dX8_keepsAll_43 : decode cX8_keepsAll 43 = .ok (.iload_n 1, 1) := by decide +kernel
theorem dX8_keepsAll_44 : decode cX8_keepsAll 44 = .ok (.iaload, 1) := by decide +kernel
theorem dX8_keepsAll_45 : decode cX8_keepsAll 45 = .ok (.iastore, 1) := by decide +kernel
theorem dX8_keepsAll_46 : decode cX8_keepsAll 46 = .ok (.aload_n 0, 1) := by decide +kernel
theorem dX8_keepsAll_47 : decode cX8_keepsAll 47 = .ok (.getfield 114, 3) := by decide +kernel
theorem dX8_keepsAll_50 : decode cX8_keepsAll 50 = .ok (.iload_n 1, 1) := by decide +kernel
theorem dX8_keepsAll_51 : decode cX8_keepsAll 51 = .ok (.aload_n 0, 1) := by decide +kernel
theorem dX8_keepsAll_52 : decode cX8_keepsAll 52 = .ok (.getfield 38, 3) := by decide +kernel
theorem dX8_keepsAll_55 : decode cX8_keepsAll 55 = .ok (.iload_n 1, 1) := by decide +kernel
theorem dX8_keepsAll_56 : decode cX8_keepsAll 56 = .ok (.iaload, 1) := by decide +kernel
theorem dX8_keepsAll_57 : decode cX8_keepsAll 57 = .ok (.iastore, 1) := by decide +kernel
theorem dX8_keepsAll_58 : decode cX8_keepsAll 58 = .ok (.iinc 1 1, 3) := by decide +kernel
theorem dX8_keepsAll_61 : decode cX8_keepsAll 61 = .ok (.goto (-59), 3) := by decide +kernel
theorem dX8_keepsAll_64 : decode cX8_keepsAll 64 = .ok (.aload_n 0, 1) := by decide +kernel
theorem dX8_keepsAll_65 : decode cX8_keepsAll 65 = .ok (.aload_n 0, 1) := by decide +kernel
theorem dX8_keepsAll_66 : decode cX8_keepsAll 66 = .ok (.getfield 7, 3) := by decide +kernel
theorem dX8_keepsAll_69 : decode cX8_keepsAll 69 = .ok (.putfield 256, 3) := by decide +kernel
theorem dX8_keepsAll_72 : decode cX8_keepsAll 72 = .ok (.aload_n 0, 1) := by decide +kernel
theorem dX8_keepsAll_73 : decode cX8_keepsAll 73 = .ok (.aload_n 0, 1) := by decide +kernel
theorem dX8_keepsAll_74 : decode cX8_keepsAll 74 = .ok (.getfield 223, 3) := by decide +kernel
theorem dX8_keepsAll_77 : decode cX8_keepsAll 77 = .ok (.putfield 259, 3) := by decide +kernel
theorem dX8_keepsAll_80 : decode cX8_keepsAll 80 = .ok (.aload_n 0, 1) := by decide +kernel
theorem dX8_keepsAll_81 : decode cX8_keepsAll 81 = .ok (.aload_n 0, 1) := by decide +kernel
theorem dX8_keepsAll_82 : decode cX8_keepsAll 82 = .ok (.getfield 235, 3) := by decide +kernel
theorem dX8_keepsAll_85 : decode cX8_keepsAll 85 = .ok (.putfield 262, 3) := by decide +kernel
theorem dX8_keepsAll_88 : decode cX8_keepsAll 88 = .ok (.aload_n 0, 1) := by decide +kernel
theorem dX8_keepsAll_89 : decode cX8_keepsAll 89 = .ok (.aload_n 0, 1) := by decide +kernel
theorem dX8_keepsAll_90 : decode cX8_keepsAll 90 = .ok (.getfield 241, 3) := by decide +kernel
theorem dX8_keepsAll_93 : decode cX8_keepsAll 93 = .ok (.putfield 265, 3) := by decide +kernel
theorem dX8_keepsAll_96 : decode cX8_keepsAll 96 = .ok (.return_, 1) := by decide +kernel
theorem dX8_backAll_0 : decode cX8_backAll 0 = .ok (.iconst 0, 1) := by decide +kernel
theorem dX8_backAll_1 : decode cX8_backAll 1 = .ok (.istore_n 1, 1) := by decide +kernel
theorem dX8_backAll_2 : decode cX8_backAll 2 = .ok (.iload_n 1, 1) := by decide +kernel
theorem dX8_backAll_3 : decode cX8_backAll 3 = .ok (.aload_n 0, 1) := by decide +kernel
theorem dX8_backAll_4 : decode cX8_backAll 4 = .ok (.getfield 132, 3) := by decide +kernel
theorem dX8_backAll_7 : decode cX8_backAll 7 = .ok (.if_icmp .ge 57, 3) := by decide +kernel
theorem dX8_backAll_10 : decode cX8_backAll 10 = .ok (.aload_n 0, 1) := by decide +kernel
theorem dX8_backAll_11 : decode cX8_backAll 11 = .ok (.getfield 41, 3) := by decide +kernel
theorem dX8_backAll_14 : decode cX8_backAll 14 = .ok (.iload_n 1, 1) := by decide +kernel
theorem dX8_backAll_15 : decode cX8_backAll 15 = .ok (.aload_n 0, 1) := by decide +kernel
theorem dX8_backAll_16 : decode cX8_backAll 16 = .ok (.getfield 105, 3) := by decide +kernel
theorem dX8_backAll_19 : decode cX8_backAll 19 = .ok (.iload_n 1, 1) := by decide +kernel
theorem dX8_backAll_20 : decode cX8_backAll 20 = .ok (.iaload, 1) := by decide +kernel
theorem dX8_backAll_21 : decode cX8_backAll 21 = .ok (.iastore, 1) := by decide +kernel
theorem dX8_backAll_22 : decode cX8_backAll 22 = .ok (.aload_n 0, 1) := by decide +kernel
theorem dX8_backAll_23 : decode cX8_backAll 23 = .ok (.getfield 44, 3) := by decide +kernel
theorem dX8_backAll_26 : decode cX8_backAll 26 = .ok (.iload_n 1, 1) := by decide +kernel
theorem dX8_backAll_27 : decode cX8_backAll 27 = .ok (.aload_n 0, 1) := by decide +kernel
theorem dX8_backAll_28 : decode cX8_backAll 28 = .ok (.getfield 108, 3) := by decide +kernel
theorem dX8_backAll_31 : decode cX8_backAll 31 = .ok (.iload_n 1, 1) := by decide +kernel
theorem dX8_backAll_32 : decode cX8_backAll 32 = .ok (.iaload, 1) := by decide +kernel
theorem dX8_backAll_33 : decode cX8_backAll 33 = .ok (.iastore, 1) := by decide +kernel
theorem dX8_backAll_34 : decode cX8_backAll 34 = .ok (.aload_n 0, 1) := by decide +kernel
theorem dX8_backAll_35 : decode cX8_backAll 35 = .ok (.getfield 47, 3) := by decide +kernel
theorem dX8_backAll_38 : decode cX8_backAll 38 = .ok (.iload_n 1, 1) := by decide +kernel
theorem dX8_backAll_39 : decode cX8_backAll 39 = .ok (.aload_n 0, 1) := by decide +kernel
theorem dX8_backAll_40 : decode cX8_backAll 40 = .ok (.getfield 111, 3) := by decide +kernel
theorem dX8_backAll_43 : decode cX8_backAll 43 = .ok (.iload_n 1, 1) := by decide +kernel
theorem dX8_backAll_44 : decode cX8_backAll 44 = .ok (.iaload, 1) := by decide +kernel
theorem dX8_backAll_45 : decode cX8_backAll 45 = .ok (.iastore, 1) := by decide +kernel
theorem dX8_backAll_46 : decode cX8_backAll 46 = .ok (.aload_n 0, 1) := by decide +kernel
theorem dX8_backAll_47 : decode cX8_backAll 47 = .ok (.getfield 38, 3) := by decide +kernel
theorem dX8_backAll_50 : decode cX8_backAll 50 = .ok (.iload_n 1, 1) := by decide +kernel
theorem dX8_backAll_51 : decode cX8_backAll 51 = .ok (.aload_n 0, 1) := by decide +kernel
theorem dX8_backAll_52 : decode cX8_backAll 52 = .ok (.getfield 114, 3) := by decide +kernel
theorem dX8_backAll_55 : decode cX8_backAll 55 = .ok (.iload_n 1, 1) := by decide +kernel
theorem dX8_backAll_56 : decode cX8_backAll 56 = .ok (.iaload, 1) := by decide +kernel
theorem dX8_backAll_57 : decode cX8_backAll 57 = .ok (.iastore, 1) := by decide +kernel
theorem dX8_backAll_58 : decode cX8_backAll 58 = .ok (.iinc 1 1, 3) := by decide +kernel
theorem dX8_backAll_61 : decode cX8_backAll 61 = .ok (.goto (-59), 3) := by decide +kernel
theorem dX8_backAll_64 : decode cX8_backAll 64 = .ok (.aload_n 0, 1) := by decide +kernel
theorem dX8_backAll_65 : decode cX8_backAll 65 = .ok (.aload_n 0, 1) := by decide +kernel
theorem dX8_backAll_66 : decode cX8_backAll 66 = .ok (.getfield 256, 3) := by decide +kernel
theorem dX8_backAll_69 : decode cX8_backAll 69 = .ok (.putfield 7, 3) := by decide +kernel
theorem dX8_backAll_72 : decode cX8_backAll 72 = .ok (.aload_n 0, 1) := by decide +kernel
theorem dX8_backAll_73 : decode cX8_backAll 73 = .ok (.aload_n 0, 1) := by decide +kernel
theorem dX8_backAll_74 : decode cX8_backAll 74 = .ok (.getfield 259, 3) := by decide +kernel
theorem dX8_backAll_77 : decode cX8_backAll 77 = .ok (.putfield 223, 3) := by decide +kernel
theorem dX8_backAll_80 : decode cX8_backAll 80 = .ok (.aload_n 0, 1) := by decide +kernel
theorem dX8_backAll_81 : decode cX8_backAll 81 = .ok (.aload_n 0, 1) := by decide +kernel
theorem dX8_backAll_82 : decode cX8_backAll 82 = .ok (.getfield 262, 3) := by decide +kernel
theorem dX8_backAll_85 : decode cX8_backAll 85 = .ok (.putfield 235, 3) := by decide +kernel
theorem dX8_backAll_88 : decode cX8_backAll 88 = .ok (.aload_n 0, 1) := by decide +kernel
theorem dX8_backAll_89 : decode cX8_backAll 89 = .ok (.aload_n 0, 1) := by decide +kernel
theorem dX8_backAll_90 : decode cX8_backAll 90 = .ok (.getfield 265, 3) := by decide +kernel
theorem dX8_backAll_93 : decode cX8_backAll 93 = .ok (.putfield 241, 3) := by decide +kernel
theorem dX8_backAll_96 : decode cX8_backAll 96 = .ok (.return_, 1) := by decide +kernel
theorem dX8_meets_0 : decode cX8_meets 0 = .ok (.iconst 0, 1) := by decide +kernel
theorem dX8_meets_1 : decode cX8_meets 1 = .ok (.istore_n 1, 1) := by decide +kernel
theorem dX8_meets_2 : decode cX8_meets 2 = .ok (.iload_n 1, 1) := by decide +kernel
theorem dX8_meets_3 : decode cX8_meets 3 = .ok (.aload_n 0, 1) := by decide +kernel
theorem dX8_meets_4 : decode cX8_meets 4 = .ok (.getfield 132, 3) := by decide +kernel
theorem dX8_meets_7 : decode cX8_meets 7 = .ok (.if_icmp .ge 31, 3) := by decide +kernel
theorem dX8_meets_10 : decode cX8_meets 10 = .ok (.aload_n 0, 1) := by decide +kernel
theorem dX8_meets_11 : decode cX8_meets 11 = .ok (.getfield 41, 3) := by decide +kernel
theorem dX8_meets_14 : decode cX8_meets 14 = .ok (.iload_n 1, 1) := by decide +kernel
theorem dX8_meets_15 : decode cX8_meets 15 = .ok (.iaload, 1) := by decide +kernel
theorem dX8_meets_16 : decode cX8_meets 16 = .ok (.iconst 1, 1) := by decide +kernel
theorem dX8_meets_17 : decode cX8_meets 17 = .ok (.if_icmp .ne 15, 3) := by decide +kernel
theorem dX8_meets_20 : decode cX8_meets 20 = .ok (.aload_n 0, 1) := by decide +kernel
theorem dX8_meets_21 : decode cX8_meets 21 = .ok (.dup, 1) := by decide +kernel
theorem dX8_meets_22 : decode cX8_meets 22 = .ok (.getfield 268, 3) := by decide +kernel
theorem dX8_meets_25 : decode cX8_meets 25 = .ok (.iconst 1, 1) := by decide +kernel
theorem dX8_meets_26 : decode cX8_meets 26 = .ok (.iload_n 1, 1) := by decide +kernel
theorem dX8_meets_27 : decode cX8_meets 27 = .ok (.ishl, 1) := by decide +kernel
theorem dX8_meets_28 : decode cX8_meets 28 = .ok (.ior, 1) := by decide +kernel
theorem dX8_meets_29 : decode cX8_meets 29 = .ok (.putfield 268, 3) := by decide +kernel
theorem dX8_meets_32 : decode cX8_meets 32 = .ok (.iinc 1 1, 3) := by decide +kernel
theorem dX8_meets_35 : decode cX8_meets 35 = .ok (.goto (-33), 3) := by decide +kernel
theorem dX8_meets_38 : decode cX8_meets 38 = .ok (.return_, 1) := by decide +kernel
theorem dX8_evening_0 : decode cX8_evening 0 = .ok (.aload_n 0, 1) := by decide +kernel
theorem dX8_evening_1 : decode cX8_evening 1 = .ok (.iload_n 1, 1) := by decide +kernel
theorem dX8_evening_2 : decode cX8_evening 2 = .ok (.putfield 87, 3) := by decide +kernel
theorem dX8_evening_5 : decode cX8_evening 5 = .ok (.aload_n 0, 1) := by decide +kernel
theorem dX8_evening_6 : decode cX8_evening 6 = .ok (.iconst 0, 1) := by decide +kernel
theorem dX8_evening_7 : decode cX8_evening 7 = .ok (.putfield 268, 3) := by decide +kernel
theorem dX8_evening_10 : decode cX8_evening 10 = .ok (.aload_n 0, 1) := by decide +kernel
theorem dX8_evening_11 : decode cX8_evening 11 = .ok (.invokevirtual 271, 3) := by decide +kernel
theorem dX8_evening_14 : decode cX8_evening 14 = .ok (.iconst 0, 1) := by decide +kernel
theorem dX8_evening_15 : decode cX8_evening 15 = .ok (.istore_n 3, 1) := by decide +kernel
theorem dX8_evening_16 : decode cX8_evening 16 = .ok (.iload_n 3, 1) := by decide +kernel
theorem dX8_evening_17 : decode cX8_evening 17 = .ok (.iload_n 2, 1) := by decide +kernel
theorem dX8_evening_18 : decode cX8_evening 18 = .ok (.if_icmp .ge 27, 3) := by decide +kernel
theorem dX8_evening_21 : decode cX8_evening 21 = .ok (.aload_n 0, 1) := by decide +kernel
theorem dX8_evening_22 : decode cX8_evening 22 = .ok (.invokevirtual 247, 3) := by decide +kernel
theorem dX8_evening_25 : decode cX8_evening 25 = .ok (.aload_n 0, 1) := by decide +kernel
theorem dX8_evening_26 : decode cX8_evening 26 = .ok (.getfield 117, 3) := by decide +kernel
theorem dX8_evening_29 : decode cX8_evening 29 = .ok (.iload_n 3, 1) := by decide +kernel
theorem dX8_evening_30 : decode cX8_evening 30 = .ok (.aload_n 0, 1) := by decide +kernel
theorem dX8_evening_31 : decode cX8_evening 31 = .ok (.getfield 241, 3) := by decide +kernel
theorem dX8_evening_34 : decode cX8_evening 34 = .ok (.iastore, 1) := by decide +kernel
theorem dX8_evening_35 : decode cX8_evening 35 = .ok (.aload_n 0, 1) := by decide +kernel
theorem dX8_evening_36 : decode cX8_evening 36 = .ok (.invokevirtual 271, 3) := by decide +kernel
theorem dX8_evening_39 : decode cX8_evening 39 = .ok (.iinc 3 1, 3) := by decide +kernel
theorem dX8_evening_42 : decode cX8_evening 42 = .ok (.goto (-26), 3) := by decide +kernel
theorem dX8_evening_45 : decode cX8_evening 45 = .ok (.return_, 1) := by decide +kernel
theorem dX8_lengthOf_0 : decode cX8_lengthOf 0 = .ok (.iconst 0, 1) := by decide +kernel
theorem dX8_lengthOf_1 : decode cX8_lengthOf 1 = .ok (.istore_n 2, 1) := by decide +kernel
theorem dX8_lengthOf_2 : decode cX8_lengthOf 2 = .ok (.iload_n 2, 1) := by decide +kernel
theorem dX8_lengthOf_3 : decode cX8_lengthOf 3 = .ok (.iload_n 1, 1) := by decide +kernel
theorem dX8_lengthOf_4 : decode cX8_lengthOf 4 = .ok (.if_icmp .ge 18, 3) := by decide +kernel
theorem dX8_lengthOf_7 : decode cX8_lengthOf 7 = .ok (.aload_n 0, 1) := by decide +kernel
theorem dX8_lengthOf_8 : decode cX8_lengthOf 8 = .ok (.getfield 117, 3) := by decide +kernel
theorem dX8_lengthOf_11 : decode cX8_lengthOf 11 = .ok (.iload_n 2, 1) := by decide +kernel
theorem dX8_lengthOf_12 : decode cX8_lengthOf 12 = .ok (.iaload, 1) := by decide +kernel
theorem dX8_lengthOf_13 : decode cX8_lengthOf 13 = .ok (.ifCond .ne 9, 3) := by decide +kernel
theorem dX8_lengthOf_16 : decode cX8_lengthOf 16 = .ok (.iinc 2 1, 3) := by decide +kernel
theorem dX8_lengthOf_19 : decode cX8_lengthOf 19 = .ok (.goto (-17), 3) := by decide +kernel
theorem dX8_lengthOf_22 : decode cX8_lengthOf 22 = .ok (.iload_n 2, 1) := by decide +kernel
theorem dX8_lengthOf_23 : decode cX8_lengthOf 23 = .ok (.istore_n 3, 1) := by decide +kernel
theorem dX8_lengthOf_24 : decode cX8_lengthOf 24 = .ok (.iload_n 3, 1) := by decide +kernel
theorem dX8_lengthOf_25 : decode cX8_lengthOf 25 = .ok (.iload_n 1, 1) := by decide +kernel
theorem dX8_lengthOf_26 : decode cX8_lengthOf 26 = .ok (.if_icmp .ge 18, 3) := by decide +kernel
theorem dX8_lengthOf_29 : decode cX8_lengthOf 29 = .ok (.aload_n 0, 1) := by decide +kernel
theorem dX8_lengthOf_30 : decode cX8_lengthOf 30 = .ok (.getfield 117, 3) := by decide +kernel
theorem dX8_lengthOf_33 : decode cX8_lengthOf 33 = .ok (.iload_n 3, 1) := by decide +kernel
theorem dX8_lengthOf_34 : decode cX8_lengthOf 34 = .ok (.iaload, 1) := by decide +kernel
theorem dX8_lengthOf_35 : decode cX8_lengthOf 35 = .ok (.ifCond .le 9, 3) := by decide +kernel
theorem dX8_lengthOf_38 : decode cX8_lengthOf 38 = .ok (.iinc 3 1, 3) := by decide +kernel
theorem dX8_lengthOf_41 : decode cX8_lengthOf 41 = .ok (.goto (-17), 3) := by decide +kernel
theorem dX8_lengthOf_44 : decode cX8_lengthOf 44 = .ok (.iload_n 3, 1) := by decide +kernel
theorem dX8_lengthOf_45 : decode cX8_lengthOf 45 = .ok (.iload_n 2, 1) := by decide +kernel
theorem dX8_lengthOf_46 : decode cX8_lengthOf 46 = .ok (.isub, 1) := by decide +kernel
theorem dX8_lengthOf_47 : decode cX8_lengthOf 47 = .ok (.ireturn, 1) := by decide +kernel
theorem dX8_isTicks_0 : decode cX8_isTicks 0 = .ok (.iload_n 1, 1) := by decide +kernel
theorem dX8_isTicks_1 : decode cX8_isTicks 1 = .ok (.ifCond .lt 14, 3) := by decide +kernel
theorem dX8_isTicks_4 : decode cX8_isTicks 4 = .ok (.iload_n 1, 1) := by decide +kernel
theorem dX8_isTicks_5 : decode cX8_isTicks 5 = .ok (.sipush 200, 3) := by decide +kernel
theorem dX8_isTicks_8 : decode cX8_isTicks 8 = .ok (.if_icmp .gt 7, 3) := by decide +kernel
theorem dX8_isTicks_11 : decode cX8_isTicks 11 = .ok (.iconst 1, 1) := by decide +kernel
theorem dX8_isTicks_12 : decode cX8_isTicks 12 = .ok (.goto 4, 3) := by decide +kernel
theorem dX8_isTicks_15 : decode cX8_isTicks 15 = .ok (.iconst 0, 1) := by decide +kernel
theorem dX8_isTicks_16 : decode cX8_isTicks 16 = .ok (.ireturn, 1) := by decide +kernel
theorem dX8_whole_0 : decode cX8_whole 0 = .ok (.aload_n 0, 1) := by decide +kernel
theorem dX8_whole_1 : decode cX8_whole 1 = .ok (.invokevirtual 274, 3) := by decide +kernel
theorem dX8_whole_4 : decode cX8_whole 4 = .ok (.aload_n 0, 1) := by decide +kernel
theorem dX8_whole_5 : decode cX8_whole 5 = .ok (.iload_n 1, 1) := by decide +kernel
theorem dX8_whole_6 : decode cX8_whole 6 = .ok (.iload_n 2, 1) := by decide +kernel
theorem dX8_whole_7 : decode cX8_whole 7 = .ok (.invokevirtual 277, 3) := by decide +kernel
theorem dX8_whole_10 : decode cX8_whole 10 = .ok (.return_, 1) := by decide +kernel
theorem dX8_length_0 : decode cX8_length 0 = .ok (.aload_n 0, 1) := by decide +kernel
theorem dX8_length_1 : decode cX8_length 1 = .ok (.iload_n 1, 1) := by decide +kernel
theorem dX8_length_2 : decode cX8_length 2 = .ok (.invokevirtual 206, 3) := by decide +kernel
theorem dX8_length_5 : decode cX8_length 5 = .ok (.ifCond .ne 9, 3) := by decide +kernel
theorem dX8_length_8 : decode cX8_length 8 = .ok (.aload_n 0, 1) := by decide +kernel
theorem dX8_length_9 : decode cX8_length 9 = .ok (.iconst (-1), 1) := by decide +kernel
theorem dX8_length_10 : decode cX8_length 10 = .ok (.invokevirtual 142, 3) := by decide +kernel
theorem dX8_length_13 : decode cX8_length 13 = .ok (.ireturn, 1) := by decide +kernel
theorem dX8_length_14 : decode cX8_length 14 = .ok (.aload_n 0, 1) := by decide +kernel
theorem dX8_length_15 : decode cX8_length 15 = .ok (.iload_n 2, 1) := by decide +kernel
theorem dX8_length_16 : decode cX8_length 16 = .ok (.invokevirtual 281, 3) := by decide +kernel
theorem dX8_length_19 : decode cX8_length 19 = .ok (.ifCond .ne 10, 3) := by decide +kernel
theorem dX8_length_22 : decode cX8_length 22 = .ok (.aload_n 0, 1) := by decide +kernel
theorem dX8_length_23 : decode cX8_length 23 = .ok (.bipush (-6), 2) := by decide +kernel
theorem dX8_length_25 : decode cX8_length 25 = .ok (.invokevirtual 142, 3) := by decide +kernel
theorem dX8_length_28 : decode cX8_length 28 = .ok (.ireturn, 1) := by decide +kernel
theorem dX8_length_29 : decode cX8_length 29 = .ok (.aload_n 0, 1) := by decide +kernel
theorem dX8_length_30 : decode cX8_length 30 = .ok (.iload_n 1, 1) := by decide +kernel
theorem dX8_length_31 : decode cX8_length 31 = .ok (.iload_n 2, 1) := by decide +kernel
theorem dX8_length_32 : decode cX8_length 32 = .ok (.invokevirtual 284, 3) := by decide +kernel
theorem dX8_length_35 : decode cX8_length 35 = .ok (.aload_n 0, 1) := by decide +kernel
theorem dX8_length_36 : decode cX8_length 36 = .ok (.invokevirtual 287, 3) := by decide +kernel
theorem dX8_length_39 : decode cX8_length 39 = .ok (.aload_n 0, 1) := by decide +kernel
theorem dX8_length_40 : decode cX8_length 40 = .ok (.iload_n 2, 1) := by decide +kernel
theorem dX8_length_41 : decode cX8_length 41 = .ok (.invokevirtual 290, 3) := by decide +kernel
theorem dX8_length_44 : decode cX8_length 44 = .ok (.ireturn, 1) := by decide +kernel
theorem dX8_joined_0 : decode cX8_joined 0 = .ok (.aload_n 0, 1) := by decide +kernel
theorem dX8_joined_1 : decode cX8_joined 1 = .ok (.iload_n 1, 1) := by decide +kernel
theorem dX8_joined_2 : decode cX8_joined 2 = .ok (.invokevirtual 206, 3) := by decide +kernel
theorem dX8_joined_5 : decode cX8_joined 5 = .ok (.ifCond .ne 9, 3) := by decide +kernel
theorem dX8_joined_8 : decode cX8_joined 8 = .ok (.aload_n 0, 1) := by decide +kernel
theorem dX8_joined_9 : decode cX8_joined 9 = .ok (.iconst (-1), 1) := by decide +kernel
theorem dX8_joined_10 : decode cX8_joined 10 = .ok (.invokevirtual 142, 3) := by decide +kernel
theorem dX8_joined_13 : decode cX8_joined 13 = .ok (.ireturn, 1) := by decide +kernel
theorem dX8_joined_14 : decode cX8_joined 14 = .ok (.aload_n 0, 1) := by decide +kernel
theorem dX8_joined_15 : decode cX8_joined 15 = .ok (.iload_n 2, 1) := by decide +kernel
theorem dX8_joined_16 : decode cX8_joined 16 = .ok (.invokevirtual 281, 3) := by decide +kernel
theorem dX8_joined_19 : decode cX8_joined 19 = .ok (.ifCond .ne 10, 3) := by decide +kernel
theorem dX8_joined_22 : decode cX8_joined 22 = .ok (.aload_n 0, 1) := by decide +kernel
theorem dX8_joined_23 : decode cX8_joined 23 = .ok (.bipush (-6), 2) := by decide +kernel
theorem dX8_joined_25 : decode cX8_joined 25 = .ok (.invokevirtual 142, 3) := by decide +kernel
theorem dX8_joined_28 : decode cX8_joined 28 = .ok (.ireturn, 1) := by decide +kernel
theorem dX8_joined_29 : decode cX8_joined 29 = .ok (.aload_n 0, 1) := by decide +kernel
theorem dX8_joined_30 : decode cX8_joined 30 = .ok (.iload_n 1, 1) := by decide +kernel
theorem dX8_joined_31 : decode cX8_joined 31 = .ok (.iload_n 2, 1) := by decide +kernel
theorem dX8_joined_32 : decode cX8_joined 32 = .ok (.invokevirtual 284, 3) := by decide +kernel
theorem dX8_joined_35 : decode cX8_joined 35 = .ok (.aload_n 0, 1) := by decide +kernel
theorem dX8_joined_36 : decode cX8_joined 36 = .ok (.invokevirtual 287, 3) := by decide +kernel
theorem dX8_joined_39 : decode cX8_joined 39 = .ok (.aload_n 0, 1) := by decide +kernel
theorem dX8_joined_40 : decode cX8_joined 40 = .ok (.aload_n 0, 1) := by decide +kernel
theorem dX8_joined_41 : decode cX8_joined 41 = .ok (.getfield 268, 3) := by decide +kernel
theorem dX8_joined_44 : decode cX8_joined 44 = .ok (.invokevirtual 253, 3) := by decide +kernel
theorem dX8_joined_47 : decode cX8_joined 47 = .ok (.ireturn, 1) := by decide +kernel
theorem dX8_tally_0 : decode cX8_tally 0 = .ok (.aload_n 0, 1) := by decide +kernel
theorem dX8_tally_1 : decode cX8_tally 1 = .ok (.iload_n 1, 1) := by decide +kernel
theorem dX8_tally_2 : decode cX8_tally 2 = .ok (.invokevirtual 206, 3) := by decide +kernel
theorem dX8_tally_5 : decode cX8_tally 5 = .ok (.ifCond .eq 20, 3) := by decide +kernel
theorem dX8_tally_8 : decode cX8_tally 8 = .ok (.aload_n 0, 1) := by decide +kernel
theorem dX8_tally_9 : decode cX8_tally 9 = .ok (.iload_n 2, 1) := by decide +kernel
theorem dX8_tally_10 : decode cX8_tally 10 = .ok (.invokevirtual 281, 3) := by decide +kernel
theorem dX8_tally_13 : decode cX8_tally 13 = .ok (.ifCond .eq 12, 3) := by decide +kernel
theorem dX8_tally_16 : decode cX8_tally 16 = .ok (.iload_n 3, 1) := by decide +kernel
theorem dX8_tally_17 : decode cX8_tally 17 = .ok (.ifCond .lt 8, 3) := by decide +kernel
theorem dX8_tally_20 : decode cX8_tally 20 = .ok (.iload_n 3, 1) := by decide +kernel
theorem dX8_tally_21 : decode cX8_tally 21 = .ok (.iload_n 2, 1) := by decide +kernel
theorem dX8_tally_22 : decode cX8_tally 22 = .ok (.if_icmp .lt 10, 3) := by decide +kernel
theorem dX8_tally_25 : decode cX8_tally 25 = .ok (.aload_n 0, 1) := by decide +kernel
theorem dX8_tally_26 : decode cX8_tally 26 = .ok (.bipush (-5), 2) := by decide +kernel
theorem dX8_tally_28 : decode cX8_tally 28 = .ok (.invokevirtual 142, 3) := by decide +kernel
theorem dX8_tally_31 : decode cX8_tally 31 = .ok (.ireturn, 1) := by decide +kernel
theorem dX8_tally_32 : decode cX8_tally 32 = .ok (.aload_n 0, 1) := by decide +kernel
theorem dX8_tally_33 : decode cX8_tally 33 = .ok (.iload_n 1, 1) := by decide +kernel
theorem dX8_tally_34 : decode cX8_tally 34 = .ok (.iload_n 3, 1) := by decide +kernel
theorem dX8_tally_35 : decode cX8_tally 35 = .ok (.iconst 1, 1) := by decide +kernel
theorem dX8_tally_36 : decode cX8_tally 36 = .ok (.iadd, 1) := by decide +kernel
theorem dX8_tally_37 : decode cX8_tally 37 = .ok (.invokevirtual 284, 3) := by decide +kernel
theorem dX8_tally_40 : decode cX8_tally 40 = .ok (.aload_n 0, 1) := by decide +kernel
theorem dX8_tally_41 : decode cX8_tally 41 = .ok (.invokevirtual 287, 3) := by decide +kernel
theorem dX8_tally_44 : decode cX8_tally 44 = .ok (.aload_n 0, 1) := by decide +kernel
theorem dX8_tally_45 : decode cX8_tally 45 = .ok (.getfield 117, 3) := by decide +kernel
theorem dX8_tally_48 : decode cX8_tally 48 = .ok (.iload_n 3, 1) := by decide +kernel
theorem dX8_tally_49 : decode cX8_tally 49 = .ok (.iaload, 1) := by decide +kernel
theorem dX8_tally_50 : decode cX8_tally 50 = .ok (.ireturn, 1) := by decide +kernel
theorem dX8_grows_0 : decode cX8_grows 0 = .ok (.aload_n 0, 1) := by decide +kernel
theorem dX8_grows_1 : decode cX8_grows 1 = .ok (.iload_n 1, 1) := by decide +kernel
theorem dX8_grows_2 : decode cX8_grows 2 = .ok (.invokevirtual 146, 3) := by decide +kernel
theorem dX8_grows_5 : decode cX8_grows 5 = .ok (.ifCond .ne 9, 3) := by decide +kernel
theorem dX8_grows_8 : decode cX8_grows 8 = .ok (.aload_n 0, 1) := by decide +kernel
theorem dX8_grows_9 : decode cX8_grows 9 = .ok (.iconst (-1), 1) := by decide +kernel
theorem dX8_grows_10 : decode cX8_grows 10 = .ok (.invokevirtual 142, 3) := by decide +kernel
theorem dX8_grows_13 : decode cX8_grows 13 = .ok (.ireturn, 1) := by decide +kernel
theorem dX8_grows_14 : decode cX8_grows 14 = .ok (.aload_n 0, 1) := by decide +kernel
theorem dX8_grows_15 : decode cX8_grows 15 = .ok (.invokevirtual 274, 3) := by decide +kernel
theorem dX8_grows_18 : decode cX8_grows 18 = .ok (.aload_n 0, 1) := by decide +kernel
theorem dX8_grows_19 : decode cX8_grows 19 = .ok (.invokevirtual 250, 3) := by decide +kernel
theorem dX8_grows_22 : decode cX8_grows 22 = .ok (.aload_n 0, 1) := by decide +kernel
theorem dX8_grows_23 : decode cX8_grows 23 = .ok (.getfield 41, 3) := by decide +kernel
theorem dX8_grows_26 : decode cX8_grows 26 = .ok (.iload_n 1, 1) := by decide +kernel
theorem dX8_grows_27 : decode cX8_grows 27 = .ok (.iconst 1, 1) := by decide +kernel
theorem dX8_grows_28 : decode cX8_grows 28 = .ok (.iastore, 1) := by decide +kernel
theorem dX8_grows_29 : decode cX8_grows 29 = .ok (.aload_n 0, 1) := by decide +kernel
theorem dX8_grows_30 : decode cX8_grows 30 = .ok (.iconst 1, 1) := by decide +kernel
theorem dX8_grows_31 : decode cX8_grows 31 = .ok (.putfield 219, 3) := by decide +kernel
theorem dX8_grows_34 : decode cX8_grows 34 = .ok (.aload_n 0, 1) := by decide +kernel
theorem dX8_grows_35 : decode cX8_grows 35 = .ok (.aload_n 0, 1) := by decide +kernel
theorem dX8_grows_36 : decode cX8_grows 36 = .ok (.getfield 13, 3) := by decide +kernel
theorem dX8_grows_39 : decode cX8_grows 39 = .ok (.bipush 100, 2) := by decide +kernel
theorem dX8_grows_41 : decode cX8_grows 41 = .ok (.invokevirtual 277, 3) := by decide +kernel
theorem dX8_grows_44 : decode cX8_grows 44 = .ok (.aload_n 0, 1) := by decide +kernel
theorem dX8_grows_45 : decode cX8_grows 45 = .ok (.iconst 0, 1) := by decide +kernel
theorem dX8_grows_46 : decode cX8_grows 46 = .ok (.putfield 219, 3) := by decide +kernel
theorem dX8_grows_49 : decode cX8_grows 49 = .ok (.aload_n 0, 1) := by decide +kernel
theorem dX8_grows_50 : decode cX8_grows 50 = .ok (.invokevirtual 287, 3) := by decide +kernel
theorem dX8_grows_53 : decode cX8_grows 53 = .ok (.aload_n 0, 1) := by decide +kernel
theorem dX8_grows_54 : decode cX8_grows 54 = .ok (.aload_n 0, 1) := by decide +kernel
theorem dX8_grows_55 : decode cX8_grows 55 = .ok (.getfield 268, 3) := by decide +kernel
theorem dX8_grows_58 : decode cX8_grows 58 = .ok (.invokevirtual 253, 3) := by decide +kernel
theorem dX8_grows_61 : decode cX8_grows 61 = .ok (.iconst 1, 1) := by decide +kernel
theorem dX8_grows_62 : decode cX8_grows 62 = .ok (.isub, 1) := by decide +kernel
theorem dX8_grows_63 : decode cX8_grows 63 = .ok (.ireturn, 1) := by decide +kernel
theorem dX8_asked_0 : decode cX8_asked 0 = .ok (.aload_n 0, 1) := by decide +kernel
theorem dX8_asked_1 : decode cX8_asked 1 = .ok (.invokevirtual 274, 3) := by decide +kernel
theorem dX8_asked_4 : decode cX8_asked 4 = .ok (.iload_n 1, 1) := by decide +kernel
theorem dX8_asked_5 : decode cX8_asked 5 = .ok (.iconst (-1), 1) := by decide +kernel
theorem dX8_asked_6 : decode cX8_asked 6 = .ok (.if_icmp .eq 17, 3) := by decide +kernel
theorem dX8_asked_9 : decode cX8_asked 9 = .ok (.aload_n 0, 1) := by decide +kernel
theorem dX8_asked_10 : decode cX8_asked 10 = .ok (.getfield 41, 3) := by decide +kernel
theorem dX8_asked_13 : decode cX8_asked 13 = .ok (.iload_n 1, 1) := by decide +kernel
theorem dX8_asked_14 : decode cX8_asked 14 = .ok (.iconst 1, 1) := by decide +kernel
theorem dX8_asked_15 : decode cX8_asked 15 = .ok (.iastore, 1) := by decide +kernel
theorem dX8_asked_16 : decode cX8_asked 16 = .ok (.aload_n 0, 1) := by decide +kernel
theorem dX8_asked_17 : decode cX8_asked 17 = .ok (.getfield 44, 3) := by decide +kernel
theorem dX8_asked_20 : decode cX8_asked 20 = .ok (.iload_n 1, 1) := by decide +kernel
theorem dX8_asked_21 : decode cX8_asked 21 = .ok (.iconst 0, 1) := by decide +kernel
theorem dX8_asked_22 : decode cX8_asked 22 = .ok (.iastore, 1) := by decide +kernel
theorem dX8_asked_23 : decode cX8_asked 23 = .ok (.iload_n 2, 1) := by decide +kernel
theorem dX8_asked_24 : decode cX8_asked 24 = .ok (.iconst (-1), 1) := by decide +kernel
theorem dX8_asked_25 : decode cX8_asked 25 = .ok (.if_icmp .eq 17, 3) := by decide +kernel
theorem dX8_asked_28 : decode cX8_asked 28 = .ok (.aload_n 0, 1) := by decide +kernel
theorem dX8_asked_29 : decode cX8_asked 29 = .ok (.getfield 41, 3) := by decide +kernel
theorem dX8_asked_32 : decode cX8_asked 32 = .ok (.iload_n 2, 1) := by decide +kernel
theorem dX8_asked_33 : decode cX8_asked 33 = .ok (.iconst 1, 1) := by decide +kernel
theorem dX8_asked_34 : decode cX8_asked 34 = .ok (.iastore, 1) := by decide +kernel
theorem dX8_asked_35 : decode cX8_asked 35 = .ok (.aload_n 0, 1) := by decide +kernel
theorem dX8_asked_36 : decode cX8_asked 36 = .ok (.getfield 44, 3) := by decide +kernel
theorem dX8_asked_39 : decode cX8_asked 39 = .ok (.iload_n 2, 1) := by decide +kernel
theorem dX8_asked_40 : decode cX8_asked 40 = .ok (.iconst 0, 1) := by decide +kernel
theorem dX8_asked_41 : decode cX8_asked 41 = .ok (.iastore, 1) := by decide +kernel
theorem dX8_asked_42 : decode cX8_asked 42 = .ok (.aload_n 0, 1) := by decide +kernel
theorem dX8_asked_43 : decode cX8_asked 43 = .ok (.aload_n 0, 1) := by decide +kernel
theorem dX8_asked_44 : decode cX8_asked 44 = .ok (.getfield 13, 3) := by decide +kernel
theorem dX8_asked_47 : decode cX8_asked 47 = .ok (.bipush 60, 2) := by decide +kernel
theorem dX8_asked_49 : decode cX8_asked 49 = .ok (.invokevirtual 277, 3) := by decide +kernel
theorem dX8_asked_52 : decode cX8_asked 52 = .ok (.aload_n 0, 1) := by decide +kernel
theorem dX8_asked_53 : decode cX8_asked 53 = .ok (.invokevirtual 287, 3) := by decide +kernel
theorem dX8_asked_56 : decode cX8_asked 56 = .ok (.aload_n 0, 1) := by decide +kernel
theorem dX8_asked_57 : decode cX8_asked 57 = .ok (.aload_n 0, 1) := by decide +kernel
theorem dX8_asked_58 : decode cX8_asked 58 = .ok (.getfield 268, 3) := by decide +kernel
theorem dX8_asked_61 : decode cX8_asked 61 = .ok (.invokevirtual 253, 3) := by decide +kernel
theorem dX8_asked_64 : decode cX8_asked 64 = .ok (.ireturn, 1) := by decide +kernel
theorem dX8_few_0 : decode cX8_few 0 = .ok (.iload_n 1, 1) := by decide +kernel
theorem dX8_few_1 : decode cX8_few 1 = .ok (.iconst 1, 1) := by decide +kernel
theorem dX8_few_2 : decode cX8_few 2 = .ok (.if_icmp .lt 9, 3) := by decide +kernel
theorem dX8_few_5 : decode cX8_few 5 = .ok (.iload_n 1, 1) := by decide +kernel
theorem dX8_few_6 : decode cX8_few 6 = .ok (.bipush 30, 2) := by decide +kernel
theorem dX8_few_8 : decode cX8_few 8 = .ok (.if_icmp .le 10, 3) := by decide +kernel
theorem dX8_few_11 : decode cX8_few 11 = .ok (.aload_n 0, 1) := by decide +kernel
theorem dX8_few_12 : decode cX8_few 12 = .ok (.bipush (-6), 2) := by decide +kernel
theorem dX8_few_14 : decode cX8_few 14 = .ok (.invokevirtual 142, 3) := by decide +kernel
theorem dX8_few_17 : decode cX8_few 17 = .ok (.ireturn, 1) := by decide +kernel
theorem dX8_few_18 : decode cX8_few 18 = .ok (.aload_n 0, 1) := by decide +kernel
theorem dX8_few_19 : decode cX8_few 19 = .ok (.iconst (-1), 1) := by decide +kernel
theorem dX8_few_20 : decode cX8_few 20 = .ok (.iconst (-1), 1) := by decide +kernel
theorem dX8_few_21 : decode cX8_few 21 = .ok (.invokevirtual 293, 3) := by decide +kernel
theorem dX8_few_24 : decode cX8_few 24 = .ok (.iload_n 1, 1) := by decide +kernel
theorem dX8_few_25 : decode cX8_few 25 = .ok (.if_icmp .lt 5, 3) := by decide +kernel
theorem dX8_few_28 : decode cX8_few 28 = .ok (.iconst 0, 1) := by decide +kernel
theorem dX8_few_29 : decode cX8_few 29 = .ok (.ireturn, 1) := by decide +kernel
theorem dX8_few_30 : decode cX8_few 30 = .ok (.iconst 0, 1) := by decide +kernel
theorem dX8_few_31 : decode cX8_few 31 = .ok (.istore_n 2, 1) := by decide +kernel
theorem dX8_few_32 : decode cX8_few 32 = .ok (.iload_n 2, 1) := by decide +kernel
theorem dX8_few_33 : decode cX8_few 33 = .ok (.aload_n 0, 1) := by decide +kernel
theorem dX8_few_34 : decode cX8_few 34 = .ok (.getfield 132, 3) := by decide +kernel
theorem dX8_few_37 : decode cX8_few 37 = .ok (.if_icmp .ge 32, 3) := by decide +kernel
theorem dX8_few_40 : decode cX8_few 40 = .ok (.aload_n 0, 1) := by decide +kernel
theorem dX8_few_41 : decode cX8_few 41 = .ok (.getfield 41, 3) := by decide +kernel
theorem dX8_few_44 : decode cX8_few 44 = .ok (.iload_n 2, 1) := by decide +kernel
theorem dX8_few_45 : decode cX8_few 45 = .ok (.iaload, 1) := by decide +kernel
theorem dX8_few_46 : decode cX8_few 46 = .ok (.ifCond .ne 17, 3) := by decide +kernel
theorem dX8_few_49 : decode cX8_few 49 = .ok (.aload_n 0, 1) := by decide +kernel
theorem dX8_few_50 : decode cX8_few 50 = .ok (.iload_n 2, 1) := by decide +kernel
theorem dX8_few_51 : decode cX8_few 51 = .ok (.iconst (-1), 1) := by decide +kernel
theorem dX8_few_52 : decode cX8_few 52 = .ok (.invokevirtual 293, 3) := by decide +kernel
theorem dX8_few_55 : decode cX8_few 55 = .ok (.iload_n 1, 1) := by decide +kernel
theorem dX8_few_56 : decode cX8_few 56 = .ok (.if_icmp .lt 7, 3) := by decide +kernel
theorem dX8_few_59 : decode cX8_few 59 = .ok (.iconst 1, 1) := by decide +kernel
theorem dX8_few_60 : decode cX8_few 60 = .ok (.iload_n 2, 1) := by decide +kernel
theorem dX8_few_61 : decode cX8_few 61 = .ok (.ishl, 1) := by decide +kernel
theorem dX8_few_62 : decode cX8_few 62 = .ok (.ireturn, 1) := by decide +kernel
theorem dX8_few_63 : decode cX8_few 63 = .ok (.iinc 2 1, 3) := by decide +kernel
theorem dX8_few_66 : decode cX8_few 66 = .ok (.goto (-34), 3) := by decide +kernel
theorem dX8_few_69 : decode cX8_few 69 = .ok (.iconst 0, 1) := by decide +kernel
theorem dX8_few_70 : decode cX8_few 70 = .ok (.istore_n 2, 1) := by decide +kernel
theorem dX8_few_71 : decode cX8_few 71 = .ok (.iload_n 2, 1) := by decide +kernel
theorem dX8_few_72 : decode cX8_few 72 = .ok (.aload_n 0, 1) := by decide +kernel
theorem dX8_few_73 : decode cX8_few 73 = .ok (.getfield 132, 3) := by decide +kernel
theorem dX8_few_76 : decode cX8_few 76 = .ok (.if_icmp .ge 58, 3) := by decide +kernel
theorem dX8_few_79 : decode cX8_few 79 = .ok (.iconst 0, 1) := by decide +kernel
theorem dX8_few_80 : decode cX8_few 80 = .ok (.istore_n 3, 1) := by decide +kernel
theorem dX8_few_81 : decode cX8_few 81 = .ok (.iload_n 3, 1) := by decide +kernel
theorem dX8_few_82 : decode cX8_few 82 = .ok (.iload_n 2, 1) := by decide +kernel
theorem dX8_few_83 : decode cX8_few 83 = .ok (.if_icmp .ge 45, 3) := by decide +kernel
theorem dX8_few_86 : decode cX8_few 86 = .ok (.aload_n 0, 1) := by decide +kernel
theorem dX8_few_87 : decode cX8_few 87 = .ok (.getfield 41, 3) := by decide +kernel
theorem dX8_few_90 : decode cX8_few 90 = .ok (.iload_n 3, 1) := by decide +kernel
theorem dX8_few_91 : decode cX8_few 91 = .ok (.iaload, 1) := by decide +kernel
theorem dX8_few_92 : decode cX8_few 92 = .ok (.ifCond .ne 30, 3) := by decide +kernel
theorem dX8_few_95 : decode cX8_few 95 = .ok (.aload_n 0, 1) := by decide +kernel
theorem dX8_few_96 : decode cX8_few 96 = .ok (.getfield 41, 3) := by decide +kernel
theorem dX8_few_99 : decode cX8_few 99 = .ok (.iload_n 2, 1) := by decide +kernel
theorem dX8_few_100 : decode cX8_few 100 = .ok (.iaload, 1) := by decide +kernel
theorem dX8_few_101 : decode cX8_few 101 = .ok (.ifCond .ne 21, 3) := by decide +kernel
theorem dX8_few_104 : decode cX8_few 104 = .ok (.aload_n 0, 1) := by decide +kernel
theorem dX8_few_105 : decode cX8_few 105 = .ok (.iload_n 3, 1) := by decide +kernel
theorem dX8_few_106 : decode cX8_few 106 = .ok (.iload_n 2, 1) := by decide +kernel
theorem dX8_few_107 : decode cX8_few 107 = .ok (.invokevirtual 293, 3) := by decide +kernel
theorem dX8_few_110 : decode cX8_few 110 = .ok (.iload_n 1, 1) := by decide +kernel
theorem dX8_few_111 : decode cX8_few 111 = .ok (.if_icmp .lt 11, 3) := by decide +kernel
theorem dX8_few_114 : decode cX8_few 114 = .ok (.iconst 1, 1) := by decide +kernel
theorem dX8_few_115 : decode cX8_few 115 = .ok (.iload_n 3, 1) := by decide +kernel
theorem dX8_few_116 : decode cX8_few 116 = .ok (.ishl, 1) := by decide +kernel
theorem dX8_few_117 : decode cX8_few 117 = .ok (.iconst 1, 1) := by decide +kernel
theorem dX8_few_118 : decode cX8_few 118 = .ok (.iload_n 2, 1) := by decide +kernel
theorem dX8_few_119 : decode cX8_few 119 = .ok (.ishl, 1) := by decide +kernel
theorem dX8_few_120 : decode cX8_few 120 = .ok (.ior, 1) := by decide +kernel
theorem dX8_few_121 : decode cX8_few 121 = .ok (.ireturn, 1) := by decide +kernel
theorem dX8_few_122 : decode cX8_few 122 = .ok (.iinc 3 1, 3) := by decide +kernel
theorem dX8_few_125 : decode cX8_few 125 = .ok (.goto (-44), 3) := by decide +kernel
theorem dX8_few_128 : decode cX8_few 128 = .ok (.iinc 2 1, 3) := by decide +kernel
theorem dX8_few_131 : decode cX8_few 131 = .ok (.goto (-60), 3) := by decide +kernel
theorem dX8_few_134 : decode cX8_few 134 = .ok (.aload_n 0, 1) := by decide +kernel
theorem dX8_few_135 : decode cX8_few 135 = .ok (.bipush (-5), 2) := by decide +kernel
theorem dX8_few_137 : decode cX8_few 137 = .ok (.invokevirtual 142, 3) := by decide +kernel
theorem dX8_few_140 : decode cX8_few 140 = .ok (.ireturn, 1) := by decide +kernel
theorem dX8_front_0 : decode cX8_front 0 = .ok (.aload_n 0, 1) := by decide +kernel
theorem dX8_front_1 : decode cX8_front 1 = .ok (.iload_n 1, 1) := by decide +kernel
theorem dX8_front_2 : decode cX8_front 2 = .ok (.invokevirtual 206, 3) := by decide +kernel
theorem dX8_front_5 : decode cX8_front 5 = .ok (.ifCond .ne 9, 3) := by decide +kernel
theorem dX8_front_8 : decode cX8_front 8 = .ok (.aload_n 0, 1) := by decide +kernel
theorem dX8_front_9 : decode cX8_front 9 = .ok (.iconst (-1), 1) := by decide +kernel
theorem dX8_front_10 : decode cX8_front 10 = .ok (.invokevirtual 209, 3) := by decide +kernel
theorem dX8_front_13 : decode cX8_front 13 = .ok (.ireturn, 1) := by decide +kernel
theorem dX8_front_14 : decode cX8_front 14 = .ok (.aload_n 0, 1) := by decide +kernel
theorem dX8_front_15 : decode cX8_front 15 = .ok (.iload_n 1, 1) := by decide +kernel
theorem dX8_front_16 : decode cX8_front 16 = .ok (.bipush 60, 2) := by decide +kernel
theorem dX8_front_18 : decode cX8_front 18 = .ok (.invokevirtual 284, 3) := by decide +kernel
theorem dX8_front_21 : decode cX8_front 21 = .ok (.iconst (-1), 1) := by decide +kernel
theorem dX8_front_22 : decode cX8_front 22 = .ok (.istore_n 2, 1) := by decide +kernel
theorem dX8_front_23 : decode cX8_front 23 = .ok (.iconst 0, 1) := by decide +kernel
theorem dX8_front_24 : decode cX8_front 24 = .ok (.istore_n 3, 1) := by decide +kernel
theorem dX8_front_25 : decode cX8_front 25 = .ok (.iload_n 3, 1) := by decide +kernel
theorem dX8_front_26 : decode cX8_front 26 = .ok (.aload_n 0, 1) := by decide +kernel
theorem dX8_front_27 : decode cX8_front 27 = .ok (.getfield 132, 3) := by decide +kernel
theorem dX8_front_30 : decode cX8_front 30 = .ok (.if_icmp .ge 47, 3) := by decide +kernel
theorem dX8_front_33 : decode cX8_front 33 = .ok (.aload_n 0, 1) := by decide +kernel
theorem dX8_front_34 : decode cX8_front 34 = .ok (.getfield 47, 3) := by decide +kernel
theorem dX8_front_37 : decode cX8_front 37 = .ok (.iload_n 3, 1) := by decide +kernel
theorem dX8_front_38 : decode cX8_front 38 = .ok (.iaload, 1) := by decide +kernel
theorem dX8_front_39 : decode cX8_front 39 = .ok (.iconst 1, 1) := by decide +kernel
theorem dX8_front_40 : decode cX8_front 40 = .ok (.if_icmp .ne 31, 3) := by decide +kernel
theorem dX8_front_43 : decode cX8_front 43 = .ok (.iload_n 2, 1) := by decide +kernel
theorem dX8_front_44 : decode cX8_front 44 = .ok (.iconst (-1), 1) := by decide +kernel
theorem dX8_front_45 : decode cX8_front 45 = .ok (.if_icmp .eq 16, 3) := by decide +kernel
theorem dX8_front_48 : decode cX8_front 48 = .ok (.aload_n 0, 1) := by decide +kernel
theorem dX8_front_49 : decode cX8_front 49 = .ok (.getfield 26, 3) := by decide +kernel
theorem dX8_front_52 : decode cX8_front 52 = .ok (.iload_n 3, 1) := by decide +kernel
theorem dX8_front_53 : decode cX8_front 53 = .ok (.iaload, 1) := by decide +kernel
theorem dX8_front_54 : decode cX8_front 54 = .ok (.bipush 8, 2) := by decide +kernel
theorem dX8_front_56 : decode cX8_front 56 = .ok (.idiv, 1) := by decide +kernel
theorem dX8_front_57 : decode cX8_front 57 = .ok (.iload_n 2, 1) := by decide +kernel
theorem dX8_front_58 : decode cX8_front 58 = .ok (.if_icmp .ge 13, 3) := by decide +kernel
theorem dX8_front_61 : decode cX8_front 61 = .ok (.aload_n 0, 1) := by decide +kernel
theorem dX8_front_62 : decode cX8_front 62 = .ok (.getfield 26, 3) := by decide +kernel
theorem dX8_front_65 : decode cX8_front 65 = .ok (.iload_n 3, 1) := by decide +kernel
theorem dX8_front_66 : decode cX8_front 66 = .ok (.iaload, 1) := by decide +kernel
theorem dX8_front_67 : decode cX8_front 67 = .ok (.bipush 8, 2) := by decide +kernel
theorem dX8_front_69 : decode cX8_front 69 = .ok (.idiv, 1) := by decide +kernel
theorem dX8_front_70 : decode cX8_front 70 = .ok (.istore_n 2, 1) := by decide +kernel
theorem dX8_front_71 : decode cX8_front 71 = .ok (.iinc 3 1, 3) := by decide +kernel
theorem dX8_front_74 : decode cX8_front 74 = .ok (.goto (-49), 3) := by decide +kernel
theorem dX8_front_77 : decode cX8_front 77 = .ok (.aload_n 0, 1) := by decide +kernel
theorem dX8_front_78 : decode cX8_front 78 = .ok (.invokevirtual 287, 3) := by decide +kernel
theorem dX8_front_81 : decode cX8_front 81 = .ok (.iload_n 2, 1) := by decide +kernel
theorem dX8_front_82 : decode cX8_front 82 = .ok (.ireturn, 1) := by decide +kernel
theorem dX8_micro_0 : decode cX8_micro 0 = .ok (.aload_n 0, 1) := by decide +kernel
theorem dX8_micro_1 : decode cX8_micro 1 = .ok (.iload_n 1, 1) := by decide +kernel
theorem dX8_micro_2 : decode cX8_micro 2 = .ok (.invokevirtual 155, 3) := by decide +kernel
theorem dX8_micro_5 : decode cX8_micro 5 = .ok (.ifCond .ne 9, 3) := by decide +kernel
theorem dX8_micro_8 : decode cX8_micro 8 = .ok (.aload_n 0, 1) := by decide +kernel
theorem dX8_micro_9 : decode cX8_micro 9 = .ok (.iconst (-1), 1) := by decide +kernel
theorem dX8_micro_10 : decode cX8_micro 10 = .ok (.invokevirtual 142, 3) := by decide +kernel
theorem dX8_micro_13 : decode cX8_micro 13 = .ok (.ireturn, 1) := by decide +kernel
theorem dX8_micro_14 : decode cX8_micro 14 = .ok (.aload_n 0, 1) := by decide +kernel
theorem dX8_micro_15 : decode cX8_micro 15 = .ok (.getfield 296, 3) := by decide +kernel
theorem dX8_micro_18 : decode cX8_micro 18 = .ok (.bipush 8, 2) := by decide +kernel
theorem dX8_micro_20 : decode cX8_micro 20 = .ok (.if_icmp .ne 10, 3) := by decide +kernel
theorem dX8_micro_23 : decode cX8_micro 23 = .ok (.aload_n 0, 1) := by decide +kernel
theorem dX8_micro_24 : decode cX8_micro 24 = .ok (.bipush (-7), 2) := by decide +kernel
theorem dX8_micro_26 : decode cX8_micro 26 = .ok (.invokevirtual 142, 3) := by decide +kernel
theorem dX8_micro_29 : decode cX8_micro 29 = .ok (.ireturn, 1) := by decide +kernel
theorem dX8_micro_30 : decode cX8_micro 30 = .ok (.aload_n 0, 1) := by decide +kernel
theorem dX8_micro_31 : decode cX8_micro 31 = .ok (.getfield 53, 3) := by decide +kernel
theorem dX8_micro_34 : decode cX8_micro 34 = .ok (.aload_n 0, 1) := by decide +kernel
theorem dX8_micro_35 : decode cX8_micro 35 = .ok (.getfield 296, 3) := by decide +kernel
theorem dX8_micro_38 : decode cX8_micro 38 = .ok (.iload_n 1, 1) := by decide +kernel
theorem dX8_micro_39 : decode cX8_micro 39 = .ok (.iastore, 1) := by decide +kernel
theorem dX8_micro_40 : decode cX8_micro 40 = .ok (.aload_n 0, 1) := by decide +kernel
theorem dX8_micro_41 : decode cX8_micro 41 = .ok (.dup, 1) := by decide +kernel
theorem dX8_micro_42 : decode cX8_micro 42 = .ok (.getfield 296, 3) := by decide +kernel
theorem dX8_micro_45 : decode cX8_micro 45 = .ok (.dup_x1, 1) := by decide +kernel
theorem dX8_micro_46 : decode cX8_micro 46 = .ok (.iconst 1, 1) := by decide +kernel
theorem dX8_micro_47 : decode cX8_micro 47 = .ok (.iadd, 1) := by decide +kernel
theorem dX8_micro_48 : decode cX8_micro 48 = .ok (.putfield 296, 3) := by decide +kernel
theorem dX8_micro_51 : decode cX8_micro 51 = .ok (.ireturn, 1) := by decide +kernel
theorem dX8_takes_0 : decode cX8_takes 0 = .ok (.iconst 0, 1) := by decide +kernel
theorem dX8_takes_1 : decode cX8_takes 1 = .ok (.istore_n 3, 1) := by decide +kernel
theorem dX8_takes_2 : decode cX8_takes 2 = .ok (.iconst 0, 1) := by decide +kernel
theorem dX8_takes_3 : decode cX8_takes 3 = .ok (.istore 4, 2) := by decide +kernel
theorem dX8_takes_5 : decode cX8_takes 5 = .ok (.iload 4, 2) := by decide +kernel
theorem dX8_takes_7 : decode cX8_takes 7 = .ok (.aload_n 0, 1) := by decide +kernel
theorem dX8_takes_8 : decode cX8_takes 8 = .ok (.getfield 132, 3) := by decide +kernel
theorem dX8_takes_11 : decode cX8_takes 11 = .ok (.if_icmp .ge 62, 3) := by decide +kernel
theorem dX8_takes_14 : decode cX8_takes 14 = .ok (.aload_n 0, 1) := by decide +kernel
theorem dX8_takes_15 : decode cX8_takes 15 = .ok (.getfield 235, 3) := by decide +kernel
theorem dX8_takes_18 : decode cX8_takes 18 = .ok (.iload 4, 2) := by decide +kernel
theorem dX8_takes_20 : decode cX8_takes 20 = .ok (.ishr, 1) := by decide +kernel
theorem dX8_takes_21 : decode cX8_takes 21 = .ok (.iconst 1, 1) := by decide +kernel
theorem dX8_takes_22 : decode cX8_takes 22 = .ok (.iand, 1) := by decide +kernel
theorem dX8_takes_23 : decode cX8_takes 23 = .ok (.iconst 1, 1) := by decide +kernel
theorem dX8_takes_24 : decode cX8_takes 24 = .ok (.if_icmp .ne 43, 3) := by decide +kernel
theorem dX8_takes_27 : decode cX8_takes 27 = .ok (.iload_n 2, 1) := by decide +kernel
theorem dX8_takes_28 : decode cX8_takes 28 = .ok (.ifCond .eq 14, 3) := by decide +kernel
theorem dX8_takes_31 : decode cX8_takes 31 = .ok (.aload_n 0, 1) := by decide +kernel
theorem dX8_takes_32 : decode cX8_takes 32 = .ok (.getfield 50, 3) := by decide +kernel
theorem dX8_takes_35 : decode cX8_takes 35 = .ok (.iload 4, 2) := by decide +kernel
theorem dX8_takes_37 : decode cX8_takes 37 = .ok (.iaload, 1) := by decide +kernel
theorem dX8_takes_38 : decode cX8_takes 38 = .ok (.iconst 1, 1) := by decide +kernel
theorem dX8_takes_39 : decode cX8_takes 39 = .ok (.if_icmp .ne 28, 3) := by decide +kernel
theorem dX8_takes_42 : decode cX8_takes 42 = .ok (.iload_n 3, 1) := by decide +kernel
theorem dX8_takes_43 : decode cX8_takes 43 = .ok (.bipush 12, 2) := by decide +kernel
theorem dX8_takes_45 : decode cX8_takes 45 = .ok (.iconst 1, 1) := by decide +kernel
theorem dX8_takes_46 : decode cX8_takes 46 = .ok (.aload_n 0, 1) := by decide +kernel
theorem dX8_takes_47 : decode cX8_takes 47 = .ok (.aload_n 0, 1) := by decide +kernel
theorem dX8_takes_48 : decode cX8_takes 48 = .ok (.getfield 53, 3) := by decide +kernel
theorem dX8_takes_51 : decode cX8_takes 51 = .ok (.iload_n 1, 1) := by decide +kernel
theorem dX8_takes_52 : decode cX8_takes 52 = .ok (.iaload, 1) := by decide +kernel
theorem dX8_takes_53 : decode cX8_takes 53 = .ok (.aload_n 0, 1) := by decide +kernel
theorem dX8_takes_54 : decode cX8_takes 54 = .ok (.getfield 26, 3) := by decide +kernel
theorem dX8_takes_57 : decode cX8_takes 57 = .ok (.iload 4, 2) := by decide +kernel
theorem dX8_takes_59 : decode cX8_takes 59 = .ok (.iaload, 1) := by decide +kernel
theorem dX8_takes_60 : decode cX8_takes 60 = .ok (.invokevirtual 213, 3) := by decide +kernel
theorem dX8_takes_63 : decode cX8_takes 63 = .ok (.iadd, 1) := by decide +kernel
theorem dX8_takes_64 : decode cX8_takes 64 = .ok (.idiv, 1) := by decide +kernel
theorem dX8_takes_65 : decode cX8_takes 65 = .ok (.iadd, 1) := by decide +kernel
theorem dX8_takes_66 : decode cX8_takes 66 = .ok (.istore_n 3, 1) := by decide +kernel
theorem dX8_takes_67 : decode cX8_takes 67 = .ok (.iinc 4 1, 3) := by decide +kernel
theorem dX8_takes_70 : decode cX8_takes 70 = .ok (.goto (-65), 3) := by decide +kernel
theorem dX8_takes_73 : decode cX8_takes 73 = .ok (.iload_n 3, 1) := by decide +kernel
theorem dX8_takes_74 : decode cX8_takes 74 = .ok (.ireturn, 1) := by decide +kernel
theorem dX8_sum_0 : decode cX8_sum 0 = .ok (.iload_n 1, 1) := by decide +kernel
theorem dX8_sum_1 : decode cX8_sum 1 = .ok (.ifCond .lt 20, 3) := by decide +kernel
theorem dX8_sum_4 : decode cX8_sum 4 = .ok (.iload_n 1, 1) := by decide +kernel
theorem dX8_sum_5 : decode cX8_sum 5 = .ok (.aload_n 0, 1) := by decide +kernel
theorem dX8_sum_6 : decode cX8_sum 6 = .ok (.getfield 296, 3) := by decide +kernel
theorem dX8_sum_9 : decode cX8_sum 9 = .ok (.if_icmp .ge 12, 3) := by decide +kernel
theorem dX8_sum_12 : decode cX8_sum 12 = .ok (.aload_n 0, 1) := by decide +kernel
theorem dX8_sum_13 : decode cX8_sum 13 = .ok (.iload_n 1, 1) := by decide +kernel
theorem dX8_sum_14 : decode cX8_sum 14 = .ok (.iconst 0, 1) := by decide +kernel
theorem dX8_sum_15 : decode cX8_sum 15 = .ok (.invokevirtual 299, 3) := by decide +kernel
theorem dX8_sum_18 : decode cX8_sum 18 = .ok (.goto 8, 3) := by decide +kernel
theorem dX8_sum_21 : decode cX8_sum 21 = .ok (.aload_n 0, 1) := by decide +kernel
theorem dX8_sum_22 : decode cX8_sum 22 = .ok (.iconst (-1), 1) := by decide +kernel
theorem dX8_sum_23 : decode cX8_sum 23 = .ok (.invokevirtual 142, 3) := by decide +kernel
theorem dX8_sum_26 : decode cX8_sum 26 = .ok (.ireturn, 1) := by decide +kernel
theorem dX8_gloved_0 : decode cX8_gloved 0 = .ok (.iload_n 1, 1) := by decide +kernel
theorem dX8_gloved_1 : decode cX8_gloved 1 = .ok (.ifCond .lt 20, 3) := by decide +kernel
theorem dX8_gloved_4 : decode cX8_gloved 4 = .ok (.iload_n 1, 1) := by decide +kernel
theorem dX8_gloved_5 : decode cX8_gloved 5 = .ok (.aload_n 0, 1) := by decide +kernel
theorem dX8_gloved_6 : decode cX8_gloved 6 = .ok (.getfield 296, 3) := by decide +kernel
theorem dX8_gloved_9 : decode cX8_gloved 9 = .ok (.if_icmp .ge 12, 3) := by decide +kernel
theorem dX8_gloved_12 : decode cX8_gloved 12 = .ok (.aload_n 0, 1) := by decide +kernel
theorem dX8_gloved_13 : decode cX8_gloved 13 = .ok (.iload_n 1, 1) := by decide +kernel
theorem dX8_gloved_14 : decode cX8_gloved 14 = .ok (.iconst 1, 1) := by decide +kernel
theorem dX8_gloved_15 : decode cX8_gloved 15 = .ok (.invokevirtual 299, 3) := by decide +kernel
theorem dX8_gloved_18 : decode cX8_gloved 18 = .ok (.goto 8, 3) := by decide +kernel
theorem dX8_gloved_21 : decode cX8_gloved 21 = .ok (.aload_n 0, 1) := by decide +kernel
theorem dX8_gloved_22 : decode cX8_gloved 22 = .ok (.iconst (-1), 1) := by decide +kernel
theorem dX8_gloved_23 : decode cX8_gloved 23 = .ok (.invokevirtual 142, 3) := by decide +kernel
theorem dX8_gloved_26 : decode cX8_gloved 26 = .ok (.ireturn, 1) := by decide +kernel
theorem dX8_judge_0 : decode cX8_judge 0 = .ok (.aload_n 0, 1) := by decide +kernel
theorem dX8_judge_1 : decode cX8_judge 1 = .ok (.iload_n 1, 1) := by decide +kernel
theorem dX8_judge_2 : decode cX8_judge 2 = .ok (.invokevirtual 173, 3) := by decide +kernel
theorem dX8_judge_5 : decode cX8_judge 5 = .ok (.istore_n 2, 1) := by decide +kernel
theorem dX8_judge_6 : decode cX8_judge 6 = .ok (.iload_n 2, 1) := by decide +kernel
theorem dX8_judge_7 : decode cX8_judge 7 = .ok (.ifCond .eq 9, 3) := by decide +kernel
theorem dX8_judge_10 : decode cX8_judge 10 = .ok (.aload_n 0, 1) := by decide +kernel
theorem dX8_judge_11 : decode cX8_judge 11 = .ok (.iload_n 2, 1) := by decide +kernel
theorem dX8_judge_12 : decode cX8_judge 12 = .ok (.invokevirtual 209, 3) := by decide +kernel
theorem dX8_judge_15 : decode cX8_judge 15 = .ok (.ireturn, 1) := by decide +kernel
theorem dX8_judge_16 : decode cX8_judge 16 = .ok (.iconst 0, 1) := by decide +kernel
theorem dX8_judge_17 : decode cX8_judge 17 = .ok (.istore_n 3, 1) := by decide +kernel
theorem dX8_judge_18 : decode cX8_judge 18 = .ok (.iload_n 3, 1) := by decide +kernel
theorem dX8_judge_19 : decode cX8_judge 19 = .ok (.aload_n 0, 1) := by decide +kernel
theorem dX8_judge_20 : decode cX8_judge 20 = .ok (.getfield 296, 3) := by decide +kernel
theorem dX8_judge_23 : decode cX8_judge 23 = .ok (.if_icmp .ge 44, 3) := by decide +kernel
theorem dX8_judge_26 : decode cX8_judge 26 = .ok (.iload_n 3, 1) := by decide +kernel
theorem dX8_judge_27 : decode cX8_judge 27 = .ok (.aload_n 0, 1) := by decide +kernel
theorem dX8_judge_28 : decode cX8_judge 28 = .ok (.getfield 68, 3) := by decide +kernel
theorem dX8_judge_31 : decode cX8_judge 31 = .ok (.iload_n 1, 1) := by decide +kernel
theorem dX8_judge_32 : decode cX8_judge 32 = .ok (.iaload, 1) := by decide +kernel
theorem dX8_judge_33 : decode cX8_judge 33 = .ok (.if_icmp .ge 12, 3) := by decide +kernel
theorem dX8_judge_36 : decode cX8_judge 36 = .ok (.aload_n 0, 1) := by decide +kernel
theorem dX8_judge_37 : decode cX8_judge 37 = .ok (.iload_n 1, 1) := by decide +kernel
theorem dX8_judge_38 : decode cX8_judge 38 = .ok (.iload_n 3, 1) := by decide +kernel
theorem dX8_judge_39 : decode cX8_judge 39 = .ok (.invokevirtual 176, 3) := by decide +kernel
theorem dX8_judge_42 : decode cX8_judge 42 = .ok (.goto 4, 3) := by decide +kernel
theorem dX8_judge_45 : decode cX8_judge 45 = .ok (.iconst 0, 1) := by decide +kernel
theorem dX8_judge_46 : decode cX8_judge 46 = .ok (.istore 4, 2) := by decide +kernel
theorem dX8_judge_48 : decode cX8_judge 48 = .ok (.iload 4, 2) := by decide +kernel
theorem dX8_judge_50 : decode cX8_judge 50 = .ok (.aload_n 0, 1) := by decide +kernel
theorem dX8_judge_51 : decode cX8_judge 51 = .ok (.iload_n 3, 1) := by decide +kernel
theorem dX8_judge_52 : decode cX8_judge 52 = .ok (.iconst 0, 1) := by decide +kernel
theorem dX8_judge_53 : decode cX8_judge 53 = .ok (.invokevirtual 299, 3) := by decide +kernel
theorem dX8_judge_56 : decode cX8_judge 56 = .ok (.if_icmp .eq 5, 3) := by decide +kernel
theorem dX8_judge_59 : decode cX8_judge 59 = .ok (.iload_n 3, 1) := by decide +kernel
theorem dX8_judge_60 : decode cX8_judge 60 = .ok (.ireturn, 1) := by decide +kernel
theorem dX8_judge_61 : decode cX8_judge 61 = .ok (.iinc 3 1, 3) := by decide +kernel
theorem dX8_judge_64 : decode cX8_judge 64 = .ok (.goto (-46), 3) := by decide +kernel
theorem dX8_judge_67 : decode cX8_judge 67 = .ok (.iconst (-1), 1) := by decide +kernel
theorem dX8_judge_68 : decode cX8_judge 68 = .ok (.ireturn, 1) := by decide +kernel
theorem dX8_fit_0 : decode cX8_fit 0 = .ok (.aload_n 0, 1) := by decide +kernel
theorem dX8_fit_1 : decode cX8_fit 1 = .ok (.iload_n 1, 1) := by decide +kernel
theorem dX8_fit_2 : decode cX8_fit 2 = .ok (.invokevirtual 173, 3) := by decide +kernel
theorem dX8_fit_5 : decode cX8_fit 5 = .ok (.istore_n 3, 1) := by decide +kernel
theorem dX8_fit_6 : decode cX8_fit 6 = .ok (.iload_n 3, 1) := by decide +kernel
theorem dX8_fit_7 : decode cX8_fit 7 = .ok (.ifCond .eq 9, 3) := by decide +kernel
theorem dX8_fit_10 : decode cX8_fit 10 = .ok (.aload_n 0, 1) := by decide +kernel
theorem dX8_fit_11 : decode cX8_fit 11 = .ok (.iload_n 3, 1) := by decide +kernel
theorem dX8_fit_12 : decode cX8_fit 12 = .ok (.invokevirtual 142, 3) := by decide +kernel
theorem dX8_fit_15 : decode cX8_fit 15 = .ok (.ireturn, 1) := by decide +kernel
theorem dX8_fit_16 : decode cX8_fit 16 = .ok (.iload_n 2, 1) := by decide +kernel
theorem dX8_fit_17 : decode cX8_fit 17 = .ok (.ifCond .ge 10, 3) := by decide +kernel
theorem dX8_fit_20 : decode cX8_fit 20 = .ok (.aload_n 0, 1) := by decide +kernel
theorem dX8_fit_21 : decode cX8_fit 21 = .ok (.bipush (-4), 2) := by decide +kernel
theorem dX8_fit_23 : decode cX8_fit 23 = .ok (.invokevirtual 142, 3) := by decide +kernel
theorem dX8_fit_26 : decode cX8_fit 26 = .ok (.ireturn, 1) := by decide +kernel
theorem dX8_fit_27 : decode cX8_fit 27 = .ok (.iload_n 2, 1) := by decide +kernel
theorem dX8_fit_28 : decode cX8_fit 28 = .ok (.aload_n 0, 1) := by decide +kernel
theorem dX8_fit_29 : decode cX8_fit 29 = .ok (.getfield 68, 3) := by decide +kernel
theorem dX8_fit_32 : decode cX8_fit 32 = .ok (.iload_n 1, 1) := by decide +kernel
theorem dX8_fit_33 : decode cX8_fit 33 = .ok (.iaload, 1) := by decide +kernel
theorem dX8_fit_34 : decode cX8_fit 34 = .ok (.if_icmp .le 10, 3) := by decide +kernel
theorem dX8_fit_37 : decode cX8_fit 37 = .ok (.aload_n 0, 1) := by decide +kernel
theorem dX8_fit_38 : decode cX8_fit 38 = .ok (.bipush (-5), 2) := by decide +kernel
theorem dX8_fit_40 : decode cX8_fit 40 = .ok (.invokevirtual 142, 3) := by decide +kernel
theorem dX8_fit_43 : decode cX8_fit 43 = .ok (.ireturn, 1) := by decide +kernel
theorem dX8_fit_44 : decode cX8_fit 44 = .ok (.iconst 0, 1) := by decide +kernel
theorem dX8_fit_45 : decode cX8_fit 45 = .ok (.istore 4, 2) := by decide +kernel
theorem dX8_fit_47 : decode cX8_fit 47 = .ok (.iconst 0, 1) := by decide +kernel
theorem dX8_fit_48 : decode cX8_fit 48 = .ok (.istore 5, 2) := by decide +kernel
theorem dX8_fit_50 : decode cX8_fit 50 = .ok (.iload 5, 2) := by decide +kernel
theorem dX8_fit_52 : decode cX8_fit 52 = .ok (.aload_n 0, 1) := by decide +kernel
theorem dX8_fit_53 : decode cX8_fit 53 = .ok (.getfield 135, 3) := by decide +kernel
theorem dX8_fit_56 : decode cX8_fit 56 = .ok (.if_icmp .ge 81, 3) := by decide +kernel
theorem dX8_fit_59 : decode cX8_fit 59 = .ok (.aload_n 0, 1) := by decide +kernel
theorem dX8_fit_60 : decode cX8_fit 60 = .ok (.iload 5, 2) := by decide +kernel
theorem dX8_fit_62 : decode cX8_fit 62 = .ok (.iload_n 2, 1) := by decide +kernel
theorem dX8_fit_63 : decode cX8_fit 63 = .ok (.invokevirtual 284, 3) := by decide +kernel
theorem dX8_fit_66 : decode cX8_fit 66 = .ok (.aload_n 0, 1) := by decide +kernel
theorem dX8_fit_67 : decode cX8_fit 67 = .ok (.invokevirtual 287, 3) := by decide +kernel
theorem dX8_fit_70 : decode cX8_fit 70 = .ok (.iconst 1, 1) := by decide +kernel
theorem dX8_fit_71 : decode cX8_fit 71 = .ok (.istore 6, 2) := by decide +kernel
theorem dX8_fit_73 : decode cX8_fit 73 = .ok (.iconst 0, 1) := by decide +kernel
theorem dX8_fit_74 : decode cX8_fit 74 = .ok (.istore 7, 2) := by decide +kernel
theorem dX8_fit_76 : decode cX8_fit 76 = .ok (.iload 7, 2) := by decide +kernel
theorem dX8_fit_78 : decode cX8_fit 78 = .ok (.iload_n 2, 1) := by decide +kernel
theorem dX8_fit_79 : decode cX8_fit 79 = .ok (.if_icmp .ge 38, 3) := by decide +kernel
theorem dX8_fit_82 : decode cX8_fit 82 = .ok (.iload 6, 2) := by decide +kernel
theorem dX8_fit_84 : decode cX8_fit 84 = .ok (.ifCond .eq 33, 3) := by decide +kernel
theorem dX8_fit_87 : decode cX8_fit 87 = .ok (.aload_n 0, 1) := by decide +kernel
theorem dX8_fit_88 : decode cX8_fit 88 = .ok (.iload_n 1, 1) := by decide +kernel
theorem dX8_fit_89 : decode cX8_fit 89 = .ok (.iload 7, 2) := by decide +kernel
theorem dX8_fit_91 : decode cX8_fit 91 = .ok (.invokevirtual 176, 3) := by decide +kernel
theorem dX8_fit_94 : decode cX8_fit 94 = .ok (.aload_n 0, 1) := by decide +kernel
theorem dX8_fit_95 : decode cX8_fit 95 = .ok (.getfield 117, 3) := by decide +kernel
theorem dX8_fit_98 : decode cX8_fit 98 = .ok (.iload 7, 2) := by decide +kernel
theorem dX8_fit_100 : decode cX8_fit 100 = .ok (.iaload, 1) := by decide +kernel
theorem dX8_fit_101 : decode cX8_fit 101 = .ok (.if_icmp .ne 7, 3) := by decide +kernel
theorem dX8_fit_104 : decode cX8_fit 104 = .ok (.iconst 1, 1) := by decide +kernel
theorem dX8_fit_105 : decode cX8_fit 105 = .ok (.goto 4, 3) := by decide +kernel
theorem dX8_fit_108 : decode cX8_fit 108 = .ok (.iconst 0, 1) := by decide +kernel
theorem dX8_fit_109 : decode cX8_fit 109 = .ok (.istore 6, 2) := by decide +kernel
theorem dX8_fit_111 : decode cX8_fit 111 = .ok (.iinc 7 1, 3) := by decide +kernel
theorem dX8_fit_114 : decode cX8_fit 114 = .ok (.goto (-38), 3) := by decide +kernel
theorem dX8_fit_117 : decode cX8_fit 117 = .ok (.iload 6, 2) := by decide +kernel
theorem dX8_fit_119 : decode cX8_fit 119 = .ok (.ifCond .eq 12, 3) := by decide +kernel
theorem dX8_fit_122 : decode cX8_fit 122 = .ok (.iload 4, 2) := by decide +kernel
theorem dX8_fit_124 : decode cX8_fit 124 = .ok (.iconst 1, 1) := by decide +kernel
theorem dX8_fit_125 : decode cX8_fit 125 = .ok (.iload 5, 2) := by decide +kernel
theorem dX8_fit_127 : decode cX8_fit 127 = .ok (.ishl, 1) := by decide +kernel
theorem dX8_fit_128 : decode cX8_fit 128 = .ok (.ior, 1) := by decide +kernel
theorem dX8_fit_129 : decode cX8_fit 129 = .ok (.istore 4, 2) := by decide +kernel
theorem dX8_fit_131 : decode cX8_fit 131 = .ok (.iinc 5 1, 3) := by decide +kernel
theorem dX8_fit_134 : decode cX8_fit 134 = .ok (.goto (-84), 3) := by decide +kernel
theorem dX8_fit_137 : decode cX8_fit 137 = .ok (.iload 4, 2) := by decide +kernel
theorem dX8_fit_139 : decode cX8_fit 139 = .ok (.ireturn, 1) := by decide +kernel
theorem dX8_part_0 : decode cX8_part 0 = .ok (.aload_n 0, 1) := by decide +kernel
theorem dX8_part_1 : decode cX8_part 1 = .ok (.iload_n 1, 1) := by decide +kernel
theorem dX8_part_2 : decode cX8_part 2 = .ok (.invokevirtual 206, 3) := by decide +kernel
theorem dX8_part_5 : decode cX8_part 5 = .ok (.ifCond .eq 11, 3) := by decide +kernel
theorem dX8_part_8 : decode cX8_part 8 = .ok (.aload_n 0, 1) := by decide +kernel
theorem dX8_part_9 : decode cX8_part 9 = .ok (.iload_n 2, 1) := by decide +kernel
theorem dX8_part_10 : decode cX8_part 10 = .ok (.invokevirtual 206, 3) := by decide +kernel
theorem dX8_part_13 : decode cX8_part 13 = .ok (.ifCond .ne 9, 3) := by decide +kernel
theorem dX8_part_16 : decode cX8_part 16 = .ok (.aload_n 0, 1) := by decide +kernel
theorem dX8_part_17 : decode cX8_part 17 = .ok (.iconst (-1), 1) := by decide +kernel
theorem dX8_part_18 : decode cX8_part 18 = .ok (.invokevirtual 209, 3) := by decide +kernel
theorem dX8_part_21 : decode cX8_part 21 = .ok (.ireturn, 1) := by decide +kernel
theorem dX8_part_22 : decode cX8_part 22 = .ok (.aload_n 0, 1) := by decide +kernel
theorem dX8_part_23 : decode cX8_part 23 = .ok (.iload_n 3, 1) := by decide +kernel
theorem dX8_part_24 : decode cX8_part 24 = .ok (.invokevirtual 281, 3) := by decide +kernel
theorem dX8_part_27 : decode cX8_part 27 = .ok (.ifCond .ne 10, 3) := by decide +kernel
theorem dX8_part_30 : decode cX8_part 30 = .ok (.aload_n 0, 1) := by decide +kernel
theorem dX8_part_31 : decode cX8_part 31 = .ok (.bipush (-6), 2) := by decide +kernel
theorem dX8_part_33 : decode cX8_part 33 = .ok (.invokevirtual 209, 3) := by decide +kernel
theorem dX8_part_36 : decode cX8_part 36 = .ok (.ireturn, 1) := by decide +kernel
theorem dX8_part_37 : decode cX8_part 37 = .ok (.aload_n 0, 1) := by decide +kernel
theorem dX8_part_38 : decode cX8_part 38 = .ok (.iload_n 1, 1) := by decide +kernel
theorem dX8_part_39 : decode cX8_part 39 = .ok (.iload_n 3, 1) := by decide +kernel
theorem dX8_part_40 : decode cX8_part 40 = .ok (.invokevirtual 284, 3) := by decide +kernel
theorem dX8_part_43 : decode cX8_part 43 = .ok (.aload_n 0, 1) := by decide +kernel
theorem dX8_part_44 : decode cX8_part 44 = .ok (.invokevirtual 287, 3) := by decide +kernel
theorem dX8_part_47 : decode cX8_part 47 = .ok (.iconst 0, 1) := by decide +kernel
theorem dX8_part_48 : decode cX8_part 48 = .ok (.istore 4, 2) := by decide +kernel
theorem dX8_part_50 : decode cX8_part 50 = .ok (.iload 4, 2) := by decide +kernel
theorem dX8_part_52 : decode cX8_part 52 = .ok (.iload_n 3, 1) := by decide +kernel
theorem dX8_part_53 : decode cX8_part 53 = .ok (.if_icmp .ge 23, 3) := by decide +kernel
theorem dX8_part_56 : decode cX8_part 56 = .ok (.aload_n 0, 1) := by decide +kernel
theorem dX8_part_57 : decode cX8_part 57 = .ok (.getfield 120, 3) := by decide +kernel
theorem dX8_part_60 : decode cX8_part 60 = .ok (.iload 4, 2) := by decide +kernel
theorem dX8_part_62 : decode cX8_part 62 = .ok (.aload_n 0, 1) := by decide +kernel
theorem dX8_part_63 : decode cX8_part 63 = .ok (.getfield 117, 3) := by decide +kernel
theorem dX8_part_66 : decode cX8_part 66 = .ok (.iload 4, 2) := by decide +kernel
theorem dX8_part_68 : decode cX8_part 68 = .ok (.iaload, 1) := by decide +kernel
theorem dX8_part_69 : decode cX8_part 69 = .ok (.iastore, 1) := by decide +kernel
theorem dX8_part_70 : decode cX8_part 70 = .ok (.iinc 4 1, 3) := by decide +kernel
theorem dX8_part_73 : decode cX8_part 73 = .ok (.goto (-23), 3) := by decide +kernel
theorem dX8_part_76 : decode cX8_part 76 = .ok (.aload_n 0, 1) := by decide +kernel
theorem dX8_part_77 : decode cX8_part 77 = .ok (.iload_n 2, 1) := by decide +kernel
theorem dX8_part_78 : decode cX8_part 78 = .ok (.iload_n 3, 1) := by decide +kernel
theorem dX8_part_79 : decode cX8_part 79 = .ok (.invokevirtual 284, 3) := by decide +kernel
theorem dX8_part_82 : decode cX8_part 82 = .ok (.aload_n 0, 1) := by decide +kernel
theorem dX8_part_83 : decode cX8_part 83 = .ok (.invokevirtual 287, 3) := by decide +kernel
theorem dX8_part_86 : decode cX8_part 86 = .ok (.iconst 0, 1) := by decide +kernel
theorem dX8_part_87 : decode cX8_part 87 = .ok (.istore 4, 2) := by decide +kernel
theorem dX8_part_89 : decode cX8_part 89 = .ok (.iload 4, 2) := by decide +kernel
theorem dX8_part_91 : decode cX8_part 91 = .ok (.iload_n 3, 1) := by decide +kernel
theorem dX8_part_92 : decode cX8_part 92 = .ok (.if_icmp .ge 29, 3) := by decide +kernel
theorem dX8_part_95 : decode cX8_part 95 = .ok (.aload_n 0, 1) := by decide +kernel
theorem dX8_part_96 : decode cX8_part 96 = .ok (.getfield 120, 3) := by decide +kernel
theorem dX8_part_99 : decode cX8_part 99 = .ok (.iload 4, 2) := by decide +kernel
theorem dX8_part_101 : decode cX8_part 101 = .ok (.iaload, 1) := by decide +kernel
theorem dX8_part_102 : decode cX8_part 102 = .ok (.aload_n 0, 1) := by decide +kernel
theorem dX8_part_103 : decode cX8_part 103 = .ok (.getfield 117, 3) := by decide +kernel
theorem dX8_part_106 : decode cX8_part 106 = .ok (.iload 4, 2) := by decide +kernel
theorem dX8_part_108 : decode cX8_part 108 = .ok (.iaload, 1) := by decide +kernel
theorem dX8_part_109 : decode cX8_part 109 = .ok (.if_icmp .eq 6, 3) := by decide +kernel
theorem dX8_part_112 : decode cX8_part 112 = .ok (.iload 4, 2) := by decide +kernel
theorem dX8_part_114 : decode cX8_part 114 = .ok (.ireturn, 1) := by decide +kernel
theorem dX8_part_115 : decode cX8_part 115 = .ok (.iinc 4 1, 3) := by decide +kernel
theorem dX8_part_118 : decode cX8_part 118 = .ok (.goto (-29), 3) := by decide +kernel
theorem dX8_part_121 : decode cX8_part 121 = .ok (.iconst (-1), 1) := by decide +kernel
theorem dX8_part_122 : decode cX8_part 122 = .ok (.ireturn, 1) := by decide +kernel
theorem dX8_spread_0 : decode cX8_spread 0 = .ok (.iload_n 1, 1) := by decide +kernel
theorem dX8_spread_1 : decode cX8_spread 1 = .ok (.iconst 1, 1) := by decide +kernel
theorem dX8_spread_2 : decode cX8_spread 2 = .ok (.if_icmp .lt 9, 3) := by decide +kernel
theorem dX8_spread_5 : decode cX8_spread 5 = .ok (.iload_n 1, 1) := by decide +kernel
theorem dX8_spread_6 : decode cX8_spread 6 = .ok (.bipush 20, 2) := by decide +kernel
theorem dX8_spread_8 : decode cX8_spread 8 = .ok (.if_icmp .le 10, 3) := by decide +kernel
theorem dX8_spread_11 : decode cX8_spread 11 = .ok (.aload_n 0, 1) := by decide +kernel
theorem dX8_spread_12 : decode cX8_spread 12 = .ok (.bipush (-6), 2) := by decide +kernel
theorem dX8_spread_14 : decode cX8_spread 14 = .ok (.invokevirtual 142, 3) := by decide +kernel
theorem dX8_spread_17 : decode cX8_spread 17 = .ok (.ireturn, 1) := by decide +kernel
theorem dX8_spread_18 : decode cX8_spread 18 = .ok (.iconst 0, 1) := by decide +kernel
theorem dX8_spread_19 : decode cX8_spread 19 = .ok (.istore_n 2, 1) := by decide +kernel
theorem dX8_spread_20 : decode cX8_spread 20 = .ok (.iconst 0, 1) := by decide +kernel
theorem dX8_spread_21 : decode cX8_spread 21 = .ok (.istore_n 3, 1) := by decide +kernel
theorem dX8_spread_22 : decode cX8_spread 22 = .ok (.iconst 0, 1) := by decide +kernel
theorem dX8_spread_23 : decode cX8_spread 23 = .ok (.istore 4, 2) := by decide +kernel
theorem dX8_spread_25 : decode cX8_spread 25 = .ok (.iload 4, 2) := by decide +kernel
theorem dX8_spread_27 : decode cX8_spread 27 = .ok (.iload_n 1, 1) := by decide +kernel
theorem dX8_spread_28 : decode cX8_spread 28 = .ok (.if_icmp .ge 74, 3) := by decide +kernel
theorem dX8_spread_31 : decode cX8_spread 31 = .ok (.aload_n 0, 1) := by decide +kernel
theorem dX8_spread_32 : decode cX8_spread 32 = .ok (.invokevirtual 274, 3) := by decide +kernel
theorem dX8_spread_35 : decode cX8_spread 35 = .ok (.aload_n 0, 1) := by decide +kernel
theorem dX8_spread_36 : decode cX8_spread 36 = .ok (.dup, 1) := by decide +kernel
theorem dX8_spread_37 : decode cX8_spread 37 = .ok (.getfield 7, 3) := by decide +kernel
theorem dX8_spread_40 : decode cX8_spread 40 = .ok (.iload 4, 2) := by decide +kernel
theorem dX8_spread_42 : decode cX8_spread 42 = .ok (.iadd, 1) := by decide +kernel
theorem dX8_spread_43 : decode cX8_spread 43 = .ok (.putfield 7, 3) := by decide +kernel
theorem dX8_spread_46 : decode cX8_spread 46 = .ok (.aload_n 0, 1) := by decide +kernel
theorem dX8_spread_47 : decode cX8_spread 47 = .ok (.aload_n 0, 1) := by decide +kernel
theorem dX8_spread_48 : decode cX8_spread 48 = .ok (.getfield 13, 3) := by decide +kernel
theorem dX8_spread_51 : decode cX8_spread 51 = .ok (.bipush 100, 2) := by decide +kernel
theorem dX8_spread_53 : decode cX8_spread 53 = .ok (.invokevirtual 277, 3) := by decide +kernel
theorem dX8_spread_56 : decode cX8_spread 56 = .ok (.aload_n 0, 1) := by decide +kernel
theorem dX8_spread_57 : decode cX8_spread 57 = .ok (.invokevirtual 287, 3) := by decide +kernel
theorem dX8_spread_60 : decode cX8_spread 60 = .ok (.aload_n 0, 1) := by decide +kernel
theorem dX8_spread_61 : decode cX8_spread 61 = .ok (.bipush 100, 2) := by decide +kernel
theorem dX8_spread_63 : decode cX8_spread 63 = .ok (.invokevirtual 290, 3) := by decide +kernel
theorem dX8_spread_66 : decode cX8_spread 66 = .ok (.istore 5, 2) := by decide +kernel
theorem dX8_spread_68 : decode cX8_spread 68 = .ok (.iload 4, 2) := by decide +kernel
theorem dX8_spread_70 : decode cX8_spread 70 = .ok (.ifCond .eq 9, 3) := by decide +kernel
theorem dX8_spread_73 : decode cX8_spread 73 = .ok (.iload 5, 2) := by decide +kernel
theorem dX8_spread_75 : decode cX8_spread 75 = .ok (.iload_n 2, 1) := by decide +kernel
theorem dX8_spread_76 : decode cX8_spread 76 = .ok (.if_icmp .ge 6, 3) := by decide +kernel
theorem dX8_spread_79 : decode cX8_spread 79 = .ok (.iload 5, 2) := by decide +kernel
theorem dX8_spread_81 : decode cX8_spread 81 = .ok (.istore_n 2, 1) := by decide +kernel
theorem dX8_spread_82 : decode cX8_spread 82 = .ok (.iload 4, 2) := by decide +kernel
theorem dX8_spread_84 : decode cX8_spread 84 = .ok (.ifCond .eq 9, 3) := by decide +kernel
theorem dX8_spread_87 : decode cX8_spread 87 = .ok (.iload 5, 2) := by decide +kernel
theorem dX8_spread_89 : decode cX8_spread 89 = .ok (.iload_n 3, 1) := by decide +kernel
theorem dX8_spread_90 : decode cX8_spread 90 = .ok (.if_icmp .le 6, 3) := by decide +kernel
theorem dX8_spread_93 : decode cX8_spread 93 = .ok (.iload 5, 2) := by decide +kernel
theorem dX8_spread_95 : decode cX8_spread 95 = .ok (.istore_n 3, 1) := by decide +kernel
theorem dX8_spread_96 : decode cX8_spread 96 = .ok (.iinc 4 1, 3) := by decide +kernel
theorem dX8_spread_99 : decode cX8_spread 99 = .ok (.goto (-74), 3) := by decide +kernel
theorem dX8_spread_102 : decode cX8_spread 102 = .ok (.iload_n 3, 1) := by decide +kernel
theorem dX8_spread_103 : decode cX8_spread 103 = .ok (.iload_n 2, 1) := by decide +kernel
theorem dX8_spread_104 : decode cX8_spread 104 = .ok (.isub, 1) := by decide +kernel
theorem dX8_spread_105 : decode cX8_spread 105 = .ok (.ireturn, 1) := by decide +kernel
theorem dX8_body_0 : decode cX8_body 0 = .ok (.aload_n 0, 1) := by decide +kernel
theorem dX8_body_1 : decode cX8_body 1 = .ok (.getfield 303, 3) := by decide +kernel
theorem dX8_body_4 : decode cX8_body 4 = .ok (.bipush 20, 2) := by decide +kernel
theorem dX8_body_6 : decode cX8_body 6 = .ok (.if_icmp .ge 13, 3) := by decide +kernel
theorem dX8_body_9 : decode cX8_body 9 = .ok (.aload_n 0, 1) := by decide +kernel
theorem dX8_body_10 : decode cX8_body 10 = .ok (.getfield 123, 3) := by decide +kernel
theorem dX8_body_13 : decode cX8_body 13 = .ok (.aload_n 0, 1) := by decide +kernel
theorem dX8_body_14 : decode cX8_body 14 = .ok (.getfield 303, 3) := by decide +kernel
theorem dX8_body_17 : decode cX8_body 17 = .ok (.iload_n 1, 1) := by decide +kernel
theorem dX8_body_18 : decode cX8_body 18 = .ok (.iastore, 1) := by decide +kernel
theorem dX8_body_19 : decode cX8_body 19 = .ok (.aload_n 0, 1) := by decide +kernel
theorem dX8_body_20 : decode cX8_body 20 = .ok (.dup, 1) := by decide +kernel
theorem dX8_body_21 : decode cX8_body 21 = .ok (.getfield 303, 3) := by decide +kernel
theorem dX8_body_24 : decode cX8_body 24 = .ok (.iconst 1, 1) := by decide +kernel
theorem dX8_body_25 : decode cX8_body 25 = .ok (.iadd, 1) := by decide +kernel
theorem dX8_body_26 : decode cX8_body 26 = .ok (.putfield 303, 3) := by decide +kernel
theorem dX8_body_29 : decode cX8_body 29 = .ok (.return_, 1) := by decide +kernel
theorem dX8_hears_0 : decode cX8_hears 0 = .ok (.aload_n 0, 1) := by decide +kernel
theorem dX8_hears_1 : decode cX8_hears 1 = .ok (.getfield 23, 3) := by decide +kernel
theorem dX8_hears_4 : decode cX8_hears 4 = .ok (.iload_n 1, 1) := by decide +kernel
theorem dX8_hears_5 : decode cX8_hears 5 = .ok (.iaload, 1) := by decide +kernel
theorem dX8_hears_6 : decode cX8_hears 6 = .ok (.istore_n 3, 1) := by decide +kernel
theorem dX8_hears_7 : decode cX8_hears 7 = .ok (.iload_n 2, 1) := by decide +kernel
theorem dX8_hears_8 : decode cX8_hears 8 = .ok (.istore 4, 2) := by decide +kernel
theorem dX8_hears_10 : decode cX8_hears 10 = .ok (.iload_n 3, 1) := by decide +kernel
theorem dX8_hears_11 : decode cX8_hears 11 = .ok (.iconst 2, 1) := by decide +kernel
theorem dX8_hears_12 : decode cX8_hears 12 = .ok (.if_icmp .lt 12, 3) := by decide +kernel
theorem dX8_hears_15 : decode cX8_hears 15 = .ok (.iload_n 3, 1) := by decide +kernel
theorem dX8_hears_16 : decode cX8_hears 16 = .ok (.iconst 5, 1) := by decide +kernel
theorem dX8_hears_17 : decode cX8_hears 17 = .ok (.if_icmp .gt 7, 3) := by decide +kernel
theorem dX8_hears_20 : decode cX8_hears 20 = .ok (.iconst 1, 1) := by decide +kernel
theorem dX8_hears_21 : decode cX8_hears 21 = .ok (.goto 4, 3) := by decide +kernel
theorem dX8_hears_24 : decode cX8_hears 24 = .ok (.iconst 0, 1) := by decide +kernel
theorem dX8_hears_25 : decode cX8_hears 25 = .ok (.istore 5, 2) := by decide +kernel
theorem dX8_hears_27 : decode cX8_hears 27 = .ok (.iload_n 3, 1) := by decide +kernel
theorem dX8_hears_28 : decode cX8_hears 28 = .ok (.iconst 3, 1) := by decide +kernel
theorem dX8_hears_29 : decode cX8_hears 29 = .ok (.if_icmp .ne 14, 3) := by decide +kernel
theorem dX8_hears_32 : decode cX8_hears 32 = .ok (.aload_n 0, 1) := by decide +kernel
theorem dX8_hears_33 : decode cX8_hears 33 = .ok (.bipush 40, 2) := by decide +kernel
theorem dX8_hears_35 : decode cX8_hears 35 = .ok (.invokevirtual 306, 3) := by decide +kernel
theorem dX8_hears_38 : decode cX8_hears 38 = .ok (.iload_n 2, 1) := by decide +kernel
theorem dX8_hears_39 : decode cX8_hears 39 = .ok (.iconst 1, 1) := by decide +kernel
theorem dX8_hears_40 : decode cX8_hears 40 = .ok (.iadd, 1) := by decide +kernel
theorem dX8_hears_41 : decode cX8_hears 41 = .ok (.istore 4, 2) := by decide +kernel
theorem dX8_hears_43 : decode cX8_hears 43 = .ok (.iload_n 3, 1) := by decide +kernel
theorem dX8_hears_44 : decode cX8_hears 44 = .ok (.bipush 6, 2) := by decide +kernel
theorem dX8_hears_46 : decode cX8_hears 46 = .ok (.if_icmp .ne 19, 3) := by decide +kernel
theorem dX8_hears_49 : decode cX8_hears 49 = .ok (.aload_n 0, 1) := by decide +kernel
theorem dX8_hears_50 : decode cX8_hears 50 = .ok (.bipush 71, 2) := by decide +kernel
theorem dX8_hears_52 : decode cX8_hears 52 = .ok (.invokevirtual 306, 3) := by decide +kernel
theorem dX8_hears_55 : decode cX8_hears 55 = .ok (.iload_n 2, 1) := by decide +kernel
theorem dX8_hears_56 : decode cX8_hears 56 = .ok (.aload_n 0, 1) := by decide +kernel
theorem dX8_hears_57 : decode cX8_hears 57 = .ok (.getfield 32, 3) := by decide +kernel
theorem dX8_hears_60 : decode cX8_hears 60 = .ok (.iload_n 1, 1) := by decide +kernel
theorem dX8_hears_61 : decode cX8_hears 61 = .ok (.iaload, 1) := by decide +kernel
theorem dX8_hears_62 : decode cX8_hears 62 = .ok (.isub, 1) := by decide +kernel
theorem dX8_hears_63 : decode cX8_hears 63 = .ok (.istore 4, 2) := by decide +kernel
theorem dX8_hears_65 : decode cX8_hears 65 = .ok (.iload 5, 2) := by decide +kernel
theorem dX8_hears_67 : decode cX8_hears 67 = .ok (.ifCond .eq 9, 3) := by decide +kernel
theorem dX8_hears_70 : decode cX8_hears 70 = .ok (.aload_n 0, 1) := by decide +kernel
theorem dX8_hears_71 : decode cX8_hears 71 = .ok (.bipush 30, 2) := by decide +kernel
theorem dX8_hears_73 : decode cX8_hears 73 = .ok (.invokevirtual 306, 3) := by decide +kernel
theorem dX8_hears_76 : decode cX8_hears 76 = .ok (.aload_n 0, 1) := by decide +kernel
theorem dX8_hears_77 : decode cX8_hears 77 = .ok (.bipush 10, 2) := by decide +kernel
theorem dX8_hears_79 : decode cX8_hears 79 = .ok (.invokevirtual 306, 3) := by decide +kernel
theorem dX8_hears_82 : decode cX8_hears 82 = .ok (.iload 5, 2) := by decide +kernel
theorem dX8_hears_84 : decode cX8_hears 84 = .ok (.ifCond .eq 12, 3) := by decide +kernel
theorem dX8_hears_87 : decode cX8_hears 87 = .ok (.iload 4, 2) := by decide +kernel
theorem dX8_hears_89 : decode cX8_hears 89 = .ok (.iload_n 1, 1) := by decide +kernel
theorem dX8_hears_90 : decode cX8_hears 90 = .ok (.iadd, 1) := by decide +kernel
theorem dX8_hears_91 : decode cX8_hears 91 = .ok (.iconst 3, 1) := by decide +kernel
theorem dX8_hears_92 : decode cX8_hears 92 = .ok (.imul, 1) := by decide +kernel
theorem dX8_hears_93 : decode cX8_hears 93 = .ok (.goto 7, 3) := by decide +kernel
theorem dX8_hears_96 : decode cX8_hears 96 = .ok (.iload 4, 2) := by decide +kernel
theorem dX8_hears_98 : decode cX8_hears 98 = .ok (.iload_n 1, 1) := by decide +kernel
theorem dX8_hears_99 : decode cX8_hears 99 = .ok (.iadd, 1) := by decide +kernel
theorem dX8_hears_100 : decode cX8_hears 100 = .ok (.ireturn, 1) := by decide +kernel
theorem dX8_beginning_0 : decode cX8_beginning 0 = .ok (.aload_n 0, 1) := by decide +kernel
theorem dX8_beginning_1 : decode cX8_beginning 1 = .ok (.getfield 23, 3) := by decide +kernel
theorem dX8_beginning_4 : decode cX8_beginning 4 = .ok (.iload_n 1, 1) := by decide +kernel
theorem dX8_beginning_5 : decode cX8_beginning 5 = .ok (.iaload, 1) := by decide +kernel
theorem dX8_beginning_6 : decode cX8_beginning 6 = .ok (.istore_n 3, 1) := by decide +kernel
theorem dX8_beginning_7 : decode cX8_beginning 7 = .ok (.iload_n 3, 1) := by decide +kernel
theorem dX8_beginning_8 : decode cX8_beginning 8 = .ok (.bipush 6, 2) := by decide +kernel
theorem dX8_beginning_10 : decode cX8_beginning 10 = .ok (.if_icmp .ne 9, 3) := by decide +kernel
theorem dX8_beginning_13 : decode cX8_beginning 13 = .ok (.aload_n 0, 1) := by decide +kernel
theorem dX8_beginning_14 : decode cX8_beginning 14 = .ok (.bipush 70, 2) := by decide +kernel
theorem dX8_beginning_16 : decode cX8_beginning 16 = .ok (.invokevirtual 306, 3) := by decide +kernel
theorem dX8_beginning_19 : decode cX8_beginning 19 = .ok (.iload_n 3, 1) := by decide +kernel
theorem dX8_beginning_20 : decode cX8_beginning 20 = .ok (.iconst 1, 1) := by decide +kernel
theorem dX8_beginning_21 : decode cX8_beginning 21 = .ok (.if_icmp .eq 9, 3) := by decide +kernel
theorem dX8_beginning_24 : decode cX8_beginning 24 = .ok (.iload_n 3, 1) := by decide +kernel
theorem dX8_beginning_25 : decode cX8_beginning 25 = .ok (.bipush 6, 2) := by decide +kernel
theorem dX8_beginning_27 : decode cX8_beginning 27 = .ok (.if_icmp .ne 9, 3) := by decide +kernel
theorem dX8_beginning_30 : decode cX8_beginning 30 = .ok (.aload_n 0, 1) := by decide +kernel
theorem dX8_beginning_31 : decode cX8_beginning 31 = .ok (.bipush 20, 2) := by decide +kernel
theorem dX8_beginning_33 : decode cX8_beginning 33 = .ok (.invokevirtual 306, 3) := by decide +kernel
theorem dX8_beginning_36 : decode cX8_beginning 36 = .ok (.iload_n 3, 1) := by decide +kernel
theorem dX8_beginning_37 : decode cX8_beginning 37 = .ok (.iconst 4, 1) := by decide +kernel
theorem dX8_beginning_38 : decode cX8_beginning 38 = .ok (.if_icmp .ne 9, 3) := by decide +kernel
theorem dX8_beginning_41 : decode cX8_beginning 41 = .ok (.aload_n 0, 1) := by decide +kernel
theorem dX8_beginning_42 : decode cX8_beginning 42 = .ok (.bipush 51, 2) := by decide +kernel
theorem dX8_beginning_44 : decode cX8_beginning 44 = .ok (.invokevirtual 306, 3) := by decide +kernel
theorem dX8_beginning_47 : decode cX8_beginning 47 = .ok (.aload_n 0, 1) := by decide +kernel
theorem dX8_beginning_48 : decode cX8_beginning 48 = .ok (.bipush 11, 2) := by decide +kernel
theorem dX8_beginning_50 : decode cX8_beginning 50 = .ok (.invokevirtual 306, 3) := by decide +kernel
theorem dX8_beginning_53 : decode cX8_beginning 53 = .ok (.aload_n 0, 1) := by decide +kernel
theorem dX8_beginning_54 : decode cX8_beginning 54 = .ok (.iload_n 1, 1) := by decide +kernel
theorem dX8_beginning_55 : decode cX8_beginning 55 = .ok (.iload_n 2, 1) := by decide +kernel
theorem dX8_beginning_56 : decode cX8_beginning 56 = .ok (.invokevirtual 310, 3) := by decide +kernel
theorem dX8_beginning_59 : decode cX8_beginning 59 = .ok (.iconst 2, 1) := by decide +kernel
theorem dX8_beginning_60 : decode cX8_beginning 60 = .ok (.imul, 1) := by decide +kernel
theorem dX8_beginning_61 : decode cX8_beginning 61 = .ok (.istore 4, 2) := by decide +kernel
theorem dX8_beginning_63 : decode cX8_beginning 63 = .ok (.iload_n 3, 1) := by decide +kernel
theorem dX8_beginning_64 : decode cX8_beginning 64 = .ok (.iconst 1, 1) := by decide +kernel
theorem dX8_beginning_65 : decode cX8_beginning 65 = .ok (.if_icmp .eq 9, 3) := by decide +kernel
theorem dX8_beginning_68 : decode cX8_beginning 68 = .ok (.iload_n 3, 1) := by decide +kernel
theorem dX8_beginning_69 : decode cX8_beginning 69 = .ok (.bipush 6, 2) := by decide +kernel
theorem dX8_beginning_71 : decode cX8_beginning 71 = .ok (.if_icmp .ne 14, 3) := by decide +kernel
theorem dX8_beginning_74 : decode cX8_beginning 74 = .ok (.iload 4, 2) := by decide +kernel
theorem dX8_beginning_76 : decode cX8_beginning 76 = .ok (.aload_n 0, 1) := by decide +kernel
theorem dX8_beginning_77 : decode cX8_beginning 77 = .ok (.getfield 32, 3) := by decide +kernel
theorem dX8_beginning_80 : decode cX8_beginning 80 = .ok (.iload_n 1, 1) := by decide +kernel
theorem dX8_beginning_81 : decode cX8_beginning 81 = .ok (.iaload, 1) := by decide +kernel
theorem dX8_beginning_82 : decode cX8_beginning 82 = .ok (.iadd, 1) := by decide +kernel
theorem dX8_beginning_83 : decode cX8_beginning 83 = .ok (.istore 4, 2) := by decide +kernel
theorem dX8_beginning_85 : decode cX8_beginning 85 = .ok (.iload_n 3, 1) := by decide +kernel
theorem dX8_beginning_86 : decode cX8_beginning 86 = .ok (.bipush 6, 2) := by decide +kernel
theorem dX8_beginning_88 : decode cX8_beginning 88 = .ok (.if_icmp .ne 10, 3) := by decide +kernel
theorem dX8_beginning_91 : decode cX8_beginning 91 = .ok (.iload 4, 2) := by decide +kernel
theorem dX8_beginning_93 : decode cX8_beginning 93 = .ok (.iconst 2, 1) := by decide +kernel
theorem dX8_beginning_94 : decode cX8_beginning 94 = .ok (.imul, 1) := by decide +kernel
theorem dX8_beginning_95 : decode cX8_beginning 95 = .ok (.goto 16, 3) := by decide +kernel
theorem dX8_beginning_98 : decode cX8_beginning 98 = .ok (.iload_n 3, 1) := by decide +kernel
theorem dX8_beginning_99 : decode cX8_beginning 99 = .ok (.iconst 4, 1) := by decide +kernel
theorem dX8_beginning_100 : decode cX8_beginning 100 = .ok (.if_icmp .ne 9, 3) := by decide +kernel
theorem dX8_beginning_103 : decode cX8_beginning 103 = .ok (.iload 4, 2) := by decide +kernel
theorem dX8_beginning_105 : decode cX8_beginning 105 = .ok (.ineg, 1) := by decide +kernel
theorem dX8_beginning_106 : decode cX8_beginning 106 = .ok (.goto 5, 3) := by decide +kernel
theorem dX8_beginning_109 : decode cX8_beginning 109 = .ok (.iload 4, 2) := by decide +kernel
theorem dX8_beginning_111 : decode cX8_beginning 111 = .ok (.ireturn, 1) := by decide +kernel
theorem dX8_stepping_0 : decode cX8_stepping 0 = .ok (.aload_n 0, 1) := by decide +kernel
theorem dX8_stepping_1 : decode cX8_stepping 1 = .ok (.getfield 23, 3) := by decide +kernel
theorem dX8_stepping_4 : decode cX8_stepping 4 = .ok (.iload_n 1, 1) := by decide +kernel
theorem dX8_stepping_5 : decode cX8_stepping 5 = .ok (.iaload, 1) := by decide +kernel
theorem dX8_stepping_6 : decode cX8_stepping 6 = .ok (.istore_n 3, 1) := by decide +kernel
theorem dX8_stepping_7 : decode cX8_stepping 7 = .ok (.iload_n 3, 1) := by decide +kernel
theorem dX8_stepping_8 : decode cX8_stepping 8 = .ok (.iconst 4, 1) := by decide +kernel
theorem dX8_stepping_9 : decode cX8_stepping 9 = .ok (.if_icmp .ne 9, 3) := by decide +kernel
theorem dX8_stepping_12 : decode cX8_stepping 12 = .ok (.aload_n 0, 1) := by decide +kernel
theorem dX8_stepping_13 : decode cX8_stepping 13 = .ok (.bipush 50, 2) := by decide +kernel
theorem dX8_stepping_15 : decode cX8_stepping 15 = .ok (.invokevirtual 306, 3) := by decide +kernel
theorem dX8_stepping_18 : decode cX8_stepping 18 = .ok (.iload_n 3, 1) := by decide +kernel
theorem dX8_stepping_19 : decode cX8_stepping 19 = .ok (.iconst 5, 1) := by decide +kernel
theorem dX8_stepping_20 : decode cX8_stepping 20 = .ok (.if_icmp .ne 9, 3) := by decide +kernel
theorem dX8_stepping_23 : decode cX8_stepping 23 = .ok (.aload_n 0, 1) := by decide +kernel
theorem dX8_stepping_24 : decode cX8_stepping 24 = .ok (.bipush 60, 2) := by decide +kernel
theorem dX8_stepping_26 : decode cX8_stepping 26 = .ok (.invokevirtual 306, 3) := by decide +kernel
theorem dX8_stepping_29 : decode cX8_stepping 29 = .ok (.aload_n 0, 1) := by decide +kernel
theorem dX8_stepping_30 : decode cX8_stepping 30 = .ok (.bipush 12, 2) := by decide +kernel
theorem dX8_stepping_32 : decode cX8_stepping 32 = .ok (.invokevirtual 306, 3) := by decide +kernel
theorem dX8_stepping_35 : decode cX8_stepping 35 = .ok (.aload_n 0, 1) := by decide +kernel
theorem dX8_stepping_36 : decode cX8_stepping 36 = .ok (.iload_n 1, 1) := by decide +kernel
theorem dX8_stepping_37 : decode cX8_stepping 37 = .ok (.iload_n 2, 1) := by decide +kernel
theorem dX8_stepping_38 : decode cX8_stepping 38 = .ok (.invokevirtual 313, 3) := by decide +kernel
theorem dX8_stepping_41 : decode cX8_stepping 41 = .ok (.istore 4, 2) := by decide +kernel
theorem dX8_stepping_43 : decode cX8_stepping 43 = .ok (.iload 4, 2) := by decide +kernel
theorem dX8_stepping_45 : decode cX8_stepping 45 = .ok (.aload_n 0, 1) := by decide +kernel
theorem dX8_stepping_46 : decode cX8_stepping 46 = .ok (.iload_n 1, 1) := by decide +kernel
theorem dX8_stepping_47 : decode cX8_stepping 47 = .ok (.iload_n 2, 1) := by decide +kernel
theorem dX8_stepping_48 : decode cX8_stepping 48 = .ok (.aload_n 0, 1) := by decide +kernel
theorem dX8_stepping_49 : decode cX8_stepping 49 = .ok (.getfield 32, 3) := by decide +kernel
theorem dX8_stepping_52 : decode cX8_stepping 52 = .ok (.iload_n 1, 1) := by decide +kernel
theorem dX8_stepping_53 : decode cX8_stepping 53 = .ok (.iaload, 1) := by decide +kernel
theorem dX8_stepping_54 : decode cX8_stepping 54 = .ok (.isub, 1) := by decide +kernel
theorem dX8_stepping_55 : decode cX8_stepping 55 = .ok (.invokevirtual 310, 3) := by decide +kernel
theorem dX8_stepping_58 : decode cX8_stepping 58 = .ok (.ixor, 1) := by decide +kernel
theorem dX8_stepping_59 : decode cX8_stepping 59 = .ok (.istore 4, 2) := by decide +kernel
theorem dX8_stepping_61 : decode cX8_stepping 61 = .ok (.iload_n 3, 1) := by decide +kernel
theorem dX8_stepping_62 : decode cX8_stepping 62 = .ok (.iconst 4, 1) := by decide +kernel
theorem dX8_stepping_63 : decode cX8_stepping 63 = .ok (.if_icmp .ne 10, 3) := by decide +kernel
theorem dX8_stepping_66 : decode cX8_stepping 66 = .ok (.iload 4, 2) := by decide +kernel
theorem dX8_stepping_68 : decode cX8_stepping 68 = .ok (.iload_n 1, 1) := by decide +kernel
theorem dX8_stepping_69 : decode cX8_stepping 69 = .ok (.isub, 1) := by decide +kernel
theorem dX8_stepping_70 : decode cX8_stepping 70 = .ok (.goto 17, 3) := by decide +kernel
theorem dX8_stepping_73 : decode cX8_stepping 73 = .ok (.iload_n 3, 1) := by decide +kernel
theorem dX8_stepping_74 : decode cX8_stepping 74 = .ok (.iconst 5, 1) := by decide +kernel
theorem dX8_stepping_75 : decode cX8_stepping 75 = .ok (.if_icmp .ne 10, 3) := by decide +kernel
theorem dX8_stepping_78 : decode cX8_stepping 78 = .ok (.iload 4, 2) := by decide +kernel
theorem dX8_stepping_80 : decode cX8_stepping 80 = .ok (.iconst 5, 1) := by decide +kernel
theorem dX8_stepping_81 : decode cX8_stepping 81 = .ok (.ixor, 1) := by decide +kernel
theorem dX8_stepping_82 : decode cX8_stepping 82 = .ok (.goto 5, 3) := by decide +kernel
theorem dX8_stepping_85 : decode cX8_stepping 85 = .ok (.iload 4, 2) := by decide +kernel
theorem dX8_stepping_87 : decode cX8_stepping 87 = .ok (.ireturn, 1) := by decide +kernel
theorem dX8_act_0 : decode cX8_act 0 = .ok (.aload_n 0, 1) := by decide +kernel
theorem dX8_act_1 : decode cX8_act 1 = .ok (.iconst 0, 1) := by decide +kernel
theorem dX8_act_2 : decode cX8_act 2 = .ok (.putfield 303, 3) := by decide +kernel
theorem dX8_act_5 : decode cX8_act 5 = .ok (.aload_n 0, 1) := by decide +kernel
theorem dX8_act_6 : decode cX8_act 6 = .ok (.iload_n 1, 1) := by decide +kernel
theorem dX8_act_7 : decode cX8_act 7 = .ok (.invokevirtual 146, 3) := by decide +kernel
theorem dX8_act_10 : decode cX8_act 10 = .ok (.ifCond .eq 12, 3) := by decide +kernel
theorem dX8_act_13 : decode cX8_act 13 = .ok (.iload_n 2, 1) := by decide +kernel
theorem dX8_act_14 : decode cX8_act 14 = .ok (.ifCond .lt 8, 3) := by decide +kernel
theorem dX8_act_17 : decode cX8_act 17 = .ok (.iload_n 2, 1) := by decide +kernel
theorem dX8_act_18 : decode cX8_act 18 = .ok (.iconst 2, 1) := by decide +kernel
theorem dX8_act_19 : decode cX8_act 19 = .ok (.if_icmp .le 5, 3) := by decide +kernel
theorem dX8_act_22 : decode cX8_act 22 = .ok (.iconst 0, 1) := by decide +kernel
theorem dX8_act_23 : decode cX8_act 23 = .ok (.ireturn, 1) := by decide +kernel
theorem dX8_act_24 : decode cX8_act 24 = .ok (.iload_n 2, 1) := by decide +kernel
theorem dX8_act_25 : decode cX8_act 25 = .ok (.ifCond .ne 12, 3) := by decide +kernel
theorem dX8_act_28 : decode cX8_act 28 = .ok (.aload_n 0, 1) := by decide +kernel
theorem dX8_act_29 : decode cX8_act 29 = .ok (.iload_n 1, 1) := by decide +kernel
theorem dX8_act_30 : decode cX8_act 30 = .ok (.iload_n 3, 1) := by decide +kernel
theorem dX8_act_31 : decode cX8_act 31 = .ok (.invokevirtual 310, 3) := by decide +kernel
theorem dX8_act_34 : decode cX8_act 34 = .ok (.goto 23, 3) := by decide +kernel
theorem dX8_act_37 : decode cX8_act 37 = .ok (.iload_n 2, 1) := by decide +kernel
theorem dX8_act_38 : decode cX8_act 38 = .ok (.iconst 1, 1) := by decide +kernel
theorem dX8_act_39 : decode cX8_act 39 = .ok (.if_icmp .ne 12, 3) := by decide +kernel
theorem dX8_act_42 : decode cX8_act 42 = .ok (.aload_n 0, 1) := by decide +kernel
theorem dX8_act_43 : decode cX8_act 43 = .ok (.iload_n 1, 1) := by decide +kernel
theorem dX8_act_44 : decode cX8_act 44 = .ok (.iload_n 3, 1) := by decide +kernel
theorem dX8_act_45 : decode cX8_act 45 = .ok (.invokevirtual 313, 3) := by decide +kernel
theorem dX8_act_48 : decode cX8_act 48 = .ok (.goto 9, 3) := by decide +kernel
theorem dX8_act_51 : decode cX8_act 51 = .ok (.aload_n 0, 1) := by decide +kernel
theorem dX8_act_52 : decode cX8_act 52 = .ok (.iload_n 1, 1) := by decide +kernel
theorem dX8_act_53 : decode cX8_act 53 = .ok (.iload_n 3, 1) := by decide +kernel
theorem dX8_act_54 : decode cX8_act 54 = .ok (.invokevirtual 316, 3) := by decide +kernel
theorem dX8_act_57 : decode cX8_act 57 = .ok (.ireturn, 1) := by decide +kernel
theorem dX8_trace_0 : decode cX8_trace 0 = .ok (.iload_n 1, 1) := by decide +kernel
theorem dX8_trace_1 : decode cX8_trace 1 = .ok (.ifCond .lt 26, 3) := by decide +kernel
theorem dX8_trace_4 : decode cX8_trace 4 = .ok (.iload_n 1, 1) := by decide +kernel
theorem dX8_trace_5 : decode cX8_trace 5 = .ok (.bipush 20, 2) := by decide +kernel
theorem dX8_trace_7 : decode cX8_trace 7 = .ok (.if_icmp .ge 20, 3) := by decide +kernel
theorem dX8_trace_10 : decode cX8_trace 10 = .ok (.iload_n 1, 1) := by decide +kernel
theorem dX8_trace_11 : decode cX8_trace 11 = .ok (.aload_n 0, 1) := by decide +kernel
theorem dX8_trace_12 : decode cX8_trace 12 = .ok (.getfield 303, 3) := by decide +kernel
theorem dX8_trace_15 : decode cX8_trace 15 = .ok (.if_icmp .ge 12, 3) := by decide +kernel
theorem dX8_trace_18 : decode cX8_trace 18 = .ok (.aload_n 0, 1) := by decide +kernel
theorem dX8_trace_19 : decode cX8_trace 19 = .ok (.getfield 123, 3) := by decide +kernel
theorem dX8_trace_22 : decode cX8_trace 22 = .ok (.iload_n 1, 1) := by decide +kernel
theorem dX8_trace_23 : decode cX8_trace 23 = .ok (.iaload, 1) := by decide +kernel
theorem dX8_trace_24 : decode cX8_trace 24 = .ok (.goto 4, 3) := by decide +kernel
theorem dX8_trace_27 : decode cX8_trace 27 = .ok (.iconst (-1), 1) := by decide +kernel
theorem dX8_trace_28 : decode cX8_trace 28 = .ok (.ireturn, 1) := by decide +kernel
theorem dX8_keeps_0 : decode cX8_keeps 0 = .ok (.iconst 0, 1) := by decide +kernel
theorem dX8_keeps_1 : decode cX8_keeps 1 = .ok (.istore 5, 2) := by decide +kernel
theorem dX8_keeps_3 : decode cX8_keeps 3 = .ok (.iload 5, 2) := by decide +kernel
theorem dX8_keeps_5 : decode cX8_keeps 5 = .ok (.iload_n 2, 1) := by decide +kernel
theorem dX8_keeps_6 : decode cX8_keeps 6 = .ok (.if_icmp .ge 43, 3) := by decide +kernel
theorem dX8_keeps_9 : decode cX8_keeps 9 = .ok (.iload 4, 2) := by decide +kernel
theorem dX8_keeps_11 : decode cX8_keeps 11 = .ok (.ifCond .eq 19, 3) := by decide +kernel
theorem dX8_keeps_14 : decode cX8_keeps 14 = .ok (.aload_n 1, 1) := by decide +kernel
theorem dX8_keeps_15 : decode cX8_keeps 15 = .ok (.iload 5, 2) := by decide +kernel
theorem dX8_keeps_17 : decode cX8_keeps 17 = .ok (.aload_n 0, 1) := by decide +kernel
theorem dX8_keeps_18 : decode cX8_keeps 18 = .ok (.getfield 129, 3) := by decide +kernel
theorem dX8_keeps_21 : decode cX8_keeps 21 = .ok (.iload_n 3, 1) := by decide +kernel
theorem dX8_keeps_22 : decode cX8_keeps 22 = .ok (.iload 5, 2) := by decide +kernel
theorem dX8_keeps_24 : decode cX8_keeps 24 = .ok (.iadd, 1) := by decide +kernel
theorem dX8_keeps_25 : decode cX8_keeps 25 = .ok (.iaload, 1) := by decide +kernel
theorem dX8_keeps_26 : decode cX8_keeps 26 = .ok (.iastore, 1) := by decide +kernel
theorem dX8_keeps_27 : decode cX8_keeps 27 = .ok (.goto 16, 3) := by decide +kernel
theorem dX8_keeps_30 : decode cX8_keeps 30 = .ok (.aload_n 0, 1) := by decide +kernel
theorem dX8_keeps_31 : decode cX8_keeps 31 = .ok (.getfield 129, 3) := by decide +kernel
theorem dX8_keeps_34 : decode cX8_keeps 34 = .ok (.iload_n 3, 1) := by decide +kernel
theorem dX8_keeps_35 : decode cX8_keeps 35 = .ok (.iload 5, 2) := by decide +kernel
theorem dX8_keeps_37 : decode cX8_keeps 37 = .ok (.iadd, 1) := by decide +kernel
theorem dX8_keeps_38 : decode cX8_keeps 38 = .ok (.aload_n 1, 1) := by decide +kernel
theorem dX8_keeps_39 : decode cX8_keeps 39 = .ok (.iload 5, 2) := by decide +kernel
theorem dX8_keeps_41 : decode cX8_keeps 41 = .ok (.iaload, 1) := by decide +kernel
theorem dX8_keeps_42 : decode cX8_keeps 42 = .ok (.iastore, 1) := by decide +kernel
theorem dX8_keeps_43 : decode cX8_keeps 43 = .ok (.iinc 5 1, 3) := by decide +kernel
theorem dX8_keeps_46 : decode cX8_keeps 46 = .ok (.goto (-43), 3) := by decide +kernel
theorem dX8_keeps_49 : decode cX8_keeps 49 = .ok (.iload_n 3, 1) := by decide +kernel
theorem dX8_keeps_50 : decode cX8_keeps 50 = .ok (.iload_n 2, 1) := by decide +kernel
theorem dX8_keeps_51 : decode cX8_keeps 51 = .ok (.iadd, 1) := by decide +kernel
theorem dX8_keeps_52 : decode cX8_keeps 52 = .ok (.ireturn, 1) := by decide +kernel
theorem dX8_all_0 : decode cX8_all 0 = .ok (.aload_n 0, 1) := by decide +kernel
theorem dX8_all_1 : decode cX8_all 1 = .ok (.aload_n 0, 1) := by decide +kernel
theorem dX8_all_2 : decode cX8_all 2 = .ok (.getfield 23, 3) := by decide +kernel
theorem dX8_all_5 : decode cX8_all 5 = .ok (.bipush 30, 2) := by decide +kernel
theorem dX8_all_7 : decode cX8_all 7 = .ok (.iconst 0, 1) := by decide +kernel
theorem dX8_all_8 : decode cX8_all 8 = .ok (.iload_n 1, 1) := by decide +kernel
theorem dX8_all_9 : decode cX8_all 9 = .ok (.invokevirtual 319, 3) := by decide +kernel
theorem dX8_all_12 : decode cX8_all 12 = .ok (.istore_n 2, 1) := by decide +kernel
theorem dX8_all_13 : decode cX8_all 13 = .ok (.aload_n 0, 1) := by decide +kernel
theorem dX8_all_14 : decode cX8_all 14 = .ok (.aload_n 0, 1) := by decide +kernel
theorem dX8_all_15 : decode cX8_all 15 = .ok (.getfield 26, 3) := by decide +kernel
theorem dX8_all_18 : decode cX8_all 18 = .ok (.bipush 30, 2) := by decide +kernel
theorem dX8_all_20 : decode cX8_all 20 = .ok (.iload_n 2, 1) := by decide +kernel
theorem dX8_all_21 : decode cX8_all 21 = .ok (.iload_n 1, 1) := by decide +kernel
theorem dX8_all_22 : decode cX8_all 22 = .ok (.invokevirtual 319, 3) := by decide +kernel
theorem dX8_all_25 : decode cX8_all 25 = .ok (.istore_n 2, 1) := by decide +kernel
theorem dX8_all_26 : decode cX8_all 26 = .ok (.aload_n 0, 1) := by decide +kernel
theorem dX8_all_27 : decode cX8_all 27 = .ok (.aload_n 0, 1) := by decide +kernel
theorem dX8_all_28 : decode cX8_all 28 = .ok (.getfield 29, 3) := by decide +kernel
theorem dX8_all_31 : decode cX8_all 31 = .ok (.bipush 30, 2) := by decide +kernel
theorem dX8_all_33 : decode cX8_all 33 = .ok (.iload_n 2, 1) := by decide +kernel
theorem dX8_all_34 : decode cX8_all 34 = .ok (.iload_n 1, 1) := by decide +kernel
theorem dX8_all_35 : decode cX8_all 35 = .ok (.invokevirtual 319, 3) := by decide +kernel
theorem dX8_all_38 : decode cX8_all 38 = .ok (.istore_n 2, 1) := by decide +kernel
theorem dX8_all_39 : decode cX8_all 39 = .ok (.aload_n 0, 1) := by decide +kernel
theorem dX8_all_40 : decode cX8_all 40 = .ok (.aload_n 0, 1) := by decide +kernel
theorem dX8_all_41 : decode cX8_all 41 = .ok (.getfield 32, 3) := by decide +kernel
theorem dX8_all_44 : decode cX8_all 44 = .ok (.bipush 30, 2) := by decide +kernel
theorem dX8_all_46 : decode cX8_all 46 = .ok (.iload_n 2, 1) := by decide +kernel
theorem dX8_all_47 : decode cX8_all 47 = .ok (.iload_n 1, 1) := by decide +kernel
theorem dX8_all_48 : decode cX8_all 48 = .ok (.invokevirtual 319, 3) := by decide +kernel
theorem dX8_all_51 : decode cX8_all 51 = .ok (.istore_n 2, 1) := by decide +kernel
theorem dX8_all_52 : decode cX8_all 52 = .ok (.aload_n 0, 1) := by decide +kernel
theorem dX8_all_53 : decode cX8_all 53 = .ok (.aload_n 0, 1) := by decide +kernel
theorem dX8_all_54 : decode cX8_all 54 = .ok (.getfield 35, 3) := by decide +kernel
theorem dX8_all_57 : decode cX8_all 57 = .ok (.bipush 30, 2) := by decide +kernel
theorem dX8_all_59 : decode cX8_all 59 = .ok (.iload_n 2, 1) := by decide +kernel
theorem dX8_all_60 : decode cX8_all 60 = .ok (.iload_n 1, 1) := by decide +kernel
theorem dX8_all_61 : decode cX8_all 61 = .ok (.invokevirtual 319, 3) := by decide +kernel
theorem dX8_all_64 : decode cX8_all 64 = .ok (.istore_n 2, 1) := by decide +kernel
theorem dX8_all_65 : decode cX8_all 65 = .ok (.aload_n 0, 1) := by decide +kernel
theorem dX8_all_66 : decode cX8_all 66 = .ok (.aload_n 0, 1) := by decide +kernel
theorem dX8_all_67 : decode cX8_all 67 = .ok (.getfield 38, 3) := by decide +kernel
theorem dX8_all_70 : decode cX8_all 70 = .ok (.bipush 30, 2) := by decide +kernel
theorem dX8_all_72 : decode cX8_all 72 = .ok (.iload_n 2, 1) := by decide +kernel
theorem dX8_all_73 : decode cX8_all 73 = .ok (.iload_n 1, 1) := by decide +kernel
theorem dX8_all_74 : decode cX8_all 74 = .ok (.invokevirtual 319, 3) := by decide +kernel
theorem dX8_all_77 : decode cX8_all 77 = .ok (.istore_n 2, 1) := by decide +kernel
theorem dX8_all_78 : decode cX8_all 78 = .ok (.aload_n 0, 1) := by decide +kernel
theorem dX8_all_79 : decode cX8_all 79 = .ok (.aload_n 0, 1) := by decide +kernel
theorem dX8_all_80 : decode cX8_all 80 = .ok (.getfield 41, 3) := by decide +kernel
theorem dX8_all_83 : decode cX8_all 83 = .ok (.bipush 30, 2) := by decide +kernel
theorem dX8_all_85 : decode cX8_all 85 = .ok (.iload_n 2, 1) := by decide +kernel
theorem dX8_all_86 : decode cX8_all 86 = .ok (.iload_n 1, 1) := by decide +kernel
theorem dX8_all_87 : decode cX8_all 87 = .ok (.invokevirtual 319, 3) := by decide +kernel
theorem dX8_all_90 : decode cX8_all 90 = .ok (.istore_n 2, 1) := by decide +kernel
theorem dX8_all_91 : decode cX8_all 91 = .ok (.aload_n 0, 1) := by decide +kernel
theorem dX8_all_92 : decode cX8_all 92 = .ok (.aload_n 0, 1) := by decide +kernel
theorem dX8_all_93 : decode cX8_all 93 = .ok (.getfield 44, 3) := by decide +kernel
theorem dX8_all_96 : decode cX8_all 96 = .ok (.bipush 30, 2) := by decide +kernel
theorem dX8_all_98 : decode cX8_all 98 = .ok (.iload_n 2, 1) := by decide +kernel
theorem dX8_all_99 : decode cX8_all 99 = .ok (.iload_n 1, 1) := by decide +kernel
theorem dX8_all_100 : decode cX8_all 100 = .ok (.invokevirtual 319, 3) := by decide +kernel
theorem dX8_all_103 : decode cX8_all 103 = .ok (.istore_n 2, 1) := by decide +kernel
theorem dX8_all_104 : decode cX8_all 104 = .ok (.aload_n 0, 1) := by decide +kernel
theorem dX8_all_105 : decode cX8_all 105 = .ok (.aload_n 0, 1) := by decide +kernel
theorem dX8_all_106 : decode cX8_all 106 = .ok (.getfield 47, 3) := by decide +kernel
theorem dX8_all_109 : decode cX8_all 109 = .ok (.bipush 30, 2) := by decide +kernel
theorem dX8_all_111 : decode cX8_all 111 = .ok (.iload_n 2, 1) := by decide +kernel
theorem dX8_all_112 : decode cX8_all 112 = .ok (.iload_n 1, 1) := by decide +kernel
theorem dX8_all_113 : decode cX8_all 113 = .ok (.invokevirtual 319, 3) := by decide +kernel
theorem dX8_all_116 : decode cX8_all 116 = .ok (.istore_n 2, 1) := by decide +kernel
theorem dX8_all_117 : decode cX8_all 117 = .ok (.aload_n 0, 1) := by decide +kernel
theorem dX8_all_118 : decode cX8_all 118 = .ok (.aload_n 0, 1) := by decide +kernel
theorem dX8_all_119 : decode cX8_all 119 = .ok (.getfield 50, 3) := by decide +kernel
theorem dX8_all_122 : decode cX8_all 122 = .ok (.bipush 30, 2) := by decide +kernel
theorem dX8_all_124 : decode cX8_all 124 = .ok (.iload_n 2, 1) := by decide +kernel
theorem dX8_all_125 : decode cX8_all 125 = .ok (.iload_n 1, 1) := by decide +kernel
theorem dX8_all_126 : decode cX8_all 126 = .ok (.invokevirtual 319, 3) := by decide +kernel
theorem dX8_all_129 : decode cX8_all 129 = .ok (.istore_n 2, 1) := by decide +kernel
theorem dX8_all_130 : decode cX8_all 130 = .ok (.aload_n 0, 1) := by decide +kernel
theorem dX8_all_131 : decode cX8_all 131 = .ok (.aload_n 0, 1) := by decide +kernel
theorem dX8_all_132 : decode cX8_all 132 = .ok (.getfield 53, 3) := by decide +kernel
theorem dX8_all_135 : decode cX8_all 135 = .ok (.bipush 8, 2) := by decide +kernel
theorem dX8_all_137 : decode cX8_all 137 = .ok (.iload_n 2, 1) := by decide +kernel
theorem dX8_all_138 : decode cX8_all 138 = .ok (.iload_n 1, 1) := by decide +kernel
theorem dX8_all_139 : decode cX8_all 139 = .ok (.invokevirtual 319, 3) := by decide +kernel
theorem dX8_all_142 : decode cX8_all 142 = .ok (.istore_n 2, 1) := by decide +kernel
theorem dX8_all_143 : decode cX8_all 143 = .ok (.aload_n 0, 1) := by decide +kernel
theorem dX8_all_144 : decode cX8_all 144 = .ok (.aload_n 0, 1) := by decide +kernel
theorem dX8_all_145 : decode cX8_all 145 = .ok (.getfield 59, 3) := by decide +kernel
theorem dX8_all_148 : decode cX8_all 148 = .ok (.bipush 42, 2) := by decide +kernel
theorem dX8_all_150 : decode cX8_all 150 = .ok (.iload_n 2, 1) := by decide +kernel
theorem dX8_all_151 : decode cX8_all 151 = .ok (.iload_n 1, 1) := by decide +kernel
theorem dX8_all_152 : decode cX8_all 152 = .ok (.invokevirtual 319, 3) := by decide +kernel
theorem dX8_all_155 : decode cX8_all 155 = .ok (.pop, 1) := by decide +kernel
theorem dX8_all_156 : decode cX8_all 156 = .ok (.return_, 1) := by decide +kernel
theorem dX8_image_0 : decode cX8_image 0 = .ok (.aload_n 0, 1) := by decide +kernel
theorem dX8_image_1 : decode cX8_image 1 = .ok (.aload_n 0, 1) := by decide +kernel
theorem dX8_image_2 : decode cX8_image 2 = .ok (.getfield 223, 3) := by decide +kernel
theorem dX8_image_5 : decode cX8_image 5 = .ok (.putfield 126, 3) := by decide +kernel
theorem dX8_image_8 : decode cX8_image 8 = .ok (.aload_n 0, 1) := by decide +kernel
theorem dX8_image_9 : decode cX8_image 9 = .ok (.aload_n 0, 1) := by decide +kernel
theorem dX8_image_10 : decode cX8_image 10 = .ok (.getfield 132, 3) := by decide +kernel
theorem dX8_image_13 : decode cX8_image 13 = .ok (.putfield 323, 3) := by decide +kernel
theorem dX8_image_16 : decode cX8_image 16 = .ok (.aload_n 0, 1) := by decide +kernel
theorem dX8_image_17 : decode cX8_image 17 = .ok (.aload_n 0, 1) := by decide +kernel
theorem dX8_image_18 : decode cX8_image 18 = .ok (.getfield 135, 3) := by decide +kernel
theorem dX8_image_21 : decode cX8_image 21 = .ok (.putfield 326, 3) := by decide +kernel
theorem dX8_image_24 : decode cX8_image 24 = .ok (.aload_n 0, 1) := by decide +kernel
theorem dX8_image_25 : decode cX8_image 25 = .ok (.aload_n 0, 1) := by decide +kernel
theorem dX8_image_26 : decode cX8_image 26 = .ok (.getfield 296, 3) := by decide +kernel
theorem dX8_image_29 : decode cX8_image 29 = .ok (.putfield 329, 3) := by decide +kernel
theorem dX8_image_32 : decode cX8_image 32 = .ok (.aload_n 0, 1) := by decide +kernel
theorem dX8_image_33 : decode cX8_image 33 = .ok (.aload_n 0, 1) := by decide +kernel
theorem dX8_image_34 : decode cX8_image 34 = .ok (.getfield 7, 3) := by decide +kernel
theorem dX8_image_37 : decode cX8_image 37 = .ok (.putfield 332, 3) := by decide +kernel
theorem dX8_image_40 : decode cX8_image 40 = .ok (.aload_n 0, 1) := by decide +kernel
theorem dX8_image_41 : decode cX8_image 41 = .ok (.aload_n 0, 1) := by decide +kernel
theorem dX8_image_42 : decode cX8_image 42 = .ok (.getfield 13, 3) := by decide +kernel
theorem dX8_image_45 : decode cX8_image 45 = .ok (.putfield 335, 3) := by decide +kernel
theorem dX8_image_48 : decode cX8_image 48 = .ok (.aload_n 0, 1) := by decide +kernel
theorem dX8_image_49 : decode cX8_image 49 = .ok (.aload_n 0, 1) := by decide +kernel
theorem dX8_image_50 : decode cX8_image 50 = .ok (.getfield 235, 3) := by decide +kernel
theorem dX8_image_53 : decode cX8_image 53 = .ok (.putfield 338, 3) := by decide +kernel
theorem dX8_image_56 : decode cX8_image 56 = .ok (.aload_n 0, 1) := by decide +kernel
theorem dX8_image_57 : decode cX8_image 57 = .ok (.aload_n 0, 1) := by decide +kernel
theorem dX8_image_58 : decode cX8_image 58 = .ok (.getfield 241, 3) := by decide +kernel
theorem dX8_image_61 : decode cX8_image 61 = .ok (.putfield 341, 3) := by decide +kernel
theorem dX8_image_64 : decode cX8_image 64 = .ok (.aload_n 0, 1) := by decide +kernel
theorem dX8_image_65 : decode cX8_image 65 = .ok (.iconst 0, 1) := by decide +kernel
theorem dX8_image_66 : decode cX8_image 66 = .ok (.invokevirtual 344, 3) := by decide +kernel
theorem dX8_image_69 : decode cX8_image 69 = .ok (.aload_n 0, 1) := by decide +kernel
theorem dX8_image_70 : decode cX8_image 70 = .ok (.getfield 223, 3) := by decide +kernel
theorem dX8_image_73 : decode cX8_image 73 = .ok (.ireturn, 1) := by decide +kernel
theorem dX8_restore_0 : decode cX8_restore 0 = .ok (.aload_n 0, 1) := by decide +kernel
theorem dX8_restore_1 : decode cX8_restore 1 = .ok (.getfield 126, 3) := by decide +kernel
theorem dX8_restore_4 : decode cX8_restore 4 = .ok (.iconst (-1), 1) := by decide +kernel
theorem dX8_restore_5 : decode cX8_restore 5 = .ok (.if_icmp .ne 10, 3) := by decide +kernel
theorem dX8_restore_8 : decode cX8_restore 8 = .ok (.aload_n 0, 1) := by decide +kernel
theorem dX8_restore_9 : decode cX8_restore 9 = .ok (.bipush (-6), 2) := by decide +kernel
theorem dX8_restore_11 : decode cX8_restore 11 = .ok (.invokevirtual 142, 3) := by decide +kernel
theorem dX8_restore_14 : decode cX8_restore 14 = .ok (.ireturn, 1) := by decide +kernel
theorem dX8_restore_15 : decode cX8_restore 15 = .ok (.aload_n 0, 1) := by decide +kernel
theorem dX8_restore_16 : decode cX8_restore 16 = .ok (.aload_n 0, 1) := by decide +kernel
theorem dX8_restore_17 : decode cX8_restore 17 = .ok (.getfield 126, 3) := by decide +kernel
theorem dX8_restore_20 : decode cX8_restore 20 = .ok (.putfield 223, 3) := by decide +kernel
theorem dX8_restore_23 : decode cX8_restore 23 = .ok (.aload_n 0, 1) := by decide +kernel
theorem dX8_restore_24 : decode cX8_restore 24 = .ok (.aload_n 0, 1) := by decide +kernel
theorem dX8_restore_25 : decode cX8_restore 25 = .ok (.getfield 323, 3) := by decide +kernel
theorem dX8_restore_28 : decode cX8_restore 28 = .ok (.putfield 132, 3) := by decide +kernel
theorem dX8_restore_31 : decode cX8_restore 31 = .ok (.aload_n 0, 1) := by decide +kernel
theorem dX8_restore_32 : decode cX8_restore 32 = .ok (.aload_n 0, 1) := by decide +kernel
theorem dX8_restore_33 : decode cX8_restore 33 = .ok (.getfield 326, 3) := by decide +kernel
theorem dX8_restore_36 : decode cX8_restore 36 = .ok (.putfield 135, 3) := by decide +kernel
theorem dX8_restore_39 : decode cX8_restore 39 = .ok (.aload_n 0, 1) := by decide +kernel
theorem dX8_restore_40 : decode cX8_restore 40 = .ok (.aload_n 0, 1) := by decide +kernel
theorem dX8_restore_41 : decode cX8_restore 41 = .ok (.getfield 329, 3) := by decide +kernel
theorem dX8_restore_44 : decode cX8_restore 44 = .ok (.putfield 296, 3) := by decide +kernel
theorem dX8_restore_47 : decode cX8_restore 47 = .ok (.aload_n 0, 1) := by decide +kernel
theorem dX8_restore_48 : decode cX8_restore 48 = .ok (.aload_n 0, 1) := by decide +kernel
theorem dX8_restore_49 : decode cX8_restore 49 = .ok (.getfield 332, 3) := by decide +kernel
theorem dX8_restore_52 : decode cX8_restore 52 = .ok (.putfield 7, 3) := by decide +kernel
theorem dX8_restore_55 : decode cX8_restore 55 = .ok (.aload_n 0, 1) := by decide +kernel
theorem dX8_restore_56 : decode cX8_restore 56 = .ok (.aload_n 0, 1) := by decide +kernel
theorem dX8_restore_57 : decode cX8_restore 57 = .ok (.getfield 335, 3) := by decide +kernel
theorem dX8_restore_60 : decode cX8_restore 60 = .ok (.putfield 13, 3) := by decide +kernel
theorem dX8_restore_63 : decode cX8_restore 63 = .ok (.aload_n 0, 1) := by decide +kernel
theorem dX8_restore_64 : decode cX8_restore 64 = .ok (.aload_n 0, 1) := by decide +kernel
theorem dX8_restore_65 : decode cX8_restore 65 = .ok (.getfield 338, 3) := by decide +kernel
theorem dX8_restore_68 : decode cX8_restore 68 = .ok (.putfield 235, 3) := by decide +kernel
theorem dX8_restore_71 : decode cX8_restore 71 = .ok (.aload_n 0, 1) := by decide +kernel
theorem dX8_restore_72 : decode cX8_restore 72 = .ok (.aload_n 0, 1) := by decide +kernel
theorem dX8_restore_73 : decode cX8_restore 73 = .ok (.getfield 341, 3) := by decide +kernel
theorem dX8_restore_76 : decode cX8_restore 76 = .ok (.putfield 241, 3) := by decide +kernel
theorem dX8_restore_79 : decode cX8_restore 79 = .ok (.aload_n 0, 1) := by decide +kernel
theorem dX8_restore_80 : decode cX8_restore 80 = .ok (.iconst 1, 1) := by decide +kernel
theorem dX8_restore_81 : decode cX8_restore 81 = .ok (.invokevirtual 344, 3) := by decide +kernel
theorem dX8_restore_84 : decode cX8_restore 84 = .ok (.iconst 0, 1) := by decide +kernel
theorem dX8_restore_85 : decode cX8_restore 85 = .ok (.istore_n 1, 1) := by decide +kernel
theorem dX8_restore_86 : decode cX8_restore 86 = .ok (.iload_n 1, 1) := by decide +kernel
theorem dX8_restore_87 : decode cX8_restore 87 = .ok (.bipush 8, 2) := by decide +kernel
theorem dX8_restore_89 : decode cX8_restore 89 = .ok (.if_icmp .ge 39, 3) := by decide +kernel
theorem dX8_restore_92 : decode cX8_restore 92 = .ok (.aload_n 0, 1) := by decide +kernel
theorem dX8_restore_93 : decode cX8_restore 93 = .ok (.getfield 62, 3) := by decide +kernel
theorem dX8_restore_96 : decode cX8_restore 96 = .ok (.iload_n 1, 1) := by decide +kernel
theorem dX8_restore_97 : decode cX8_restore 97 = .ok (.iaload, 1) := by decide +kernel
theorem dX8_restore_98 : decode cX8_restore 98 = .ok (.iconst 2, 1) := by decide +kernel
theorem dX8_restore_99 : decode cX8_restore 99 = .ok (.if_icmp .ne 23, 3) := by decide +kernel
theorem dX8_restore_102 : decode cX8_restore 102 = .ok (.aload_n 0, 1) := by decide +kernel
theorem dX8_restore_103 : decode cX8_restore 103 = .ok (.getfield 71, 3) := by decide +kernel
theorem dX8_restore_106 : decode cX8_restore 106 = .ok (.iload_n 1, 1) := by decide +kernel
theorem dX8_restore_107 : decode cX8_restore 107 = .ok (.iaload, 1) := by decide +kernel
theorem dX8_restore_108 : decode cX8_restore 108 = .ok (.aload_n 0, 1) := by decide +kernel
theorem dX8_restore_109 : decode cX8_restore 109 = .ok (.getfield 132, 3) := by decide +kernel
theorem dX8_restore_112 : decode cX8_restore 112 = .ok (.if_icmp .lt 10, 3) := by decide +kernel
theorem dX8_restore_115 : decode cX8_restore 115 = .ok (.aload_n 0, 1) := by decide +kernel
theorem dX8_restore_116 : decode cX8_restore 116 = .ok (.getfield 62, 3) := by decide +kernel
theorem dX8_restore_119 : decode cX8_restore 119 = .ok (.iload_n 1, 1) := by decide +kernel
theorem dX8_restore_120 : decode cX8_restore 120 = .ok (.iconst 0, 1) := by decide +kernel
theorem dX8_restore_121 : decode cX8_restore 121 = .ok (.iastore, 1) := by decide +kernel
theorem dX8_restore_122 : decode cX8_restore 122 = .ok (.iinc 1 1, 3) := by decide +kernel
theorem dX8_restore_125 : decode cX8_restore 125 = .ok (.goto (-39), 3) := by decide +kernel
theorem dX8_restore_128 : decode cX8_restore 128 = .ok (.aload_n 0, 1) := by decide +kernel
theorem dX8_restore_129 : decode cX8_restore 129 = .ok (.getfield 223, 3) := by decide +kernel
theorem dX8_restore_132 : decode cX8_restore 132 = .ok (.ireturn, 1) := by decide +kernel
theorem dX8_status_0 : decode cX8_status 0 = .ok (.iload_n 1, 1) := by decide +kernel
theorem dX8_status_1 : decode cX8_status 1 = .ok (.bipush 11, 2) := by decide +kernel
theorem dX8_status_3 : decode cX8_status 3 = .ok (.if_icmp .lt 19, 3) := by decide +kernel
theorem dX8_status_6 : decode cX8_status 6 = .ok (.iload_n 1, 1) := by decide +kernel
theorem dX8_status_7 : decode cX8_status 7 = .ok (.bipush 17, 2) := by decide +kernel
theorem dX8_status_9 : decode cX8_status 9 = .ok (.if_icmp .gt 13, 3) := by decide +kernel
theorem dX8_status_12 : decode cX8_status 12 = .ok (.aload_n 0, 1) := by decide +kernel
theorem dX8_status_13 : decode cX8_status 13 = .ok (.getfield 19, 3) := by decide +kernel
theorem dX8_status_16 : decode cX8_status 16 = .ok (.iload_n 1, 1) := by decide +kernel
theorem dX8_status_17 : decode cX8_status 17 = .ok (.bipush 10, 2) := by decide +kernel
theorem dX8_status_19 : decode cX8_status 19 = .ok (.isub, 1) := by decide +kernel
theorem dX8_status_20 : decode cX8_status 20 = .ok (.iaload, 1) := by decide +kernel
theorem dX8_status_21 : decode cX8_status 21 = .ok (.ireturn, 1) := by decide +kernel
theorem dX8_status_22 : decode cX8_status 22 = .ok (.iload_n 1, 1) := by decide +kernel
theorem dX8_status_23 : decode cX8_status 23 = .ok (.tableswitch 67 0 5 #[37, 42, 47, 52, 57, 62], 37) := by decide +kernel
theorem dX8_status_60 : decode cX8_status 60 = .ok (.aload_n 0, 1) := by decide +kernel
theorem dX8_status_61 : decode cX8_status 61 = .ok (.getfield 132, 3) := by decide +kernel
theorem dX8_status_64 : decode cX8_status 64 = .ok (.ireturn, 1) := by decide +kernel
theorem dX8_status_65 : decode cX8_status 65 = .ok (.aload_n 0, 1) := by decide +kernel
theorem dX8_status_66 : decode cX8_status 66 = .ok (.getfield 135, 3) := by decide +kernel
theorem dX8_status_69 : decode cX8_status 69 = .ok (.ireturn, 1) := by decide +kernel
theorem dX8_status_70 : decode cX8_status 70 = .ok (.aload_n 0, 1) := by decide +kernel
theorem dX8_status_71 : decode cX8_status 71 = .ok (.getfield 296, 3) := by decide +kernel
theorem dX8_status_74 : decode cX8_status 74 = .ok (.ireturn, 1) := by decide +kernel
theorem dX8_status_75 : decode cX8_status 75 = .ok (.aload_n 0, 1) := by decide +kernel
theorem dX8_status_76 : decode cX8_status 76 = .ok (.getfield 223, 3) := by decide +kernel
theorem dX8_status_79 : decode cX8_status 79 = .ok (.ireturn, 1) := by decide +kernel
theorem dX8_status_80 : decode cX8_status 80 = .ok (.aload_n 0, 1) := by decide +kernel
theorem dX8_status_81 : decode cX8_status 81 = .ok (.getfield 7, 3) := by decide +kernel
theorem dX8_status_84 : decode cX8_status 84 = .ok (.ireturn, 1) := by decide +kernel
theorem dX8_status_85 : decode cX8_status 85 = .ok (.aload_n 0, 1) := by decide +kernel
theorem dX8_status_86 : decode cX8_status 86 = .ok (.getfield 303, 3) := by decide +kernel
theorem dX8_status_89 : decode cX8_status 89 = .ok (.ireturn, 1) := by decide +kernel
theorem dX8_status_90 : decode cX8_status 90 = .ok (.iconst (-1), 1) := by decide +kernel
theorem dX8_status_91 : decode cX8_status 91 = .ok (.ireturn, 1) := by decide +kernel
