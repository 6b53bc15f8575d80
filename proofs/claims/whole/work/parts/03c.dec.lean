theorem dX11_init_0 : decode cX11_init 0 = .ok (.aload_n 0, 1) := by decide +kernel
theorem dX11_init_1 : decode cX11_init 1 = .ok (.invokespecial 1, 3) := by decide +kernel
theorem dX11_init_4 : decode cX11_init 4 = .ok (.aload_n 0, 1) := by decide +kernel
theorem dX11_init_5 : decode cX11_init 5 = .ok (.sipush 666, 3) := by decide +kernel
theorem dX11_init_8 : decode cX11_init 8 = .ok (.newarray .int, 2) := by decide +kernel
theorem dX11_init_10 : decode cX11_init 10 = .ok (.putfield 7, 3) := by decide +kernel
theorem dX11_init_13 : decode cX11_init 13 = .ok (.aload_n 0, 1) := by decide +kernel
theorem dX11_init_14 : decode cX11_init 14 = .ok (.sipush 666, 3) := by decide +kernel
theorem dX11_init_17 : decode cX11_init 17 = .ok (.newarray .int, 2) := by decide +kernel
theorem dX11_init_19 : decode cX11_init 19 = .ok (.putfield 13, 3) := by decide +kernel
theorem dX11_init_22 : decode cX11_init 22 = .ok (.aload_n 0, 1) := by decide +kernel
theorem dX11_init_23 : decode cX11_init 23 = .ok (.iconst 3, 1) := by decide +kernel
theorem dX11_init_24 : decode cX11_init 24 = .ok (.newarray .long, 2) := by decide +kernel
theorem dX11_init_26 : decode cX11_init 26 = .ok (.putfield 16, 3) := by decide +kernel
theorem dX11_init_29 : decode cX11_init 29 = .ok (.aload_n 0, 1) := by decide +kernel
theorem dX11_init_30 : decode cX11_init 30 = .ok (.iconst 3, 1) := by decide +kernel
theorem dX11_init_31 : decode cX11_init 31 = .ok (.newarray .long, 2) := by decide +kernel
theorem dX11_init_33 : decode cX11_init 33 = .ok (.putfield 20, 3) := by decide +kernel
theorem dX11_init_36 : decode cX11_init 36 = .ok (.aload_n 0, 1) := by decide +kernel
theorem dX11_init_37 : decode cX11_init 37 = .ok (.bipush 12, 2) := by decide +kernel
theorem dX11_init_39 : decode cX11_init 39 = .ok (.newarray .int, 2) := by decide +kernel
theorem dX11_init_41 : decode cX11_init 41 = .ok (.dup, 1) := by decide +kernel
theorem dX11_init_42 : decode cX11_init 42 = .ok (.iconst 0, 1) := by decide +kernel
theorem dX11_init_43 : decode cX11_init 43 = .ok (.sipush 10006, 3) := by decide +kernel
theorem dX11_init_46 : decode cX11_init 46 = .ok (.iastore, 1) := by decide +kernel
theorem dX11_init_47 : decode cX11_init 47 = .ok (.dup, 1) := by decide +kernel
theorem dX11_init_48 : decode cX11_init 48 = .ok (.iconst 1, 1) := by decide +kernel
theorem dX11_init_49 : decode cX11_init 49 = .ok (.sipush 10001, 3) := by decide +kernel
theorem dX11_init_52 : decode cX11_init 52 = .ok (.iastore, 1) := by decide +kernel
theorem dX11_init_53 : decode cX11_init 53 = .ok (.dup, 1) := by decide +kernel
theorem dX11_init_54 : decode cX11_init 54 = .ok (.iconst 2, 1) := by decide +kernel
theorem dX11_init_55 : decode cX11_init 55 = .ok (.iconst 4, 1) := by decide +kernel
theorem dX11_init_56 : decode cX11_init 56 = .ok (.iastore, 1) := by decide +kernel
theorem dX11_init_57 : decode cX11_init 57 = .ok (.dup, 1) := by decide +kernel
theorem dX11_init_58 : decode cX11_init 58 = .ok (.iconst 3, 1) := by decide +kernel
theorem dX11_init_59 : decode cX11_init 59 = .ok (.sipush 10014, 3) := by decide +kernel
theorem dX11_init_62 : decode cX11_init 62 = .ok (.iastore, 1) := by decide +kernel
theorem dX11_init_63 : decode cX11_init 63 = .ok (.dup, 1) := by decide +kernel
theorem dX11_init_64 : decode cX11_init 64 = .ok (.iconst 4, 1) := by decide +kernel
theorem dX11_init_65 : decode cX11_init 65 = .ok (.sipush 10000, 3) := by decide +kernel
theorem dX11_init_68 : decode cX11_init 68 = .ok (.iastore, 1) := by decide +kernel
theorem dX11_init_69 : decode cX11_init 69 = .ok (.dup, 1) := by decide +kernel
theorem dX11_init_70 : decode cX11_init 70 = .ok (.iconst 5, 1) := by decide +kernel
theorem dX11_init_71 : decode cX11_init 71 = .ok (.bipush 100, 2) := by decide +kernel
theorem dX11_init_73 : decode cX11_init 73 = .ok (.iastore, 1) := by decide +kernel
theorem dX11_init_74 : decode cX11_init 74 = .ok (.dup, 1) := by decide +kernel
theorem dX11_init_75 : decode cX11_init 75 = .ok (.bipush 6, 2) := by decide +kernel
theorem dX11_init_77 : decode cX11_init 77 = .ok (.sipush 10018, 3) := by decide +kernel
theorem dX11_init_80 : decode cX11_init 80 = .ok (.iastore, 1) := by decide +kernel
theorem dX11_init_81 : decode cX11_init 81 = .ok (.dup, 1) := by decide +kernel
theorem dX11_init_82 : decode cX11_init 82 = .ok (.bipush 7, 2) := by decide +kernel
theorem dX11_init_84 : decode cX11_init 84 = .ok (.sipush 10000, 3) := by decide +kernel
theorem dX11_init_87 : decode cX11_init 87 = .ok (.iastore, 1) := by decide +kernel
theorem dX11_init_88 : decode cX11_init 88 = .ok (.dup, 1) := by decide +kernel
theorem dX11_init_89 : decode cX11_init 89 = .ok (.bipush 8, 2) := by decide +kernel
theorem dX11_init_91 : decode cX11_init 91 = .ok (.iconst 5, 1) := by decide +kernel
theorem dX11_init_92 : decode cX11_init 92 = .ok (.iastore, 1) := by decide +kernel
theorem dX11_init_93 : decode cX11_init 93 = .ok (.dup, 1) := by decide +kernel
theorem dX11_init_94 : decode cX11_init 94 = .ok (.bipush 9, 2) := by decide +kernel
theorem dX11_init_96 : decode cX11_init 96 = .ok (.sipush 10014, 3) := by decide +kernel
theorem dX11_init_99 : decode cX11_init 99 = .ok (.iastore, 1) := by decide +kernel
theorem dX11_init_100 : decode cX11_init 100 = .ok (.dup, 1) := by decide +kernel
theorem dX11_init_101 : decode cX11_init 101 = .ok (.bipush 10, 2) := by decide +kernel
theorem dX11_init_103 : decode cX11_init 103 = .ok (.sipush 10001, 3) := by decide +kernel
theorem dX11_init_106 : decode cX11_init 106 = .ok (.iastore, 1) := by decide +kernel
theorem dX11_init_107 : decode cX11_init 107 = .ok (.dup, 1) := by decide +kernel
theorem dX11_init_108 : decode cX11_init 108 = .ok (.bipush 11, 2) := by decide +kernel
theorem dX11_init_110 : decode cX11_init 110 = .ok (.sipush 10011, 3) := by decide +kernel
theorem dX11_init_113 : decode cX11_init 113 = .ok (.iastore, 1) := by decide +kernel
theorem dX11_init_114 : decode cX11_init 114 = .ok (.putfield 23, 3) := by decide +kernel
theorem dX11_init_117 : decode cX11_init 117 = .ok (.aload_n 0, 1) := by decide +kernel
theorem dX11_init_118 : decode cX11_init 118 = .ok (.iconst 4, 1) := by decide +kernel
theorem dX11_init_119 : decode cX11_init 119 = .ok (.newarray .int, 2) := by decide +kernel
theorem dX11_init_121 : decode cX11_init 121 = .ok (.dup, 1) := by decide +kernel
theorem dX11_init_122 : decode cX11_init 122 = .ok (.iconst 0, 1) := by decide +kernel
theorem dX11_init_123 : decode cX11_init 123 = .ok (.iconst 0, 1) := by decide +kernel
theorem dX11_init_124 : decode cX11_init 124 = .ok (.iastore, 1) := by decide +kernel
theorem dX11_init_125 : decode cX11_init 125 = .ok (.dup, 1) := by decide +kernel
theorem dX11_init_126 : decode cX11_init 126 = .ok (.iconst 1, 1) := by decide +kernel
theorem dX11_init_127 : decode cX11_init 127 = .ok (.iconst 1, 1) := by decide +kernel
theorem dX11_init_128 : decode cX11_init 128 = .ok (.iastore, 1) := by decide +kernel
theorem dX11_init_129 : decode cX11_init 129 = .ok (.dup, 1) := by decide +kernel
theorem dX11_init_130 : decode cX11_init 130 = .ok (.iconst 2, 1) := by decide +kernel
theorem dX11_init_131 : decode cX11_init 131 = .ok (.iconst 4, 1) := by decide +kernel
theorem dX11_init_132 : decode cX11_init 132 = .ok (.iastore, 1) := by decide +kernel
theorem dX11_init_133 : decode cX11_init 133 = .ok (.dup, 1) := by decide +kernel
theorem dX11_init_134 : decode cX11_init 134 = .ok (.iconst 3, 1) := by decide +kernel
theorem dX11_init_135 : decode cX11_init 135 = .ok (.bipush 7, 2) := by decide +kernel
theorem dX11_init_137 : decode cX11_init 137 = .ok (.iastore, 1) := by decide +kernel
theorem dX11_init_138 : decode cX11_init 138 = .ok (.putfield 26, 3) := by decide +kernel
theorem dX11_init_141 : decode cX11_init 141 = .ok (.aload_n 0, 1) := by decide +kernel
theorem dX11_init_142 : decode cX11_init 142 = .ok (.iconst 4, 1) := by decide +kernel
theorem dX11_init_143 : decode cX11_init 143 = .ok (.newarray .int, 2) := by decide +kernel
theorem dX11_init_145 : decode cX11_init 145 = .ok (.dup, 1) := by decide +kernel
theorem dX11_init_146 : decode cX11_init 146 = .ok (.iconst 0, 1) := by decide +kernel
theorem dX11_init_147 : decode cX11_init 147 = .ok (.iconst 1, 1) := by decide +kernel
theorem dX11_init_148 : decode cX11_init 148 = .ok (.iastore, 1) := by decide +kernel
theorem dX11_init_149 : decode cX11_init 149 = .ok (.dup, 1) := by decide +kernel
theorem dX11_init_150 : decode cX11_init 150 = .ok (.iconst 1, 1) := by decide +kernel
theorem dX11_init_151 : decode cX11_init 151 = .ok (.iconst 4, 1) := by decide +kernel
theorem dX11_init_152 : decode cX11_init 152 = .ok (.iastore, 1) := by decide +kernel
theorem dX11_init_153 : decode cX11_init 153 = .ok (.dup, 1) := by decide +kernel
theorem dX11_init_154 : decode cX11_init 154 = .ok (.iconst 2, 1) := by decide +kernel
theorem dX11_init_155 : decode cX11_init 155 = .ok (.bipush 7, 2) := by decide +kernel
theorem dX11_init_157 : decode cX11_init 157 = .ok (.iastore, 1) := by decide +kernel
theorem dX11_init_158 : decode cX11_init 158 = .ok (.dup, 1) := by decide +kernel
theorem dX11_init_159 : decode cX11_init 159 = .ok (.iconst 3, 1) := by decide +kernel
theorem dX11_init_160 : decode cX11_init 160 = .ok (.bipush 12, 2) := by decide +kernel
theorem dX11_init_162 : decode cX11_init 162 = .ok (.iastore, 1) := by decide +kernel
theorem dX11_init_163 : decode cX11_init 163 = .ok (.putfield 29, 3) := by decide +kernel
theorem dX11_init_166 : decode cX11_init 166 = .ok (.aload_n 0, 1) := by decide +kernel
theorem dX11_init_167 : decode cX11_init 167 = .ok (.bipush 9, 2) := by decide +kernel
theorem dX11_init_169 : decode cX11_init 169 = .ok (.newarray .int, 2) := by decide +kernel
theorem dX11_init_171 : decode cX11_init 171 = .ok (.putfield 32, 3) := by decide +kernel
theorem dX11_init_174 : decode cX11_init 174 = .ok (.aload_n 0, 1) := by decide +kernel
theorem dX11_init_175 : decode cX11_init 175 = .ok (.bipush 60, 2) := by decide +kernel
theorem dX11_init_177 : decode cX11_init 177 = .ok (.newarray .int, 2) := by decide +kernel
theorem dX11_init_179 : decode cX11_init 179 = .ok (.putfield 35, 3) := by decide +kernel
theorem dX11_init_182 : decode cX11_init 182 = .ok (.aload_n 0, 1) := by decide +kernel
theorem dX11_init_183 : decode cX11_init 183 = .ok (.bipush 60, 2) := by decide +kernel
theorem dX11_init_185 : decode cX11_init 185 = .ok (.newarray .int, 2) := by decide +kernel
theorem dX11_init_187 : decode cX11_init 187 = .ok (.putfield 38, 3) := by decide +kernel
theorem dX11_init_190 : decode cX11_init 190 = .ok (.aload_n 0, 1) := by decide +kernel
theorem dX11_init_191 : decode cX11_init 191 = .ok (.sipush 220, 3) := by decide +kernel
theorem dX11_init_194 : decode cX11_init 194 = .ok (.newarray .int, 2) := by decide +kernel
theorem dX11_init_196 : decode cX11_init 196 = .ok (.putfield 41, 3) := by decide +kernel
theorem dX11_init_199 : decode cX11_init 199 = .ok (.aload_n 0, 1) := by decide +kernel
theorem dX11_init_200 : decode cX11_init 200 = .ok (.sipush 200, 3) := by decide +kernel
theorem dX11_init_203 : decode cX11_init 203 = .ok (.newarray .int, 2) := by decide +kernel
theorem dX11_init_205 : decode cX11_init 205 = .ok (.putfield 44, 3) := by decide +kernel
theorem dX11_init_208 : decode cX11_init 208 = .ok (.aload_n 0, 1) := by decide +kernel
theorem dX11_init_209 : decode cX11_init 209 = .ok (.sipush 220, 3) := by decide +kernel
theorem dX11_init_212 : decode cX11_init 212 = .ok (.newarray .int, 2) := by decide +kernel
theorem dX11_init_214 : decode cX11_init 214 = .ok (.putfield 47, 3) := by decide +kernel
theorem dX11_init_217 : decode cX11_init 217 = .ok (.aload_n 0, 1) := by decide +kernel
theorem dX11_init_218 : decode cX11_init 218 = .ok (.iconst 4, 1) := by decide +kernel
theorem dX11_init_219 : decode cX11_init 219 = .ok (.newarray .int, 2) := by decide +kernel
theorem dX11_init_221 : decode cX11_init 221 = .ok (.putfield 50, 3) := by decide +kernel
theorem dX11_init_224 : decode cX11_init 224 = .ok (.aload_n 0, 1) := by decide +kernel
theorem dX11_init_225 : decode cX11_init 225 = .ok (.iconst 4, 1) := by decide +kernel
theorem dX11_init_226 : decode cX11_init 226 = .ok (.newarray .int, 2) := by decide +kernel
theorem dX11_init_228 : decode cX11_init 228 = .ok (.putfield 53, 3) := by decide +kernel
theorem dX11_init_231 : decode cX11_init 231 = .ok (.aload_n 0, 1) := by decide +kernel
theorem dX11_init_232 : decode cX11_init 232 = .ok (.bipush 60, 2) := by decide +kernel
theorem dX11_init_234 : decode cX11_init 234 = .ok (.newarray .int, 2) := by decide +kernel
theorem dX11_init_236 : decode cX11_init 236 = .ok (.putfield 56, 3) := by decide +kernel
theorem dX11_init_239 : decode cX11_init 239 = .ok (.aload_n 0, 1) := by decide +kernel
theorem dX11_init_240 : decode cX11_init 240 = .ok (.bipush 24, 2) := by decide +kernel
theorem dX11_init_242 : decode cX11_init 242 = .ok (.newarray .int, 2) := by decide +kernel
theorem dX11_init_244 : decode cX11_init 244 = .ok (.putfield 59, 3) := by decide +kernel
theorem dX11_init_247 : decode cX11_init 247 = .ok (.aload_n 0, 1) := by decide +kernel
theorem dX11_init_248 : decode cX11_init 248 = .ok (.iconst 4, 1) := by decide +kernel
theorem dX11_init_249 : decode cX11_init 249 = .ok (.newarray .int, 2) := by decide +kernel
theorem dX11_init_251 : decode cX11_init 251 = .ok (.dup, 1) := by decide +kernel
theorem dX11_init_252 : decode cX11_init 252 = .ok (.iconst 0, 1) := by decide +kernel
theorem dX11_init_253 : decode cX11_init 253 = .ok (.iconst (-1), 1) := by decide +kernel
theorem dX11_init_254 : decode cX11_init 254 = .ok (.iastore, 1) := by decide +kernel
theorem dX11_init_255 : decode cX11_init 255 = .ok (.dup, 1) := by decide +kernel
theorem dX11_init_256 : decode cX11_init 256 = .ok (.iconst 1, 1) := by decide +kernel
theorem dX11_init_257 : decode cX11_init 257 = .ok (.iconst (-1), 1) := by decide +kernel
theorem dX11_init_258 : decode cX11_init 258 = .ok (.iastore, 1) := by decide +kernel
theorem dX11_init_259 : decode cX11_init 259 = .ok (.dup, 1) := by decide +kernel
theorem dX11_init_260 : decode cX11_init 260 = .ok (.iconst 2, 1) := by decide +kernel
theorem dX11_init_261 : decode cX11_init 261 = .ok (.iconst (-1), 1) := by decide +kernel
theorem dX11_init_262 : decode cX11_init 262 = .ok (.iastore, 1) := by decide +kernel
theorem dX11_init_263 : decode cX11_init 263 = .ok (.dup, 1) := by decide +kernel
theorem dX11_init_264 : decode cX11_init 264 = .ok (.iconst 3, 1) := by decide +kernel
theorem dX11_init_265 : decode cX11_init 265 = .ok (.iconst (-1), 1) := by decide +kernel
theorem dX11_init_266 : decode cX11_init 266 = .ok (.iastore, 1) := by decide +kernel
theorem dX11_init_267 : decode cX11_init 267 = .ok (.putfield 62, 3) := by decide +kernel
theorem dX11_init_270 : decode cX11_init 270 = .ok (.aload_n 0, 1) := by decide +kernel
theorem dX11_init_271 : decode cX11_init 271 = .ok (.iconst 4, 1) := by decide +kernel
theorem dX11_init_272 : decode cX11_init 272 = .ok (.newarray .int, 2) := by decide +kernel
theorem dX11_init_274 : decode cX11_init 274 = .ok (.putfield 65, 3) := by decide +kernel
theorem dX11_init_277 : decode cX11_init 277 = .ok (.aload_n 0, 1) := by decide +kernel
theorem dX11_init_278 : decode cX11_init 278 = .ok (.sipush 160, 3) := by decide +kernel
theorem dX11_init_281 : decode cX11_init 281 = .ok (.newarray .int, 2) := by decide +kernel
theorem dX11_init_283 : decode cX11_init 283 = .ok (.putfield 68, 3) := by decide +kernel
theorem dX11_init_286 : decode cX11_init 286 = .ok (.aload_n 0, 1) := by decide +kernel
theorem dX11_init_287 : decode cX11_init 287 = .ok (.iconst 4, 1) := by decide +kernel
theorem dX11_init_288 : decode cX11_init 288 = .ok (.newarray .int, 2) := by decide +kernel
theorem dX11_init_290 : decode cX11_init 290 = .ok (.dup, 1) := by decide +kernel
theorem dX11_init_291 : decode cX11_init 291 = .ok (.iconst 0, 1) := by decide +kernel
theorem dX11_init_292 : decode cX11_init 292 = .ok (.iconst 3, 1) := by decide +kernel
theorem dX11_init_293 : decode cX11_init 293 = .ok (.iastore, 1) := by decide +kernel
theorem dX11_init_294 : decode cX11_init 294 = .ok (.dup, 1) := by decide +kernel
theorem dX11_init_295 : decode cX11_init 295 = .ok (.iconst 1, 1) := by decide +kernel
theorem dX11_init_296 : decode cX11_init 296 = .ok (.iconst 3, 1) := by decide +kernel
theorem dX11_init_297 : decode cX11_init 297 = .ok (.iastore, 1) := by decide +kernel
theorem dX11_init_298 : decode cX11_init 298 = .ok (.dup, 1) := by decide +kernel
theorem dX11_init_299 : decode cX11_init 299 = .ok (.iconst 2, 1) := by decide +kernel
theorem dX11_init_300 : decode cX11_init 300 = .ok (.iconst 3, 1) := by decide +kernel
theorem dX11_init_301 : decode cX11_init 301 = .ok (.iastore, 1) := by decide +kernel
theorem dX11_init_302 : decode cX11_init 302 = .ok (.dup, 1) := by decide +kernel
theorem dX11_init_303 : decode cX11_init 303 = .ok (.iconst 3, 1) := by decide +kernel
theorem dX11_init_304 : decode cX11_init 304 = .ok (.iconst 3, 1) := by decide +kernel
theorem dX11_init_305 : decode cX11_init 305 = .ok (.iastore, 1) := by decide +kernel
theorem dX11_init_306 : decode cX11_init 306 = .ok (.putfield 71, 3) := by decide +kernel
theorem dX11_init_309 : decode cX11_init 309 = .ok (.aload_n 0, 1) := by decide +kernel
theorem dX11_init_310 : decode cX11_init 310 = .ok (.iconst 4, 1) := by decide +kernel
theorem dX11_init_311 : decode cX11_init 311 = .ok (.newarray .int, 2) := by decide +kernel
theorem dX11_init_313 : decode cX11_init 313 = .ok (.putfield 74, 3) := by decide +kernel
theorem dX11_init_316 : decode cX11_init 316 = .ok (.aload_n 0, 1) := by decide +kernel
theorem dX11_init_317 : decode cX11_init 317 = .ok (.iconst 4, 1) := by decide +kernel
theorem dX11_init_318 : decode cX11_init 318 = .ok (.newarray .int, 2) := by decide +kernel
theorem dX11_init_320 : decode cX11_init 320 = .ok (.putfield 77, 3) := by decide +kernel
theorem dX11_init_323 : decode cX11_init 323 = .ok (.aload_n 0, 1) := by decide +kernel
theorem dX11_init_324 : decode cX11_init 324 = .ok (.bipush 30, 2) := by decide +kernel
theorem dX11_init_326 : decode cX11_init 326 = .ok (.newarray .int, 2) := by decide +kernel
theorem dX11_init_328 : decode cX11_init 328 = .ok (.putfield 80, 3) := by decide +kernel
theorem dX11_init_331 : decode cX11_init 331 = .ok (.aload_n 0, 1) := by decide +kernel
theorem dX11_init_332 : decode cX11_init 332 = .ok (.getfield 7, 3) := by decide +kernel
theorem dX11_init_335 : decode cX11_init 335 = .ok (.bipush 6, 2) := by decide +kernel
theorem dX11_init_337 : decode cX11_init 337 = .ok (.bipush 10, 2) := by decide +kernel
theorem dX11_init_339 : decode cX11_init 339 = .ok (.iastore, 1) := by decide +kernel
theorem dX11_init_340 : decode cX11_init 340 = .ok (.aload_n 0, 1) := by decide +kernel
theorem dX11_init_341 : decode cX11_init 341 = .ok (.getfield 7, 3) := by decide +kernel
theorem dX11_init_344 : decode cX11_init 344 = .ok (.bipush 8, 2) := by decide +kernel
theorem dX11_init_346 : decode cX11_init 346 = .ok (.iconst 1, 1) := by decide +kernel
theorem dX11_init_347 : decode cX11_init 347 = .ok (.iastore, 1) := by decide +kernel
theorem dX11_init_348 : decode cX11_init 348 = .ok (.aload_n 0, 1) := by decide +kernel
theorem dX11_init_349 : decode cX11_init 349 = .ok (.invokevirtual 83, 3) := by decide +kernel
theorem dX11_init_352 : decode cX11_init 352 = .ok (.return_, 1) := by decide +kernel
theorem dX11_laws_0 : decode cX11_laws 0 = .ok (.iconst 0, 1) := by decide +kernel
theorem dX11_laws_1 : decode cX11_laws 1 = .ok (.istore_n 1, 1) := by decide +kernel
theorem dX11_laws_2 : decode cX11_laws 2 = .ok (.iload_n 1, 1) := by decide +kernel
theorem dX11_laws_3 : decode cX11_laws 3 = .ok (.sipush 220, 3) := by decide +kernel
theorem dX11_laws_6 : decode cX11_laws 6 = .ok (.if_icmp .ge 35, 3) := by decide +kernel
theorem dX11_laws_9 : decode cX11_laws 9 = .ok (.aload_n 0, 1) := by decide +kernel
theorem dX11_laws_10 : decode cX11_laws 10 = .ok (.getfield 7, 3) := by decide +kernel
theorem dX11_laws_13 : decode cX11_laws 13 = .ok (.sipush 446, 3) := by decide +kernel
theorem dX11_laws_16 : decode cX11_laws 16 = .ok (.iload_n 1, 1) := by decide +kernel
theorem dX11_laws_17 : decode cX11_laws 17 = .ok (.iadd, 1) := by decide +kernel
theorem dX11_laws_18 : decode cX11_laws 18 = .ok (.iload_n 1, 1) := by decide +kernel
theorem dX11_laws_19 : decode cX11_laws 19 = .ok (.bipush 12, 2) := by decide +kernel
theorem dX11_laws_21 : decode cX11_laws 21 = .ok (.if_icmp .ge 12, 3) := by decide +kernel
theorem dX11_laws_24 : decode cX11_laws 24 = .ok (.aload_n 0, 1) := by decide +kernel
theorem dX11_laws_25 : decode cX11_laws 25 = .ok (.getfield 23, 3) := by decide +kernel
theorem dX11_laws_28 : decode cX11_laws 28 = .ok (.iload_n 1, 1) := by decide +kernel
theorem dX11_laws_29 : decode cX11_laws 29 = .ok (.iaload, 1) := by decide +kernel
theorem dX11_laws_30 : decode cX11_laws 30 = .ok (.goto 4, 3) := by decide +kernel
theorem dX11_laws_33 : decode cX11_laws 33 = .ok (.iconst 0, 1) := by decide +kernel
theorem dX11_laws_34 : decode cX11_laws 34 = .ok (.iastore, 1) := by decide +kernel
theorem dX11_laws_35 : decode cX11_laws 35 = .ok (.iinc 1 1, 3) := by decide +kernel
theorem dX11_laws_38 : decode cX11_laws 38 = .ok (.goto (-36), 3) := by decide +kernel
theorem dX11_laws_41 : decode cX11_laws 41 = .ok (.iconst 0, 1) := by decide +kernel
theorem dX11_laws_42 : decode cX11_laws 42 = .ok (.istore_n 1, 1) := by decide +kernel
theorem dX11_laws_43 : decode cX11_laws 43 = .ok (.iload_n 1, 1) := by decide +kernel
theorem dX11_laws_44 : decode cX11_laws 44 = .ok (.iconst 4, 1) := by decide +kernel
theorem dX11_laws_45 : decode cX11_laws 45 = .ok (.if_icmp .ge 47, 3) := by decide +kernel
theorem dX11_laws_48 : decode cX11_laws 48 = .ok (.aload_n 0, 1) := by decide +kernel
theorem dX11_laws_49 : decode cX11_laws 49 = .ok (.getfield 7, 3) := by decide +kernel
theorem dX11_laws_52 : decode cX11_laws 52 = .ok (.sipush 438, 3) := by decide +kernel
theorem dX11_laws_55 : decode cX11_laws 55 = .ok (.iconst 2, 1) := by decide +kernel
theorem dX11_laws_56 : decode cX11_laws 56 = .ok (.iload_n 1, 1) := by decide +kernel
theorem dX11_laws_57 : decode cX11_laws 57 = .ok (.imul, 1) := by decide +kernel
theorem dX11_laws_58 : decode cX11_laws 58 = .ok (.iadd, 1) := by decide +kernel
theorem dX11_laws_59 : decode cX11_laws 59 = .ok (.aload_n 0, 1) := by decide +kernel
theorem dX11_laws_60 : decode cX11_laws 60 = .ok (.getfield 26, 3) := by decide +kernel
theorem dX11_laws_63 : decode cX11_laws 63 = .ok (.iload_n 1, 1) := by decide +kernel
theorem dX11_laws_64 : decode cX11_laws 64 = .ok (.iaload, 1) := by decide +kernel
theorem dX11_laws_65 : decode cX11_laws 65 = .ok (.iastore, 1) := by decide +kernel
theorem dX11_laws_66 : decode cX11_laws 66 = .ok (.aload_n 0, 1) := by decide +kernel
theorem dX11_laws_67 : decode cX11_laws 67 = .ok (.getfield 7, 3) := by decide +kernel
theorem dX11_laws_70 : decode cX11_laws 70 = .ok (.sipush 438, 3) := by decide +kernel
theorem dX11_laws_73 : decode cX11_laws 73 = .ok (.iconst 2, 1) := by decide +kernel
theorem dX11_laws_74 : decode cX11_laws 74 = .ok (.iload_n 1, 1) := by decide +kernel
theorem dX11_laws_75 : decode cX11_laws 75 = .ok (.imul, 1) := by decide +kernel
theorem dX11_laws_76 : decode cX11_laws 76 = .ok (.iadd, 1) := by decide +kernel
theorem dX11_laws_77 : decode cX11_laws 77 = .ok (.iconst 1, 1) := by decide +kernel
theorem dX11_laws_78 : decode cX11_laws 78 = .ok (.iadd, 1) := by decide +kernel
theorem dX11_laws_79 : decode cX11_laws 79 = .ok (.aload_n 0, 1) := by decide +kernel
theorem dX11_laws_80 : decode cX11_laws 80 = .ok (.getfield 29, 3) := by decide +kernel
theorem dX11_laws_83 : decode cX11_laws 83 = .ok (.iload_n 1, 1) := by decide +kernel
theorem dX11_laws_84 : decode cX11_laws 84 = .ok (.iaload, 1) := by decide +kernel
theorem dX11_laws_85 : decode cX11_laws 85 = .ok (.iastore, 1) := by decide +kernel
theorem dX11_laws_86 : decode cX11_laws 86 = .ok (.iinc 1 1, 3) := by decide +kernel
theorem dX11_laws_89 : decode cX11_laws 89 = .ok (.goto (-46), 3) := by decide +kernel
theorem dX11_laws_92 : decode cX11_laws 92 = .ok (.aload_n 0, 1) := by decide +kernel
theorem dX11_laws_93 : decode cX11_laws 93 = .ok (.getfield 7, 3) := by decide +kernel
theorem dX11_laws_96 : decode cX11_laws 96 = .ok (.bipush 11, 2) := by decide +kernel
theorem dX11_laws_98 : decode cX11_laws 98 = .ok (.iconst 0, 1) := by decide +kernel
theorem dX11_laws_99 : decode cX11_laws 99 = .ok (.iastore, 1) := by decide +kernel
theorem dX11_laws_100 : decode cX11_laws 100 = .ok (.return_, 1) := by decide +kernel
theorem dX11_in_0 : decode cX11_in 0 = .ok (.lload_n 0, 1) := by decide +kernel
theorem dX11_in_1 : decode cX11_in 1 = .ok (.lload_n 2, 1) := by decide +kernel
theorem dX11_in_2 : decode cX11_in 2 = .ok (.lcmp, 1) := by decide +kernel
theorem dX11_in_3 : decode cX11_in 3 = .ok (.ifCond .lt 14, 3) := by decide +kernel
theorem dX11_in_6 : decode cX11_in 6 = .ok (.lload_n 0, 1) := by decide +kernel
theorem dX11_in_7 : decode cX11_in 7 = .ok (.lload 4, 2) := by decide +kernel
theorem dX11_in_9 : decode cX11_in 9 = .ok (.lcmp, 1) := by decide +kernel
theorem dX11_in_10 : decode cX11_in 10 = .ok (.ifCond .gt 7, 3) := by decide +kernel
theorem dX11_in_13 : decode cX11_in 13 = .ok (.iconst 1, 1) := by decide +kernel
theorem dX11_in_14 : decode cX11_in 14 = .ok (.goto 4, 3) := by decide +kernel
theorem dX11_in_17 : decode cX11_in 17 = .ok (.iconst 0, 1) := by decide +kernel
theorem dX11_in_18 : decode cX11_in 18 = .ok (.ireturn, 1) := by decide +kernel
theorem dX11_held_0 : decode cX11_held 0 = .ok (.iload_n 0, 1) := by decide +kernel
theorem dX11_held_1 : decode cX11_held 1 = .ok (.iload_n 1, 1) := by decide +kernel
theorem dX11_held_2 : decode cX11_held 2 = .ok (.if_icmp .ge 7, 3) := by decide +kernel
theorem dX11_held_5 : decode cX11_held 5 = .ok (.iload_n 1, 1) := by decide +kernel
theorem dX11_held_6 : decode cX11_held 6 = .ok (.goto 13, 3) := by decide +kernel
theorem dX11_held_9 : decode cX11_held 9 = .ok (.iload_n 0, 1) := by decide +kernel
theorem dX11_held_10 : decode cX11_held 10 = .ok (.iload_n 2, 1) := by decide +kernel
theorem dX11_held_11 : decode cX11_held 11 = .ok (.if_icmp .le 7, 3) := by decide +kernel
theorem dX11_held_14 : decode cX11_held 14 = .ok (.iload_n 2, 1) := by decide +kernel
theorem dX11_held_15 : decode cX11_held 15 = .ok (.goto 4, 3) := by decide +kernel
theorem dX11_held_18 : decode cX11_held 18 = .ok (.iload_n 0, 1) := by decide +kernel
theorem dX11_held_19 : decode cX11_held 19 = .ok (.ireturn, 1) := by decide +kernel
theorem dX11_opens_0 : decode cX11_opens 0 = .ok (.iconst 0, 1) := by decide +kernel
theorem dX11_opens_1 : decode cX11_opens 1 = .ok (.istore_n 1, 1) := by decide +kernel
theorem dX11_opens_2 : decode cX11_opens 2 = .ok (.iload_n 1, 1) := by decide +kernel
theorem dX11_opens_3 : decode cX11_opens 3 = .ok (.bipush 9, 2) := by decide +kernel
theorem dX11_opens_5 : decode cX11_opens 5 = .ok (.if_icmp .ge 21, 3) := by decide +kernel
theorem dX11_opens_8 : decode cX11_opens 8 = .ok (.aload_n 0, 1) := by decide +kernel
theorem dX11_opens_9 : decode cX11_opens 9 = .ok (.getfield 32, 3) := by decide +kernel
theorem dX11_opens_12 : decode cX11_opens 12 = .ok (.iload_n 1, 1) := by decide +kernel
theorem dX11_opens_13 : decode cX11_opens 13 = .ok (.aload_n 0, 1) := by decide +kernel
theorem dX11_opens_14 : decode cX11_opens 14 = .ok (.getfield 7, 3) := by decide +kernel
theorem dX11_opens_17 : decode cX11_opens 17 = .ok (.iload_n 1, 1) := by decide +kernel
theorem dX11_opens_18 : decode cX11_opens 18 = .ok (.iaload, 1) := by decide +kernel
theorem dX11_opens_19 : decode cX11_opens 19 = .ok (.iastore, 1) := by decide +kernel
theorem dX11_opens_20 : decode cX11_opens 20 = .ok (.iinc 1 1, 3) := by decide +kernel
theorem dX11_opens_23 : decode cX11_opens 23 = .ok (.goto (-21), 3) := by decide +kernel
theorem dX11_opens_26 : decode cX11_opens 26 = .ok (.aload_n 0, 1) := by decide +kernel
theorem dX11_opens_27 : decode cX11_opens 27 = .ok (.iconst 0, 1) := by decide +kernel
theorem dX11_opens_28 : decode cX11_opens 28 = .ok (.putfield 86, 3) := by decide +kernel
theorem dX11_opens_31 : decode cX11_opens 31 = .ok (.aload_n 0, 1) := by decide +kernel
theorem dX11_opens_32 : decode cX11_opens 32 = .ok (.lconst 0, 1) := by decide +kernel
theorem dX11_opens_33 : decode cX11_opens 33 = .ok (.putfield 90, 3) := by decide +kernel
theorem dX11_opens_36 : decode cX11_opens 36 = .ok (.aload_n 0, 1) := by decide +kernel
theorem dX11_opens_37 : decode cX11_opens 37 = .ok (.lconst 0, 1) := by decide +kernel
theorem dX11_opens_38 : decode cX11_opens 38 = .ok (.putfield 94, 3) := by decide +kernel
theorem dX11_opens_41 : decode cX11_opens 41 = .ok (.return_, 1) := by decide +kernel
theorem dX11_both_0 : decode cX11_both 0 = .ok (.iload_n 0, 1) := by decide +kernel
theorem dX11_both_1 : decode cX11_both 1 = .ok (.tableswitch 101 10011 10017 #[43, 47, 51, 55, 67, 79, 90], 43) := by decide +kernel
theorem dX11_both_44 : decode cX11_both 44 = .ok (.iload_n 1, 1) := by decide +kernel
theorem dX11_both_45 : decode cX11_both 45 = .ok (.iload_n 2, 1) := by decide +kernel
theorem dX11_both_46 : decode cX11_both 46 = .ok (.iadd, 1) := by decide +kernel
theorem dX11_both_47 : decode cX11_both 47 = .ok (.ireturn, 1) := by decide +kernel
theorem dX11_both_48 : decode cX11_both 48 = .ok (.iload_n 1, 1) := by decide +kernel
theorem dX11_both_49 : decode cX11_both 49 = .ok (.iload_n 2, 1) := by decide +kernel
theorem dX11_both_50 : decode cX11_both 50 = .ok (.isub, 1) := by decide +kernel
theorem dX11_both_51 : decode cX11_both 51 = .ok (.ireturn, 1) := by decide +kernel
theorem dX11_both_52 : decode cX11_both 52 = .ok (.iload_n 1, 1) := by decide +kernel
theorem dX11_both_53 : decode cX11_both 53 = .ok (.iload_n 2, 1) := by decide +kernel
theorem dX11_both_54 : decode cX11_both 54 = .ok (.imul, 1) := by decide +kernel
theorem dX11_both_55 : decode cX11_both 55 = .ok (.ireturn, 1) := by decide +kernel
theorem dX11_both_56 : decode cX11_both 56 = .ok (.iload_n 2, 1) := by decide +kernel
theorem dX11_both_57 : decode cX11_both 57 = .ok (.ifCond .ne 7, 3) := by decide +kernel
theorem dX11_both_60 : decode cX11_both 60 = .ok (.iconst 0, 1) := by decide +kernel
theorem dX11_both_61 : decode cX11_both 61 = .ok (.goto 6, 3) := by decide +kernel
theorem dX11_both_64 : decode cX11_both 64 = .ok (.iload_n 1, 1) := by decide +kernel
theorem dX11_both_65 : decode cX11_both 65 = .ok (.iload_n 2, 1) := by decide +kernel
theorem dX11_both_66 : decode cX11_both 66 = .ok (.idiv, 1) := by decide +kernel
theorem dX11_both_67 : decode cX11_both 67 = .ok (.ireturn, 1) := by decide +kernel
theorem dX11_both_68 : decode cX11_both 68 = .ok (.iload_n 2, 1) := by decide +kernel
theorem dX11_both_69 : decode cX11_both 69 = .ok (.ifCond .ne 7, 3) := by decide +kernel
theorem dX11_both_72 : decode cX11_both 72 = .ok (.iconst 0, 1) := by decide +kernel
theorem dX11_both_73 : decode cX11_both 73 = .ok (.goto 6, 3) := by decide +kernel
theorem dX11_both_76 : decode cX11_both 76 = .ok (.iload_n 1, 1) := by decide +kernel
theorem dX11_both_77 : decode cX11_both 77 = .ok (.iload_n 2, 1) := by decide +kernel
theorem dX11_both_78 : decode cX11_both 78 = .ok (.irem, 1) := by decide +kernel
theorem dX11_both_79 : decode cX11_both 79 = .ok (.ireturn, 1) := by decide +kernel
theorem dX11_both_80 : decode cX11_both 80 = .ok (.iload_n 1, 1) := by decide +kernel
theorem dX11_both_81 : decode cX11_both 81 = .ok (.iload_n 2, 1) := by decide +kernel
theorem dX11_both_82 : decode cX11_both 82 = .ok (.if_icmp .ge 7, 3) := by decide +kernel
theorem dX11_both_85 : decode cX11_both 85 = .ok (.iconst 1, 1) := by decide +kernel
theorem dX11_both_86 : decode cX11_both 86 = .ok (.goto 4, 3) := by decide +kernel
theorem dX11_both_89 : decode cX11_both 89 = .ok (.iconst 0, 1) := by decide +kernel
theorem dX11_both_90 : decode cX11_both 90 = .ok (.ireturn, 1) := by decide +kernel
theorem dX11_both_91 : decode cX11_both 91 = .ok (.iload_n 1, 1) := by decide +kernel
theorem dX11_both_92 : decode cX11_both 92 = .ok (.iload_n 2, 1) := by decide +kernel
theorem dX11_both_93 : decode cX11_both 93 = .ok (.if_icmp .ne 7, 3) := by decide +kernel
theorem dX11_both_96 : decode cX11_both 96 = .ok (.iconst 1, 1) := by decide +kernel
theorem dX11_both_97 : decode cX11_both 97 = .ok (.goto 4, 3) := by decide +kernel
theorem dX11_both_100 : decode cX11_both 100 = .ok (.iconst 0, 1) := by decide +kernel
theorem dX11_both_101 : decode cX11_both 101 = .ok (.ireturn, 1) := by decide +kernel
theorem dX11_both_102 : decode cX11_both 102 = .ok (.iload_n 1, 1) := by decide +kernel
theorem dX11_both_103 : decode cX11_both 103 = .ok (.iload_n 2, 1) := by decide +kernel
theorem dX11_both_104 : decode cX11_both 104 = .ok (.if_icmp .le 7, 3) := by decide +kernel
theorem dX11_both_107 : decode cX11_both 107 = .ok (.iconst 1, 1) := by decide +kernel
theorem dX11_both_108 : decode cX11_both 108 = .ok (.goto 4, 3) := by decide +kernel
theorem dX11_both_111 : decode cX11_both 111 = .ok (.iconst 0, 1) := by decide +kernel
theorem dX11_both_112 : decode cX11_both 112 = .ok (.ireturn, 1) := by decide +kernel
theorem dX11_worth_0 : decode cX11_worth 0 = .ok (.iconst 0, 1) := by decide +kernel
theorem dX11_worth_1 : decode cX11_worth 1 = .ok (.istore_n 2, 1) := by decide +kernel
theorem dX11_worth_2 : decode cX11_worth 2 = .ok (.aload_n 0, 1) := by decide +kernel
theorem dX11_worth_3 : decode cX11_worth 3 = .ok (.getfield 7, 3) := by decide +kernel
theorem dX11_worth_6 : decode cX11_worth 6 = .ok (.sipush 438, 3) := by decide +kernel
theorem dX11_worth_9 : decode cX11_worth 9 = .ok (.iconst 2, 1) := by decide +kernel
theorem dX11_worth_10 : decode cX11_worth 10 = .ok (.iload_n 1, 1) := by decide +kernel
theorem dX11_worth_11 : decode cX11_worth 11 = .ok (.imul, 1) := by decide +kernel
theorem dX11_worth_12 : decode cX11_worth 12 = .ok (.iadd, 1) := by decide +kernel
theorem dX11_worth_13 : decode cX11_worth 13 = .ok (.iaload, 1) := by decide +kernel
theorem dX11_worth_14 : decode cX11_worth 14 = .ok (.istore_n 3, 1) := by decide +kernel
theorem dX11_worth_15 : decode cX11_worth 15 = .ok (.iload_n 3, 1) := by decide +kernel
theorem dX11_worth_16 : decode cX11_worth 16 = .ok (.aload_n 0, 1) := by decide +kernel
theorem dX11_worth_17 : decode cX11_worth 17 = .ok (.getfield 7, 3) := by decide +kernel
theorem dX11_worth_20 : decode cX11_worth 20 = .ok (.sipush 438, 3) := by decide +kernel
theorem dX11_worth_23 : decode cX11_worth 23 = .ok (.iconst 2, 1) := by decide +kernel
theorem dX11_worth_24 : decode cX11_worth 24 = .ok (.iload_n 1, 1) := by decide +kernel
theorem dX11_worth_25 : decode cX11_worth 25 = .ok (.imul, 1) := by decide +kernel
theorem dX11_worth_26 : decode cX11_worth 26 = .ok (.iadd, 1) := by decide +kernel
theorem dX11_worth_27 : decode cX11_worth 27 = .ok (.iconst 1, 1) := by decide +kernel
theorem dX11_worth_28 : decode cX11_worth 28 = .ok (.iadd, 1) := by decide +kernel
theorem dX11_worth_29 : decode cX11_worth 29 = .ok (.iaload, 1) := by decide +kernel
theorem dX11_worth_30 : decode cX11_worth 30 = .ok (.if_icmp .ge 124, 3) := by decide +kernel
theorem dX11_worth_33 : decode cX11_worth 33 = .ok (.aload_n 0, 1) := by decide +kernel
theorem dX11_worth_34 : decode cX11_worth 34 = .ok (.getfield 7, 3) := by decide +kernel
theorem dX11_worth_37 : decode cX11_worth 37 = .ok (.sipush 446, 3) := by decide +kernel
theorem dX11_worth_40 : decode cX11_worth 40 = .ok (.iload_n 3, 1) := by decide +kernel
theorem dX11_worth_41 : decode cX11_worth 41 = .ok (.iadd, 1) := by decide +kernel
theorem dX11_worth_42 : decode cX11_worth 42 = .ok (.iaload, 1) := by decide +kernel
theorem dX11_worth_43 : decode cX11_worth 43 = .ok (.istore 4, 2) := by decide +kernel
theorem dX11_worth_45 : decode cX11_worth 45 = .ok (.iload 4, 2) := by decide +kernel
theorem dX11_worth_47 : decode cX11_worth 47 = .ok (.sipush 10010, 3) := by decide +kernel
theorem dX11_worth_50 : decode cX11_worth 50 = .ok (.if_icmp .ge 39, 3) := by decide +kernel
theorem dX11_worth_53 : decode cX11_worth 53 = .ok (.aload_n 0, 1) := by decide +kernel
theorem dX11_worth_54 : decode cX11_worth 54 = .ok (.getfield 41, 3) := by decide +kernel
theorem dX11_worth_57 : decode cX11_worth 57 = .ok (.iload_n 2, 1) := by decide +kernel
theorem dX11_worth_58 : decode cX11_worth 58 = .ok (.iload 4, 2) := by decide +kernel
theorem dX11_worth_60 : decode cX11_worth 60 = .ok (.sipush 10000, 3) := by decide +kernel
theorem dX11_worth_63 : decode cX11_worth 63 = .ok (.if_icmp .ge 8, 3) := by decide +kernel
theorem dX11_worth_66 : decode cX11_worth 66 = .ok (.iload 4, 2) := by decide +kernel
theorem dX11_worth_68 : decode cX11_worth 68 = .ok (.goto 14, 3) := by decide +kernel
theorem dX11_worth_71 : decode cX11_worth 71 = .ok (.aload_n 0, 1) := by decide +kernel
theorem dX11_worth_72 : decode cX11_worth 72 = .ok (.getfield 32, 3) := by decide +kernel
theorem dX11_worth_75 : decode cX11_worth 75 = .ok (.iload 4, 2) := by decide +kernel
theorem dX11_worth_77 : decode cX11_worth 77 = .ok (.sipush 10000, 3) := by decide +kernel
theorem dX11_worth_80 : decode cX11_worth 80 = .ok (.isub, 1) := by decide +kernel
theorem dX11_worth_81 : decode cX11_worth 81 = .ok (.iaload, 1) := by decide +kernel
theorem dX11_worth_82 : decode cX11_worth 82 = .ok (.iastore, 1) := by decide +kernel
theorem dX11_worth_83 : decode cX11_worth 83 = .ok (.iinc 2 1, 3) := by decide +kernel
theorem dX11_worth_86 : decode cX11_worth 86 = .ok (.goto 62, 3) := by decide +kernel
theorem dX11_worth_89 : decode cX11_worth 89 = .ok (.iload 4, 2) := by decide +kernel
theorem dX11_worth_91 : decode cX11_worth 91 = .ok (.sipush 10010, 3) := by decide +kernel
theorem dX11_worth_94 : decode cX11_worth 94 = .ok (.if_icmp .ne 24, 3) := by decide +kernel
theorem dX11_worth_97 : decode cX11_worth 97 = .ok (.aload_n 0, 1) := by decide +kernel
theorem dX11_worth_98 : decode cX11_worth 98 = .ok (.getfield 41, 3) := by decide +kernel
theorem dX11_worth_101 : decode cX11_worth 101 = .ok (.iload_n 2, 1) := by decide +kernel
theorem dX11_worth_102 : decode cX11_worth 102 = .ok (.iconst 1, 1) := by decide +kernel
theorem dX11_worth_103 : decode cX11_worth 103 = .ok (.isub, 1) := by decide +kernel
theorem dX11_worth_104 : decode cX11_worth 104 = .ok (.iconst 0, 1) := by decide +kernel
theorem dX11_worth_105 : decode cX11_worth 105 = .ok (.aload_n 0, 1) := by decide +kernel
theorem dX11_worth_106 : decode cX11_worth 106 = .ok (.getfield 41, 3) := by decide +kernel
theorem dX11_worth_109 : decode cX11_worth 109 = .ok (.iload_n 2, 1) := by decide +kernel
theorem dX11_worth_110 : decode cX11_worth 110 = .ok (.iconst 1, 1) := by decide +kernel
theorem dX11_worth_111 : decode cX11_worth 111 = .ok (.isub, 1) := by decide +kernel
theorem dX11_worth_112 : decode cX11_worth 112 = .ok (.iaload, 1) := by decide +kernel
theorem dX11_worth_113 : decode cX11_worth 113 = .ok (.isub, 1) := by decide +kernel
theorem dX11_worth_114 : decode cX11_worth 114 = .ok (.iastore, 1) := by decide +kernel
theorem dX11_worth_115 : decode cX11_worth 115 = .ok (.goto 33, 3) := by decide +kernel
theorem dX11_worth_118 : decode cX11_worth 118 = .ok (.iinc 2 (-1), 3) := by decide +kernel
theorem dX11_worth_121 : decode cX11_worth 121 = .ok (.aload_n 0, 1) := by decide +kernel
theorem dX11_worth_122 : decode cX11_worth 122 = .ok (.getfield 41, 3) := by decide +kernel
theorem dX11_worth_125 : decode cX11_worth 125 = .ok (.iload_n 2, 1) := by decide +kernel
theorem dX11_worth_126 : decode cX11_worth 126 = .ok (.iconst 1, 1) := by decide +kernel
theorem dX11_worth_127 : decode cX11_worth 127 = .ok (.isub, 1) := by decide +kernel
theorem dX11_worth_128 : decode cX11_worth 128 = .ok (.iload 4, 2) := by decide +kernel
theorem dX11_worth_130 : decode cX11_worth 130 = .ok (.aload_n 0, 1) := by decide +kernel
theorem dX11_worth_131 : decode cX11_worth 131 = .ok (.getfield 41, 3) := by decide +kernel
theorem dX11_worth_134 : decode cX11_worth 134 = .ok (.iload_n 2, 1) := by decide +kernel
theorem dX11_worth_135 : decode cX11_worth 135 = .ok (.iconst 1, 1) := by decide +kernel
theorem dX11_worth_136 : decode cX11_worth 136 = .ok (.isub, 1) := by decide +kernel
theorem dX11_worth_137 : decode cX11_worth 137 = .ok (.iaload, 1) := by decide +kernel
theorem dX11_worth_138 : decode cX11_worth 138 = .ok (.aload_n 0, 1) := by decide +kernel
theorem dX11_worth_139 : decode cX11_worth 139 = .ok (.getfield 41, 3) := by decide +kernel
theorem dX11_worth_142 : decode cX11_worth 142 = .ok (.iload_n 2, 1) := by decide +kernel
theorem dX11_worth_143 : decode cX11_worth 143 = .ok (.iaload, 1) := by decide +kernel
theorem dX11_worth_144 : decode cX11_worth 144 = .ok (.invokestatic 97, 3) := by decide +kernel
theorem dX11_worth_147 : decode cX11_worth 147 = .ok (.iastore, 1) := by decide +kernel
theorem dX11_worth_148 : decode cX11_worth 148 = .ok (.iinc 3 1, 3) := by decide +kernel
theorem dX11_worth_151 : decode cX11_worth 151 = .ok (.goto (-136), 3) := by decide +kernel
theorem dX11_worth_154 : decode cX11_worth 154 = .ok (.aload_n 0, 1) := by decide +kernel
theorem dX11_worth_155 : decode cX11_worth 155 = .ok (.getfield 41, 3) := by decide +kernel
theorem dX11_worth_158 : decode cX11_worth 158 = .ok (.iconst 0, 1) := by decide +kernel
theorem dX11_worth_159 : decode cX11_worth 159 = .ok (.iaload, 1) := by decide +kernel
theorem dX11_worth_160 : decode cX11_worth 160 = .ok (.ireturn, 1) := by decide +kernel
theorem dX11_drops_0 : decode cX11_drops 0 = .ok (.aload_n 0, 1) := by decide +kernel
theorem dX11_drops_1 : decode cX11_drops 1 = .ok (.iconst 3, 1) := by decide +kernel
theorem dX11_drops_2 : decode cX11_drops 2 = .ok (.invokevirtual 101, 3) := by decide +kernel
theorem dX11_drops_5 : decode cX11_drops 5 = .ok (.iconst 0, 1) := by decide +kernel
theorem dX11_drops_6 : decode cX11_drops 6 = .ok (.aload_n 0, 1) := by decide +kernel
theorem dX11_drops_7 : decode cX11_drops 7 = .ok (.getfield 32, 3) := by decide +kernel
theorem dX11_drops_10 : decode cX11_drops 10 = .ok (.iconst 0, 1) := by decide +kernel
theorem dX11_drops_11 : decode cX11_drops 11 = .ok (.iaload, 1) := by decide +kernel
theorem dX11_drops_12 : decode cX11_drops 12 = .ok (.invokestatic 105, 3) := by decide +kernel
theorem dX11_drops_15 : decode cX11_drops 15 = .ok (.istore_n 1, 1) := by decide +kernel
theorem dX11_drops_16 : decode cX11_drops 16 = .ok (.aload_n 0, 1) := by decide +kernel
theorem dX11_drops_17 : decode cX11_drops 17 = .ok (.getfield 86, 3) := by decide +kernel
theorem dX11_drops_20 : decode cX11_drops 20 = .ok (.bipush 60, 2) := by decide +kernel
theorem dX11_drops_22 : decode cX11_drops 22 = .ok (.if_icmp .ge 45, 3) := by decide +kernel
theorem dX11_drops_25 : decode cX11_drops 25 = .ok (.aload_n 0, 1) := by decide +kernel
theorem dX11_drops_26 : decode cX11_drops 26 = .ok (.getfield 35, 3) := by decide +kernel
theorem dX11_drops_29 : decode cX11_drops 29 = .ok (.aload_n 0, 1) := by decide +kernel
theorem dX11_drops_30 : decode cX11_drops 30 = .ok (.getfield 86, 3) := by decide +kernel
theorem dX11_drops_33 : decode cX11_drops 33 = .ok (.aload_n 0, 1) := by decide +kernel
theorem dX11_drops_34 : decode cX11_drops 34 = .ok (.getfield 32, 3) := by decide +kernel
theorem dX11_drops_37 : decode cX11_drops 37 = .ok (.iconst 4, 1) := by decide +kernel
theorem dX11_drops_38 : decode cX11_drops 38 = .ok (.iaload, 1) := by decide +kernel
theorem dX11_drops_39 : decode cX11_drops 39 = .ok (.iastore, 1) := by decide +kernel
theorem dX11_drops_40 : decode cX11_drops 40 = .ok (.aload_n 0, 1) := by decide +kernel
theorem dX11_drops_41 : decode cX11_drops 41 = .ok (.getfield 38, 3) := by decide +kernel
theorem dX11_drops_44 : decode cX11_drops 44 = .ok (.aload_n 0, 1) := by decide +kernel
theorem dX11_drops_45 : decode cX11_drops 45 = .ok (.getfield 86, 3) := by decide +kernel
theorem dX11_drops_48 : decode cX11_drops 48 = .ok (.aload_n 0, 1) := by decide +kernel
theorem dX11_drops_49 : decode cX11_drops 49 = .ok (.getfield 32, 3) := by decide +kernel
theorem dX11_drops_52 : decode cX11_drops 52 = .ok (.iconst 0, 1) := by decide +kernel
theorem dX11_drops_53 : decode cX11_drops 53 = .ok (.iaload, 1) := by decide +kernel
theorem dX11_drops_54 : decode cX11_drops 54 = .ok (.iload_n 1, 1) := by decide +kernel
theorem dX11_drops_55 : decode cX11_drops 55 = .ok (.isub, 1) := by decide +kernel
theorem dX11_drops_56 : decode cX11_drops 56 = .ok (.iastore, 1) := by decide +kernel
theorem dX11_drops_57 : decode cX11_drops 57 = .ok (.aload_n 0, 1) := by decide +kernel
theorem dX11_drops_58 : decode cX11_drops 58 = .ok (.dup, 1) := by decide +kernel
theorem dX11_drops_59 : decode cX11_drops 59 = .ok (.getfield 86, 3) := by decide +kernel
theorem dX11_drops_62 : decode cX11_drops 62 = .ok (.iconst 1, 1) := by decide +kernel
theorem dX11_drops_63 : decode cX11_drops 63 = .ok (.iadd, 1) := by decide +kernel
theorem dX11_drops_64 : decode cX11_drops 64 = .ok (.putfield 86, 3) := by decide +kernel
theorem dX11_drops_67 : decode cX11_drops 67 = .ok (.aload_n 0, 1) := by decide +kernel
theorem dX11_drops_68 : decode cX11_drops 68 = .ok (.dup, 1) := by decide +kernel
theorem dX11_drops_69 : decode cX11_drops 69 = .ok (.getfield 94, 3) := by decide +kernel
theorem dX11_drops_72 : decode cX11_drops 72 = .ok (.aload_n 0, 1) := by decide +kernel
theorem dX11_drops_73 : decode cX11_drops 73 = .ok (.getfield 32, 3) := by decide +kernel
theorem dX11_drops_76 : decode cX11_drops 76 = .ok (.iconst 0, 1) := by decide +kernel
theorem dX11_drops_77 : decode cX11_drops 77 = .ok (.iaload, 1) := by decide +kernel
theorem dX11_drops_78 : decode cX11_drops 78 = .ok (.iload_n 1, 1) := by decide +kernel
theorem dX11_drops_79 : decode cX11_drops 79 = .ok (.isub, 1) := by decide +kernel
theorem dX11_drops_80 : decode cX11_drops 80 = .ok (.i2l, 1) := by decide +kernel
theorem dX11_drops_81 : decode cX11_drops 81 = .ok (.ladd, 1) := by decide +kernel
theorem dX11_drops_82 : decode cX11_drops 82 = .ok (.putfield 94, 3) := by decide +kernel
theorem dX11_drops_85 : decode cX11_drops 85 = .ok (.aload_n 0, 1) := by decide +kernel
theorem dX11_drops_86 : decode cX11_drops 86 = .ok (.getfield 32, 3) := by decide +kernel
theorem dX11_drops_89 : decode cX11_drops 89 = .ok (.iconst 0, 1) := by decide +kernel
theorem dX11_drops_90 : decode cX11_drops 90 = .ok (.iload_n 1, 1) := by decide +kernel
theorem dX11_drops_91 : decode cX11_drops 91 = .ok (.iastore, 1) := by decide +kernel
theorem dX11_drops_92 : decode cX11_drops 92 = .ok (.aload_n 0, 1) := by decide +kernel
theorem dX11_drops_93 : decode cX11_drops 93 = .ok (.getfield 32, 3) := by decide +kernel
theorem dX11_drops_96 : decode cX11_drops 96 = .ok (.iconst 1, 1) := by decide +kernel
theorem dX11_drops_97 : decode cX11_drops 97 = .ok (.iconst 0, 1) := by decide +kernel
theorem dX11_drops_98 : decode cX11_drops 98 = .ok (.aload_n 0, 1) := by decide +kernel
theorem dX11_drops_99 : decode cX11_drops 99 = .ok (.getfield 32, 3) := by decide +kernel
theorem dX11_drops_102 : decode cX11_drops 102 = .ok (.iconst 1, 1) := by decide +kernel
theorem dX11_drops_103 : decode cX11_drops 103 = .ok (.iaload, 1) := by decide +kernel
theorem dX11_drops_104 : decode cX11_drops 104 = .ok (.iconst 2, 1) := by decide +kernel
theorem dX11_drops_105 : decode cX11_drops 105 = .ok (.idiv, 1) := by decide +kernel
theorem dX11_drops_106 : decode cX11_drops 106 = .ok (.isub, 1) := by decide +kernel
theorem dX11_drops_107 : decode cX11_drops 107 = .ok (.iastore, 1) := by decide +kernel
theorem dX11_drops_108 : decode cX11_drops 108 = .ok (.aload_n 0, 1) := by decide +kernel
theorem dX11_drops_109 : decode cX11_drops 109 = .ok (.getfield 32, 3) := by decide +kernel
theorem dX11_drops_112 : decode cX11_drops 112 = .ok (.iconst 2, 1) := by decide +kernel
theorem dX11_drops_113 : decode cX11_drops 113 = .ok (.iconst 0, 1) := by decide +kernel
theorem dX11_drops_114 : decode cX11_drops 114 = .ok (.aload_n 0, 1) := by decide +kernel
theorem dX11_drops_115 : decode cX11_drops 115 = .ok (.getfield 32, 3) := by decide +kernel
theorem dX11_drops_118 : decode cX11_drops 118 = .ok (.iconst 2, 1) := by decide +kernel
theorem dX11_drops_119 : decode cX11_drops 119 = .ok (.iaload, 1) := by decide +kernel
theorem dX11_drops_120 : decode cX11_drops 120 = .ok (.iconst 2, 1) := by decide +kernel
theorem dX11_drops_121 : decode cX11_drops 121 = .ok (.idiv, 1) := by decide +kernel
theorem dX11_drops_122 : decode cX11_drops 122 = .ok (.isub, 1) := by decide +kernel
theorem dX11_drops_123 : decode cX11_drops 123 = .ok (.iastore, 1) := by decide +kernel
theorem dX11_drops_124 : decode cX11_drops 124 = .ok (.aload_n 0, 1) := by decide +kernel
theorem dX11_drops_125 : decode cX11_drops 125 = .ok (.getfield 32, 3) := by decide +kernel
theorem dX11_drops_128 : decode cX11_drops 128 = .ok (.iconst 4, 1) := by decide +kernel
theorem dX11_drops_129 : decode cX11_drops 129 = .ok (.iconst 0, 1) := by decide +kernel
theorem dX11_drops_130 : decode cX11_drops 130 = .ok (.iastore, 1) := by decide +kernel
theorem dX11_drops_131 : decode cX11_drops 131 = .ok (.aload_n 0, 1) := by decide +kernel
theorem dX11_drops_132 : decode cX11_drops 132 = .ok (.getfield 32, 3) := by decide +kernel
theorem dX11_drops_135 : decode cX11_drops 135 = .ok (.iconst 5, 1) := by decide +kernel
theorem dX11_drops_136 : decode cX11_drops 136 = .ok (.dup2, 1) := by decide +kernel
theorem dX11_drops_137 : decode cX11_drops 137 = .ok (.iaload, 1) := by decide +kernel
theorem dX11_drops_138 : decode cX11_drops 138 = .ok (.iconst 1, 1) := by decide +kernel
theorem dX11_drops_139 : decode cX11_drops 139 = .ok (.iadd, 1) := by decide +kernel
theorem dX11_drops_140 : decode cX11_drops 140 = .ok (.iastore, 1) := by decide +kernel
theorem dX11_drops_141 : decode cX11_drops 141 = .ok (.return_, 1) := by decide +kernel
theorem dX11_ticks_0 : decode cX11_ticks 0 = .ok (.aload_n 0, 1) := by decide +kernel
theorem dX11_ticks_1 : decode cX11_ticks 1 = .ok (.getfield 32, 3) := by decide +kernel
theorem dX11_ticks_4 : decode cX11_ticks 4 = .ok (.iconst 3, 1) := by decide +kernel
theorem dX11_ticks_5 : decode cX11_ticks 5 = .ok (.dup2, 1) := by decide +kernel
theorem dX11_ticks_6 : decode cX11_ticks 6 = .ok (.iaload, 1) := by decide +kernel
theorem dX11_ticks_7 : decode cX11_ticks 7 = .ok (.iconst 1, 1) := by decide +kernel
theorem dX11_ticks_8 : decode cX11_ticks 8 = .ok (.iadd, 1) := by decide +kernel
theorem dX11_ticks_9 : decode cX11_ticks 9 = .ok (.iastore, 1) := by decide +kernel
theorem dX11_ticks_10 : decode cX11_ticks 10 = .ok (.aload_n 0, 1) := by decide +kernel
theorem dX11_ticks_11 : decode cX11_ticks 11 = .ok (.getfield 32, 3) := by decide +kernel
theorem dX11_ticks_14 : decode cX11_ticks 14 = .ok (.iconst 4, 1) := by decide +kernel
theorem dX11_ticks_15 : decode cX11_ticks 15 = .ok (.dup2, 1) := by decide +kernel
theorem dX11_ticks_16 : decode cX11_ticks 16 = .ok (.iaload, 1) := by decide +kernel
theorem dX11_ticks_17 : decode cX11_ticks 17 = .ok (.iconst 1, 1) := by decide +kernel
theorem dX11_ticks_18 : decode cX11_ticks 18 = .ok (.iadd, 1) := by decide +kernel
theorem dX11_ticks_19 : decode cX11_ticks 19 = .ok (.iastore, 1) := by decide +kernel
theorem dX11_ticks_20 : decode cX11_ticks 20 = .ok (.aload_n 0, 1) := by decide +kernel
theorem dX11_ticks_21 : decode cX11_ticks 21 = .ok (.iconst 0, 1) := by decide +kernel
theorem dX11_ticks_22 : decode cX11_ticks 22 = .ok (.invokevirtual 101, 3) := by decide +kernel
theorem dX11_ticks_25 : decode cX11_ticks 25 = .ok (.iconst 0, 1) := by decide +kernel
theorem dX11_ticks_26 : decode cX11_ticks 26 = .ok (.sipush 999, 3) := by decide +kernel
theorem dX11_ticks_29 : decode cX11_ticks 29 = .ok (.invokestatic 105, 3) := by decide +kernel
theorem dX11_ticks_32 : decode cX11_ticks 32 = .ok (.istore_n 1, 1) := by decide +kernel
theorem dX11_ticks_33 : decode cX11_ticks 33 = .ok (.aload_n 0, 1) := by decide +kernel
theorem dX11_ticks_34 : decode cX11_ticks 34 = .ok (.dup, 1) := by decide +kernel
theorem dX11_ticks_35 : decode cX11_ticks 35 = .ok (.getfield 90, 3) := by decide +kernel
theorem dX11_ticks_38 : decode cX11_ticks 38 = .ok (.iload_n 1, 1) := by decide +kernel
theorem dX11_ticks_39 : decode cX11_ticks 39 = .ok (.i2l, 1) := by decide +kernel
theorem dX11_ticks_40 : decode cX11_ticks 40 = .ok (.ladd, 1) := by decide +kernel
theorem dX11_ticks_41 : decode cX11_ticks 41 = .ok (.putfield 90, 3) := by decide +kernel
theorem dX11_ticks_44 : decode cX11_ticks 44 = .ok (.aload_n 0, 1) := by decide +kernel
theorem dX11_ticks_45 : decode cX11_ticks 45 = .ok (.getfield 32, 3) := by decide +kernel
theorem dX11_ticks_48 : decode cX11_ticks 48 = .ok (.iconst 0, 1) := by decide +kernel
theorem dX11_ticks_49 : decode cX11_ticks 49 = .ok (.aload_n 0, 1) := by decide +kernel
theorem dX11_ticks_50 : decode cX11_ticks 50 = .ok (.getfield 32, 3) := by decide +kernel
theorem dX11_ticks_53 : decode cX11_ticks 53 = .ok (.iconst 0, 1) := by decide +kernel
theorem dX11_ticks_54 : decode cX11_ticks 54 = .ok (.iaload, 1) := by decide +kernel
theorem dX11_ticks_55 : decode cX11_ticks 55 = .ok (.iload_n 1, 1) := by decide +kernel
theorem dX11_ticks_56 : decode cX11_ticks 56 = .ok (.iadd, 1) := by decide +kernel
theorem dX11_ticks_57 : decode cX11_ticks 57 = .ok (.iconst 0, 1) := by decide +kernel
theorem dX11_ticks_58 : decode cX11_ticks 58 = .ok (.ldc 108, 2) := by decide +kernel
theorem dX11_ticks_60 : decode cX11_ticks 60 = .ok (.invokestatic 105, 3) := by decide +kernel
theorem dX11_ticks_63 : decode cX11_ticks 63 = .ok (.iastore, 1) := by decide +kernel
theorem dX11_ticks_64 : decode cX11_ticks 64 = .ok (.aload_n 0, 1) := by decide +kernel
theorem dX11_ticks_65 : decode cX11_ticks 65 = .ok (.getfield 32, 3) := by decide +kernel
theorem dX11_ticks_68 : decode cX11_ticks 68 = .ok (.iconst 2, 1) := by decide +kernel
theorem dX11_ticks_69 : decode cX11_ticks 69 = .ok (.dup2, 1) := by decide +kernel
theorem dX11_ticks_70 : decode cX11_ticks 70 = .ok (.iaload, 1) := by decide +kernel
theorem dX11_ticks_71 : decode cX11_ticks 71 = .ok (.aload_n 0, 1) := by decide +kernel
theorem dX11_ticks_72 : decode cX11_ticks 72 = .ok (.iconst 1, 1) := by decide +kernel
theorem dX11_ticks_73 : decode cX11_ticks 73 = .ok (.invokevirtual 101, 3) := by decide +kernel
theorem dX11_ticks_76 : decode cX11_ticks 76 = .ok (.sipush (-999), 3) := by decide +kernel
theorem dX11_ticks_79 : decode cX11_ticks 79 = .ok (.sipush 999, 3) := by decide +kernel
theorem dX11_ticks_82 : decode cX11_ticks 82 = .ok (.invokestatic 105, 3) := by decide +kernel
theorem dX11_ticks_85 : decode cX11_ticks 85 = .ok (.isub, 1) := by decide +kernel
theorem dX11_ticks_86 : decode cX11_ticks 86 = .ok (.iastore, 1) := by decide +kernel
theorem dX11_ticks_87 : decode cX11_ticks 87 = .ok (.aload_n 0, 1) := by decide +kernel
theorem dX11_ticks_88 : decode cX11_ticks 88 = .ok (.getfield 32, 3) := by decide +kernel
theorem dX11_ticks_91 : decode cX11_ticks 91 = .ok (.bipush 7, 2) := by decide +kernel
theorem dX11_ticks_93 : decode cX11_ticks 93 = .ok (.iaload, 1) := by decide +kernel
theorem dX11_ticks_94 : decode cX11_ticks 94 = .ok (.ifCond .eq 63, 3) := by decide +kernel
theorem dX11_ticks_97 : decode cX11_ticks 97 = .ok (.aload_n 0, 1) := by decide +kernel
theorem dX11_ticks_98 : decode cX11_ticks 98 = .ok (.getfield 32, 3) := by decide +kernel
theorem dX11_ticks_101 : decode cX11_ticks 101 = .ok (.bipush 8, 2) := by decide +kernel
theorem dX11_ticks_103 : decode cX11_ticks 103 = .ok (.aload_n 0, 1) := by decide +kernel
theorem dX11_ticks_104 : decode cX11_ticks 104 = .ok (.getfield 32, 3) := by decide +kernel
theorem dX11_ticks_107 : decode cX11_ticks 107 = .ok (.bipush 8, 2) := by decide +kernel
theorem dX11_ticks_109 : decode cX11_ticks 109 = .ok (.iaload, 1) := by decide +kernel
theorem dX11_ticks_110 : decode cX11_ticks 110 = .ok (.ldc 109, 2) := by decide +kernel
theorem dX11_ticks_112 : decode cX11_ticks 112 = .ok (.imul, 1) := by decide +kernel
theorem dX11_ticks_113 : decode cX11_ticks 113 = .ok (.sipush 12345, 3) := by decide +kernel
theorem dX11_ticks_116 : decode cX11_ticks 116 = .ok (.iadd, 1) := by decide +kernel
theorem dX11_ticks_117 : decode cX11_ticks 117 = .ok (.iastore, 1) := by decide +kernel
theorem dX11_ticks_118 : decode cX11_ticks 118 = .ok (.aload_n 0, 1) := by decide +kernel
theorem dX11_ticks_119 : decode cX11_ticks 119 = .ok (.getfield 32, 3) := by decide +kernel
theorem dX11_ticks_122 : decode cX11_ticks 122 = .ok (.iconst 2, 1) := by decide +kernel
theorem dX11_ticks_123 : decode cX11_ticks 123 = .ok (.dup2, 1) := by decide +kernel
theorem dX11_ticks_124 : decode cX11_ticks 124 = .ok (.iaload, 1) := by decide +kernel
theorem dX11_ticks_125 : decode cX11_ticks 125 = .ok (.aload_n 0, 1) := by decide +kernel
theorem dX11_ticks_126 : decode cX11_ticks 126 = .ok (.getfield 32, 3) := by decide +kernel
theorem dX11_ticks_129 : decode cX11_ticks 129 = .ok (.bipush 8, 2) := by decide +kernel
theorem dX11_ticks_131 : decode cX11_ticks 131 = .ok (.iaload, 1) := by decide +kernel
theorem dX11_ticks_132 : decode cX11_ticks 132 = .ok (.bipush 16, 2) := by decide +kernel
theorem dX11_ticks_134 : decode cX11_ticks 134 = .ok (.iushr, 1) := by decide +kernel
theorem dX11_ticks_135 : decode cX11_ticks 135 = .ok (.iconst 2, 1) := by decide +kernel
theorem dX11_ticks_136 : decode cX11_ticks 136 = .ok (.aload_n 0, 1) := by decide +kernel
theorem dX11_ticks_137 : decode cX11_ticks 137 = .ok (.getfield 32, 3) := by decide +kernel
theorem dX11_ticks_140 : decode cX11_ticks 140 = .ok (.bipush 7, 2) := by decide +kernel
theorem dX11_ticks_142 : decode cX11_ticks 142 = .ok (.iaload, 1) := by decide +kernel
theorem dX11_ticks_143 : decode cX11_ticks 143 = .ok (.imul, 1) := by decide +kernel
theorem dX11_ticks_144 : decode cX11_ticks 144 = .ok (.iconst 1, 1) := by decide +kernel
theorem dX11_ticks_145 : decode cX11_ticks 145 = .ok (.iadd, 1) := by decide +kernel
theorem dX11_ticks_146 : decode cX11_ticks 146 = .ok (.irem, 1) := by decide +kernel
theorem dX11_ticks_147 : decode cX11_ticks 147 = .ok (.aload_n 0, 1) := by decide +kernel
theorem dX11_ticks_148 : decode cX11_ticks 148 = .ok (.getfield 32, 3) := by decide +kernel
theorem dX11_ticks_151 : decode cX11_ticks 151 = .ok (.bipush 7, 2) := by decide +kernel
theorem dX11_ticks_153 : decode cX11_ticks 153 = .ok (.iaload, 1) := by decide +kernel
theorem dX11_ticks_154 : decode cX11_ticks 154 = .ok (.isub, 1) := by decide +kernel
theorem dX11_ticks_155 : decode cX11_ticks 155 = .ok (.iadd, 1) := by decide +kernel
theorem dX11_ticks_156 : decode cX11_ticks 156 = .ok (.iastore, 1) := by decide +kernel
theorem dX11_ticks_157 : decode cX11_ticks 157 = .ok (.aload_n 0, 1) := by decide +kernel
theorem dX11_ticks_158 : decode cX11_ticks 158 = .ok (.getfield 32, 3) := by decide +kernel
theorem dX11_ticks_161 : decode cX11_ticks 161 = .ok (.iconst 2, 1) := by decide +kernel
theorem dX11_ticks_162 : decode cX11_ticks 162 = .ok (.aload_n 0, 1) := by decide +kernel
theorem dX11_ticks_163 : decode cX11_ticks 163 = .ok (.getfield 32, 3) := by decide +kernel
theorem dX11_ticks_166 : decode cX11_ticks 166 = .ok (.iconst 2, 1) := by decide +kernel
theorem dX11_ticks_167 : decode cX11_ticks 167 = .ok (.iaload, 1) := by decide +kernel
theorem dX11_ticks_168 : decode cX11_ticks 168 = .ok (.sipush (-999), 3) := by decide +kernel
theorem dX11_ticks_171 : decode cX11_ticks 171 = .ok (.sipush 999, 3) := by decide +kernel
theorem dX11_ticks_174 : decode cX11_ticks 174 = .ok (.invokestatic 105, 3) := by decide +kernel
theorem dX11_ticks_177 : decode cX11_ticks 177 = .ok (.iastore, 1) := by decide +kernel
theorem dX11_ticks_178 : decode cX11_ticks 178 = .ok (.aload_n 0, 1) := by decide +kernel
theorem dX11_ticks_179 : decode cX11_ticks 179 = .ok (.getfield 32, 3) := by decide +kernel
theorem dX11_ticks_182 : decode cX11_ticks 182 = .ok (.iconst 1, 1) := by decide +kernel
theorem dX11_ticks_183 : decode cX11_ticks 183 = .ok (.dup2, 1) := by decide +kernel
theorem dX11_ticks_184 : decode cX11_ticks 184 = .ok (.iaload, 1) := by decide +kernel
theorem dX11_ticks_185 : decode cX11_ticks 185 = .ok (.aload_n 0, 1) := by decide +kernel
theorem dX11_ticks_186 : decode cX11_ticks 186 = .ok (.getfield 32, 3) := by decide +kernel
theorem dX11_ticks_189 : decode cX11_ticks 189 = .ok (.iconst 2, 1) := by decide +kernel
theorem dX11_ticks_190 : decode cX11_ticks 190 = .ok (.iaload, 1) := by decide +kernel
theorem dX11_ticks_191 : decode cX11_ticks 191 = .ok (.iadd, 1) := by decide +kernel
theorem dX11_ticks_192 : decode cX11_ticks 192 = .ok (.iastore, 1) := by decide +kernel
theorem dX11_ticks_193 : decode cX11_ticks 193 = .ok (.aload_n 0, 1) := by decide +kernel
theorem dX11_ticks_194 : decode cX11_ticks 194 = .ok (.getfield 32, 3) := by decide +kernel
theorem dX11_ticks_197 : decode cX11_ticks 197 = .ok (.iconst 1, 1) := by decide +kernel
theorem dX11_ticks_198 : decode cX11_ticks 198 = .ok (.iaload, 1) := by decide +kernel
theorem dX11_ticks_199 : decode cX11_ticks 199 = .ok (.i2l, 1) := by decide +kernel
theorem dX11_ticks_200 : decode cX11_ticks 200 = .ok (.ldc2_w 110, 3) := by decide +kernel
theorem dX11_ticks_203 : decode cX11_ticks 203 = .ok (.ldc2_w 112, 3) := by decide +kernel
theorem dX11_ticks_206 : decode cX11_ticks 206 = .ok (.invokestatic 114, 3) := by decide +kernel
theorem dX11_ticks_209 : decode cX11_ticks 209 = .ok (.ifCond .ne 31, 3) := by decide +kernel
theorem dX11_ticks_212 : decode cX11_ticks 212 = .ok (.aload_n 0, 1) := by decide +kernel
theorem dX11_ticks_213 : decode cX11_ticks 213 = .ok (.getfield 32, 3) := by decide +kernel
theorem dX11_ticks_216 : decode cX11_ticks 216 = .ok (.iconst 1, 1) := by decide +kernel
theorem dX11_ticks_217 : decode cX11_ticks 217 = .ok (.aload_n 0, 1) := by decide +kernel
theorem dX11_ticks_218 : decode cX11_ticks 218 = .ok (.getfield 32, 3) := by decide +kernel
theorem dX11_ticks_221 : decode cX11_ticks 221 = .ok (.iconst 1, 1) := by decide +kernel
theorem dX11_ticks_222 : decode cX11_ticks 222 = .ok (.iaload, 1) := by decide +kernel
theorem dX11_ticks_223 : decode cX11_ticks 223 = .ok (.sipush (-999), 3) := by decide +kernel
theorem dX11_ticks_226 : decode cX11_ticks 226 = .ok (.sipush 999, 3) := by decide +kernel
theorem dX11_ticks_229 : decode cX11_ticks 229 = .ok (.invokestatic 105, 3) := by decide +kernel
theorem dX11_ticks_232 : decode cX11_ticks 232 = .ok (.iastore, 1) := by decide +kernel
theorem dX11_ticks_233 : decode cX11_ticks 233 = .ok (.aload_n 0, 1) := by decide +kernel
theorem dX11_ticks_234 : decode cX11_ticks 234 = .ok (.getfield 32, 3) := by decide +kernel
theorem dX11_ticks_237 : decode cX11_ticks 237 = .ok (.iconst 2, 1) := by decide +kernel
theorem dX11_ticks_238 : decode cX11_ticks 238 = .ok (.iconst 0, 1) := by decide +kernel
theorem dX11_ticks_239 : decode cX11_ticks 239 = .ok (.iastore, 1) := by decide +kernel
theorem dX11_ticks_240 : decode cX11_ticks 240 = .ok (.aload_n 0, 1) := by decide +kernel
theorem dX11_ticks_241 : decode cX11_ticks 241 = .ok (.iconst 2, 1) := by decide +kernel
theorem dX11_ticks_242 : decode cX11_ticks 242 = .ok (.invokevirtual 101, 3) := by decide +kernel
theorem dX11_ticks_245 : decode cX11_ticks 245 = .ok (.ifCond .eq 7, 3) := by decide +kernel
theorem dX11_ticks_248 : decode cX11_ticks 248 = .ok (.aload_n 0, 1) := by decide +kernel
theorem dX11_ticks_249 : decode cX11_ticks 249 = .ok (.invokevirtual 118, 3) := by decide +kernel
theorem dX11_ticks_252 : decode cX11_ticks 252 = .ok (.return_, 1) := by decide +kernel
theorem dX11_trial_0 : decode cX11_trial 0 = .ok (.iconst 0, 1) := by decide +kernel
theorem dX11_trial_1 : decode cX11_trial 1 = .ok (.istore_n 2, 1) := by decide +kernel
theorem dX11_trial_2 : decode cX11_trial 2 = .ok (.iload_n 2, 1) := by decide +kernel
theorem dX11_trial_3 : decode cX11_trial 3 = .ok (.iload_n 1, 1) := by decide +kernel
theorem dX11_trial_4 : decode cX11_trial 4 = .ok (.if_icmp .ge 13, 3) := by decide +kernel
theorem dX11_trial_7 : decode cX11_trial 7 = .ok (.aload_n 0, 1) := by decide +kernel
theorem dX11_trial_8 : decode cX11_trial 8 = .ok (.invokevirtual 121, 3) := by decide +kernel
theorem dX11_trial_11 : decode cX11_trial 11 = .ok (.iinc 2 1, 3) := by decide +kernel
theorem dX11_trial_14 : decode cX11_trial 14 = .ok (.goto (-12), 3) := by decide +kernel
theorem dX11_trial_17 : decode cX11_trial 17 = .ok (.return_, 1) := by decide +kernel
theorem dX11_begin_0 : decode cX11_begin 0 = .ok (.iload_n 1, 1) := by decide +kernel
theorem dX11_begin_1 : decode cX11_begin 1 = .ok (.i2l, 1) := by decide +kernel
theorem dX11_begin_2 : decode cX11_begin 2 = .ok (.lconst 0, 1) := by decide +kernel
theorem dX11_begin_3 : decode cX11_begin 3 = .ok (.ldc2_w 124, 3) := by decide +kernel
theorem dX11_begin_6 : decode cX11_begin 6 = .ok (.invokestatic 114, 3) := by decide +kernel
theorem dX11_begin_9 : decode cX11_begin 9 = .ok (.ifCond .eq 31, 3) := by decide +kernel
theorem dX11_begin_12 : decode cX11_begin 12 = .ok (.iload_n 2, 1) := by decide +kernel
theorem dX11_begin_13 : decode cX11_begin 13 = .ok (.i2l, 1) := by decide +kernel
theorem dX11_begin_14 : decode cX11_begin 14 = .ok (.ldc2_w 110, 3) := by decide +kernel
theorem dX11_begin_17 : decode cX11_begin 17 = .ok (.ldc2_w 112, 3) := by decide +kernel
theorem dX11_begin_20 : decode cX11_begin 20 = .ok (.invokestatic 114, 3) := by decide +kernel
theorem dX11_begin_23 : decode cX11_begin 23 = .ok (.ifCond .eq 17, 3) := by decide +kernel
theorem dX11_begin_26 : decode cX11_begin 26 = .ok (.iload_n 3, 1) := by decide +kernel
theorem dX11_begin_27 : decode cX11_begin 27 = .ok (.i2l, 1) := by decide +kernel
theorem dX11_begin_28 : decode cX11_begin 28 = .ok (.ldc2_w 110, 3) := by decide +kernel
theorem dX11_begin_31 : decode cX11_begin 31 = .ok (.ldc2_w 112, 3) := by decide +kernel
theorem dX11_begin_34 : decode cX11_begin 34 = .ok (.invokestatic 114, 3) := by decide +kernel
theorem dX11_begin_37 : decode cX11_begin 37 = .ok (.ifCond .ne 5, 3) := by decide +kernel
theorem dX11_begin_40 : decode cX11_begin 40 = .ok (.iconst (-1), 1) := by decide +kernel
theorem dX11_begin_41 : decode cX11_begin 41 = .ok (.ireturn, 1) := by decide +kernel
theorem dX11_begin_42 : decode cX11_begin 42 = .ok (.iconst 0, 1) := by decide +kernel
theorem dX11_begin_43 : decode cX11_begin 43 = .ok (.istore 4, 2) := by decide +kernel
theorem dX11_begin_45 : decode cX11_begin 45 = .ok (.iload 4, 2) := by decide +kernel
theorem dX11_begin_47 : decode cX11_begin 47 = .ok (.bipush 6, 2) := by decide +kernel
theorem dX11_begin_49 : decode cX11_begin 49 = .ok (.if_icmp .ge 17, 3) := by decide +kernel
theorem dX11_begin_52 : decode cX11_begin 52 = .ok (.aload_n 0, 1) := by decide +kernel
theorem dX11_begin_53 : decode cX11_begin 53 = .ok (.getfield 7, 3) := by decide +kernel
theorem dX11_begin_56 : decode cX11_begin 56 = .ok (.iload 4, 2) := by decide +kernel
theorem dX11_begin_58 : decode cX11_begin 58 = .ok (.iconst 0, 1) := by decide +kernel
theorem dX11_begin_59 : decode cX11_begin 59 = .ok (.iastore, 1) := by decide +kernel
theorem dX11_begin_60 : decode cX11_begin 60 = .ok (.iinc 4 1, 3) := by decide +kernel
theorem dX11_begin_63 : decode cX11_begin 63 = .ok (.goto (-18), 3) := by decide +kernel
theorem dX11_begin_66 : decode cX11_begin 66 = .ok (.aload_n 0, 1) := by decide +kernel
theorem dX11_begin_67 : decode cX11_begin 67 = .ok (.getfield 7, 3) := by decide +kernel
theorem dX11_begin_70 : decode cX11_begin 70 = .ok (.iconst 0, 1) := by decide +kernel
theorem dX11_begin_71 : decode cX11_begin 71 = .ok (.iload_n 1, 1) := by decide +kernel
theorem dX11_begin_72 : decode cX11_begin 72 = .ok (.iastore, 1) := by decide +kernel
theorem dX11_begin_73 : decode cX11_begin 73 = .ok (.aload_n 0, 1) := by decide +kernel
theorem dX11_begin_74 : decode cX11_begin 74 = .ok (.getfield 7, 3) := by decide +kernel
theorem dX11_begin_77 : decode cX11_begin 77 = .ok (.iconst 1, 1) := by decide +kernel
theorem dX11_begin_78 : decode cX11_begin 78 = .ok (.iload_n 2, 1) := by decide +kernel
theorem dX11_begin_79 : decode cX11_begin 79 = .ok (.iastore, 1) := by decide +kernel
theorem dX11_begin_80 : decode cX11_begin 80 = .ok (.aload_n 0, 1) := by decide +kernel
theorem dX11_begin_81 : decode cX11_begin 81 = .ok (.getfield 7, 3) := by decide +kernel
theorem dX11_begin_84 : decode cX11_begin 84 = .ok (.iconst 2, 1) := by decide +kernel
theorem dX11_begin_85 : decode cX11_begin 85 = .ok (.iload_n 3, 1) := by decide +kernel
theorem dX11_begin_86 : decode cX11_begin 86 = .ok (.iastore, 1) := by decide +kernel
theorem dX11_begin_87 : decode cX11_begin 87 = .ok (.aload_n 0, 1) := by decide +kernel
theorem dX11_begin_88 : decode cX11_begin 88 = .ok (.getfield 7, 3) := by decide +kernel
theorem dX11_begin_91 : decode cX11_begin 91 = .ok (.bipush 9, 2) := by decide +kernel
theorem dX11_begin_93 : decode cX11_begin 93 = .ok (.iconst 0, 1) := by decide +kernel
theorem dX11_begin_94 : decode cX11_begin 94 = .ok (.iastore, 1) := by decide +kernel
theorem dX11_begin_95 : decode cX11_begin 95 = .ok (.aload_n 0, 1) := by decide +kernel
theorem dX11_begin_96 : decode cX11_begin 96 = .ok (.getfield 16, 3) := by decide +kernel
theorem dX11_begin_99 : decode cX11_begin 99 = .ok (.iconst 0, 1) := by decide +kernel
theorem dX11_begin_100 : decode cX11_begin 100 = .ok (.lconst 0, 1) := by decide +kernel
theorem dX11_begin_101 : decode cX11_begin 101 = .ok (.lastore, 1) := by decide +kernel
theorem dX11_begin_102 : decode cX11_begin 102 = .ok (.aload_n 0, 1) := by decide +kernel
theorem dX11_begin_103 : decode cX11_begin 103 = .ok (.getfield 16, 3) := by decide +kernel
theorem dX11_begin_106 : decode cX11_begin 106 = .ok (.iconst 1, 1) := by decide +kernel
theorem dX11_begin_107 : decode cX11_begin 107 = .ok (.lconst 0, 1) := by decide +kernel
theorem dX11_begin_108 : decode cX11_begin 108 = .ok (.lastore, 1) := by decide +kernel
theorem dX11_begin_109 : decode cX11_begin 109 = .ok (.aload_n 0, 1) := by decide +kernel
theorem dX11_begin_110 : decode cX11_begin 110 = .ok (.getfield 16, 3) := by decide +kernel
theorem dX11_begin_113 : decode cX11_begin 113 = .ok (.iconst 2, 1) := by decide +kernel
theorem dX11_begin_114 : decode cX11_begin 114 = .ok (.iload_n 1, 1) := by decide +kernel
theorem dX11_begin_115 : decode cX11_begin 115 = .ok (.i2l, 1) := by decide +kernel
theorem dX11_begin_116 : decode cX11_begin 116 = .ok (.lastore, 1) := by decide +kernel
theorem dX11_begin_117 : decode cX11_begin 117 = .ok (.iconst 1, 1) := by decide +kernel
theorem dX11_begin_118 : decode cX11_begin 118 = .ok (.ireturn, 1) := by decide +kernel
theorem dX11_set_0 : decode cX11_set 0 = .ok (.iload_n 1, 1) := by decide +kernel
theorem dX11_set_1 : decode cX11_set 1 = .ok (.i2l, 1) := by decide +kernel
theorem dX11_set_2 : decode cX11_set 2 = .ok (.lconst 0, 1) := by decide +kernel
theorem dX11_set_3 : decode cX11_set 3 = .ok (.lconst 1, 1) := by decide +kernel
theorem dX11_set_4 : decode cX11_set 4 = .ok (.invokestatic 114, 3) := by decide +kernel
theorem dX11_set_7 : decode cX11_set 7 = .ok (.ifCond .eq 15, 3) := by decide +kernel
theorem dX11_set_10 : decode cX11_set 10 = .ok (.iload_n 2, 1) := by decide +kernel
theorem dX11_set_11 : decode cX11_set 11 = .ok (.i2l, 1) := by decide +kernel
theorem dX11_set_12 : decode cX11_set 12 = .ok (.lconst 0, 1) := by decide +kernel
theorem dX11_set_13 : decode cX11_set 13 = .ok (.ldc2_w 126, 3) := by decide +kernel
theorem dX11_set_16 : decode cX11_set 16 = .ok (.invokestatic 114, 3) := by decide +kernel
theorem dX11_set_19 : decode cX11_set 19 = .ok (.ifCond .ne 5, 3) := by decide +kernel
theorem dX11_set_22 : decode cX11_set 22 = .ok (.iconst (-1), 1) := by decide +kernel
theorem dX11_set_23 : decode cX11_set 23 = .ok (.ireturn, 1) := by decide +kernel
theorem dX11_set_24 : decode cX11_set 24 = .ok (.aload_n 0, 1) := by decide +kernel
theorem dX11_set_25 : decode cX11_set 25 = .ok (.getfield 7, 3) := by decide +kernel
theorem dX11_set_28 : decode cX11_set 28 = .ok (.bipush 6, 2) := by decide +kernel
theorem dX11_set_30 : decode cX11_set 30 = .ok (.iload_n 1, 1) := by decide +kernel
theorem dX11_set_31 : decode cX11_set 31 = .ok (.iadd, 1) := by decide +kernel
theorem dX11_set_32 : decode cX11_set 32 = .ok (.iaload, 1) := by decide +kernel
theorem dX11_set_33 : decode cX11_set 33 = .ok (.istore_n 3, 1) := by decide +kernel
theorem dX11_set_34 : decode cX11_set 34 = .ok (.aload_n 0, 1) := by decide +kernel
theorem dX11_set_35 : decode cX11_set 35 = .ok (.getfield 7, 3) := by decide +kernel
theorem dX11_set_38 : decode cX11_set 38 = .ok (.bipush 6, 2) := by decide +kernel
theorem dX11_set_40 : decode cX11_set 40 = .ok (.iload_n 1, 1) := by decide +kernel
theorem dX11_set_41 : decode cX11_set 41 = .ok (.iadd, 1) := by decide +kernel
theorem dX11_set_42 : decode cX11_set 42 = .ok (.iload_n 2, 1) := by decide +kernel
theorem dX11_set_43 : decode cX11_set 43 = .ok (.iastore, 1) := by decide +kernel
theorem dX11_set_44 : decode cX11_set 44 = .ok (.iload_n 3, 1) := by decide +kernel
theorem dX11_set_45 : decode cX11_set 45 = .ok (.ireturn, 1) := by decide +kernel
theorem dX11_seed_0 : decode cX11_seed 0 = .ok (.aload_n 0, 1) := by decide +kernel
theorem dX11_seed_1 : decode cX11_seed 1 = .ok (.getfield 7, 3) := by decide +kernel
theorem dX11_seed_4 : decode cX11_seed 4 = .ok (.bipush 8, 2) := by decide +kernel
theorem dX11_seed_6 : decode cX11_seed 6 = .ok (.iaload, 1) := by decide +kernel
theorem dX11_seed_7 : decode cX11_seed 7 = .ok (.istore_n 2, 1) := by decide +kernel
theorem dX11_seed_8 : decode cX11_seed 8 = .ok (.aload_n 0, 1) := by decide +kernel
theorem dX11_seed_9 : decode cX11_seed 9 = .ok (.getfield 7, 3) := by decide +kernel
theorem dX11_seed_12 : decode cX11_seed 12 = .ok (.bipush 8, 2) := by decide +kernel
theorem dX11_seed_14 : decode cX11_seed 14 = .ok (.iload_n 1, 1) := by decide +kernel
theorem dX11_seed_15 : decode cX11_seed 15 = .ok (.iastore, 1) := by decide +kernel
theorem dX11_seed_16 : decode cX11_seed 16 = .ok (.iload_n 2, 1) := by decide +kernel
theorem dX11_seed_17 : decode cX11_seed 17 = .ok (.ireturn, 1) := by decide +kernel
theorem dX11_run_0 : decode cX11_run 0 = .ok (.iload_n 1, 1) := by decide +kernel
theorem dX11_run_1 : decode cX11_run 1 = .ok (.i2l, 1) := by decide +kernel
theorem dX11_run_2 : decode cX11_run 2 = .ok (.lconst 0, 1) := by decide +kernel
theorem dX11_run_3 : decode cX11_run 3 = .ok (.ldc2_w 128, 3) := by decide +kernel
theorem dX11_run_6 : decode cX11_run 6 = .ok (.invokestatic 114, 3) := by decide +kernel
theorem dX11_run_9 : decode cX11_run 9 = .ok (.ifCond .ne 5, 3) := by decide +kernel
theorem dX11_run_12 : decode cX11_run 12 = .ok (.iconst (-1), 1) := by decide +kernel
theorem dX11_run_13 : decode cX11_run 13 = .ok (.ireturn, 1) := by decide +kernel
theorem dX11_run_14 : decode cX11_run 14 = .ok (.aload_n 0, 1) := by decide +kernel
theorem dX11_run_15 : decode cX11_run 15 = .ok (.invokevirtual 130, 3) := by decide +kernel
theorem dX11_run_18 : decode cX11_run 18 = .ok (.aload_n 0, 1) := by decide +kernel
theorem dX11_run_19 : decode cX11_run 19 = .ok (.getfield 7, 3) := by decide +kernel
theorem dX11_run_22 : decode cX11_run 22 = .ok (.iconst 5, 1) := by decide +kernel
theorem dX11_run_23 : decode cX11_run 23 = .ok (.iaload, 1) := by decide +kernel
theorem dX11_run_24 : decode cX11_run 24 = .ok (.istore_n 2, 1) := by decide +kernel
theorem dX11_run_25 : decode cX11_run 25 = .ok (.iload_n 1, 1) := by decide +kernel
theorem dX11_run_26 : decode cX11_run 26 = .ok (.istore_n 3, 1) := by decide +kernel
theorem dX11_run_27 : decode cX11_run 27 = .ok (.iload_n 3, 1) := by decide +kernel
theorem dX11_run_28 : decode cX11_run 28 = .ok (.ifCond .le 69, 3) := by decide +kernel
theorem dX11_run_31 : decode cX11_run 31 = .ok (.aload_n 0, 1) := by decide +kernel
theorem dX11_run_32 : decode cX11_run 32 = .ok (.invokevirtual 121, 3) := by decide +kernel
theorem dX11_run_35 : decode cX11_run 35 = .ok (.iinc 3 (-1), 3) := by decide +kernel
theorem dX11_run_38 : decode cX11_run 38 = .ok (.aload_n 0, 1) := by decide +kernel
theorem dX11_run_39 : decode cX11_run 39 = .ok (.getfield 86, 3) := by decide +kernel
theorem dX11_run_42 : decode cX11_run 42 = .ok (.ifCond .le (-15), 3) := by decide +kernel
theorem dX11_run_45 : decode cX11_run 45 = .ok (.aload_n 0, 1) := by decide +kernel
theorem dX11_run_46 : decode cX11_run 46 = .ok (.getfield 7, 3) := by decide +kernel
theorem dX11_run_49 : decode cX11_run 49 = .ok (.bipush 9, 2) := by decide +kernel
theorem dX11_run_51 : decode cX11_run 51 = .ok (.iaload, 1) := by decide +kernel
theorem dX11_run_52 : decode cX11_run 52 = .ok (.bipush 60, 2) := by decide +kernel
theorem dX11_run_54 : decode cX11_run 54 = .ok (.if_icmp .ge 35, 3) := by decide +kernel
theorem dX11_run_57 : decode cX11_run 57 = .ok (.aload_n 0, 1) := by decide +kernel
theorem dX11_run_58 : decode cX11_run 58 = .ok (.getfield 7, 3) := by decide +kernel
theorem dX11_run_61 : decode cX11_run 61 = .ok (.bipush 12, 2) := by decide +kernel
theorem dX11_run_63 : decode cX11_run 63 = .ok (.aload_n 0, 1) := by decide +kernel
theorem dX11_run_64 : decode cX11_run 64 = .ok (.getfield 7, 3) := by decide +kernel
theorem dX11_run_67 : decode cX11_run 67 = .ok (.bipush 9, 2) := by decide +kernel
theorem dX11_run_69 : decode cX11_run 69 = .ok (.iaload, 1) := by decide +kernel
theorem dX11_run_70 : decode cX11_run 70 = .ok (.iadd, 1) := by decide +kernel
theorem dX11_run_71 : decode cX11_run 71 = .ok (.aload_n 0, 1) := by decide +kernel
theorem dX11_run_72 : decode cX11_run 72 = .ok (.getfield 35, 3) := by decide +kernel
theorem dX11_run_75 : decode cX11_run 75 = .ok (.iconst 0, 1) := by decide +kernel
theorem dX11_run_76 : decode cX11_run 76 = .ok (.iaload, 1) := by decide +kernel
theorem dX11_run_77 : decode cX11_run 77 = .ok (.iastore, 1) := by decide +kernel
theorem dX11_run_78 : decode cX11_run 78 = .ok (.aload_n 0, 1) := by decide +kernel
theorem dX11_run_79 : decode cX11_run 79 = .ok (.getfield 7, 3) := by decide +kernel
theorem dX11_run_82 : decode cX11_run 82 = .ok (.bipush 9, 2) := by decide +kernel
theorem dX11_run_84 : decode cX11_run 84 = .ok (.dup2, 1) := by decide +kernel
theorem dX11_run_85 : decode cX11_run 85 = .ok (.iaload, 1) := by decide +kernel
theorem dX11_run_86 : decode cX11_run 86 = .ok (.iconst 1, 1) := by decide +kernel
theorem dX11_run_87 : decode cX11_run 87 = .ok (.iadd, 1) := by decide +kernel
theorem dX11_run_88 : decode cX11_run 88 = .ok (.iastore, 1) := by decide +kernel
theorem dX11_run_89 : decode cX11_run 89 = .ok (.aload_n 0, 1) := by decide +kernel
theorem dX11_run_90 : decode cX11_run 90 = .ok (.iconst 0, 1) := by decide +kernel
theorem dX11_run_91 : decode cX11_run 91 = .ok (.putfield 86, 3) := by decide +kernel
theorem dX11_run_94 : decode cX11_run 94 = .ok (.goto (-67), 3) := by decide +kernel
theorem dX11_run_97 : decode cX11_run 97 = .ok (.iconst 0, 1) := by decide +kernel
theorem dX11_run_98 : decode cX11_run 98 = .ok (.istore 4, 2) := by decide +kernel
theorem dX11_run_100 : decode cX11_run 100 = .ok (.iload 4, 2) := by decide +kernel
theorem dX11_run_102 : decode cX11_run 102 = .ok (.bipush 9, 2) := by decide +kernel
theorem dX11_run_104 : decode cX11_run 104 = .ok (.if_icmp .ge 23, 3) := by decide +kernel
theorem dX11_run_107 : decode cX11_run 107 = .ok (.aload_n 0, 1) := by decide +kernel
theorem dX11_run_108 : decode cX11_run 108 = .ok (.getfield 7, 3) := by decide +kernel
theorem dX11_run_111 : decode cX11_run 111 = .ok (.iload 4, 2) := by decide +kernel
theorem dX11_run_113 : decode cX11_run 113 = .ok (.aload_n 0, 1) := by decide +kernel
theorem dX11_run_114 : decode cX11_run 114 = .ok (.getfield 32, 3) := by decide +kernel
theorem dX11_run_117 : decode cX11_run 117 = .ok (.iload 4, 2) := by decide +kernel
theorem dX11_run_119 : decode cX11_run 119 = .ok (.iaload, 1) := by decide +kernel
theorem dX11_run_120 : decode cX11_run 120 = .ok (.iastore, 1) := by decide +kernel
theorem dX11_run_121 : decode cX11_run 121 = .ok (.iinc 4 1, 3) := by decide +kernel
theorem dX11_run_124 : decode cX11_run 124 = .ok (.goto (-24), 3) := by decide +kernel
theorem dX11_run_127 : decode cX11_run 127 = .ok (.aload_n 0, 1) := by decide +kernel
theorem dX11_run_128 : decode cX11_run 128 = .ok (.getfield 16, 3) := by decide +kernel
theorem dX11_run_131 : decode cX11_run 131 = .ok (.iconst 0, 1) := by decide +kernel
theorem dX11_run_132 : decode cX11_run 132 = .ok (.dup2, 1) := by decide +kernel
theorem dX11_run_133 : decode cX11_run 133 = .ok (.laload, 1) := by decide +kernel
theorem dX11_run_134 : decode cX11_run 134 = .ok (.aload_n 0, 1) := by decide +kernel
theorem dX11_run_135 : decode cX11_run 135 = .ok (.getfield 90, 3) := by decide +kernel
theorem dX11_run_138 : decode cX11_run 138 = .ok (.ladd, 1) := by decide +kernel
theorem dX11_run_139 : decode cX11_run 139 = .ok (.lastore, 1) := by decide +kernel
theorem dX11_run_140 : decode cX11_run 140 = .ok (.aload_n 0, 1) := by decide +kernel
theorem dX11_run_141 : decode cX11_run 141 = .ok (.getfield 16, 3) := by decide +kernel
theorem dX11_run_144 : decode cX11_run 144 = .ok (.iconst 1, 1) := by decide +kernel
theorem dX11_run_145 : decode cX11_run 145 = .ok (.dup2, 1) := by decide +kernel
theorem dX11_run_146 : decode cX11_run 146 = .ok (.laload, 1) := by decide +kernel
theorem dX11_run_147 : decode cX11_run 147 = .ok (.aload_n 0, 1) := by decide +kernel
theorem dX11_run_148 : decode cX11_run 148 = .ok (.getfield 94, 3) := by decide +kernel
theorem dX11_run_151 : decode cX11_run 151 = .ok (.ladd, 1) := by decide +kernel
theorem dX11_run_152 : decode cX11_run 152 = .ok (.lastore, 1) := by decide +kernel
theorem dX11_run_153 : decode cX11_run 153 = .ok (.aload_n 0, 1) := by decide +kernel
theorem dX11_run_154 : decode cX11_run 154 = .ok (.getfield 7, 3) := by decide +kernel
theorem dX11_run_157 : decode cX11_run 157 = .ok (.iconst 5, 1) := by decide +kernel
theorem dX11_run_158 : decode cX11_run 158 = .ok (.iaload, 1) := by decide +kernel
theorem dX11_run_159 : decode cX11_run 159 = .ok (.iload_n 2, 1) := by decide +kernel
theorem dX11_run_160 : decode cX11_run 160 = .ok (.isub, 1) := by decide +kernel
theorem dX11_run_161 : decode cX11_run 161 = .ok (.ireturn, 1) := by decide +kernel
theorem dX11_tap_0 : decode cX11_tap 0 = .ok (.iload_n 1, 1) := by decide +kernel
theorem dX11_tap_1 : decode cX11_tap 1 = .ok (.i2l, 1) := by decide +kernel
theorem dX11_tap_2 : decode cX11_tap 2 = .ok (.lconst 0, 1) := by decide +kernel
theorem dX11_tap_3 : decode cX11_tap 3 = .ok (.ldc2_w 133, 3) := by decide +kernel
theorem dX11_tap_6 : decode cX11_tap 6 = .ok (.invokestatic 114, 3) := by decide +kernel
theorem dX11_tap_9 : decode cX11_tap 9 = .ok (.ifCond .ne 7, 3) := by decide +kernel
theorem dX11_tap_12 : decode cX11_tap 12 = .ok (.iconst (-1), 1) := by decide +kernel
theorem dX11_tap_13 : decode cX11_tap 13 = .ok (.goto 32, 3) := by decide +kernel
theorem dX11_tap_16 : decode cX11_tap 16 = .ok (.iload_n 1, 1) := by decide +kernel
theorem dX11_tap_17 : decode cX11_tap 17 = .ok (.iconst 1, 1) := by decide +kernel
theorem dX11_tap_18 : decode cX11_tap 18 = .ok (.if_icmp .eq 8, 3) := by decide +kernel
theorem dX11_tap_21 : decode cX11_tap 21 = .ok (.iload_n 1, 1) := by decide +kernel
theorem dX11_tap_22 : decode cX11_tap 22 = .ok (.iconst 2, 1) := by decide +kernel
theorem dX11_tap_23 : decode cX11_tap 23 = .ok (.if_icmp .ne 16, 3) := by decide +kernel
theorem dX11_tap_26 : decode cX11_tap 26 = .ok (.aload_n 0, 1) := by decide +kernel
theorem dX11_tap_27 : decode cX11_tap 27 = .ok (.getfield 7, 3) := by decide +kernel
theorem dX11_tap_30 : decode cX11_tap 30 = .ok (.iload_n 1, 1) := by decide +kernel
theorem dX11_tap_31 : decode cX11_tap 31 = .ok (.iaload, 1) := by decide +kernel
theorem dX11_tap_32 : decode cX11_tap 32 = .ok (.sipush 10000, 3) := by decide +kernel
theorem dX11_tap_35 : decode cX11_tap 35 = .ok (.iadd, 1) := by decide +kernel
theorem dX11_tap_36 : decode cX11_tap 36 = .ok (.goto 9, 3) := by decide +kernel
theorem dX11_tap_39 : decode cX11_tap 39 = .ok (.aload_n 0, 1) := by decide +kernel
theorem dX11_tap_40 : decode cX11_tap 40 = .ok (.getfield 7, 3) := by decide +kernel
theorem dX11_tap_43 : decode cX11_tap 43 = .ok (.iload_n 1, 1) := by decide +kernel
theorem dX11_tap_44 : decode cX11_tap 44 = .ok (.iaload, 1) := by decide +kernel
theorem dX11_tap_45 : decode cX11_tap 45 = .ok (.ireturn, 1) := by decide +kernel
theorem dX11_water_0 : decode cX11_water 0 = .ok (.aload_n 0, 1) := by decide +kernel
theorem dX11_water_1 : decode cX11_water 1 = .ok (.getfield 16, 3) := by decide +kernel
theorem dX11_water_4 : decode cX11_water 4 = .ok (.iconst 0, 1) := by decide +kernel
theorem dX11_water_5 : decode cX11_water 5 = .ok (.laload, 1) := by decide +kernel
theorem dX11_water_6 : decode cX11_water 6 = .ok (.aload_n 0, 1) := by decide +kernel
theorem dX11_water_7 : decode cX11_water 7 = .ok (.getfield 16, 3) := by decide +kernel
theorem dX11_water_10 : decode cX11_water 10 = .ok (.iconst 1, 1) := by decide +kernel
theorem dX11_water_11 : decode cX11_water 11 = .ok (.laload, 1) := by decide +kernel
theorem dX11_water_12 : decode cX11_water 12 = .ok (.lsub, 1) := by decide +kernel
theorem dX11_water_13 : decode cX11_water 13 = .ok (.aload_n 0, 1) := by decide +kernel
theorem dX11_water_14 : decode cX11_water 14 = .ok (.getfield 7, 3) := by decide +kernel
theorem dX11_water_17 : decode cX11_water 17 = .ok (.iconst 0, 1) := by decide +kernel
theorem dX11_water_18 : decode cX11_water 18 = .ok (.iaload, 1) := by decide +kernel
theorem dX11_water_19 : decode cX11_water 19 = .ok (.i2l, 1) := by decide +kernel
theorem dX11_water_20 : decode cX11_water 20 = .ok (.lsub, 1) := by decide +kernel
theorem dX11_water_21 : decode cX11_water 21 = .ok (.aload_n 0, 1) := by decide +kernel
theorem dX11_water_22 : decode cX11_water 22 = .ok (.getfield 16, 3) := by decide +kernel
theorem dX11_water_25 : decode cX11_water 25 = .ok (.iconst 2, 1) := by decide +kernel
theorem dX11_water_26 : decode cX11_water 26 = .ok (.laload, 1) := by decide +kernel
theorem dX11_water_27 : decode cX11_water 27 = .ok (.ladd, 1) := by decide +kernel
theorem dX11_water_28 : decode cX11_water 28 = .ok (.lreturn, 1) := by decide +kernel
theorem dX11_feed_0 : decode cX11_feed 0 = .ok (.iload_n 3, 1) := by decide +kernel
theorem dX11_feed_1 : decode cX11_feed 1 = .ok (.i2l, 1) := by decide +kernel
theorem dX11_feed_2 : decode cX11_feed 2 = .ok (.lconst 1, 1) := by decide +kernel
theorem dX11_feed_3 : decode cX11_feed 3 = .ok (.ldc2_w 135, 3) := by decide +kernel
theorem dX11_feed_6 : decode cX11_feed 6 = .ok (.invokestatic 114, 3) := by decide +kernel
theorem dX11_feed_9 : decode cX11_feed 9 = .ok (.ifCond .ne 5, 3) := by decide +kernel
theorem dX11_feed_12 : decode cX11_feed 12 = .ok (.iconst (-1), 1) := by decide +kernel
theorem dX11_feed_13 : decode cX11_feed 13 = .ok (.ireturn, 1) := by decide +kernel
theorem dX11_feed_14 : decode cX11_feed 14 = .ok (.aload_n 0, 1) := by decide +kernel
theorem dX11_feed_15 : decode cX11_feed 15 = .ok (.getfield 137, 3) := by decide +kernel
theorem dX11_feed_18 : decode cX11_feed 18 = .ok (.iload_n 3, 1) := by decide +kernel
theorem dX11_feed_19 : decode cX11_feed 19 = .ok (.iadd, 1) := by decide +kernel
theorem dX11_feed_20 : decode cX11_feed 20 = .ok (.sipush 200, 3) := by decide +kernel
theorem dX11_feed_23 : decode cX11_feed 23 = .ok (.if_icmp .le 6, 3) := by decide +kernel
theorem dX11_feed_26 : decode cX11_feed 26 = .ok (.bipush (-2), 2) := by decide +kernel
theorem dX11_feed_28 : decode cX11_feed 28 = .ok (.ireturn, 1) := by decide +kernel
theorem dX11_feed_29 : decode cX11_feed 29 = .ok (.iconst 0, 1) := by decide +kernel
theorem dX11_feed_30 : decode cX11_feed 30 = .ok (.istore 4, 2) := by decide +kernel
theorem dX11_feed_32 : decode cX11_feed 32 = .ok (.iload 4, 2) := by decide +kernel
theorem dX11_feed_34 : decode cX11_feed 34 = .ok (.iload_n 3, 1) := by decide +kernel
theorem dX11_feed_35 : decode cX11_feed 35 = .ok (.if_icmp .ge 40, 3) := by decide +kernel
theorem dX11_feed_38 : decode cX11_feed 38 = .ok (.aload_n 0, 1) := by decide +kernel
theorem dX11_feed_39 : decode cX11_feed 39 = .ok (.getfield 44, 3) := by decide +kernel
theorem dX11_feed_42 : decode cX11_feed 42 = .ok (.aload_n 0, 1) := by decide +kernel
theorem dX11_feed_43 : decode cX11_feed 43 = .ok (.getfield 137, 3) := by decide +kernel
theorem dX11_feed_46 : decode cX11_feed 46 = .ok (.lload_n 1, 1) := by decide +kernel
theorem dX11_feed_47 : decode cX11_feed 47 = .ok (.bipush 8, 2) := by decide +kernel
theorem dX11_feed_49 : decode cX11_feed 49 = .ok (.iload 4, 2) := by decide +kernel
theorem dX11_feed_51 : decode cX11_feed 51 = .ok (.imul, 1) := by decide +kernel
theorem dX11_feed_52 : decode cX11_feed 52 = .ok (.lshr, 1) := by decide +kernel
theorem dX11_feed_53 : decode cX11_feed 53 = .ok (.ldc2_w 140, 3) := by decide +kernel
theorem dX11_feed_56 : decode cX11_feed 56 = .ok (.land, 1) := by decide +kernel
theorem dX11_feed_57 : decode cX11_feed 57 = .ok (.l2i, 1) := by decide +kernel
theorem dX11_feed_58 : decode cX11_feed 58 = .ok (.iastore, 1) := by decide +kernel
theorem dX11_feed_59 : decode cX11_feed 59 = .ok (.aload_n 0, 1) := by decide +kernel
theorem dX11_feed_60 : decode cX11_feed 60 = .ok (.dup, 1) := by decide +kernel
theorem dX11_feed_61 : decode cX11_feed 61 = .ok (.getfield 137, 3) := by decide +kernel
theorem dX11_feed_64 : decode cX11_feed 64 = .ok (.iconst 1, 1) := by decide +kernel
theorem dX11_feed_65 : decode cX11_feed 65 = .ok (.iadd, 1) := by decide +kernel
theorem dX11_feed_66 : decode cX11_feed 66 = .ok (.putfield 137, 3) := by decide +kernel
theorem dX11_feed_69 : decode cX11_feed 69 = .ok (.iinc 4 1, 3) := by decide +kernel
theorem dX11_feed_72 : decode cX11_feed 72 = .ok (.goto (-40), 3) := by decide +kernel
theorem dX11_feed_75 : decode cX11_feed 75 = .ok (.aload_n 0, 1) := by decide +kernel
theorem dX11_feed_76 : decode cX11_feed 76 = .ok (.getfield 137, 3) := by decide +kernel
theorem dX11_feed_79 : decode cX11_feed 79 = .ok (.ireturn, 1) := by decide +kernel
theorem dX11_byteAt_0 : decode cX11_byteAt 0 = .ok (.iload_n 1, 1) := by decide +kernel
theorem dX11_byteAt_1 : decode cX11_byteAt 1 = .ok (.aload_n 0, 1) := by decide +kernel
theorem dX11_byteAt_2 : decode cX11_byteAt 2 = .ok (.getfield 137, 3) := by decide +kernel
theorem dX11_byteAt_5 : decode cX11_byteAt 5 = .ok (.if_icmp .ge 12, 3) := by decide +kernel
theorem dX11_byteAt_8 : decode cX11_byteAt 8 = .ok (.aload_n 0, 1) := by decide +kernel
theorem dX11_byteAt_9 : decode cX11_byteAt 9 = .ok (.getfield 44, 3) := by decide +kernel
theorem dX11_byteAt_12 : decode cX11_byteAt 12 = .ok (.iload_n 1, 1) := by decide +kernel
theorem dX11_byteAt_13 : decode cX11_byteAt 13 = .ok (.iaload, 1) := by decide +kernel
theorem dX11_byteAt_14 : decode cX11_byteAt 14 = .ok (.goto 4, 3) := by decide +kernel
theorem dX11_byteAt_17 : decode cX11_byteAt 17 = .ok (.iconst (-1), 1) := by decide +kernel
theorem dX11_byteAt_18 : decode cX11_byteAt 18 = .ok (.ireturn, 1) := by decide +kernel
theorem dX11_isLetter_0 : decode cX11_isLetter 0 = .ok (.iload_n 0, 1) := by decide +kernel
theorem dX11_isLetter_1 : decode cX11_isLetter 1 = .ok (.i2l, 1) := by decide +kernel
theorem dX11_isLetter_2 : decode cX11_isLetter 2 = .ok (.ldc2_w 142, 3) := by decide +kernel
theorem dX11_isLetter_5 : decode cX11_isLetter 5 = .ok (.ldc2_w 144, 3) := by decide +kernel
theorem dX11_isLetter_8 : decode cX11_isLetter 8 = .ok (.invokestatic 114, 3) := by decide +kernel
theorem dX11_isLetter_11 : decode cX11_isLetter 11 = .ok (.ireturn, 1) := by decide +kernel
theorem dX11_isDigit_0 : decode cX11_isDigit 0 = .ok (.iload_n 0, 1) := by decide +kernel
theorem dX11_isDigit_1 : decode cX11_isDigit 1 = .ok (.i2l, 1) := by decide +kernel
theorem dX11_isDigit_2 : decode cX11_isDigit 2 = .ok (.ldc2_w 146, 3) := by decide +kernel
theorem dX11_isDigit_5 : decode cX11_isDigit 5 = .ok (.ldc2_w 148, 3) := by decide +kernel
theorem dX11_isDigit_8 : decode cX11_isDigit 8 = .ok (.invokestatic 114, 3) := by decide +kernel
theorem dX11_isDigit_11 : decode cX11_isDigit 11 = .ok (.ireturn, 1) := by decide +kernel
theorem dX11_next_0 : decode cX11_next 0 = .ok (.aload_n 0, 1) := by decide +kernel
theorem dX11_next_1 : decode cX11_next 1 = .ok (.aload_n 0, 1) := by decide +kernel
theorem dX11_next_2 : decode cX11_next 2 = .ok (.getfield 150, 3) := by decide +kernel
theorem dX11_next_5 : decode cX11_next 5 = .ok (.putfield 153, 3) := by decide +kernel
theorem dX11_next_8 : decode cX11_next 8 = .ok (.aload_n 0, 1) := by decide +kernel
theorem dX11_next_9 : decode cX11_next 9 = .ok (.aload_n 0, 1) := by decide +kernel
theorem dX11_next_10 : decode cX11_next 10 = .ok (.getfield 153, 3) := by decide +kernel
theorem dX11_next_13 : decode cX11_next 13 = .ok (.invokevirtual 156, 3) := by decide +kernel
theorem dX11_next_16 : decode cX11_next 16 = .ok (.bipush 32, 2) := by decide +kernel
theorem dX11_next_18 : decode cX11_next 18 = .ok (.if_icmp .ne 16, 3) := by decide +kernel
theorem dX11_next_21 : decode cX11_next 21 = .ok (.aload_n 0, 1) := by decide +kernel
theorem dX11_next_22 : decode cX11_next 22 = .ok (.dup, 1) := by decide +kernel
theorem dX11_next_23 : decode cX11_next 23 = .ok (.getfield 153, 3) := by decide +kernel
theorem dX11_next_26 : decode cX11_next 26 = .ok (.iconst 1, 1) := by decide +kernel
theorem dX11_next_27 : decode cX11_next 27 = .ok (.iadd, 1) := by decide +kernel
theorem dX11_next_28 : decode cX11_next 28 = .ok (.putfield 153, 3) := by decide +kernel
theorem dX11_next_31 : decode cX11_next 31 = .ok (.goto (-23), 3) := by decide +kernel
theorem dX11_next_34 : decode cX11_next 34 = .ok (.aload_n 0, 1) := by decide +kernel
theorem dX11_next_35 : decode cX11_next 35 = .ok (.aload_n 0, 1) := by decide +kernel
theorem dX11_next_36 : decode cX11_next 36 = .ok (.getfield 153, 3) := by decide +kernel
theorem dX11_next_39 : decode cX11_next 39 = .ok (.invokevirtual 156, 3) := by decide +kernel
theorem dX11_next_42 : decode cX11_next 42 = .ok (.invokestatic 159, 3) := by decide +kernel
theorem dX11_next_45 : decode cX11_next 45 = .ok (.istore_n 1, 1) := by decide +kernel
theorem dX11_next_46 : decode cX11_next 46 = .ok (.aload_n 0, 1) := by decide +kernel
theorem dX11_next_47 : decode cX11_next 47 = .ok (.aload_n 0, 1) := by decide +kernel
theorem dX11_next_48 : decode cX11_next 48 = .ok (.getfield 153, 3) := by decide +kernel
theorem dX11_next_51 : decode cX11_next 51 = .ok (.invokevirtual 156, 3) := by decide +kernel
theorem dX11_next_54 : decode cX11_next 54 = .ok (.invokestatic 163, 3) := by decide +kernel
theorem dX11_next_57 : decode cX11_next 57 = .ok (.istore_n 2, 1) := by decide +kernel
theorem dX11_next_58 : decode cX11_next 58 = .ok (.aload_n 0, 1) := by decide +kernel
theorem dX11_next_59 : decode cX11_next 59 = .ok (.aload_n 0, 1) := by decide +kernel
theorem dX11_next_60 : decode cX11_next 60 = .ok (.getfield 153, 3) := by decide +kernel
theorem dX11_next_63 : decode cX11_next 63 = .ok (.aload_n 0, 1) := by decide +kernel
theorem dX11_next_64 : decode cX11_next 64 = .ok (.getfield 137, 3) := by decide +kernel
theorem dX11_next_67 : decode cX11_next 67 = .ok (.if_icmp .ge 12, 3) := by decide +kernel
theorem dX11_next_70 : decode cX11_next 70 = .ok (.aload_n 0, 1) := by decide +kernel
theorem dX11_next_71 : decode cX11_next 71 = .ok (.getfield 153, 3) := by decide +kernel
theorem dX11_next_74 : decode cX11_next 74 = .ok (.iconst 1, 1) := by decide +kernel
theorem dX11_next_75 : decode cX11_next 75 = .ok (.iadd, 1) := by decide +kernel
theorem dX11_next_76 : decode cX11_next 76 = .ok (.goto 7, 3) := by decide +kernel
theorem dX11_next_79 : decode cX11_next 79 = .ok (.aload_n 0, 1) := by decide +kernel
theorem dX11_next_80 : decode cX11_next 80 = .ok (.getfield 153, 3) := by decide +kernel
theorem dX11_next_83 : decode cX11_next 83 = .ok (.putfield 150, 3) := by decide +kernel
theorem dX11_next_86 : decode cX11_next 86 = .ok (.iload_n 1, 1) := by decide +kernel
theorem dX11_next_87 : decode cX11_next 87 = .ok (.ifCond .eq 17, 3) := by decide +kernel
theorem dX11_next_90 : decode cX11_next 90 = .ok (.aload_n 0, 1) := by decide +kernel
theorem dX11_next_91 : decode cX11_next 91 = .ok (.aload_n 0, 1) := by decide +kernel
theorem dX11_next_92 : decode cX11_next 92 = .ok (.getfield 150, 3) := by decide +kernel
theorem dX11_next_95 : decode cX11_next 95 = .ok (.invokevirtual 156, 3) := by decide +kernel
theorem dX11_next_98 : decode cX11_next 98 = .ok (.invokestatic 159, 3) := by decide +kernel
theorem dX11_next_101 : decode cX11_next 101 = .ok (.ifCond .ne 21, 3) := by decide +kernel
theorem dX11_next_104 : decode cX11_next 104 = .ok (.iload_n 2, 1) := by decide +kernel
theorem dX11_next_105 : decode cX11_next 105 = .ok (.ifCond .eq 30, 3) := by decide +kernel
theorem dX11_next_108 : decode cX11_next 108 = .ok (.aload_n 0, 1) := by decide +kernel
theorem dX11_next_109 : decode cX11_next 109 = .ok (.aload_n 0, 1) := by decide +kernel
theorem dX11_next_110 : decode cX11_next 110 = .ok (.getfield 150, 3) := by decide +kernel
theorem dX11_next_113 : decode cX11_next 113 = .ok (.invokevirtual 156, 3) := by decide +kernel
theorem dX11_next_116 : decode cX11_next 116 = .ok (.invokestatic 163, 3) := by decide +kernel
theorem dX11_next_119 : decode cX11_next 119 = .ok (.ifCond .eq 16, 3) := by decide +kernel
theorem dX11_next_122 : decode cX11_next 122 = .ok (.aload_n 0, 1) := by decide +kernel
theorem dX11_next_123 : decode cX11_next 123 = .ok (.dup, 1) := by decide +kernel
theorem dX11_next_124 : decode cX11_next 124 = .ok (.getfield 150, 3) := by decide +kernel
theorem dX11_next_127 : decode cX11_next 127 = .ok (.iconst 1, 1) := by decide +kernel
theorem dX11_next_128 : decode cX11_next 128 = .ok (.iadd, 1) := by decide +kernel
theorem dX11_next_129 : decode cX11_next 129 = .ok (.putfield 150, 3) := by decide +kernel
theorem dX11_next_132 : decode cX11_next 132 = .ok (.goto (-46), 3) := by decide +kernel
theorem dX11_next_135 : decode cX11_next 135 = .ok (.return_, 1) := by decide +kernel
theorem dX11_needs_0 : decode cX11_needs 0 = .ok (.aload_n 0, 1) := by decide +kernel
theorem dX11_needs_1 : decode cX11_needs 1 = .ok (.aload_n 0, 1) := by decide +kernel
theorem dX11_needs_2 : decode cX11_needs 2 = .ok (.getfield 166, 3) := by decide +kernel
theorem dX11_needs_5 : decode cX11_needs 5 = .ok (.ifCond .ne 7, 3) := by decide +kernel
theorem dX11_needs_8 : decode cX11_needs 8 = .ok (.iload_n 1, 1) := by decide +kernel
theorem dX11_needs_9 : decode cX11_needs 9 = .ok (.ifCond .ne 7, 3) := by decide +kernel
theorem dX11_needs_12 : decode cX11_needs 12 = .ok (.iconst 1, 1) := by decide +kernel
theorem dX11_needs_13 : decode cX11_needs 13 = .ok (.goto 4, 3) := by decide +kernel
theorem dX11_needs_16 : decode cX11_needs 16 = .ok (.iconst 0, 1) := by decide +kernel
theorem dX11_needs_17 : decode cX11_needs 17 = .ok (.putfield 166, 3) := by decide +kernel
theorem dX11_needs_20 : decode cX11_needs 20 = .ok (.aload_n 0, 1) := by decide +kernel
theorem dX11_needs_21 : decode cX11_needs 21 = .ok (.getfield 166, 3) := by decide +kernel
theorem dX11_needs_24 : decode cX11_needs 24 = .ok (.ifCond .ne 7, 3) := by decide +kernel
theorem dX11_needs_27 : decode cX11_needs 27 = .ok (.aload_n 0, 1) := by decide +kernel
theorem dX11_needs_28 : decode cX11_needs 28 = .ok (.invokevirtual 170, 3) := by decide +kernel
theorem dX11_needs_31 : decode cX11_needs 31 = .ok (.return_, 1) := by decide +kernel
theorem dX11_emits_0 : decode cX11_emits 0 = .ok (.aload_n 0, 1) := by decide +kernel
theorem dX11_emits_1 : decode cX11_emits 1 = .ok (.getfield 166, 3) := by decide +kernel
theorem dX11_emits_4 : decode cX11_emits 4 = .ok (.ifCond .ne 23, 3) := by decide +kernel
theorem dX11_emits_7 : decode cX11_emits 7 = .ok (.aload_n 0, 1) := by decide +kernel
theorem dX11_emits_8 : decode cX11_emits 8 = .ok (.getfield 47, 3) := by decide +kernel
theorem dX11_emits_11 : decode cX11_emits 11 = .ok (.aload_n 0, 1) := by decide +kernel
theorem dX11_emits_12 : decode cX11_emits 12 = .ok (.getfield 173, 3) := by decide +kernel
theorem dX11_emits_15 : decode cX11_emits 15 = .ok (.iload_n 1, 1) := by decide +kernel
theorem dX11_emits_16 : decode cX11_emits 16 = .ok (.iastore, 1) := by decide +kernel
theorem dX11_emits_17 : decode cX11_emits 17 = .ok (.aload_n 0, 1) := by decide +kernel
theorem dX11_emits_18 : decode cX11_emits 18 = .ok (.dup, 1) := by decide +kernel
theorem dX11_emits_19 : decode cX11_emits 19 = .ok (.getfield 173, 3) := by decide +kernel
theorem dX11_emits_22 : decode cX11_emits 22 = .ok (.iconst 1, 1) := by decide +kernel
theorem dX11_emits_23 : decode cX11_emits 23 = .ok (.iadd, 1) := by decide +kernel
theorem dX11_emits_24 : decode cX11_emits 24 = .ok (.putfield 173, 3) := by decide +kernel
theorem dX11_emits_27 : decode cX11_emits 27 = .ok (.return_, 1) := by decide +kernel
theorem dX11_isAt_0 : decode cX11_isAt 0 = .ok (.iload_n 2, 1) := by decide +kernel
theorem dX11_isAt_1 : decode cX11_isAt 1 = .ok (.ifCond .eq 17, 3) := by decide +kernel
theorem dX11_isAt_4 : decode cX11_isAt 4 = .ok (.aload_n 0, 1) := by decide +kernel
theorem dX11_isAt_5 : decode cX11_isAt 5 = .ok (.aload_n 0, 1) := by decide +kernel
theorem dX11_isAt_6 : decode cX11_isAt 6 = .ok (.getfield 153, 3) := by decide +kernel
theorem dX11_isAt_9 : decode cX11_isAt 9 = .ok (.iload_n 1, 1) := by decide +kernel
theorem dX11_isAt_10 : decode cX11_isAt 10 = .ok (.iadd, 1) := by decide +kernel
theorem dX11_isAt_11 : decode cX11_isAt 11 = .ok (.invokevirtual 156, 3) := by decide +kernel
theorem dX11_isAt_14 : decode cX11_isAt 14 = .ok (.iload_n 2, 1) := by decide +kernel
theorem dX11_isAt_15 : decode cX11_isAt 15 = .ok (.if_icmp .ne 7, 3) := by decide +kernel
theorem dX11_isAt_18 : decode cX11_isAt 18 = .ok (.iconst 1, 1) := by decide +kernel
theorem dX11_isAt_19 : decode cX11_isAt 19 = .ok (.goto 4, 3) := by decide +kernel
theorem dX11_isAt_22 : decode cX11_isAt 22 = .ok (.iconst 0, 1) := by decide +kernel
theorem dX11_isAt_23 : decode cX11_isAt 23 = .ok (.ireturn, 1) := by decide +kernel
theorem dX11_isName_0 : decode cX11_isName 0 = .ok (.iload 5, 2) := by decide +kernel
theorem dX11_isName_2 : decode cX11_isName 2 = .ok (.ifCond .ne 7, 3) := by decide +kernel
theorem dX11_isName_5 : decode cX11_isName 5 = .ok (.iconst 4, 1) := by decide +kernel
theorem dX11_isName_6 : decode cX11_isName 6 = .ok (.goto 14, 3) := by decide +kernel
theorem dX11_isName_9 : decode cX11_isName 9 = .ok (.iload 6, 2) := by decide +kernel
theorem dX11_isName_11 : decode cX11_isName 11 = .ok (.ifCond .ne 7, 3) := by decide +kernel
theorem dX11_isName_14 : decode cX11_isName 14 = .ok (.iconst 5, 1) := by decide +kernel
theorem dX11_isName_15 : decode cX11_isName 15 = .ok (.goto 5, 3) := by decide +kernel
theorem dX11_isName_18 : decode cX11_isName 18 = .ok (.bipush 6, 2) := by decide +kernel
theorem dX11_isName_20 : decode cX11_isName 20 = .ok (.istore 7, 2) := by decide +kernel
theorem dX11_isName_22 : decode cX11_isName 22 = .ok (.aload_n 0, 1) := by decide +kernel
theorem dX11_isName_23 : decode cX11_isName 23 = .ok (.getfield 150, 3) := by decide +kernel
theorem dX11_isName_26 : decode cX11_isName 26 = .ok (.aload_n 0, 1) := by decide +kernel
theorem dX11_isName_27 : decode cX11_isName 27 = .ok (.getfield 153, 3) := by decide +kernel
theorem dX11_isName_30 : decode cX11_isName 30 = .ok (.isub, 1) := by decide +kernel
theorem dX11_isName_31 : decode cX11_isName 31 = .ok (.iload 7, 2) := by decide +kernel
theorem dX11_isName_33 : decode cX11_isName 33 = .ok (.if_icmp .ne 64, 3) := by decide +kernel
theorem dX11_isName_36 : decode cX11_isName 36 = .ok (.aload_n 0, 1) := by decide +kernel
theorem dX11_isName_37 : decode cX11_isName 37 = .ok (.iconst 0, 1) := by decide +kernel
theorem dX11_isName_38 : decode cX11_isName 38 = .ok (.iload_n 1, 1) := by decide +kernel
theorem dX11_isName_39 : decode cX11_isName 39 = .ok (.invokevirtual 176, 3) := by decide +kernel
theorem dX11_isName_42 : decode cX11_isName 42 = .ok (.ifCond .eq 55, 3) := by decide +kernel
theorem dX11_isName_45 : decode cX11_isName 45 = .ok (.aload_n 0, 1) := by decide +kernel
theorem dX11_isName_46 : decode cX11_isName 46 = .ok (.iconst 1, 1) := by decide +kernel
theorem dX11_isName_47 : decode cX11_isName 47 = .ok (.iload_n 2, 1) := by decide +kernel
theorem dX11_isName_48 : decode cX11_isName 48 = .ok (.invokevirtual 176, 3) := by decide +kernel
theorem dX11_isName_51 : decode cX11_isName 51 = .ok (.ifCond .eq 46, 3) := by decide +kernel
theorem dX11_isName_54 : decode cX11_isName 54 = .ok (.aload_n 0, 1) := by decide +kernel
theorem dX11_isName_55 : decode cX11_isName 55 = .ok (.iconst 2, 1) := by decide +kernel
theorem dX11_isName_56 : decode cX11_isName 56 = .ok (.iload_n 3, 1) := by decide +kernel
theorem dX11_isName_57 : decode cX11_isName 57 = .ok (.invokevirtual 176, 3) := by decide +kernel
theorem dX11_isName_60 : decode cX11_isName 60 = .ok (.ifCond .eq 37, 3) := by decide +kernel
theorem dX11_isName_63 : decode cX11_isName 63 = .ok (.aload_n 0, 1) := by decide +kernel
theorem dX11_isName_64 : decode cX11_isName 64 = .ok (.iconst 3, 1) := by decide +kernel
theorem dX11_isName_65 : decode cX11_isName 65 = .ok (.iload 4, 2) := by decide +kernel
theorem dX11_isName_67 : decode cX11_isName 67 = .ok (.invokevirtual 176, 3) := by decide +kernel
theorem dX11_isName_70 : decode cX11_isName 70 = .ok (.ifCond .eq 27, 3) := by decide +kernel
theorem dX11_isName_73 : decode cX11_isName 73 = .ok (.aload_n 0, 1) := by decide +kernel
theorem dX11_isName_74 : decode cX11_isName 74 = .ok (.iconst 4, 1) := by decide +kernel
theorem dX11_isName_75 : decode cX11_isName 75 = .ok (.iload 5, 2) := by decide +kernel
theorem dX11_isName_77 : decode cX11_isName 77 = .ok (.invokevirtual 176, 3) := by decide +kernel
theorem dX11_isName_80 : decode cX11_isName 80 = .ok (.ifCond .eq 17, 3) := by decide +kernel
theorem dX11_isName_83 : decode cX11_isName 83 = .ok (.aload_n 0, 1) := by decide +kernel
theorem dX11_isName_84 : decode cX11_isName 84 = .ok (.iconst 5, 1) := by decide +kernel
theorem dX11_isName_85 : decode cX11_isName 85 = .ok (.iload 6, 2) := by decide +kernel
theorem dX11_isName_87 : decode cX11_isName 87 = .ok (.invokevirtual 176, 3) := by decide +kernel
theorem dX11_isName_90 : decode cX11_isName 90 = .ok (.ifCond .eq 7, 3) := by decide +kernel
theorem dX11_isName_93 : decode cX11_isName 93 = .ok (.iconst 1, 1) := by decide +kernel
theorem dX11_isName_94 : decode cX11_isName 94 = .ok (.goto 4, 3) := by decide +kernel
theorem dX11_isName_97 : decode cX11_isName 97 = .ok (.iconst 0, 1) := by decide +kernel
theorem dX11_isName_98 : decode cX11_isName 98 = .ok (.ireturn, 1) := by decide +kernel
theorem dX11_keyHere_0 : decode cX11_keyHere 0 = .ok (.aload_n 0, 1) := by decide +kernel
theorem dX11_keyHere_1 : decode cX11_keyHere 1 = .ok (.bipush 102, 2) := by decide +kernel
theorem dX11_keyHere_3 : decode cX11_keyHere 3 = .ok (.bipush 108, 2) := by decide +kernel
theorem dX11_keyHere_5 : decode cX11_keyHere 5 = .ok (.bipush 111, 2) := by decide +kernel
theorem dX11_keyHere_7 : decode cX11_keyHere 7 = .ok (.bipush 119, 2) := by decide +kernel
theorem dX11_keyHere_9 : decode cX11_keyHere 9 = .ok (.iconst 0, 1) := by decide +kernel
theorem dX11_keyHere_10 : decode cX11_keyHere 10 = .ok (.iconst 0, 1) := by decide +kernel
theorem dX11_keyHere_11 : decode cX11_keyHere 11 = .ok (.invokevirtual 180, 3) := by decide +kernel
theorem dX11_keyHere_14 : decode cX11_keyHere 14 = .ok (.ifCond .eq 7, 3) := by decide +kernel
theorem dX11_keyHere_17 : decode cX11_keyHere 17 = .ok (.iconst 0, 1) := by decide +kernel
theorem dX11_keyHere_18 : decode cX11_keyHere 18 = .ok (.goto 67, 3) := by decide +kernel
theorem dX11_keyHere_21 : decode cX11_keyHere 21 = .ok (.aload_n 0, 1) := by decide +kernel
theorem dX11_keyHere_22 : decode cX11_keyHere 22 = .ok (.bipush 112, 2) := by decide +kernel
theorem dX11_keyHere_24 : decode cX11_keyHere 24 = .ok (.bipush 117, 2) := by decide +kernel
theorem dX11_keyHere_26 : decode cX11_keyHere 26 = .ok (.bipush 108, 2) := by decide +kernel
theorem dX11_keyHere_28 : decode cX11_keyHere 28 = .ok (.bipush 108, 2) := by decide +kernel
theorem dX11_keyHere_30 : decode cX11_keyHere 30 = .ok (.iconst 0, 1) := by decide +kernel
theorem dX11_keyHere_31 : decode cX11_keyHere 31 = .ok (.iconst 0, 1) := by decide +kernel
theorem dX11_keyHere_32 : decode cX11_keyHere 32 = .ok (.invokevirtual 180, 3) := by decide +kernel
theorem dX11_keyHere_35 : decode cX11_keyHere 35 = .ok (.ifCond .eq 7, 3) := by decide +kernel
theorem dX11_keyHere_38 : decode cX11_keyHere 38 = .ok (.iconst 1, 1) := by decide +kernel
theorem dX11_keyHere_39 : decode cX11_keyHere 39 = .ok (.goto 46, 3) := by decide +kernel
theorem dX11_keyHere_42 : decode cX11_keyHere 42 = .ok (.aload_n 0, 1) := by decide +kernel
theorem dX11_keyHere_43 : decode cX11_keyHere 43 = .ok (.bipush 103, 2) := by decide +kernel
theorem dX11_keyHere_45 : decode cX11_keyHere 45 = .ok (.bipush 111, 2) := by decide +kernel
theorem dX11_keyHere_47 : decode cX11_keyHere 47 = .ok (.bipush 101, 2) := by decide +kernel
theorem dX11_keyHere_49 : decode cX11_keyHere 49 = .ok (.bipush 115, 2) := by decide +kernel
theorem dX11_keyHere_51 : decode cX11_keyHere 51 = .ok (.iconst 0, 1) := by decide +kernel
theorem dX11_keyHere_52 : decode cX11_keyHere 52 = .ok (.iconst 0, 1) := by decide +kernel
theorem dX11_keyHere_53 : decode cX11_keyHere 53 = .ok (.invokevirtual 180, 3) := by decide +kernel
theorem dX11_keyHere_56 : decode cX11_keyHere 56 = .ok (.ifCond .eq 7, 3) := by decide +kernel
theorem dX11_keyHere_59 : decode cX11_keyHere 59 = .ok (.iconst 2, 1) := by decide +kernel
theorem dX11_keyHere_60 : decode cX11_keyHere 60 = .ok (.goto 25, 3) := by decide +kernel
theorem dX11_keyHere_63 : decode cX11_keyHere 63 = .ok (.aload_n 0, 1) := by decide +kernel
theorem dX11_keyHere_64 : decode cX11_keyHere 64 = .ok (.bipush 108, 2) := by decide +kernel
theorem dX11_keyHere_66 : decode cX11_keyHere 66 = .ok (.bipush 101, 2) := by decide +kernel
theorem dX11_keyHere_68 : decode cX11_keyHere 68 = .ok (.bipush 102, 2) := by decide +kernel
theorem dX11_keyHere_70 : decode cX11_keyHere 70 = .ok (.bipush 116, 2) := by decide +kernel
theorem dX11_keyHere_72 : decode cX11_keyHere 72 = .ok (.iconst 0, 1) := by decide +kernel
theorem dX11_keyHere_73 : decode cX11_keyHere 73 = .ok (.iconst 0, 1) := by decide +kernel
theorem dX11_keyHere_74 : decode cX11_keyHere 74 = .ok (.invokevirtual 180, 3) := by decide +kernel
theorem dX11_keyHere_77 : decode cX11_keyHere 77 = .ok (.ifCond .eq 7, 3) := by decide +kernel
theorem dX11_keyHere_80 : decode cX11_keyHere 80 = .ok (.iconst 3, 1) := by decide +kernel
theorem dX11_keyHere_81 : decode cX11_keyHere 81 = .ok (.goto 4, 3) := by decide +kernel
theorem dX11_keyHere_84 : decode cX11_keyHere 84 = .ok (.iconst (-1), 1) := by decide +kernel
theorem dX11_keyHere_85 : decode cX11_keyHere 85 = .ok (.ireturn, 1) := by decide +kernel
theorem dX11_nameHere_0 : decode cX11_nameHere 0 = .ok (.aload_n 0, 1) := by decide +kernel
theorem dX11_nameHere_1 : decode cX11_nameHere 1 = .ok (.bipush 119, 2) := by decide +kernel
theorem dX11_nameHere_3 : decode cX11_nameHere 3 = .ok (.bipush 101, 2) := by decide +kernel
theorem dX11_nameHere_5 : decode cX11_nameHere 5 = .ok (.bipush 105, 2) := by decide +kernel
theorem dX11_nameHere_7 : decode cX11_nameHere 7 = .ok (.bipush 103, 2) := by decide +kernel
theorem dX11_nameHere_9 : decode cX11_nameHere 9 = .ok (.bipush 104, 2) := by decide +kernel
theorem dX11_nameHere_11 : decode cX11_nameHere 11 = .ok (.bipush 116, 2) := by decide +kernel
theorem dX11_nameHere_13 : decode cX11_nameHere 13 = .ok (.invokevirtual 180, 3) := by decide +kernel
theorem dX11_nameHere_16 : decode cX11_nameHere 16 = .ok (.ifCond .eq 7, 3) := by decide +kernel
theorem dX11_nameHere_19 : decode cX11_nameHere 19 = .ok (.iconst 0, 1) := by decide +kernel
theorem dX11_nameHere_20 : decode cX11_nameHere 20 = .ok (.goto 134, 3) := by decide +kernel
theorem dX11_nameHere_23 : decode cX11_nameHere 23 = .ok (.aload_n 0, 1) := by decide +kernel
theorem dX11_nameHere_24 : decode cX11_nameHere 24 = .ok (.bipush 115, 2) := by decide +kernel
theorem dX11_nameHere_26 : decode cX11_nameHere 26 = .ok (.bipush 119, 2) := by decide +kernel
theorem dX11_nameHere_28 : decode cX11_nameHere 28 = .ok (.bipush 97, 2) := by decide +kernel
theorem dX11_nameHere_30 : decode cX11_nameHere 30 = .ok (.bipush 121, 2) := by decide +kernel
theorem dX11_nameHere_32 : decode cX11_nameHere 32 = .ok (.iconst 0, 1) := by decide +kernel
theorem dX11_nameHere_33 : decode cX11_nameHere 33 = .ok (.iconst 0, 1) := by decide +kernel
theorem dX11_nameHere_34 : decode cX11_nameHere 34 = .ok (.invokevirtual 180, 3) := by decide +kernel
theorem dX11_nameHere_37 : decode cX11_nameHere 37 = .ok (.ifCond .eq 7, 3) := by decide +kernel
theorem dX11_nameHere_40 : decode cX11_nameHere 40 = .ok (.iconst 1, 1) := by decide +kernel
theorem dX11_nameHere_41 : decode cX11_nameHere 41 = .ok (.goto 113, 3) := by decide +kernel
theorem dX11_nameHere_44 : decode cX11_nameHere 44 = .ok (.aload_n 0, 1) := by decide +kernel
theorem dX11_nameHere_45 : decode cX11_nameHere 45 = .ok (.bipush 115, 2) := by decide +kernel
theorem dX11_nameHere_47 : decode cX11_nameHere 47 = .ok (.bipush 112, 2) := by decide +kernel
theorem dX11_nameHere_49 : decode cX11_nameHere 49 = .ok (.bipush 101, 2) := by decide +kernel
theorem dX11_nameHere_51 : decode cX11_nameHere 51 = .ok (.bipush 101, 2) := by decide +kernel
theorem dX11_nameHere_53 : decode cX11_nameHere 53 = .ok (.bipush 100, 2) := by decide +kernel
theorem dX11_nameHere_55 : decode cX11_nameHere 55 = .ok (.iconst 0, 1) := by decide +kernel
theorem dX11_nameHere_56 : decode cX11_nameHere 56 = .ok (.invokevirtual 180, 3) := by decide +kernel
theorem dX11_nameHere_59 : decode cX11_nameHere 59 = .ok (.ifCond .eq 7, 3) := by decide +kernel
theorem dX11_nameHere_62 : decode cX11_nameHere 62 = .ok (.iconst 2, 1) := by decide +kernel
theorem dX11_nameHere_63 : decode cX11_nameHere 63 = .ok (.goto 91, 3) := by decide +kernel
theorem dX11_nameHere_66 : decode cX11_nameHere 66 = .ok (.aload_n 0, 1) := by decide +kernel
theorem dX11_nameHere_67 : decode cX11_nameHere 67 = .ok (.bipush 116, 2) := by decide +kernel
theorem dX11_nameHere_69 : decode cX11_nameHere 69 = .ok (.bipush 105, 2) := by decide +kernel
theorem dX11_nameHere_71 : decode cX11_nameHere 71 = .ok (.bipush 99, 2) := by decide +kernel
theorem dX11_nameHere_73 : decode cX11_nameHere 73 = .ok (.bipush 107, 2) := by decide +kernel
theorem dX11_nameHere_75 : decode cX11_nameHere 75 = .ok (.iconst 0, 1) := by decide +kernel
theorem dX11_nameHere_76 : decode cX11_nameHere 76 = .ok (.iconst 0, 1) := by decide +kernel
theorem dX11_nameHere_77 : decode cX11_nameHere 77 = .ok (.invokevirtual 180, 3) := by decide +kernel
theorem dX11_nameHere_80 : decode cX11_nameHere 80 = .ok (.ifCond .eq 7, 3) := by decide +kernel
theorem dX11_nameHere_83 : decode cX11_nameHere 83 = .ok (.iconst 3, 1) := by decide +kernel
theorem dX11_nameHere_84 : decode cX11_nameHere 84 = .ok (.goto 70, 3) := by decide +kernel
theorem dX11_nameHere_87 : decode cX11_nameHere 87 = .ok (.aload_n 0, 1) := by decide +kernel
theorem dX11_nameHere_88 : decode cX11_nameHere 88 = .ok (.bipush 115, 2) := by decide +kernel
theorem dX11_nameHere_90 : decode cX11_nameHere 90 = .ok (.bipush 105, 2) := by decide +kernel
theorem dX11_nameHere_92 : decode cX11_nameHere 92 = .ok (.bipush 110, 2) := by decide +kernel
theorem dX11_nameHere_94 : decode cX11_nameHere 94 = .ok (.bipush 99, 2) := by decide +kernel
theorem dX11_nameHere_96 : decode cX11_nameHere 96 = .ok (.bipush 101, 2) := by decide +kernel
theorem dX11_nameHere_98 : decode cX11_nameHere 98 = .ok (.iconst 0, 1) := by decide +kernel
theorem dX11_nameHere_99 : decode cX11_nameHere 99 = .ok (.invokevirtual 180, 3) := by decide +kernel
theorem dX11_nameHere_102 : decode cX11_nameHere 102 = .ok (.ifCond .eq 7, 3) := by decide +kernel
theorem dX11_nameHere_105 : decode cX11_nameHere 105 = .ok (.iconst 4, 1) := by decide +kernel
theorem dX11_nameHere_106 : decode cX11_nameHere 106 = .ok (.goto 48, 3) := by decide +kernel
theorem dX11_nameHere_109 : decode cX11_nameHere 109 = .ok (.aload_n 0, 1) := by decide +kernel
theorem dX11_nameHere_110 : decode cX11_nameHere 110 = .ok (.bipush 100, 2) := by decide +kernel
theorem dX11_nameHere_112 : decode cX11_nameHere 112 = .ok (.bipush 114, 2) := by decide +kernel
theorem dX11_nameHere_114 : decode cX11_nameHere 114 = .ok (.bipush 111, 2) := by decide +kernel
theorem dX11_nameHere_116 : decode cX11_nameHere 116 = .ok (.bipush 112, 2) := by decide +kernel
theorem dX11_nameHere_118 : decode cX11_nameHere 118 = .ok (.bipush 115, 2) := by decide +kernel
theorem dX11_nameHere_120 : decode cX11_nameHere 120 = .ok (.iconst 0, 1) := by decide +kernel
theorem dX11_nameHere_121 : decode cX11_nameHere 121 = .ok (.invokevirtual 180, 3) := by decide +kernel
theorem dX11_nameHere_124 : decode cX11_nameHere 124 = .ok (.ifCond .eq 7, 3) := by decide +kernel
theorem dX11_nameHere_127 : decode cX11_nameHere 127 = .ok (.iconst 5, 1) := by decide +kernel
theorem dX11_nameHere_128 : decode cX11_nameHere 128 = .ok (.goto 26, 3) := by decide +kernel
theorem dX11_nameHere_131 : decode cX11_nameHere 131 = .ok (.aload_n 0, 1) := by decide +kernel
theorem dX11_nameHere_132 : decode cX11_nameHere 132 = .ok (.bipush 107, 2) := by decide +kernel
theorem dX11_nameHere_134 : decode cX11_nameHere 134 = .ok (.bipush 110, 2) := by decide +kernel
theorem dX11_nameHere_136 : decode cX11_nameHere 136 = .ok (.bipush 111, 2) := by decide +kernel
theorem dX11_nameHere_138 : decode cX11_nameHere 138 = .ok (.bipush 98, 2) := by decide +kernel
theorem dX11_nameHere_140 : decode cX11_nameHere 140 = .ok (.iconst 0, 1) := by decide +kernel
theorem dX11_nameHere_141 : decode cX11_nameHere 141 = .ok (.iconst 0, 1) := by decide +kernel
theorem dX11_nameHere_142 : decode cX11_nameHere 142 = .ok (.invokevirtual 180, 3) := by decide +kernel
theorem dX11_nameHere_145 : decode cX11_nameHere 145 = .ok (.ifCond .eq 8, 3) := by decide +kernel
theorem dX11_nameHere_148 : decode cX11_nameHere 148 = .ok (.bipush 6, 2) := by decide +kernel
theorem dX11_nameHere_150 : decode cX11_nameHere 150 = .ok (.goto 4, 3) := by decide +kernel
theorem dX11_nameHere_153 : decode cX11_nameHere 153 = .ok (.iconst (-1), 1) := by decide +kernel
theorem dX11_nameHere_154 : decode cX11_nameHere 154 = .ok (.ireturn, 1) := by decide +kernel
theorem dX11_isSign_0 : decode cX11_isSign 0 = .ok (.aload_n 0, 1) := by decide +kernel
theorem dX11_isSign_1 : decode cX11_isSign 1 = .ok (.getfield 166, 3) := by decide +kernel
theorem dX11_isSign_4 : decode cX11_isSign 4 = .ok (.ifCond .ne 19, 3) := by decide +kernel
theorem dX11_isSign_7 : decode cX11_isSign 7 = .ok (.aload_n 0, 1) := by decide +kernel
theorem dX11_isSign_8 : decode cX11_isSign 8 = .ok (.aload_n 0, 1) := by decide +kernel
theorem dX11_isSign_9 : decode cX11_isSign 9 = .ok (.getfield 153, 3) := by decide +kernel
theorem dX11_isSign_12 : decode cX11_isSign 12 = .ok (.invokevirtual 156, 3) := by decide +kernel
theorem dX11_isSign_15 : decode cX11_isSign 15 = .ok (.iload_n 1, 1) := by decide +kernel
theorem dX11_isSign_16 : decode cX11_isSign 16 = .ok (.if_icmp .ne 7, 3) := by decide +kernel
theorem dX11_isSign_19 : decode cX11_isSign 19 = .ok (.iconst 1, 1) := by decide +kernel
theorem dX11_isSign_20 : decode cX11_isSign 20 = .ok (.goto 4, 3) := by decide +kernel
theorem dX11_isSign_23 : decode cX11_isSign 23 = .ok (.iconst 0, 1) := by decide +kernel
theorem dX11_isSign_24 : decode cX11_isSign 24 = .ok (.ireturn, 1) := by decide +kernel
theorem dX11_number_0 : decode cX11_number 0 = .ok (.iconst 0, 1) := by decide +kernel
theorem dX11_number_1 : decode cX11_number 1 = .ok (.istore_n 1, 1) := by decide +kernel
theorem dX11_number_2 : decode cX11_number 2 = .ok (.aload_n 0, 1) := by decide +kernel
theorem dX11_number_3 : decode cX11_number 3 = .ok (.getfield 153, 3) := by decide +kernel
theorem dX11_number_6 : decode cX11_number 6 = .ok (.istore_n 2, 1) := by decide +kernel
theorem dX11_number_7 : decode cX11_number 7 = .ok (.iload_n 2, 1) := by decide +kernel
theorem dX11_number_8 : decode cX11_number 8 = .ok (.aload_n 0, 1) := by decide +kernel
theorem dX11_number_9 : decode cX11_number 9 = .ok (.getfield 150, 3) := by decide +kernel
theorem dX11_number_12 : decode cX11_number 12 = .ok (.if_icmp .ge 34, 3) := by decide +kernel
theorem dX11_number_15 : decode cX11_number 15 = .ok (.iload_n 2, 1) := by decide +kernel
theorem dX11_number_16 : decode cX11_number 16 = .ok (.aload_n 0, 1) := by decide +kernel
theorem dX11_number_17 : decode cX11_number 17 = .ok (.getfield 153, 3) := by decide +kernel
theorem dX11_number_20 : decode cX11_number 20 = .ok (.iconst 4, 1) := by decide +kernel
theorem dX11_number_21 : decode cX11_number 21 = .ok (.iadd, 1) := by decide +kernel
theorem dX11_number_22 : decode cX11_number 22 = .ok (.if_icmp .ge 24, 3) := by decide +kernel
theorem dX11_number_25 : decode cX11_number 25 = .ok (.bipush 10, 2) := by decide +kernel
theorem dX11_number_27 : decode cX11_number 27 = .ok (.iload_n 1, 1) := by decide +kernel
theorem dX11_number_28 : decode cX11_number 28 = .ok (.imul, 1) := by decide +kernel
theorem dX11_number_29 : decode cX11_number 29 = .ok (.aload_n 0, 1) := by decide +kernel
theorem dX11_number_30 : decode cX11_number 30 = .ok (.getfield 44, 3) := by decide +kernel
theorem dX11_number_33 : decode cX11_number 33 = .ok (.iload_n 2, 1) := by decide +kernel
theorem dX11_number_34 : decode cX11_number 34 = .ok (.iaload, 1) := by decide +kernel
theorem dX11_number_35 : decode cX11_number 35 = .ok (.iadd, 1) := by decide +kernel
theorem dX11_number_36 : decode cX11_number 36 = .ok (.bipush 48, 2) := by decide +kernel
theorem dX11_number_38 : decode cX11_number 38 = .ok (.isub, 1) := by decide +kernel
theorem dX11_number_39 : decode cX11_number 39 = .ok (.istore_n 1, 1) := by decide +kernel
theorem dX11_number_40 : decode cX11_number 40 = .ok (.iinc 2 1, 3) := by decide +kernel
theorem dX11_number_43 : decode cX11_number 43 = .ok (.goto (-36), 3) := by decide +kernel
theorem dX11_number_46 : decode cX11_number 46 = .ok (.aload_n 0, 1) := by decide +kernel
theorem dX11_number_47 : decode cX11_number 47 = .ok (.iload_n 1, 1) := by decide +kernel
theorem dX11_number_48 : decode cX11_number 48 = .ok (.invokevirtual 184, 3) := by decide +kernel
theorem dX11_number_51 : decode cX11_number 51 = .ok (.aload_n 0, 1) := by decide +kernel
theorem dX11_number_52 : decode cX11_number 52 = .ok (.aload_n 0, 1) := by decide +kernel
theorem dX11_number_53 : decode cX11_number 53 = .ok (.getfield 150, 3) := by decide +kernel
theorem dX11_number_56 : decode cX11_number 56 = .ok (.aload_n 0, 1) := by decide +kernel
theorem dX11_number_57 : decode cX11_number 57 = .ok (.getfield 153, 3) := by decide +kernel
theorem dX11_number_60 : decode cX11_number 60 = .ok (.isub, 1) := by decide +kernel
theorem dX11_number_61 : decode cX11_number 61 = .ok (.iconst 4, 1) := by decide +kernel
theorem dX11_number_62 : decode cX11_number 62 = .ok (.if_icmp .gt 7, 3) := by decide +kernel
theorem dX11_number_65 : decode cX11_number 65 = .ok (.iconst 1, 1) := by decide +kernel
theorem dX11_number_66 : decode cX11_number 66 = .ok (.goto 4, 3) := by decide +kernel
theorem dX11_number_69 : decode cX11_number 69 = .ok (.iconst 0, 1) := by decide +kernel
theorem dX11_number_70 : decode cX11_number 70 = .ok (.invokevirtual 188, 3) := by decide +kernel
theorem dX11_number_73 : decode cX11_number 73 = .ok (.return_, 1) := by decide +kernel
theorem dX11_one_0 : decode cX11_one 0 = .ok (.aload_n 0, 1) := by decide +kernel
theorem dX11_one_1 : decode cX11_one 1 = .ok (.getfield 166, 3) := by decide +kernel
theorem dX11_one_4 : decode cX11_one 4 = .ok (.ifCond .eq 4, 3) := by decide +kernel
theorem dX11_one_7 : decode cX11_one 7 = .ok (.return_, 1) := by decide +kernel
theorem dX11_one_8 : decode cX11_one 8 = .ok (.aload_n 0, 1) := by decide +kernel
theorem dX11_one_9 : decode cX11_one 9 = .ok (.aload_n 0, 1) := by decide +kernel
theorem dX11_one_10 : decode cX11_one 10 = .ok (.getfield 153, 3) := by decide +kernel
theorem dX11_one_13 : decode cX11_one 13 = .ok (.invokevirtual 156, 3) := by decide +kernel
theorem dX11_one_16 : decode cX11_one 16 = .ok (.invokestatic 163, 3) := by decide +kernel
theorem dX11_one_19 : decode cX11_one 19 = .ok (.ifCond .eq 10, 3) := by decide +kernel
theorem dX11_one_22 : decode cX11_one 22 = .ok (.aload_n 0, 1) := by decide +kernel
theorem dX11_one_23 : decode cX11_one 23 = .ok (.invokevirtual 192, 3) := by decide +kernel
theorem dX11_one_26 : decode cX11_one 26 = .ok (.goto 165, 3) := by decide +kernel
theorem dX11_one_29 : decode cX11_one 29 = .ok (.aload_n 0, 1) := by decide +kernel
theorem dX11_one_30 : decode cX11_one 30 = .ok (.bipush 45, 2) := by decide +kernel
theorem dX11_one_32 : decode cX11_one 32 = .ok (.invokevirtual 195, 3) := by decide +kernel
theorem dX11_one_35 : decode cX11_one 35 = .ok (.ifCond .eq 54, 3) := by decide +kernel
theorem dX11_one_38 : decode cX11_one 38 = .ok (.aload_n 0, 1) := by decide +kernel
theorem dX11_one_39 : decode cX11_one 39 = .ok (.aload_n 0, 1) := by decide +kernel
theorem dX11_one_40 : decode cX11_one 40 = .ok (.getfield 198, 3) := by decide +kernel
theorem dX11_one_43 : decode cX11_one 43 = .ok (.iconst 4, 1) := by decide +kernel
theorem dX11_one_44 : decode cX11_one 44 = .ok (.if_icmp .ge 7, 3) := by decide +kernel
theorem dX11_one_47 : decode cX11_one 47 = .ok (.iconst 1, 1) := by decide +kernel
theorem dX11_one_48 : decode cX11_one 48 = .ok (.goto 4, 3) := by decide +kernel
theorem dX11_one_51 : decode cX11_one 51 = .ok (.iconst 0, 1) := by decide +kernel
theorem dX11_one_52 : decode cX11_one 52 = .ok (.invokevirtual 188, 3) := by decide +kernel
theorem dX11_one_55 : decode cX11_one 55 = .ok (.aload_n 0, 1) := by decide +kernel
theorem dX11_one_56 : decode cX11_one 56 = .ok (.dup, 1) := by decide +kernel
theorem dX11_one_57 : decode cX11_one 57 = .ok (.getfield 198, 3) := by decide +kernel
theorem dX11_one_60 : decode cX11_one 60 = .ok (.iconst 1, 1) := by decide +kernel
theorem dX11_one_61 : decode cX11_one 61 = .ok (.iadd, 1) := by decide +kernel
theorem dX11_one_62 : decode cX11_one 62 = .ok (.putfield 198, 3) := by decide +kernel
theorem dX11_one_65 : decode cX11_one 65 = .ok (.aload_n 0, 1) := by decide +kernel
theorem dX11_one_66 : decode cX11_one 66 = .ok (.invokevirtual 201, 3) := by decide +kernel
theorem dX11_one_69 : decode cX11_one 69 = .ok (.aload_n 0, 1) := by decide +kernel
theorem dX11_one_70 : decode cX11_one 70 = .ok (.dup, 1) := by decide +kernel
theorem dX11_one_71 : decode cX11_one 71 = .ok (.getfield 198, 3) := by decide +kernel
theorem dX11_one_74 : decode cX11_one 74 = .ok (.iconst 1, 1) := by decide +kernel
theorem dX11_one_75 : decode cX11_one 75 = .ok (.isub, 1) := by decide +kernel
theorem dX11_one_76 : decode cX11_one 76 = .ok (.putfield 198, 3) := by decide +kernel
theorem dX11_one_79 : decode cX11_one 79 = .ok (.aload_n 0, 1) := by decide +kernel
theorem dX11_one_80 : decode cX11_one 80 = .ok (.sipush 10010, 3) := by decide +kernel
theorem dX11_one_83 : decode cX11_one 83 = .ok (.invokevirtual 184, 3) := by decide +kernel
theorem dX11_one_86 : decode cX11_one 86 = .ok (.goto 105, 3) := by decide +kernel
theorem dX11_one_89 : decode cX11_one 89 = .ok (.aload_n 0, 1) := by decide +kernel
theorem dX11_one_90 : decode cX11_one 90 = .ok (.bipush 40, 2) := by decide +kernel
theorem dX11_one_92 : decode cX11_one 92 = .ok (.invokevirtual 195, 3) := by decide +kernel
theorem dX11_one_95 : decode cX11_one 95 = .ok (.ifCond .eq 69, 3) := by decide +kernel
theorem dX11_one_98 : decode cX11_one 98 = .ok (.aload_n 0, 1) := by decide +kernel
theorem dX11_one_99 : decode cX11_one 99 = .ok (.aload_n 0, 1) := by decide +kernel
theorem dX11_one_100 : decode cX11_one 100 = .ok (.getfield 198, 3) := by decide +kernel
theorem dX11_one_103 : decode cX11_one 103 = .ok (.iconst 4, 1) := by decide +kernel
theorem dX11_one_104 : decode cX11_one 104 = .ok (.if_icmp .ge 7, 3) := by decide +kernel
theorem dX11_one_107 : decode cX11_one 107 = .ok (.iconst 1, 1) := by decide +kernel
theorem dX11_one_108 : decode cX11_one 108 = .ok (.goto 4, 3) := by decide +kernel
theorem dX11_one_111 : decode cX11_one 111 = .ok (.iconst 0, 1) := by decide +kernel
theorem dX11_one_112 : decode cX11_one 112 = .ok (.invokevirtual 188, 3) := by decide +kernel
theorem dX11_one_115 : decode cX11_one 115 = .ok (.aload_n 0, 1) := by decide +kernel
theorem dX11_one_116 : decode cX11_one 116 = .ok (.dup, 1) := by decide +kernel
theorem dX11_one_117 : decode cX11_one 117 = .ok (.getfield 198, 3) := by decide +kernel
theorem dX11_one_120 : decode cX11_one 120 = .ok (.iconst 1, 1) := by decide +kernel
theorem dX11_one_121 : decode cX11_one 121 = .ok (.iadd, 1) := by decide +kernel
theorem dX11_one_122 : decode cX11_one 122 = .ok (.putfield 198, 3) := by decide +kernel
theorem dX11_one_125 : decode cX11_one 125 = .ok (.aload_n 0, 1) := by decide +kernel
theorem dX11_one_126 : decode cX11_one 126 = .ok (.invokevirtual 204, 3) := by decide +kernel
theorem dX11_one_129 : decode cX11_one 129 = .ok (.aload_n 0, 1) := by decide +kernel
theorem dX11_one_130 : decode cX11_one 130 = .ok (.aload_n 0, 1) := by decide +kernel
theorem dX11_one_131 : decode cX11_one 131 = .ok (.aload_n 0, 1) := by decide +kernel
theorem dX11_one_132 : decode cX11_one 132 = .ok (.getfield 153, 3) := by decide +kernel
theorem dX11_one_135 : decode cX11_one 135 = .ok (.invokevirtual 156, 3) := by decide +kernel
theorem dX11_one_138 : decode cX11_one 138 = .ok (.bipush 41, 2) := by decide +kernel
theorem dX11_one_140 : decode cX11_one 140 = .ok (.if_icmp .ne 7, 3) := by decide +kernel
theorem dX11_one_143 : decode cX11_one 143 = .ok (.iconst 1, 1) := by decide +kernel
theorem dX11_one_144 : decode cX11_one 144 = .ok (.goto 4, 3) := by decide +kernel
theorem dX11_one_147 : decode cX11_one 147 = .ok (.iconst 0, 1) := by decide +kernel
theorem dX11_one_148 : decode cX11_one 148 = .ok (.invokevirtual 188, 3) := by decide +kernel
theorem dX11_one_151 : decode cX11_one 151 = .ok (.aload_n 0, 1) := by decide +kernel
theorem dX11_one_152 : decode cX11_one 152 = .ok (.dup, 1) := by decide +kernel
theorem dX11_one_153 : decode cX11_one 153 = .ok (.getfield 198, 3) := by decide +kernel
theorem dX11_one_156 : decode cX11_one 156 = .ok (.iconst 1, 1) := by decide +kernel
theorem dX11_one_157 : decode cX11_one 157 = .ok (.isub, 1) := by decide +kernel
theorem dX11_one_158 : decode cX11_one 158 = .ok (.putfield 198, 3) := by decide +kernel
theorem dX11_one_161 : decode cX11_one 161 = .ok (.goto 30, 3) := by decide +kernel
theorem dX11_one_164 : decode cX11_one 164 = .ok (.aload_n 0, 1) := by decide +kernel
theorem dX11_one_165 : decode cX11_one 165 = .ok (.invokevirtual 207, 3) := by decide +kernel
theorem dX11_one_168 : decode cX11_one 168 = .ok (.istore_n 1, 1) := by decide +kernel
theorem dX11_one_169 : decode cX11_one 169 = .ok (.aload_n 0, 1) := by decide +kernel
theorem dX11_one_170 : decode cX11_one 170 = .ok (.sipush 10000, 3) := by decide +kernel
theorem dX11_one_173 : decode cX11_one 173 = .ok (.iload_n 1, 1) := by decide +kernel
theorem dX11_one_174 : decode cX11_one 174 = .ok (.iadd, 1) := by decide +kernel
theorem dX11_one_175 : decode cX11_one 175 = .ok (.invokevirtual 184, 3) := by decide +kernel
theorem dX11_one_178 : decode cX11_one 178 = .ok (.aload_n 0, 1) := by decide +kernel
theorem dX11_one_179 : decode cX11_one 179 = .ok (.iload_n 1, 1) := by decide +kernel
theorem dX11_one_180 : decode cX11_one 180 = .ok (.ifCond .lt 7, 3) := by decide +kernel
theorem dX11_one_183 : decode cX11_one 183 = .ok (.iconst 1, 1) := by decide +kernel
theorem dX11_one_184 : decode cX11_one 184 = .ok (.goto 4, 3) := by decide +kernel
theorem dX11_one_187 : decode cX11_one 187 = .ok (.iconst 0, 1) := by decide +kernel
theorem dX11_one_188 : decode cX11_one 188 = .ok (.invokevirtual 188, 3) := by decide +kernel
theorem dX11_one_191 : decode cX11_one 191 = .ok (.return_, 1) := by decide +kernel
theorem dX11_product_0 : decode cX11_product 0 = .ok (.aload_n 0, 1) := by decide +kernel
theorem dX11_product_1 : decode cX11_product 1 = .ok (.invokevirtual 201, 3) := by decide +kernel
theorem dX11_product_4 : decode cX11_product 4 = .ok (.aload_n 0, 1) := by decide +kernel
theorem dX11_product_5 : decode cX11_product 5 = .ok (.bipush 42, 2) := by decide +kernel
theorem dX11_product_7 : decode cX11_product 7 = .ok (.invokevirtual 195, 3) := by decide +kernel
theorem dX11_product_10 : decode cX11_product 10 = .ok (.ifCond .ne 21, 3) := by decide +kernel
theorem dX11_product_13 : decode cX11_product 13 = .ok (.aload_n 0, 1) := by decide +kernel
theorem dX11_product_14 : decode cX11_product 14 = .ok (.bipush 47, 2) := by decide +kernel
theorem dX11_product_16 : decode cX11_product 16 = .ok (.invokevirtual 195, 3) := by decide +kernel
theorem dX11_product_19 : decode cX11_product 19 = .ok (.ifCond .ne 12, 3) := by decide +kernel
theorem dX11_product_22 : decode cX11_product 22 = .ok (.aload_n 0, 1) := by decide +kernel
theorem dX11_product_23 : decode cX11_product 23 = .ok (.bipush 37, 2) := by decide +kernel
theorem dX11_product_25 : decode cX11_product 25 = .ok (.invokevirtual 195, 3) := by decide +kernel
theorem dX11_product_28 : decode cX11_product 28 = .ok (.ifCond .eq 55, 3) := by decide +kernel
theorem dX11_product_31 : decode cX11_product 31 = .ok (.aload_n 0, 1) := by decide +kernel
theorem dX11_product_32 : decode cX11_product 32 = .ok (.aload_n 0, 1) := by decide +kernel
theorem dX11_product_33 : decode cX11_product 33 = .ok (.getfield 153, 3) := by decide +kernel
theorem dX11_product_36 : decode cX11_product 36 = .ok (.invokevirtual 156, 3) := by decide +kernel
theorem dX11_product_39 : decode cX11_product 39 = .ok (.istore_n 1, 1) := by decide +kernel
theorem dX11_product_40 : decode cX11_product 40 = .ok (.aload_n 0, 1) := by decide +kernel
theorem dX11_product_41 : decode cX11_product 41 = .ok (.iconst 1, 1) := by decide +kernel
theorem dX11_product_42 : decode cX11_product 42 = .ok (.invokevirtual 188, 3) := by decide +kernel
theorem dX11_product_45 : decode cX11_product 45 = .ok (.aload_n 0, 1) := by decide +kernel
theorem dX11_product_46 : decode cX11_product 46 = .ok (.invokevirtual 201, 3) := by decide +kernel
theorem dX11_product_49 : decode cX11_product 49 = .ok (.aload_n 0, 1) := by decide +kernel
theorem dX11_product_50 : decode cX11_product 50 = .ok (.iload_n 1, 1) := by decide +kernel
theorem dX11_product_51 : decode cX11_product 51 = .ok (.bipush 42, 2) := by decide +kernel
theorem dX11_product_53 : decode cX11_product 53 = .ok (.if_icmp .ne 9, 3) := by decide +kernel
theorem dX11_product_56 : decode cX11_product 56 = .ok (.sipush 10013, 3) := by decide +kernel
theorem dX11_product_59 : decode cX11_product 59 = .ok (.goto 18, 3) := by decide +kernel
theorem dX11_product_62 : decode cX11_product 62 = .ok (.iload_n 1, 1) := by decide +kernel
theorem dX11_product_63 : decode cX11_product 63 = .ok (.bipush 47, 2) := by decide +kernel
theorem dX11_product_65 : decode cX11_product 65 = .ok (.if_icmp .ne 9, 3) := by decide +kernel
theorem dX11_product_68 : decode cX11_product 68 = .ok (.sipush 10014, 3) := by decide +kernel
theorem dX11_product_71 : decode cX11_product 71 = .ok (.goto 6, 3) := by decide +kernel
theorem dX11_product_74 : decode cX11_product 74 = .ok (.sipush 10015, 3) := by decide +kernel
theorem dX11_product_77 : decode cX11_product 77 = .ok (.invokevirtual 184, 3) := by decide +kernel
theorem dX11_product_80 : decode cX11_product 80 = .ok (.goto (-76), 3) := by decide +kernel
theorem dX11_product_83 : decode cX11_product 83 = .ok (.return_, 1) := by decide +kernel
theorem dX11_sum_0 : decode cX11_sum 0 = .ok (.aload_n 0, 1) := by decide +kernel
theorem dX11_sum_1 : decode cX11_sum 1 = .ok (.invokevirtual 211, 3) := by decide +kernel
theorem dX11_sum_4 : decode cX11_sum 4 = .ok (.aload_n 0, 1) := by decide +kernel
theorem dX11_sum_5 : decode cX11_sum 5 = .ok (.bipush 43, 2) := by decide +kernel
theorem dX11_sum_7 : decode cX11_sum 7 = .ok (.invokevirtual 195, 3) := by decide +kernel
theorem dX11_sum_10 : decode cX11_sum 10 = .ok (.ifCond .ne 12, 3) := by decide +kernel
theorem dX11_sum_13 : decode cX11_sum 13 = .ok (.aload_n 0, 1) := by decide +kernel
theorem dX11_sum_14 : decode cX11_sum 14 = .ok (.bipush 45, 2) := by decide +kernel
theorem dX11_sum_16 : decode cX11_sum 16 = .ok (.invokevirtual 195, 3) := by decide +kernel
theorem dX11_sum_19 : decode cX11_sum 19 = .ok (.ifCond .eq 43, 3) := by decide +kernel
theorem dX11_sum_22 : decode cX11_sum 22 = .ok (.aload_n 0, 1) := by decide +kernel
theorem dX11_sum_23 : decode cX11_sum 23 = .ok (.aload_n 0, 1) := by decide +kernel
theorem dX11_sum_24 : decode cX11_sum 24 = .ok (.getfield 153, 3) := by decide +kernel
theorem dX11_sum_27 : decode cX11_sum 27 = .ok (.invokevirtual 156, 3) := by decide +kernel
theorem dX11_sum_30 : decode cX11_sum 30 = .ok (.istore_n 1, 1) := by decide +kernel
theorem dX11_sum_31 : decode cX11_sum 31 = .ok (.aload_n 0, 1) := by decide +kernel
theorem dX11_sum_32 : decode cX11_sum 32 = .ok (.iconst 1, 1) := by decide +kernel
theorem dX11_sum_33 : decode cX11_sum 33 = .ok (.invokevirtual 188, 3) := by decide +kernel
theorem dX11_sum_36 : decode cX11_sum 36 = .ok (.aload_n 0, 1) := by decide +kernel
theorem dX11_sum_37 : decode cX11_sum 37 = .ok (.invokevirtual 211, 3) := by decide +kernel
theorem dX11_sum_40 : decode cX11_sum 40 = .ok (.aload_n 0, 1) := by decide +kernel
theorem dX11_sum_41 : decode cX11_sum 41 = .ok (.iload_n 1, 1) := by decide +kernel
theorem dX11_sum_42 : decode cX11_sum 42 = .ok (.bipush 43, 2) := by decide +kernel
theorem dX11_sum_44 : decode cX11_sum 44 = .ok (.if_icmp .ne 9, 3) := by decide +kernel
theorem dX11_sum_47 : decode cX11_sum 47 = .ok (.sipush 10011, 3) := by decide +kernel
theorem dX11_sum_50 : decode cX11_sum 50 = .ok (.goto 6, 3) := by decide +kernel
theorem dX11_sum_53 : decode cX11_sum 53 = .ok (.sipush 10012, 3) := by decide +kernel
theorem dX11_sum_56 : decode cX11_sum 56 = .ok (.invokevirtual 184, 3) := by decide +kernel
theorem dX11_sum_59 : decode cX11_sum 59 = .ok (.goto (-55), 3) := by decide +kernel
theorem dX11_sum_62 : decode cX11_sum 62 = .ok (.return_, 1) := by decide +kernel
theorem dX11_compared_0 : decode cX11_compared 0 = .ok (.aload_n 0, 1) := by decide +kernel
theorem dX11_compared_1 : decode cX11_compared 1 = .ok (.invokevirtual 214, 3) := by decide +kernel
theorem dX11_compared_4 : decode cX11_compared 4 = .ok (.aload_n 0, 1) := by decide +kernel
theorem dX11_compared_5 : decode cX11_compared 5 = .ok (.bipush 60, 2) := by decide +kernel
theorem dX11_compared_7 : decode cX11_compared 7 = .ok (.invokevirtual 195, 3) := by decide +kernel
theorem dX11_compared_10 : decode cX11_compared 10 = .ok (.ifCond .ne 21, 3) := by decide +kernel
theorem dX11_compared_13 : decode cX11_compared 13 = .ok (.aload_n 0, 1) := by decide +kernel
theorem dX11_compared_14 : decode cX11_compared 14 = .ok (.bipush 61, 2) := by decide +kernel
theorem dX11_compared_16 : decode cX11_compared 16 = .ok (.invokevirtual 195, 3) := by decide +kernel
theorem dX11_compared_19 : decode cX11_compared 19 = .ok (.ifCond .ne 12, 3) := by decide +kernel
theorem dX11_compared_22 : decode cX11_compared 22 = .ok (.aload_n 0, 1) := by decide +kernel
theorem dX11_compared_23 : decode cX11_compared 23 = .ok (.bipush 62, 2) := by decide +kernel
theorem dX11_compared_25 : decode cX11_compared 25 = .ok (.invokevirtual 195, 3) := by decide +kernel
theorem dX11_compared_28 : decode cX11_compared 28 = .ok (.ifCond .eq 52, 3) := by decide +kernel
theorem dX11_compared_31 : decode cX11_compared 31 = .ok (.aload_n 0, 1) := by decide +kernel
theorem dX11_compared_32 : decode cX11_compared 32 = .ok (.aload_n 0, 1) := by decide +kernel
theorem dX11_compared_33 : decode cX11_compared 33 = .ok (.getfield 153, 3) := by decide +kernel
theorem dX11_compared_36 : decode cX11_compared 36 = .ok (.invokevirtual 156, 3) := by decide +kernel
theorem dX11_compared_39 : decode cX11_compared 39 = .ok (.istore_n 1, 1) := by decide +kernel
theorem dX11_compared_40 : decode cX11_compared 40 = .ok (.aload_n 0, 1) := by decide +kernel
theorem dX11_compared_41 : decode cX11_compared 41 = .ok (.iconst 1, 1) := by decide +kernel
theorem dX11_compared_42 : decode cX11_compared 42 = .ok (.invokevirtual 188, 3) := by decide +kernel
theorem dX11_compared_45 : decode cX11_compared 45 = .ok (.aload_n 0, 1) := by decide +kernel
theorem dX11_compared_46 : decode cX11_compared 46 = .ok (.invokevirtual 214, 3) := by decide +kernel
theorem dX11_compared_49 : decode cX11_compared 49 = .ok (.aload_n 0, 1) := by decide +kernel
theorem dX11_compared_50 : decode cX11_compared 50 = .ok (.iload_n 1, 1) := by decide +kernel
theorem dX11_compared_51 : decode cX11_compared 51 = .ok (.bipush 60, 2) := by decide +kernel
theorem dX11_compared_53 : decode cX11_compared 53 = .ok (.if_icmp .ne 9, 3) := by decide +kernel
theorem dX11_compared_56 : decode cX11_compared 56 = .ok (.sipush 10016, 3) := by decide +kernel
theorem dX11_compared_59 : decode cX11_compared 59 = .ok (.goto 18, 3) := by decide +kernel
theorem dX11_compared_62 : decode cX11_compared 62 = .ok (.iload_n 1, 1) := by decide +kernel
theorem dX11_compared_63 : decode cX11_compared 63 = .ok (.bipush 61, 2) := by decide +kernel
theorem dX11_compared_65 : decode cX11_compared 65 = .ok (.if_icmp .ne 9, 3) := by decide +kernel
theorem dX11_compared_68 : decode cX11_compared 68 = .ok (.sipush 10017, 3) := by decide +kernel
theorem dX11_compared_71 : decode cX11_compared 71 = .ok (.goto 6, 3) := by decide +kernel
theorem dX11_compared_74 : decode cX11_compared 74 = .ok (.sipush 10018, 3) := by decide +kernel
theorem dX11_compared_77 : decode cX11_compared 77 = .ok (.invokevirtual 184, 3) := by decide +kernel
theorem dX11_compared_80 : decode cX11_compared 80 = .ok (.return_, 1) := by decide +kernel
theorem dX11_oneLaw_0 : decode cX11_oneLaw 0 = .ok (.aload_n 0, 1) := by decide +kernel
theorem dX11_oneLaw_1 : decode cX11_oneLaw 1 = .ok (.invokevirtual 217, 3) := by decide +kernel
theorem dX11_oneLaw_4 : decode cX11_oneLaw 4 = .ok (.istore_n 1, 1) := by decide +kernel
theorem dX11_oneLaw_5 : decode cX11_oneLaw 5 = .ok (.aload_n 0, 1) := by decide +kernel
theorem dX11_oneLaw_6 : decode cX11_oneLaw 6 = .ok (.getfield 173, 3) := by decide +kernel
theorem dX11_oneLaw_9 : decode cX11_oneLaw 9 = .ok (.istore_n 2, 1) := by decide +kernel
theorem dX11_oneLaw_10 : decode cX11_oneLaw 10 = .ok (.aload_n 0, 1) := by decide +kernel
theorem dX11_oneLaw_11 : decode cX11_oneLaw 11 = .ok (.iload_n 1, 1) := by decide +kernel
theorem dX11_oneLaw_12 : decode cX11_oneLaw 12 = .ok (.ifCond .lt 16, 3) := by decide +kernel
theorem dX11_oneLaw_15 : decode cX11_oneLaw 15 = .ok (.aload_n 0, 1) := by decide +kernel
theorem dX11_oneLaw_16 : decode cX11_oneLaw 16 = .ok (.getfield 220, 3) := by decide +kernel
theorem dX11_oneLaw_19 : decode cX11_oneLaw 19 = .ok (.bipush 8, 2) := by decide +kernel
theorem dX11_oneLaw_21 : decode cX11_oneLaw 21 = .ok (.if_icmp .ge 7, 3) := by decide +kernel
theorem dX11_oneLaw_24 : decode cX11_oneLaw 24 = .ok (.iconst 1, 1) := by decide +kernel
theorem dX11_oneLaw_25 : decode cX11_oneLaw 25 = .ok (.goto 4, 3) := by decide +kernel
theorem dX11_oneLaw_28 : decode cX11_oneLaw 28 = .ok (.iconst 0, 1) := by decide +kernel
theorem dX11_oneLaw_29 : decode cX11_oneLaw 29 = .ok (.invokevirtual 188, 3) := by decide +kernel
theorem dX11_oneLaw_32 : decode cX11_oneLaw 32 = .ok (.aload_n 0, 1) := by decide +kernel
theorem dX11_oneLaw_33 : decode cX11_oneLaw 33 = .ok (.invokevirtual 204, 3) := by decide +kernel
theorem dX11_oneLaw_36 : decode cX11_oneLaw 36 = .ok (.aload_n 0, 1) := by decide +kernel
theorem dX11_oneLaw_37 : decode cX11_oneLaw 37 = .ok (.aload_n 0, 1) := by decide +kernel
theorem dX11_oneLaw_38 : decode cX11_oneLaw 38 = .ok (.aload_n 0, 1) := by decide +kernel
theorem dX11_oneLaw_39 : decode cX11_oneLaw 39 = .ok (.getfield 153, 3) := by decide +kernel
theorem dX11_oneLaw_42 : decode cX11_oneLaw 42 = .ok (.invokevirtual 156, 3) := by decide +kernel
theorem dX11_oneLaw_45 : decode cX11_oneLaw 45 = .ok (.bipush 59, 2) := by decide +kernel
theorem dX11_oneLaw_47 : decode cX11_oneLaw 47 = .ok (.if_icmp .ne 7, 3) := by decide +kernel
theorem dX11_oneLaw_50 : decode cX11_oneLaw 50 = .ok (.iconst 1, 1) := by decide +kernel
theorem dX11_oneLaw_51 : decode cX11_oneLaw 51 = .ok (.goto 4, 3) := by decide +kernel
theorem dX11_oneLaw_54 : decode cX11_oneLaw 54 = .ok (.iconst 0, 1) := by decide +kernel
theorem dX11_oneLaw_55 : decode cX11_oneLaw 55 = .ok (.invokevirtual 188, 3) := by decide +kernel
theorem dX11_oneLaw_58 : decode cX11_oneLaw 58 = .ok (.aload_n 0, 1) := by decide +kernel
theorem dX11_oneLaw_59 : decode cX11_oneLaw 59 = .ok (.getfield 166, 3) := by decide +kernel
theorem dX11_oneLaw_62 : decode cX11_oneLaw 62 = .ok (.ifCond .ne 30, 3) := by decide +kernel
theorem dX11_oneLaw_65 : decode cX11_oneLaw 65 = .ok (.aload_n 0, 1) := by decide +kernel
theorem dX11_oneLaw_66 : decode cX11_oneLaw 66 = .ok (.getfield 50, 3) := by decide +kernel
theorem dX11_oneLaw_69 : decode cX11_oneLaw 69 = .ok (.iload_n 1, 1) := by decide +kernel
theorem dX11_oneLaw_70 : decode cX11_oneLaw 70 = .ok (.iload_n 2, 1) := by decide +kernel
theorem dX11_oneLaw_71 : decode cX11_oneLaw 71 = .ok (.iastore, 1) := by decide +kernel
theorem dX11_oneLaw_72 : decode cX11_oneLaw 72 = .ok (.aload_n 0, 1) := by decide +kernel
theorem dX11_oneLaw_73 : decode cX11_oneLaw 73 = .ok (.getfield 53, 3) := by decide +kernel
theorem dX11_oneLaw_76 : decode cX11_oneLaw 76 = .ok (.iload_n 1, 1) := by decide +kernel
theorem dX11_oneLaw_77 : decode cX11_oneLaw 77 = .ok (.aload_n 0, 1) := by decide +kernel
theorem dX11_oneLaw_78 : decode cX11_oneLaw 78 = .ok (.getfield 173, 3) := by decide +kernel
theorem dX11_oneLaw_81 : decode cX11_oneLaw 81 = .ok (.iastore, 1) := by decide +kernel
theorem dX11_oneLaw_82 : decode cX11_oneLaw 82 = .ok (.aload_n 0, 1) := by decide +kernel
theorem dX11_oneLaw_83 : decode cX11_oneLaw 83 = .ok (.dup, 1) := by decide +kernel
theorem dX11_oneLaw_84 : decode cX11_oneLaw 84 = .ok (.getfield 220, 3) := by decide +kernel
theorem dX11_oneLaw_87 : decode cX11_oneLaw 87 = .ok (.iconst 1, 1) := by decide +kernel
theorem dX11_oneLaw_88 : decode cX11_oneLaw 88 = .ok (.iadd, 1) := by decide +kernel
theorem dX11_oneLaw_89 : decode cX11_oneLaw 89 = .ok (.putfield 220, 3) := by decide +kernel
theorem dX11_oneLaw_92 : decode cX11_oneLaw 92 = .ok (.return_, 1) := by decide +kernel
theorem dX11_read_0 : decode cX11_read 0 = .ok (.aload_n 0, 1) := by decide +kernel
theorem dX11_read_1 : decode cX11_read 1 = .ok (.iconst 0, 1) := by decide +kernel
theorem dX11_read_2 : decode cX11_read 2 = .ok (.putfield 150, 3) := by decide +kernel
theorem dX11_read_5 : decode cX11_read 5 = .ok (.aload_n 0, 1) := by decide +kernel
theorem dX11_read_6 : decode cX11_read 6 = .ok (.iconst 0, 1) := by decide +kernel
theorem dX11_read_7 : decode cX11_read 7 = .ok (.putfield 198, 3) := by decide +kernel
theorem dX11_read_10 : decode cX11_read 10 = .ok (.aload_n 0, 1) := by decide +kernel
theorem dX11_read_11 : decode cX11_read 11 = .ok (.bipush 12, 2) := by decide +kernel
theorem dX11_read_13 : decode cX11_read 13 = .ok (.putfield 173, 3) := by decide +kernel
theorem dX11_read_16 : decode cX11_read 16 = .ok (.aload_n 0, 1) := by decide +kernel
theorem dX11_read_17 : decode cX11_read 17 = .ok (.iconst 0, 1) := by decide +kernel
theorem dX11_read_18 : decode cX11_read 18 = .ok (.putfield 220, 3) := by decide +kernel
theorem dX11_read_21 : decode cX11_read 21 = .ok (.aload_n 0, 1) := by decide +kernel
theorem dX11_read_22 : decode cX11_read 22 = .ok (.iconst 0, 1) := by decide +kernel
theorem dX11_read_23 : decode cX11_read 23 = .ok (.putfield 166, 3) := by decide +kernel
theorem dX11_read_26 : decode cX11_read 26 = .ok (.iconst 0, 1) := by decide +kernel
theorem dX11_read_27 : decode cX11_read 27 = .ok (.istore_n 1, 1) := by decide +kernel
theorem dX11_read_28 : decode cX11_read 28 = .ok (.iload_n 1, 1) := by decide +kernel
theorem dX11_read_29 : decode cX11_read 29 = .ok (.iconst 4, 1) := by decide +kernel
theorem dX11_read_30 : decode cX11_read 30 = .ok (.if_icmp .ge 33, 3) := by decide +kernel
theorem dX11_read_33 : decode cX11_read 33 = .ok (.aload_n 0, 1) := by decide +kernel
theorem dX11_read_34 : decode cX11_read 34 = .ok (.getfield 50, 3) := by decide +kernel
theorem dX11_read_37 : decode cX11_read 37 = .ok (.iload_n 1, 1) := by decide +kernel
theorem dX11_read_38 : decode cX11_read 38 = .ok (.aload_n 0, 1) := by decide +kernel
theorem dX11_read_39 : decode cX11_read 39 = .ok (.getfield 26, 3) := by decide +kernel
theorem dX11_read_42 : decode cX11_read 42 = .ok (.iload_n 1, 1) := by decide +kernel
theorem dX11_read_43 : decode cX11_read 43 = .ok (.iaload, 1) := by decide +kernel
theorem dX11_read_44 : decode cX11_read 44 = .ok (.iastore, 1) := by decide +kernel
theorem dX11_read_45 : decode cX11_read 45 = .ok (.aload_n 0, 1) := by decide +kernel
theorem dX11_read_46 : decode cX11_read 46 = .ok (.getfield 53, 3) := by decide +kernel
theorem dX11_read_49 : decode cX11_read 49 = .ok (.iload_n 1, 1) := by decide +kernel
theorem dX11_read_50 : decode cX11_read 50 = .ok (.aload_n 0, 1) := by decide +kernel
theorem dX11_read_51 : decode cX11_read 51 = .ok (.getfield 29, 3) := by decide +kernel
theorem dX11_read_54 : decode cX11_read 54 = .ok (.iload_n 1, 1) := by decide +kernel
theorem dX11_read_55 : decode cX11_read 55 = .ok (.iaload, 1) := by decide +kernel
theorem dX11_read_56 : decode cX11_read 56 = .ok (.iastore, 1) := by decide +kernel
theorem dX11_read_57 : decode cX11_read 57 = .ok (.iinc 1 1, 3) := by decide +kernel
theorem dX11_read_60 : decode cX11_read 60 = .ok (.goto (-32), 3) := by decide +kernel
theorem dX11_read_63 : decode cX11_read 63 = .ok (.aload_n 0, 1) := by decide +kernel
theorem dX11_read_64 : decode cX11_read 64 = .ok (.invokevirtual 170, 3) := by decide +kernel
theorem dX11_read_67 : decode cX11_read 67 = .ok (.aload_n 0, 1) := by decide +kernel
theorem dX11_read_68 : decode cX11_read 68 = .ok (.getfield 166, 3) := by decide +kernel
theorem dX11_read_71 : decode cX11_read 71 = .ok (.ifCond .ne 21, 3) := by decide +kernel
theorem dX11_read_74 : decode cX11_read 74 = .ok (.aload_n 0, 1) := by decide +kernel
theorem dX11_read_75 : decode cX11_read 75 = .ok (.getfield 153, 3) := by decide +kernel
theorem dX11_read_78 : decode cX11_read 78 = .ok (.aload_n 0, 1) := by decide +kernel
theorem dX11_read_79 : decode cX11_read 79 = .ok (.getfield 137, 3) := by decide +kernel
theorem dX11_read_82 : decode cX11_read 82 = .ok (.if_icmp .ge 10, 3) := by decide +kernel
theorem dX11_read_85 : decode cX11_read 85 = .ok (.aload_n 0, 1) := by decide +kernel
theorem dX11_read_86 : decode cX11_read 86 = .ok (.invokevirtual 223, 3) := by decide +kernel
theorem dX11_read_89 : decode cX11_read 89 = .ok (.goto (-22), 3) := by decide +kernel
theorem dX11_read_92 : decode cX11_read 92 = .ok (.aload_n 0, 1) := by decide +kernel
theorem dX11_read_93 : decode cX11_read 93 = .ok (.iconst 0, 1) := by decide +kernel
theorem dX11_read_94 : decode cX11_read 94 = .ok (.putfield 137, 3) := by decide +kernel
theorem dX11_read_97 : decode cX11_read 97 = .ok (.aload_n 0, 1) := by decide +kernel
theorem dX11_read_98 : decode cX11_read 98 = .ok (.getfield 166, 3) := by decide +kernel
theorem dX11_read_101 : decode cX11_read 101 = .ok (.ifCond .eq 11, 3) := by decide +kernel
theorem dX11_read_104 : decode cX11_read 104 = .ok (.bipush (-100), 2) := by decide +kernel
theorem dX11_read_106 : decode cX11_read 106 = .ok (.aload_n 0, 1) := by decide +kernel
theorem dX11_read_107 : decode cX11_read 107 = .ok (.getfield 153, 3) := by decide +kernel
theorem dX11_read_110 : decode cX11_read 110 = .ok (.isub, 1) := by decide +kernel
theorem dX11_read_111 : decode cX11_read 111 = .ok (.ireturn, 1) := by decide +kernel
theorem dX11_read_112 : decode cX11_read 112 = .ok (.bipush 12, 2) := by decide +kernel
theorem dX11_read_114 : decode cX11_read 114 = .ok (.istore_n 1, 1) := by decide +kernel
theorem dX11_read_115 : decode cX11_read 115 = .ok (.iload_n 1, 1) := by decide +kernel
theorem dX11_read_116 : decode cX11_read 116 = .ok (.sipush 220, 3) := by decide +kernel
theorem dX11_read_119 : decode cX11_read 119 = .ok (.if_icmp .ge 37, 3) := by decide +kernel
theorem dX11_read_122 : decode cX11_read 122 = .ok (.aload_n 0, 1) := by decide +kernel
theorem dX11_read_123 : decode cX11_read 123 = .ok (.getfield 7, 3) := by decide +kernel
theorem dX11_read_126 : decode cX11_read 126 = .ok (.sipush 446, 3) := by decide +kernel
theorem dX11_read_129 : decode cX11_read 129 = .ok (.iload_n 1, 1) := by decide +kernel
theorem dX11_read_130 : decode cX11_read 130 = .ok (.iadd, 1) := by decide +kernel
theorem dX11_read_131 : decode cX11_read 131 = .ok (.iload_n 1, 1) := by decide +kernel
theorem dX11_read_132 : decode cX11_read 132 = .ok (.aload_n 0, 1) := by decide +kernel
theorem dX11_read_133 : decode cX11_read 133 = .ok (.getfield 173, 3) := by decide +kernel
theorem dX11_read_136 : decode cX11_read 136 = .ok (.if_icmp .ge 12, 3) := by decide +kernel
theorem dX11_read_139 : decode cX11_read 139 = .ok (.aload_n 0, 1) := by decide +kernel
theorem dX11_read_140 : decode cX11_read 140 = .ok (.getfield 47, 3) := by decide +kernel
theorem dX11_read_143 : decode cX11_read 143 = .ok (.iload_n 1, 1) := by decide +kernel
theorem dX11_read_144 : decode cX11_read 144 = .ok (.iaload, 1) := by decide +kernel
theorem dX11_read_145 : decode cX11_read 145 = .ok (.goto 4, 3) := by decide +kernel
theorem dX11_read_148 : decode cX11_read 148 = .ok (.iconst 0, 1) := by decide +kernel
theorem dX11_read_149 : decode cX11_read 149 = .ok (.iastore, 1) := by decide +kernel
theorem dX11_read_150 : decode cX11_read 150 = .ok (.iinc 1 1, 3) := by decide +kernel
theorem dX11_read_153 : decode cX11_read 153 = .ok (.goto (-38), 3) := by decide +kernel
theorem dX11_read_156 : decode cX11_read 156 = .ok (.iconst 0, 1) := by decide +kernel
theorem dX11_read_157 : decode cX11_read 157 = .ok (.istore_n 1, 1) := by decide +kernel
theorem dX11_read_158 : decode cX11_read 158 = .ok (.iload_n 1, 1) := by decide +kernel
theorem dX11_read_159 : decode cX11_read 159 = .ok (.iconst 4, 1) := by decide +kernel
theorem dX11_read_160 : decode cX11_read 160 = .ok (.if_icmp .ge 47, 3) := by decide +kernel
theorem dX11_read_163 : decode cX11_read 163 = .ok (.aload_n 0, 1) := by decide +kernel
theorem dX11_read_164 : decode cX11_read 164 = .ok (.getfield 7, 3) := by decide +kernel
theorem dX11_read_167 : decode cX11_read 167 = .ok (.sipush 438, 3) := by decide +kernel
theorem dX11_read_170 : decode cX11_read 170 = .ok (.iconst 2, 1) := by decide +kernel
theorem dX11_read_171 : decode cX11_read 171 = .ok (.iload_n 1, 1) := by decide +kernel
theorem dX11_read_172 : decode cX11_read 172 = .ok (.imul, 1) := by decide +kernel
theorem dX11_read_173 : decode cX11_read 173 = .ok (.iadd, 1) := by decide +kernel
theorem dX11_read_174 : decode cX11_read 174 = .ok (.aload_n 0, 1) := by decide +kernel
theorem dX11_read_175 : decode cX11_read 175 = .ok (.getfield 50, 3) := by decide +kernel
theorem dX11_read_178 : decode cX11_read 178 = .ok (.iload_n 1, 1) := by decide +kernel
theorem dX11_read_179 : decode cX11_read 179 = .ok (.iaload, 1) := by decide +kernel
theorem dX11_read_180 : decode cX11_read 180 = .ok (.iastore, 1) := by decide +kernel
theorem dX11_read_181 : decode cX11_read 181 = .ok (.aload_n 0, 1) := by decide +kernel
theorem dX11_read_182 : decode cX11_read 182 = .ok (.getfield 7, 3) := by decide +kernel
theorem dX11_read_185 : decode cX11_read 185 = .ok (.sipush 438, 3) := by decide +kernel
theorem dX11_read_188 : decode cX11_read 188 = .ok (.iconst 2, 1) := by decide +kernel
theorem dX11_read_189 : decode cX11_read 189 = .ok (.iload_n 1, 1) := by decide +kernel
theorem dX11_read_190 : decode cX11_read 190 = .ok (.imul, 1) := by decide +kernel
theorem dX11_read_191 : decode cX11_read 191 = .ok (.iadd, 1) := by decide +kernel
theorem dX11_read_192 : decode cX11_read 192 = .ok (.iconst 1, 1) := by decide +kernel
theorem dX11_read_193 : decode cX11_read 193 = .ok (.iadd, 1) := by decide +kernel
theorem dX11_read_194 : decode cX11_read 194 = .ok (.aload_n 0, 1) := by decide +kernel
theorem dX11_read_195 : decode cX11_read 195 = .ok (.getfield 53, 3) := by decide +kernel
theorem dX11_read_198 : decode cX11_read 198 = .ok (.iload_n 1, 1) := by decide +kernel
theorem dX11_read_199 : decode cX11_read 199 = .ok (.iaload, 1) := by decide +kernel
theorem dX11_read_200 : decode cX11_read 200 = .ok (.iastore, 1) := by decide +kernel
theorem dX11_read_201 : decode cX11_read 201 = .ok (.iinc 1 1, 3) := by decide +kernel
theorem dX11_read_204 : decode cX11_read 204 = .ok (.goto (-46), 3) := by decide +kernel
theorem dX11_read_207 : decode cX11_read 207 = .ok (.aload_n 0, 1) := by decide +kernel
theorem dX11_read_208 : decode cX11_read 208 = .ok (.getfield 7, 3) := by decide +kernel
theorem dX11_read_211 : decode cX11_read 211 = .ok (.bipush 11, 2) := by decide +kernel
theorem dX11_read_213 : decode cX11_read 213 = .ok (.iconst 0, 1) := by decide +kernel
theorem dX11_read_214 : decode cX11_read 214 = .ok (.iastore, 1) := by decide +kernel
theorem dX11_read_215 : decode cX11_read 215 = .ok (.iconst 0, 1) := by decide +kernel
theorem dX11_read_216 : decode cX11_read 216 = .ok (.istore_n 1, 1) := by decide +kernel
theorem dX11_read_217 : decode cX11_read 217 = .ok (.iload_n 1, 1) := by decide +kernel
theorem dX11_read_218 : decode cX11_read 218 = .ok (.iconst 4, 1) := by decide +kernel
theorem dX11_read_219 : decode cX11_read 219 = .ok (.if_icmp .ge 35, 3) := by decide +kernel
theorem dX11_read_222 : decode cX11_read 222 = .ok (.aload_n 0, 1) := by decide +kernel
theorem dX11_read_223 : decode cX11_read 223 = .ok (.getfield 7, 3) := by decide +kernel
theorem dX11_read_226 : decode cX11_read 226 = .ok (.bipush 11, 2) := by decide +kernel
theorem dX11_read_228 : decode cX11_read 228 = .ok (.dup2, 1) := by decide +kernel
theorem dX11_read_229 : decode cX11_read 229 = .ok (.iaload, 1) := by decide +kernel
theorem dX11_read_230 : decode cX11_read 230 = .ok (.aload_n 0, 1) := by decide +kernel
theorem dX11_read_231 : decode cX11_read 231 = .ok (.getfield 50, 3) := by decide +kernel
theorem dX11_read_234 : decode cX11_read 234 = .ok (.iload_n 1, 1) := by decide +kernel
theorem dX11_read_235 : decode cX11_read 235 = .ok (.iaload, 1) := by decide +kernel
theorem dX11_read_236 : decode cX11_read 236 = .ok (.bipush 12, 2) := by decide +kernel
theorem dX11_read_238 : decode cX11_read 238 = .ok (.if_icmp .lt 7, 3) := by decide +kernel
theorem dX11_read_241 : decode cX11_read 241 = .ok (.iconst 1, 1) := by decide +kernel
theorem dX11_read_242 : decode cX11_read 242 = .ok (.goto 4, 3) := by decide +kernel
theorem dX11_read_245 : decode cX11_read 245 = .ok (.iconst 0, 1) := by decide +kernel
theorem dX11_read_246 : decode cX11_read 246 = .ok (.iadd, 1) := by decide +kernel
theorem dX11_read_247 : decode cX11_read 247 = .ok (.iastore, 1) := by decide +kernel
theorem dX11_read_248 : decode cX11_read 248 = .ok (.iinc 1 1, 3) := by decide +kernel
theorem dX11_read_251 : decode cX11_read 251 = .ok (.goto (-34), 3) := by decide +kernel
theorem dX11_read_254 : decode cX11_read 254 = .ok (.aload_n 0, 1) := by decide +kernel
theorem dX11_read_255 : decode cX11_read 255 = .ok (.getfield 7, 3) := by decide +kernel
theorem dX11_read_258 : decode cX11_read 258 = .ok (.bipush 11, 2) := by decide +kernel
theorem dX11_read_260 : decode cX11_read 260 = .ok (.iaload, 1) := by decide +kernel
theorem dX11_read_261 : decode cX11_read 261 = .ok (.ireturn, 1) := by decide +kernel
theorem dX11_says_0 : decode cX11_says 0 = .ok (.iload_n 1, 1) := by decide +kernel
theorem dX11_says_1 : decode cX11_says 1 = .ok (.i2l, 1) := by decide +kernel
theorem dX11_says_2 : decode cX11_says 2 = .ok (.lconst 0, 1) := by decide +kernel
theorem dX11_says_3 : decode cX11_says 3 = .ok (.ldc2_w 226, 3) := by decide +kernel
theorem dX11_says_6 : decode cX11_says 6 = .ok (.invokestatic 114, 3) := by decide +kernel
theorem dX11_says_9 : decode cX11_says 9 = .ok (.ifCond .ne 5, 3) := by decide +kernel
theorem dX11_says_12 : decode cX11_says 12 = .ok (.iconst 0, 1) := by decide +kernel
theorem dX11_says_13 : decode cX11_says 13 = .ok (.ireturn, 1) := by decide +kernel
theorem dX11_says_14 : decode cX11_says 14 = .ok (.aload_n 0, 1) := by decide +kernel
theorem dX11_says_15 : decode cX11_says 15 = .ok (.invokevirtual 130, 3) := by decide +kernel
theorem dX11_says_18 : decode cX11_says 18 = .ok (.aload_n 0, 1) := by decide +kernel
theorem dX11_says_19 : decode cX11_says 19 = .ok (.iload_n 1, 1) := by decide +kernel
theorem dX11_says_20 : decode cX11_says 20 = .ok (.invokevirtual 101, 3) := by decide +kernel
theorem dX11_says_23 : decode cX11_says 23 = .ok (.ireturn, 1) := by decide +kernel
theorem dX11_looks_0 : decode cX11_looks 0 = .ok (.aload_n 0, 1) := by decide +kernel
theorem dX11_looks_1 : decode cX11_looks 1 = .ok (.aload_n 0, 1) := by decide +kernel
theorem dX11_looks_2 : decode cX11_looks 2 = .ok (.getfield 7, 3) := by decide +kernel
theorem dX11_looks_5 : decode cX11_looks 5 = .ok (.bipush 9, 2) := by decide +kernel
theorem dX11_looks_7 : decode cX11_looks 7 = .ok (.iaload, 1) := by decide +kernel
theorem dX11_looks_8 : decode cX11_looks 8 = .ok (.putfield 228, 3) := by decide +kernel
theorem dX11_looks_11 : decode cX11_looks 11 = .ok (.iconst 0, 1) := by decide +kernel
theorem dX11_looks_12 : decode cX11_looks 12 = .ok (.istore_n 1, 1) := by decide +kernel
theorem dX11_looks_13 : decode cX11_looks 13 = .ok (.iload_n 1, 1) := by decide +kernel
theorem dX11_looks_14 : decode cX11_looks 14 = .ok (.aload_n 0, 1) := by decide +kernel
theorem dX11_looks_15 : decode cX11_looks 15 = .ok (.getfield 228, 3) := by decide +kernel
theorem dX11_looks_18 : decode cX11_looks 18 = .ok (.if_icmp .ge 24, 3) := by decide +kernel
theorem dX11_looks_21 : decode cX11_looks 21 = .ok (.aload_n 0, 1) := by decide +kernel
theorem dX11_looks_22 : decode cX11_looks 22 = .ok (.getfield 56, 3) := by decide +kernel
theorem dX11_looks_25 : decode cX11_looks 25 = .ok (.iload_n 1, 1) := by decide +kernel
theorem dX11_looks_26 : decode cX11_looks 26 = .ok (.aload_n 0, 1) := by decide +kernel
theorem dX11_looks_27 : decode cX11_looks 27 = .ok (.getfield 7, 3) := by decide +kernel
theorem dX11_looks_30 : decode cX11_looks 30 = .ok (.bipush 12, 2) := by decide +kernel
theorem dX11_looks_32 : decode cX11_looks 32 = .ok (.iload_n 1, 1) := by decide +kernel
theorem dX11_looks_33 : decode cX11_looks 33 = .ok (.iadd, 1) := by decide +kernel
theorem dX11_looks_34 : decode cX11_looks 34 = .ok (.iaload, 1) := by decide +kernel
theorem dX11_looks_35 : decode cX11_looks 35 = .ok (.iastore, 1) := by decide +kernel
theorem dX11_looks_36 : decode cX11_looks 36 = .ok (.iinc 1 1, 3) := by decide +kernel
theorem dX11_looks_39 : decode cX11_looks 39 = .ok (.goto (-26), 3) := by decide +kernel
theorem dX11_looks_42 : decode cX11_looks 42 = .ok (.return_, 1) := by decide +kernel
theorem dX11_looksAtTrial_0 : decode cX11_looksAtTrial 0 = .ok (.aload_n 0, 1) := by decide +kernel
theorem dX11_looksAtTrial_1 : decode cX11_looksAtTrial 1 = .ok (.aload_n 0, 1) := by decide +kernel
theorem dX11_looksAtTrial_2 : decode cX11_looksAtTrial 2 = .ok (.getfield 86, 3) := by decide +kernel
theorem dX11_looksAtTrial_5 : decode cX11_looksAtTrial 5 = .ok (.putfield 228, 3) := by decide +kernel
theorem dX11_looksAtTrial_8 : decode cX11_looksAtTrial 8 = .ok (.iconst 0, 1) := by decide +kernel
theorem dX11_looksAtTrial_9 : decode cX11_looksAtTrial 9 = .ok (.istore_n 1, 1) := by decide +kernel
theorem dX11_looksAtTrial_10 : decode cX11_looksAtTrial 10 = .ok (.iload_n 1, 1) := by decide +kernel
theorem dX11_looksAtTrial_11 : decode cX11_looksAtTrial 11 = .ok (.aload_n 0, 1) := by decide +kernel
theorem dX11_looksAtTrial_12 : decode cX11_looksAtTrial 12 = .ok (.getfield 86, 3) := by decide +kernel
theorem dX11_looksAtTrial_15 : decode cX11_looksAtTrial 15 = .ok (.if_icmp .ge 21, 3) := by decide +kernel
theorem dX11_looksAtTrial_18 : decode cX11_looksAtTrial 18 = .ok (.aload_n 0, 1) := by decide +kernel
theorem dX11_looksAtTrial_19 : decode cX11_looksAtTrial 19 = .ok (.getfield 56, 3) := by decide +kernel
theorem dX11_looksAtTrial_22 : decode cX11_looksAtTrial 22 = .ok (.iload_n 1, 1) := by decide +kernel
theorem dX11_looksAtTrial_23 : decode cX11_looksAtTrial 23 = .ok (.aload_n 0, 1) := by decide +kernel
theorem dX11_looksAtTrial_24 : decode cX11_looksAtTrial 24 = .ok (.getfield 35, 3) := by decide +kernel
theorem dX11_looksAtTrial_27 : decode cX11_looksAtTrial 27 = .ok (.iload_n 1, 1) := by decide +kernel
theorem dX11_looksAtTrial_28 : decode cX11_looksAtTrial 28 = .ok (.iaload, 1) := by decide +kernel
theorem dX11_looksAtTrial_29 : decode cX11_looksAtTrial 29 = .ok (.iastore, 1) := by decide +kernel
theorem dX11_looksAtTrial_30 : decode cX11_looksAtTrial 30 = .ok (.iinc 1 1, 3) := by decide +kernel
theorem dX11_looksAtTrial_33 : decode cX11_looksAtTrial 33 = .ok (.goto (-23), 3) := by decide +kernel
theorem dX11_looksAtTrial_36 : decode cX11_looksAtTrial 36 = .ok (.return_, 1) := by decide +kernel
theorem dX11_looksAtRecord_0 : decode cX11_looksAtRecord 0 = .ok (.aload_n 0, 1) := by decide +kernel
theorem dX11_looksAtRecord_1 : decode cX11_looksAtRecord 1 = .ok (.aload_n 0, 1) := by decide +kernel
theorem dX11_looksAtRecord_2 : decode cX11_looksAtRecord 2 = .ok (.getfield 7, 3) := by decide +kernel
theorem dX11_looksAtRecord_5 : decode cX11_looksAtRecord 5 = .ok (.bipush 72, 2) := by decide +kernel
theorem dX11_looksAtRecord_7 : decode cX11_looksAtRecord 7 = .ok (.bipush 61, 2) := by decide +kernel
theorem dX11_looksAtRecord_9 : decode cX11_looksAtRecord 9 = .ok (.iload_n 1, 1) := by decide +kernel
theorem dX11_looksAtRecord_10 : decode cX11_looksAtRecord 10 = .ok (.imul, 1) := by decide +kernel
theorem dX11_looksAtRecord_11 : decode cX11_looksAtRecord 11 = .ok (.iadd, 1) := by decide +kernel
theorem dX11_looksAtRecord_12 : decode cX11_looksAtRecord 12 = .ok (.iaload, 1) := by decide +kernel
theorem dX11_looksAtRecord_13 : decode cX11_looksAtRecord 13 = .ok (.putfield 228, 3) := by decide +kernel
theorem dX11_looksAtRecord_16 : decode cX11_looksAtRecord 16 = .ok (.iconst 0, 1) := by decide +kernel
theorem dX11_looksAtRecord_17 : decode cX11_looksAtRecord 17 = .ok (.istore_n 2, 1) := by decide +kernel
theorem dX11_looksAtRecord_18 : decode cX11_looksAtRecord 18 = .ok (.iload_n 2, 1) := by decide +kernel
theorem dX11_looksAtRecord_19 : decode cX11_looksAtRecord 19 = .ok (.aload_n 0, 1) := by decide +kernel
theorem dX11_looksAtRecord_20 : decode cX11_looksAtRecord 20 = .ok (.getfield 228, 3) := by decide +kernel
theorem dX11_looksAtRecord_23 : decode cX11_looksAtRecord 23 = .ok (.if_icmp .ge 31, 3) := by decide +kernel
theorem dX11_looksAtRecord_26 : decode cX11_looksAtRecord 26 = .ok (.aload_n 0, 1) := by decide +kernel
theorem dX11_looksAtRecord_27 : decode cX11_looksAtRecord 27 = .ok (.getfield 56, 3) := by decide +kernel
theorem dX11_looksAtRecord_30 : decode cX11_looksAtRecord 30 = .ok (.iload_n 2, 1) := by decide +kernel
theorem dX11_looksAtRecord_31 : decode cX11_looksAtRecord 31 = .ok (.aload_n 0, 1) := by decide +kernel
theorem dX11_looksAtRecord_32 : decode cX11_looksAtRecord 32 = .ok (.getfield 7, 3) := by decide +kernel
theorem dX11_looksAtRecord_35 : decode cX11_looksAtRecord 35 = .ok (.bipush 72, 2) := by decide +kernel
theorem dX11_looksAtRecord_37 : decode cX11_looksAtRecord 37 = .ok (.bipush 61, 2) := by decide +kernel
theorem dX11_looksAtRecord_39 : decode cX11_looksAtRecord 39 = .ok (.iload_n 1, 1) := by decide +kernel
theorem dX11_looksAtRecord_40 : decode cX11_looksAtRecord 40 = .ok (.imul, 1) := by decide +kernel
theorem dX11_looksAtRecord_41 : decode cX11_looksAtRecord 41 = .ok (.iadd, 1) := by decide +kernel
theorem dX11_looksAtRecord_42 : decode cX11_looksAtRecord 42 = .ok (.iconst 1, 1) := by decide +kernel
theorem dX11_looksAtRecord_43 : decode cX11_looksAtRecord 43 = .ok (.iadd, 1) := by decide +kernel
theorem dX11_looksAtRecord_44 : decode cX11_looksAtRecord 44 = .ok (.iload_n 2, 1) := by decide +kernel
theorem dX11_looksAtRecord_45 : decode cX11_looksAtRecord 45 = .ok (.iadd, 1) := by decide +kernel
theorem dX11_looksAtRecord_46 : decode cX11_looksAtRecord 46 = .ok (.iaload, 1) := by decide +kernel
theorem dX11_looksAtRecord_47 : decode cX11_looksAtRecord 47 = .ok (.iastore, 1) := by decide +kernel
theorem dX11_looksAtRecord_48 : decode cX11_looksAtRecord 48 = .ok (.iinc 2 1, 3) := by decide +kernel
theorem dX11_looksAtRecord_51 : decode cX11_looksAtRecord 51 = .ok (.goto (-33), 3) := by decide +kernel
theorem dX11_looksAtRecord_54 : decode cX11_looksAtRecord 54 = .ok (.return_, 1) := by decide +kernel
theorem dX11_comesBy_0 : decode cX11_comesBy 0 = .ok (.iconst 1, 1) := by decide +kernel
theorem dX11_comesBy_1 : decode cX11_comesBy 1 = .ok (.istore_n 2, 1) := by decide +kernel
theorem dX11_comesBy_2 : decode cX11_comesBy 2 = .ok (.aload_n 0, 1) := by decide +kernel
theorem dX11_comesBy_3 : decode cX11_comesBy 3 = .ok (.getfield 228, 3) := by decide +kernel
theorem dX11_comesBy_6 : decode cX11_comesBy 6 = .ok (.iconst 2, 1) := by decide +kernel
theorem dX11_comesBy_7 : decode cX11_comesBy 7 = .ok (.idiv, 1) := by decide +kernel
theorem dX11_comesBy_8 : decode cX11_comesBy 8 = .ok (.iload_n 1, 1) := by decide +kernel
theorem dX11_comesBy_9 : decode cX11_comesBy 9 = .ok (.iadd, 1) := by decide +kernel
theorem dX11_comesBy_10 : decode cX11_comesBy 10 = .ok (.istore_n 3, 1) := by decide +kernel
theorem dX11_comesBy_11 : decode cX11_comesBy 11 = .ok (.iload_n 3, 1) := by decide +kernel
theorem dX11_comesBy_12 : decode cX11_comesBy 12 = .ok (.aload_n 0, 1) := by decide +kernel
theorem dX11_comesBy_13 : decode cX11_comesBy 13 = .ok (.getfield 228, 3) := by decide +kernel
theorem dX11_comesBy_16 : decode cX11_comesBy 16 = .ok (.if_icmp .ge 36, 3) := by decide +kernel
theorem dX11_comesBy_19 : decode cX11_comesBy 19 = .ok (.iload_n 2, 1) := by decide +kernel
theorem dX11_comesBy_20 : decode cX11_comesBy 20 = .ok (.ifCond .eq 24, 3) := by decide +kernel
theorem dX11_comesBy_23 : decode cX11_comesBy 23 = .ok (.aload_n 0, 1) := by decide +kernel
theorem dX11_comesBy_24 : decode cX11_comesBy 24 = .ok (.getfield 56, 3) := by decide +kernel
theorem dX11_comesBy_27 : decode cX11_comesBy 27 = .ok (.iload_n 3, 1) := by decide +kernel
theorem dX11_comesBy_28 : decode cX11_comesBy 28 = .ok (.iaload, 1) := by decide +kernel
theorem dX11_comesBy_29 : decode cX11_comesBy 29 = .ok (.aload_n 0, 1) := by decide +kernel
theorem dX11_comesBy_30 : decode cX11_comesBy 30 = .ok (.getfield 56, 3) := by decide +kernel
theorem dX11_comesBy_33 : decode cX11_comesBy 33 = .ok (.iload_n 3, 1) := by decide +kernel
theorem dX11_comesBy_34 : decode cX11_comesBy 34 = .ok (.iload_n 1, 1) := by decide +kernel
theorem dX11_comesBy_35 : decode cX11_comesBy 35 = .ok (.isub, 1) := by decide +kernel
theorem dX11_comesBy_36 : decode cX11_comesBy 36 = .ok (.iaload, 1) := by decide +kernel
theorem dX11_comesBy_37 : decode cX11_comesBy 37 = .ok (.if_icmp .ne 7, 3) := by decide +kernel
theorem dX11_comesBy_40 : decode cX11_comesBy 40 = .ok (.iconst 1, 1) := by decide +kernel
theorem dX11_comesBy_41 : decode cX11_comesBy 41 = .ok (.goto 4, 3) := by decide +kernel
theorem dX11_comesBy_44 : decode cX11_comesBy 44 = .ok (.iconst 0, 1) := by decide +kernel
theorem dX11_comesBy_45 : decode cX11_comesBy 45 = .ok (.istore_n 2, 1) := by decide +kernel
theorem dX11_comesBy_46 : decode cX11_comesBy 46 = .ok (.iinc 3 1, 3) := by decide +kernel
theorem dX11_comesBy_49 : decode cX11_comesBy 49 = .ok (.goto (-38), 3) := by decide +kernel
theorem dX11_comesBy_52 : decode cX11_comesBy 52 = .ok (.iload_n 2, 1) := by decide +kernel
theorem dX11_comesBy_53 : decode cX11_comesBy 53 = .ok (.ireturn, 1) := by decide +kernel
theorem dX11_periodOf_0 : decode cX11_periodOf 0 = .ok (.aload_n 0, 1) := by decide +kernel
theorem dX11_periodOf_1 : decode cX11_periodOf 1 = .ok (.getfield 228, 3) := by decide +kernel
theorem dX11_periodOf_4 : decode cX11_periodOf 4 = .ok (.aload_n 0, 1) := by decide +kernel
theorem dX11_periodOf_5 : decode cX11_periodOf 5 = .ok (.getfield 228, 3) := by decide +kernel
theorem dX11_periodOf_8 : decode cX11_periodOf 8 = .ok (.iconst 2, 1) := by decide +kernel
theorem dX11_periodOf_9 : decode cX11_periodOf 9 = .ok (.idiv, 1) := by decide +kernel
theorem dX11_periodOf_10 : decode cX11_periodOf 10 = .ok (.isub, 1) := by decide +kernel
theorem dX11_periodOf_11 : decode cX11_periodOf 11 = .ok (.iconst 2, 1) := by decide +kernel
theorem dX11_periodOf_12 : decode cX11_periodOf 12 = .ok (.idiv, 1) := by decide +kernel
theorem dX11_periodOf_13 : decode cX11_periodOf 13 = .ok (.istore_n 1, 1) := by decide +kernel
theorem dX11_periodOf_14 : decode cX11_periodOf 14 = .ok (.iconst 0, 1) := by decide +kernel
theorem dX11_periodOf_15 : decode cX11_periodOf 15 = .ok (.istore_n 2, 1) := by decide +kernel
theorem dX11_periodOf_16 : decode cX11_periodOf 16 = .ok (.iload_n 1, 1) := by decide +kernel
theorem dX11_periodOf_17 : decode cX11_periodOf 17 = .ok (.bipush 8, 2) := by decide +kernel
theorem dX11_periodOf_19 : decode cX11_periodOf 19 = .ok (.if_icmp .ge 7, 3) := by decide +kernel
theorem dX11_periodOf_22 : decode cX11_periodOf 22 = .ok (.iload_n 1, 1) := by decide +kernel
theorem dX11_periodOf_23 : decode cX11_periodOf 23 = .ok (.goto 5, 3) := by decide +kernel
theorem dX11_periodOf_26 : decode cX11_periodOf 26 = .ok (.bipush 8, 2) := by decide +kernel
theorem dX11_periodOf_28 : decode cX11_periodOf 28 = .ok (.istore_n 3, 1) := by decide +kernel
theorem dX11_periodOf_29 : decode cX11_periodOf 29 = .ok (.iload_n 3, 1) := by decide +kernel
theorem dX11_periodOf_30 : decode cX11_periodOf 30 = .ok (.ifCond .le 23, 3) := by decide +kernel
theorem dX11_periodOf_33 : decode cX11_periodOf 33 = .ok (.aload_n 0, 1) := by decide +kernel
theorem dX11_periodOf_34 : decode cX11_periodOf 34 = .ok (.iload_n 3, 1) := by decide +kernel
theorem dX11_periodOf_35 : decode cX11_periodOf 35 = .ok (.invokevirtual 231, 3) := by decide +kernel
theorem dX11_periodOf_38 : decode cX11_periodOf 38 = .ok (.ifCond .eq 7, 3) := by decide +kernel
theorem dX11_periodOf_41 : decode cX11_periodOf 41 = .ok (.iload_n 3, 1) := by decide +kernel
theorem dX11_periodOf_42 : decode cX11_periodOf 42 = .ok (.goto 4, 3) := by decide +kernel
theorem dX11_periodOf_45 : decode cX11_periodOf 45 = .ok (.iload_n 2, 1) := by decide +kernel
theorem dX11_periodOf_46 : decode cX11_periodOf 46 = .ok (.istore_n 2, 1) := by decide +kernel
theorem dX11_periodOf_47 : decode cX11_periodOf 47 = .ok (.iinc 3 (-1), 3) := by decide +kernel
theorem dX11_periodOf_50 : decode cX11_periodOf 50 = .ok (.goto (-21), 3) := by decide +kernel
theorem dX11_periodOf_53 : decode cX11_periodOf 53 = .ok (.iload_n 2, 1) := by decide +kernel
theorem dX11_periodOf_54 : decode cX11_periodOf 54 = .ok (.ireturn, 1) := by decide +kernel
theorem dX11_kindOf_0 : decode cX11_kindOf 0 = .ok (.aload_n 0, 1) := by decide +kernel
theorem dX11_kindOf_1 : decode cX11_kindOf 1 = .ok (.invokevirtual 234, 3) := by decide +kernel
theorem dX11_kindOf_4 : decode cX11_kindOf 4 = .ok (.istore_n 1, 1) := by decide +kernel
theorem dX11_kindOf_5 : decode cX11_kindOf 5 = .ok (.aload_n 0, 1) := by decide +kernel
theorem dX11_kindOf_6 : decode cX11_kindOf 6 = .ok (.getfield 228, 3) := by decide +kernel
theorem dX11_kindOf_9 : decode cX11_kindOf 9 = .ok (.ifCond .ne 8, 3) := by decide +kernel
theorem dX11_kindOf_12 : decode cX11_kindOf 12 = .ok (.bipush 6, 2) := by decide +kernel
theorem dX11_kindOf_14 : decode cX11_kindOf 14 = .ok (.goto 40, 3) := by decide +kernel
theorem dX11_kindOf_17 : decode cX11_kindOf 17 = .ok (.iload_n 1, 1) := by decide +kernel
theorem dX11_kindOf_18 : decode cX11_kindOf 18 = .ok (.iconst 1, 1) := by decide +kernel
theorem dX11_kindOf_19 : decode cX11_kindOf 19 = .ok (.if_icmp .ne 7, 3) := by decide +kernel
theorem dX11_kindOf_22 : decode cX11_kindOf 22 = .ok (.iconst 1, 1) := by decide +kernel
theorem dX11_kindOf_23 : decode cX11_kindOf 23 = .ok (.goto 31, 3) := by decide +kernel
theorem dX11_kindOf_26 : decode cX11_kindOf 26 = .ok (.iload_n 1, 1) := by decide +kernel
theorem dX11_kindOf_27 : decode cX11_kindOf 27 = .ok (.iconst 2, 1) := by decide +kernel
theorem dX11_kindOf_28 : decode cX11_kindOf 28 = .ok (.if_icmp .ne 7, 3) := by decide +kernel
theorem dX11_kindOf_31 : decode cX11_kindOf 31 = .ok (.iconst 2, 1) := by decide +kernel
theorem dX11_kindOf_32 : decode cX11_kindOf 32 = .ok (.goto 22, 3) := by decide +kernel
theorem dX11_kindOf_35 : decode cX11_kindOf 35 = .ok (.iload_n 1, 1) := by decide +kernel
theorem dX11_kindOf_36 : decode cX11_kindOf 36 = .ok (.iconst 3, 1) := by decide +kernel
theorem dX11_kindOf_37 : decode cX11_kindOf 37 = .ok (.if_icmp .ne 7, 3) := by decide +kernel
theorem dX11_kindOf_40 : decode cX11_kindOf 40 = .ok (.iconst 4, 1) := by decide +kernel
theorem dX11_kindOf_41 : decode cX11_kindOf 41 = .ok (.goto 13, 3) := by decide +kernel
theorem dX11_kindOf_44 : decode cX11_kindOf 44 = .ok (.iload_n 1, 1) := by decide +kernel
theorem dX11_kindOf_45 : decode cX11_kindOf 45 = .ok (.iconst 4, 1) := by decide +kernel
theorem dX11_kindOf_46 : decode cX11_kindOf 46 = .ok (.if_icmp .ne 7, 3) := by decide +kernel
theorem dX11_kindOf_49 : decode cX11_kindOf 49 = .ok (.iconst 3, 1) := by decide +kernel
theorem dX11_kindOf_50 : decode cX11_kindOf 50 = .ok (.goto 4, 3) := by decide +kernel
theorem dX11_kindOf_53 : decode cX11_kindOf 53 = .ok (.iconst 5, 1) := by decide +kernel
theorem dX11_kindOf_54 : decode cX11_kindOf 54 = .ok (.ireturn, 1) := by decide +kernel
theorem dX11_tell_0 : decode cX11_tell 0 = .ok (.iload_n 1, 1) := by decide +kernel
theorem dX11_tell_1 : decode cX11_tell 1 = .ok (.i2l, 1) := by decide +kernel
theorem dX11_tell_2 : decode cX11_tell 2 = .ok (.lconst 1, 1) := by decide +kernel
theorem dX11_tell_3 : decode cX11_tell 3 = .ok (.ldc2_w 124, 3) := by decide +kernel
theorem dX11_tell_6 : decode cX11_tell 6 = .ok (.invokestatic 114, 3) := by decide +kernel
theorem dX11_tell_9 : decode cX11_tell 9 = .ok (.ifCond .ne 5, 3) := by decide +kernel
theorem dX11_tell_12 : decode cX11_tell 12 = .ok (.iconst (-1), 1) := by decide +kernel
theorem dX11_tell_13 : decode cX11_tell 13 = .ok (.ireturn, 1) := by decide +kernel
theorem dX11_tell_14 : decode cX11_tell 14 = .ok (.aload_n 0, 1) := by decide +kernel
theorem dX11_tell_15 : decode cX11_tell 15 = .ok (.getfield 7, 3) := by decide +kernel
theorem dX11_tell_18 : decode cX11_tell 18 = .ok (.bipush 9, 2) := by decide +kernel
theorem dX11_tell_20 : decode cX11_tell 20 = .ok (.iaload, 1) := by decide +kernel
theorem dX11_tell_21 : decode cX11_tell 21 = .ok (.bipush 60, 2) := by decide +kernel
theorem dX11_tell_23 : decode cX11_tell 23 = .ok (.if_icmp .ne 6, 3) := by decide +kernel
theorem dX11_tell_26 : decode cX11_tell 26 = .ok (.bipush (-2), 2) := by decide +kernel
theorem dX11_tell_28 : decode cX11_tell 28 = .ok (.ireturn, 1) := by decide +kernel
theorem dX11_tell_29 : decode cX11_tell 29 = .ok (.aload_n 0, 1) := by decide +kernel
theorem dX11_tell_30 : decode cX11_tell 30 = .ok (.getfield 7, 3) := by decide +kernel
theorem dX11_tell_33 : decode cX11_tell 33 = .ok (.bipush 12, 2) := by decide +kernel
theorem dX11_tell_35 : decode cX11_tell 35 = .ok (.aload_n 0, 1) := by decide +kernel
theorem dX11_tell_36 : decode cX11_tell 36 = .ok (.getfield 7, 3) := by decide +kernel
theorem dX11_tell_39 : decode cX11_tell 39 = .ok (.bipush 9, 2) := by decide +kernel
theorem dX11_tell_41 : decode cX11_tell 41 = .ok (.iaload, 1) := by decide +kernel
theorem dX11_tell_42 : decode cX11_tell 42 = .ok (.iadd, 1) := by decide +kernel
theorem dX11_tell_43 : decode cX11_tell 43 = .ok (.iload_n 1, 1) := by decide +kernel
theorem dX11_tell_44 : decode cX11_tell 44 = .ok (.iastore, 1) := by decide +kernel
theorem dX11_tell_45 : decode cX11_tell 45 = .ok (.aload_n 0, 1) := by decide +kernel
theorem dX11_tell_46 : decode cX11_tell 46 = .ok (.getfield 7, 3) := by decide +kernel
theorem dX11_tell_49 : decode cX11_tell 49 = .ok (.bipush 9, 2) := by decide +kernel
theorem dX11_tell_51 : decode cX11_tell 51 = .ok (.dup2, 1) := by decide +kernel
theorem dX11_tell_52 : decode cX11_tell 52 = .ok (.iaload, 1) := by decide +kernel
theorem dX11_tell_53 : decode cX11_tell 53 = .ok (.iconst 1, 1) := by decide +kernel
theorem dX11_tell_54 : decode cX11_tell 54 = .ok (.iadd, 1) := by decide +kernel
theorem dX11_tell_55 : decode cX11_tell 55 = .ok (.iastore, 1) := by decide +kernel
theorem dX11_tell_56 : decode cX11_tell 56 = .ok (.aload_n 0, 1) := by decide +kernel
theorem dX11_tell_57 : decode cX11_tell 57 = .ok (.getfield 7, 3) := by decide +kernel
theorem dX11_tell_60 : decode cX11_tell 60 = .ok (.bipush 9, 2) := by decide +kernel
theorem dX11_tell_62 : decode cX11_tell 62 = .ok (.iaload, 1) := by decide +kernel
theorem dX11_tell_63 : decode cX11_tell 63 = .ok (.ireturn, 1) := by decide +kernel
theorem dX11_clear_0 : decode cX11_clear 0 = .ok (.aload_n 0, 1) := by decide +kernel
theorem dX11_clear_1 : decode cX11_clear 1 = .ok (.getfield 7, 3) := by decide +kernel
theorem dX11_clear_4 : decode cX11_clear 4 = .ok (.bipush 9, 2) := by decide +kernel
theorem dX11_clear_6 : decode cX11_clear 6 = .ok (.iaload, 1) := by decide +kernel
theorem dX11_clear_7 : decode cX11_clear 7 = .ok (.istore_n 1, 1) := by decide +kernel
theorem dX11_clear_8 : decode cX11_clear 8 = .ok (.aload_n 0, 1) := by decide +kernel
theorem dX11_clear_9 : decode cX11_clear 9 = .ok (.getfield 7, 3) := by decide +kernel
theorem dX11_clear_12 : decode cX11_clear 12 = .ok (.bipush 9, 2) := by decide +kernel
theorem dX11_clear_14 : decode cX11_clear 14 = .ok (.iconst 0, 1) := by decide +kernel
theorem dX11_clear_15 : decode cX11_clear 15 = .ok (.iastore, 1) := by decide +kernel
theorem dX11_clear_16 : decode cX11_clear 16 = .ok (.iload_n 1, 1) := by decide +kernel
theorem dX11_clear_17 : decode cX11_clear 17 = .ok (.ireturn, 1) := by decide +kernel
theorem dX11_time_0 : decode cX11_time 0 = .ok (.iload_n 1, 1) := by decide +kernel
theorem dX11_time_1 : decode cX11_time 1 = .ok (.i2l, 1) := by decide +kernel
theorem dX11_time_2 : decode cX11_time 2 = .ok (.lconst 0, 1) := by decide +kernel
theorem dX11_time_3 : decode cX11_time 3 = .ok (.aload_n 0, 1) := by decide +kernel
theorem dX11_time_4 : decode cX11_time 4 = .ok (.getfield 7, 3) := by decide +kernel
theorem dX11_time_7 : decode cX11_time 7 = .ok (.bipush 9, 2) := by decide +kernel
theorem dX11_time_9 : decode cX11_time 9 = .ok (.iaload, 1) := by decide +kernel
theorem dX11_time_10 : decode cX11_time 10 = .ok (.iconst 1, 1) := by decide +kernel
theorem dX11_time_11 : decode cX11_time 11 = .ok (.isub, 1) := by decide +kernel
theorem dX11_time_12 : decode cX11_time 12 = .ok (.i2l, 1) := by decide +kernel
theorem dX11_time_13 : decode cX11_time 13 = .ok (.invokestatic 114, 3) := by decide +kernel
theorem dX11_time_16 : decode cX11_time 16 = .ok (.ifCond .eq 15, 3) := by decide +kernel
theorem dX11_time_19 : decode cX11_time 19 = .ok (.aload_n 0, 1) := by decide +kernel
theorem dX11_time_20 : decode cX11_time 20 = .ok (.getfield 7, 3) := by decide +kernel
theorem dX11_time_23 : decode cX11_time 23 = .ok (.bipush 12, 2) := by decide +kernel
theorem dX11_time_25 : decode cX11_time 25 = .ok (.iload_n 1, 1) := by decide +kernel
theorem dX11_time_26 : decode cX11_time 26 = .ok (.iadd, 1) := by decide +kernel
theorem dX11_time_27 : decode cX11_time 27 = .ok (.iaload, 1) := by decide +kernel
theorem dX11_time_28 : decode cX11_time 28 = .ok (.goto 5, 3) := by decide +kernel
theorem dX11_time_31 : decode cX11_time 31 = .ok (.bipush (-3), 2) := by decide +kernel
theorem dX11_time_33 : decode cX11_time 33 = .ok (.ireturn, 1) := by decide +kernel
theorem dX11_period_0 : decode cX11_period 0 = .ok (.aload_n 0, 1) := by decide +kernel
theorem dX11_period_1 : decode cX11_period 1 = .ok (.invokevirtual 237, 3) := by decide +kernel
theorem dX11_period_4 : decode cX11_period 4 = .ok (.aload_n 0, 1) := by decide +kernel
theorem dX11_period_5 : decode cX11_period 5 = .ok (.invokevirtual 234, 3) := by decide +kernel
theorem dX11_period_8 : decode cX11_period 8 = .ok (.ireturn, 1) := by decide +kernel
theorem dX11_kind_0 : decode cX11_kind 0 = .ok (.aload_n 0, 1) := by decide +kernel
theorem dX11_kind_1 : decode cX11_kind 1 = .ok (.invokevirtual 237, 3) := by decide +kernel
theorem dX11_kind_4 : decode cX11_kind 4 = .ok (.aload_n 0, 1) := by decide +kernel
theorem dX11_kind_5 : decode cX11_kind 5 = .ok (.invokevirtual 240, 3) := by decide +kernel
theorem dX11_kind_8 : decode cX11_kind 8 = .ok (.ireturn, 1) := by decide +kernel
theorem dX11_off_0 : decode cX11_off 0 = .ok (.iload_n 0, 1) := by decide +kernel
theorem dX11_off_1 : decode cX11_off 1 = .ok (.iload_n 1, 1) := by decide +kernel
theorem dX11_off_2 : decode cX11_off 2 = .ok (.if_icmp .ge 9, 3) := by decide +kernel
theorem dX11_off_5 : decode cX11_off 5 = .ok (.iload_n 1, 1) := by decide +kernel
theorem dX11_off_6 : decode cX11_off 6 = .ok (.iload_n 0, 1) := by decide +kernel
theorem dX11_off_7 : decode cX11_off 7 = .ok (.isub, 1) := by decide +kernel
theorem dX11_off_8 : decode cX11_off 8 = .ok (.goto 6, 3) := by decide +kernel
theorem dX11_off_11 : decode cX11_off 11 = .ok (.iload_n 0, 1) := by decide +kernel
theorem dX11_off_12 : decode cX11_off 12 = .ok (.iload_n 1, 1) := by decide +kernel
theorem dX11_off_13 : decode cX11_off 13 = .ok (.isub, 1) := by decide +kernel
theorem dX11_off_14 : decode cX11_off 14 = .ok (.ireturn, 1) := by decide +kernel
theorem dX11_isOrder_0 : decode cX11_isOrder 0 = .ok (.iconst 1, 1) := by decide +kernel
theorem dX11_isOrder_1 : decode cX11_isOrder 1 = .ok (.istore_n 2, 1) := by decide +kernel
theorem dX11_isOrder_2 : decode cX11_isOrder 2 = .ok (.iconst 0, 1) := by decide +kernel
theorem dX11_isOrder_3 : decode cX11_isOrder 3 = .ok (.istore_n 3, 1) := by decide +kernel
theorem dX11_isOrder_4 : decode cX11_isOrder 4 = .ok (.iload_n 3, 1) := by decide +kernel
theorem dX11_isOrder_5 : decode cX11_isOrder 5 = .ok (.iload_n 1, 1) := by decide +kernel
theorem dX11_isOrder_6 : decode cX11_isOrder 6 = .ok (.iadd, 1) := by decide +kernel
theorem dX11_isOrder_7 : decode cX11_isOrder 7 = .ok (.aload_n 0, 1) := by decide +kernel
theorem dX11_isOrder_8 : decode cX11_isOrder 8 = .ok (.getfield 228, 3) := by decide +kernel
theorem dX11_isOrder_11 : decode cX11_isOrder 11 = .ok (.if_icmp .ge 97, 3) := by decide +kernel
theorem dX11_isOrder_14 : decode cX11_isOrder 14 = .ok (.iconst 0, 1) := by decide +kernel
theorem dX11_isOrder_15 : decode cX11_isOrder 15 = .ok (.istore 4, 2) := by decide +kernel
theorem dX11_isOrder_17 : decode cX11_isOrder 17 = .ok (.iload 4, 2) := by decide +kernel
theorem dX11_isOrder_19 : decode cX11_isOrder 19 = .ok (.iload_n 3, 1) := by decide +kernel
theorem dX11_isOrder_20 : decode cX11_isOrder 20 = .ok (.if_icmp .ge 82, 3) := by decide +kernel
theorem dX11_isOrder_23 : decode cX11_isOrder 23 = .ok (.iconst 0, 1) := by decide +kernel
theorem dX11_isOrder_24 : decode cX11_isOrder 24 = .ok (.istore 5, 2) := by decide +kernel
theorem dX11_isOrder_26 : decode cX11_isOrder 26 = .ok (.iload 5, 2) := by decide +kernel
theorem dX11_isOrder_28 : decode cX11_isOrder 28 = .ok (.iload_n 1, 1) := by decide +kernel
theorem dX11_isOrder_29 : decode cX11_isOrder 29 = .ok (.if_icmp .ge 31, 3) := by decide +kernel
theorem dX11_isOrder_32 : decode cX11_isOrder 32 = .ok (.aload_n 0, 1) := by decide +kernel
theorem dX11_isOrder_33 : decode cX11_isOrder 33 = .ok (.getfield 56, 3) := by decide +kernel
theorem dX11_isOrder_36 : decode cX11_isOrder 36 = .ok (.iload_n 3, 1) := by decide +kernel
theorem dX11_isOrder_37 : decode cX11_isOrder 37 = .ok (.iload 5, 2) := by decide +kernel
theorem dX11_isOrder_39 : decode cX11_isOrder 39 = .ok (.iadd, 1) := by decide +kernel
theorem dX11_isOrder_40 : decode cX11_isOrder 40 = .ok (.iaload, 1) := by decide +kernel
theorem dX11_isOrder_41 : decode cX11_isOrder 41 = .ok (.aload_n 0, 1) := by decide +kernel
theorem dX11_isOrder_42 : decode cX11_isOrder 42 = .ok (.getfield 56, 3) := by decide +kernel
theorem dX11_isOrder_45 : decode cX11_isOrder 45 = .ok (.iload 4, 2) := by decide +kernel
theorem dX11_isOrder_47 : decode cX11_isOrder 47 = .ok (.iload 5, 2) := by decide +kernel
theorem dX11_isOrder_49 : decode cX11_isOrder 49 = .ok (.iadd, 1) := by decide +kernel
theorem dX11_isOrder_50 : decode cX11_isOrder 50 = .ok (.iaload, 1) := by decide +kernel
theorem dX11_isOrder_51 : decode cX11_isOrder 51 = .ok (.if_icmp .ne 9, 3) := by decide +kernel
theorem dX11_isOrder_54 : decode cX11_isOrder 54 = .ok (.iinc 5 1, 3) := by decide +kernel
theorem dX11_isOrder_57 : decode cX11_isOrder 57 = .ok (.goto (-31), 3) := by decide +kernel
theorem dX11_isOrder_60 : decode cX11_isOrder 60 = .ok (.iload_n 2, 1) := by decide +kernel
theorem dX11_isOrder_61 : decode cX11_isOrder 61 = .ok (.ifCond .eq 33, 3) := by decide +kernel
theorem dX11_isOrder_64 : decode cX11_isOrder 64 = .ok (.iload 5, 2) := by decide +kernel
theorem dX11_isOrder_66 : decode cX11_isOrder 66 = .ok (.iload_n 1, 1) := by decide +kernel
theorem dX11_isOrder_67 : decode cX11_isOrder 67 = .ok (.if_icmp .lt 23, 3) := by decide +kernel
theorem dX11_isOrder_70 : decode cX11_isOrder 70 = .ok (.aload_n 0, 1) := by decide +kernel
theorem dX11_isOrder_71 : decode cX11_isOrder 71 = .ok (.getfield 56, 3) := by decide +kernel
theorem dX11_isOrder_74 : decode cX11_isOrder 74 = .ok (.iload_n 3, 1) := by decide +kernel
theorem dX11_isOrder_75 : decode cX11_isOrder 75 = .ok (.iload_n 1, 1) := by decide +kernel
theorem dX11_isOrder_76 : decode cX11_isOrder 76 = .ok (.iadd, 1) := by decide +kernel
theorem dX11_isOrder_77 : decode cX11_isOrder 77 = .ok (.iaload, 1) := by decide +kernel
theorem dX11_isOrder_78 : decode cX11_isOrder 78 = .ok (.aload_n 0, 1) := by decide +kernel
theorem dX11_isOrder_79 : decode cX11_isOrder 79 = .ok (.getfield 56, 3) := by decide +kernel
theorem dX11_isOrder_82 : decode cX11_isOrder 82 = .ok (.iload 4, 2) := by decide +kernel
theorem dX11_isOrder_84 : decode cX11_isOrder 84 = .ok (.iload_n 1, 1) := by decide +kernel
theorem dX11_isOrder_85 : decode cX11_isOrder 85 = .ok (.iadd, 1) := by decide +kernel
theorem dX11_isOrder_86 : decode cX11_isOrder 86 = .ok (.iaload, 1) := by decide +kernel
theorem dX11_isOrder_87 : decode cX11_isOrder 87 = .ok (.if_icmp .ne 7, 3) := by decide +kernel
theorem dX11_isOrder_90 : decode cX11_isOrder 90 = .ok (.iconst 1, 1) := by decide +kernel
theorem dX11_isOrder_91 : decode cX11_isOrder 91 = .ok (.goto 4, 3) := by decide +kernel
theorem dX11_isOrder_94 : decode cX11_isOrder 94 = .ok (.iconst 0, 1) := by decide +kernel
theorem dX11_isOrder_95 : decode cX11_isOrder 95 = .ok (.istore_n 2, 1) := by decide +kernel
theorem dX11_isOrder_96 : decode cX11_isOrder 96 = .ok (.iinc 4 1, 3) := by decide +kernel
theorem dX11_isOrder_99 : decode cX11_isOrder 99 = .ok (.goto (-82), 3) := by decide +kernel
theorem dX11_isOrder_102 : decode cX11_isOrder 102 = .ok (.iinc 3 1, 3) := by decide +kernel
theorem dX11_isOrder_105 : decode cX11_isOrder 105 = .ok (.goto (-101), 3) := by decide +kernel
theorem dX11_isOrder_108 : decode cX11_isOrder 108 = .ok (.iload_n 2, 1) := by decide +kernel
theorem dX11_isOrder_109 : decode cX11_isOrder 109 = .ok (.ireturn, 1) := by decide +kernel
theorem dX11_order_0 : decode cX11_order 0 = .ok (.aload_n 0, 1) := by decide +kernel
theorem dX11_order_1 : decode cX11_order 1 = .ok (.invokevirtual 237, 3) := by decide +kernel
theorem dX11_order_4 : decode cX11_order 4 = .ok (.iconst 0, 1) := by decide +kernel
theorem dX11_order_5 : decode cX11_order 5 = .ok (.istore_n 1, 1) := by decide +kernel
theorem dX11_order_6 : decode cX11_order 6 = .ok (.iconst 4, 1) := by decide +kernel
theorem dX11_order_7 : decode cX11_order 7 = .ok (.istore_n 2, 1) := by decide +kernel
theorem dX11_order_8 : decode cX11_order 8 = .ok (.iload_n 2, 1) := by decide +kernel
theorem dX11_order_9 : decode cX11_order 9 = .ok (.ifCond .le 23, 3) := by decide +kernel
theorem dX11_order_12 : decode cX11_order 12 = .ok (.aload_n 0, 1) := by decide +kernel
theorem dX11_order_13 : decode cX11_order 13 = .ok (.iload_n 2, 1) := by decide +kernel
theorem dX11_order_14 : decode cX11_order 14 = .ok (.invokevirtual 243, 3) := by decide +kernel
theorem dX11_order_17 : decode cX11_order 17 = .ok (.ifCond .eq 7, 3) := by decide +kernel
theorem dX11_order_20 : decode cX11_order 20 = .ok (.iload_n 2, 1) := by decide +kernel
theorem dX11_order_21 : decode cX11_order 21 = .ok (.goto 4, 3) := by decide +kernel
theorem dX11_order_24 : decode cX11_order 24 = .ok (.iload_n 1, 1) := by decide +kernel
theorem dX11_order_25 : decode cX11_order 25 = .ok (.istore_n 1, 1) := by decide +kernel
theorem dX11_order_26 : decode cX11_order 26 = .ok (.iinc 2 (-1), 3) := by decide +kernel
theorem dX11_order_29 : decode cX11_order 29 = .ok (.goto (-21), 3) := by decide +kernel
theorem dX11_order_32 : decode cX11_order 32 = .ok (.iload_n 1, 1) := by decide +kernel
theorem dX11_order_33 : decode cX11_order 33 = .ok (.ireturn, 1) := by decide +kernel
theorem dX11_toldFrom_0 : decode cX11_toldFrom 0 = .ok (.aload_n 0, 1) := by decide +kernel
theorem dX11_toldFrom_1 : decode cX11_toldFrom 1 = .ok (.getfield 56, 3) := by decide +kernel
theorem dX11_toldFrom_4 : decode cX11_toldFrom 4 = .ok (.iload_n 1, 1) := by decide +kernel
theorem dX11_toldFrom_5 : decode cX11_toldFrom 5 = .ok (.iaload, 1) := by decide +kernel
theorem dX11_toldFrom_6 : decode cX11_toldFrom 6 = .ok (.istore_n 3, 1) := by decide +kernel
theorem dX11_toldFrom_7 : decode cX11_toldFrom 7 = .ok (.iconst 0, 1) := by decide +kernel
theorem dX11_toldFrom_8 : decode cX11_toldFrom 8 = .ok (.istore 4, 2) := by decide +kernel
theorem dX11_toldFrom_10 : decode cX11_toldFrom 10 = .ok (.iload 4, 2) := by decide +kernel
theorem dX11_toldFrom_12 : decode cX11_toldFrom 12 = .ok (.iload_n 2, 1) := by decide +kernel
theorem dX11_toldFrom_13 : decode cX11_toldFrom 13 = .ok (.if_icmp .ge 71, 3) := by decide +kernel
theorem dX11_toldFrom_16 : decode cX11_toldFrom 16 = .ok (.iconst 0, 1) := by decide +kernel
theorem dX11_toldFrom_17 : decode cX11_toldFrom 17 = .ok (.istore 5, 2) := by decide +kernel
theorem dX11_toldFrom_19 : decode cX11_toldFrom 19 = .ok (.iconst 1, 1) := by decide +kernel
theorem dX11_toldFrom_20 : decode cX11_toldFrom 20 = .ok (.istore 6, 2) := by decide +kernel
theorem dX11_toldFrom_22 : decode cX11_toldFrom 22 = .ok (.iload 6, 2) := by decide +kernel
theorem dX11_toldFrom_24 : decode cX11_toldFrom 24 = .ok (.iload_n 1, 1) := by decide +kernel
theorem dX11_toldFrom_25 : decode cX11_toldFrom 25 = .ok (.if_icmp .ge 43, 3) := by decide +kernel
theorem dX11_toldFrom_28 : decode cX11_toldFrom 28 = .ok (.aload_n 0, 1) := by decide +kernel
theorem dX11_toldFrom_29 : decode cX11_toldFrom 29 = .ok (.getfield 56, 3) := by decide +kernel
theorem dX11_toldFrom_32 : decode cX11_toldFrom 32 = .ok (.iload 6, 2) := by decide +kernel
theorem dX11_toldFrom_34 : decode cX11_toldFrom 34 = .ok (.iaload, 1) := by decide +kernel
theorem dX11_toldFrom_35 : decode cX11_toldFrom 35 = .ok (.iload_n 3, 1) := by decide +kernel
theorem dX11_toldFrom_36 : decode cX11_toldFrom 36 = .ok (.invokestatic 246, 3) := by decide +kernel
theorem dX11_toldFrom_39 : decode cX11_toldFrom 39 = .ok (.aload_n 0, 1) := by decide +kernel
theorem dX11_toldFrom_40 : decode cX11_toldFrom 40 = .ok (.getfield 56, 3) := by decide +kernel
theorem dX11_toldFrom_43 : decode cX11_toldFrom 43 = .ok (.iload 5, 2) := by decide +kernel
theorem dX11_toldFrom_45 : decode cX11_toldFrom 45 = .ok (.iaload, 1) := by decide +kernel
theorem dX11_toldFrom_46 : decode cX11_toldFrom 46 = .ok (.iload_n 3, 1) := by decide +kernel
theorem dX11_toldFrom_47 : decode cX11_toldFrom 47 = .ok (.invokestatic 246, 3) := by decide +kernel
theorem dX11_toldFrom_50 : decode cX11_toldFrom 50 = .ok (.if_icmp .gt 8, 3) := by decide +kernel
theorem dX11_toldFrom_53 : decode cX11_toldFrom 53 = .ok (.iload 6, 2) := by decide +kernel
theorem dX11_toldFrom_55 : decode cX11_toldFrom 55 = .ok (.goto 5, 3) := by decide +kernel
theorem dX11_toldFrom_58 : decode cX11_toldFrom 58 = .ok (.iload 5, 2) := by decide +kernel
theorem dX11_toldFrom_60 : decode cX11_toldFrom 60 = .ok (.istore 5, 2) := by decide +kernel
theorem dX11_toldFrom_62 : decode cX11_toldFrom 62 = .ok (.iinc 6 1, 3) := by decide +kernel
theorem dX11_toldFrom_65 : decode cX11_toldFrom 65 = .ok (.goto (-43), 3) := by decide +kernel
theorem dX11_toldFrom_68 : decode cX11_toldFrom 68 = .ok (.aload_n 0, 1) := by decide +kernel
theorem dX11_toldFrom_69 : decode cX11_toldFrom 69 = .ok (.getfield 56, 3) := by decide +kernel
theorem dX11_toldFrom_72 : decode cX11_toldFrom 72 = .ok (.iload 5, 2) := by decide +kernel
theorem dX11_toldFrom_74 : decode cX11_toldFrom 74 = .ok (.iconst 1, 1) := by decide +kernel
theorem dX11_toldFrom_75 : decode cX11_toldFrom 75 = .ok (.iadd, 1) := by decide +kernel
theorem dX11_toldFrom_76 : decode cX11_toldFrom 76 = .ok (.iaload, 1) := by decide +kernel
theorem dX11_toldFrom_77 : decode cX11_toldFrom 77 = .ok (.istore_n 3, 1) := by decide +kernel
theorem dX11_toldFrom_78 : decode cX11_toldFrom 78 = .ok (.iinc 4 1, 3) := by decide +kernel
theorem dX11_toldFrom_81 : decode cX11_toldFrom 81 = .ok (.goto (-71), 3) := by decide +kernel
theorem dX11_toldFrom_84 : decode cX11_toldFrom 84 = .ok (.iload_n 3, 1) := by decide +kernel
theorem dX11_toldFrom_85 : decode cX11_toldFrom 85 = .ok (.ireturn, 1) := by decide +kernel
theorem dX11_hits_0 : decode cX11_hits 0 = .ok (.iload_n 1, 1) := by decide +kernel
theorem dX11_hits_1 : decode cX11_hits 1 = .ok (.i2l, 1) := by decide +kernel
theorem dX11_hits_2 : decode cX11_hits 2 = .ok (.lconst 1, 1) := by decide +kernel
theorem dX11_hits_3 : decode cX11_hits 3 = .ok (.ldc2_w 250, 3) := by decide +kernel
theorem dX11_hits_6 : decode cX11_hits 6 = .ok (.invokestatic 114, 3) := by decide +kernel
theorem dX11_hits_9 : decode cX11_hits 9 = .ok (.ifCond .eq 15, 3) := by decide +kernel
theorem dX11_hits_12 : decode cX11_hits 12 = .ok (.iload_n 2, 1) := by decide +kernel
theorem dX11_hits_13 : decode cX11_hits 13 = .ok (.i2l, 1) := by decide +kernel
theorem dX11_hits_14 : decode cX11_hits 14 = .ok (.lconst 0, 1) := by decide +kernel
theorem dX11_hits_15 : decode cX11_hits 15 = .ok (.ldc2_w 124, 3) := by decide +kernel
theorem dX11_hits_18 : decode cX11_hits 18 = .ok (.invokestatic 114, 3) := by decide +kernel
theorem dX11_hits_21 : decode cX11_hits 21 = .ok (.ifCond .ne 5, 3) := by decide +kernel
theorem dX11_hits_24 : decode cX11_hits 24 = .ok (.iconst (-1), 1) := by decide +kernel
theorem dX11_hits_25 : decode cX11_hits 25 = .ok (.ireturn, 1) := by decide +kernel
theorem dX11_hits_26 : decode cX11_hits 26 = .ok (.aload_n 0, 1) := by decide +kernel
theorem dX11_hits_27 : decode cX11_hits 27 = .ok (.invokevirtual 237, 3) := by decide +kernel
theorem dX11_hits_30 : decode cX11_hits 30 = .ok (.iconst 0, 1) := by decide +kernel
theorem dX11_hits_31 : decode cX11_hits 31 = .ok (.istore_n 3, 1) := by decide +kernel
theorem dX11_hits_32 : decode cX11_hits 32 = .ok (.iconst 1, 1) := by decide +kernel
theorem dX11_hits_33 : decode cX11_hits 33 = .ok (.istore 4, 2) := by decide +kernel
theorem dX11_hits_35 : decode cX11_hits 35 = .ok (.iload 4, 2) := by decide +kernel
theorem dX11_hits_37 : decode cX11_hits 37 = .ok (.iload_n 1, 1) := by decide +kernel
theorem dX11_hits_38 : decode cX11_hits 38 = .ok (.iadd, 1) := by decide +kernel
theorem dX11_hits_39 : decode cX11_hits 39 = .ok (.aload_n 0, 1) := by decide +kernel
theorem dX11_hits_40 : decode cX11_hits 40 = .ok (.getfield 228, 3) := by decide +kernel
theorem dX11_hits_43 : decode cX11_hits 43 = .ok (.if_icmp .ge 40, 3) := by decide +kernel
theorem dX11_hits_46 : decode cX11_hits 46 = .ok (.iload_n 3, 1) := by decide +kernel
theorem dX11_hits_47 : decode cX11_hits 47 = .ok (.aload_n 0, 1) := by decide +kernel
theorem dX11_hits_48 : decode cX11_hits 48 = .ok (.iload 4, 2) := by decide +kernel
theorem dX11_hits_50 : decode cX11_hits 50 = .ok (.iload_n 1, 1) := by decide +kernel
theorem dX11_hits_51 : decode cX11_hits 51 = .ok (.invokevirtual 252, 3) := by decide +kernel
theorem dX11_hits_54 : decode cX11_hits 54 = .ok (.aload_n 0, 1) := by decide +kernel
theorem dX11_hits_55 : decode cX11_hits 55 = .ok (.getfield 56, 3) := by decide +kernel
theorem dX11_hits_58 : decode cX11_hits 58 = .ok (.iload 4, 2) := by decide +kernel
theorem dX11_hits_60 : decode cX11_hits 60 = .ok (.iload_n 1, 1) := by decide +kernel
theorem dX11_hits_61 : decode cX11_hits 61 = .ok (.iadd, 1) := by decide +kernel
theorem dX11_hits_62 : decode cX11_hits 62 = .ok (.iaload, 1) := by decide +kernel
theorem dX11_hits_63 : decode cX11_hits 63 = .ok (.invokestatic 246, 3) := by decide +kernel
theorem dX11_hits_66 : decode cX11_hits 66 = .ok (.iload_n 2, 1) := by decide +kernel
theorem dX11_hits_67 : decode cX11_hits 67 = .ok (.if_icmp .gt 7, 3) := by decide +kernel
theorem dX11_hits_70 : decode cX11_hits 70 = .ok (.iconst 1, 1) := by decide +kernel
theorem dX11_hits_71 : decode cX11_hits 71 = .ok (.goto 4, 3) := by decide +kernel
theorem dX11_hits_74 : decode cX11_hits 74 = .ok (.iconst 0, 1) := by decide +kernel
theorem dX11_hits_75 : decode cX11_hits 75 = .ok (.iadd, 1) := by decide +kernel
theorem dX11_hits_76 : decode cX11_hits 76 = .ok (.istore_n 3, 1) := by decide +kernel
theorem dX11_hits_77 : decode cX11_hits 77 = .ok (.iinc 4 1, 3) := by decide +kernel
theorem dX11_hits_80 : decode cX11_hits 80 = .ok (.goto (-45), 3) := by decide +kernel
theorem dX11_hits_83 : decode cX11_hits 83 = .ok (.iload_n 3, 1) := by decide +kernel
theorem dX11_hits_84 : decode cX11_hits 84 = .ok (.ireturn, 1) := by decide +kernel
theorem dX11_ahead_0 : decode cX11_ahead 0 = .ok (.iload_n 1, 1) := by decide +kernel
theorem dX11_ahead_1 : decode cX11_ahead 1 = .ok (.i2l, 1) := by decide +kernel
theorem dX11_ahead_2 : decode cX11_ahead 2 = .ok (.lconst 1, 1) := by decide +kernel
theorem dX11_ahead_3 : decode cX11_ahead 3 = .ok (.ldc2_w 250, 3) := by decide +kernel
theorem dX11_ahead_6 : decode cX11_ahead 6 = .ok (.invokestatic 114, 3) := by decide +kernel
theorem dX11_ahead_9 : decode cX11_ahead 9 = .ok (.ifCond .ne 5, 3) := by decide +kernel
theorem dX11_ahead_12 : decode cX11_ahead 12 = .ok (.iconst (-1), 1) := by decide +kernel
theorem dX11_ahead_13 : decode cX11_ahead 13 = .ok (.ireturn, 1) := by decide +kernel
theorem dX11_ahead_14 : decode cX11_ahead 14 = .ok (.aload_n 0, 1) := by decide +kernel
theorem dX11_ahead_15 : decode cX11_ahead 15 = .ok (.invokevirtual 237, 3) := by decide +kernel
theorem dX11_ahead_18 : decode cX11_ahead 18 = .ok (.aload_n 0, 1) := by decide +kernel
theorem dX11_ahead_19 : decode cX11_ahead 19 = .ok (.getfield 228, 3) := by decide +kernel
theorem dX11_ahead_22 : decode cX11_ahead 22 = .ok (.iconst 2, 1) := by decide +kernel
theorem dX11_ahead_23 : decode cX11_ahead 23 = .ok (.if_icmp .ge 8, 3) := by decide +kernel
theorem dX11_ahead_26 : decode cX11_ahead 26 = .ok (.bipush (-3), 2) := by decide +kernel
theorem dX11_ahead_28 : decode cX11_ahead 28 = .ok (.goto 14, 3) := by decide +kernel
theorem dX11_ahead_31 : decode cX11_ahead 31 = .ok (.aload_n 0, 1) := by decide +kernel
theorem dX11_ahead_32 : decode cX11_ahead 32 = .ok (.aload_n 0, 1) := by decide +kernel
theorem dX11_ahead_33 : decode cX11_ahead 33 = .ok (.getfield 228, 3) := by decide +kernel
theorem dX11_ahead_36 : decode cX11_ahead 36 = .ok (.iconst 1, 1) := by decide +kernel
theorem dX11_ahead_37 : decode cX11_ahead 37 = .ok (.isub, 1) := by decide +kernel
theorem dX11_ahead_38 : decode cX11_ahead 38 = .ok (.iload_n 1, 1) := by decide +kernel
theorem dX11_ahead_39 : decode cX11_ahead 39 = .ok (.invokevirtual 252, 3) := by decide +kernel
theorem dX11_ahead_42 : decode cX11_ahead 42 = .ok (.ireturn, 1) := by decide +kernel
theorem dX11_divisor_0 : decode cX11_divisor 0 = .ok (.iload_n 0, 1) := by decide +kernel
theorem dX11_divisor_1 : decode cX11_divisor 1 = .ok (.istore_n 2, 1) := by decide +kernel
theorem dX11_divisor_2 : decode cX11_divisor 2 = .ok (.iload_n 1, 1) := by decide +kernel
theorem dX11_divisor_3 : decode cX11_divisor 3 = .ok (.istore_n 3, 1) := by decide +kernel
theorem dX11_divisor_4 : decode cX11_divisor 4 = .ok (.iload_n 3, 1) := by decide +kernel
theorem dX11_divisor_5 : decode cX11_divisor 5 = .ok (.ifCond .le 16, 3) := by decide +kernel
theorem dX11_divisor_8 : decode cX11_divisor 8 = .ok (.iload_n 2, 1) := by decide +kernel
theorem dX11_divisor_9 : decode cX11_divisor 9 = .ok (.iload_n 3, 1) := by decide +kernel
theorem dX11_divisor_10 : decode cX11_divisor 10 = .ok (.irem, 1) := by decide +kernel
theorem dX11_divisor_11 : decode cX11_divisor 11 = .ok (.istore 4, 2) := by decide +kernel
theorem dX11_divisor_13 : decode cX11_divisor 13 = .ok (.iload_n 3, 1) := by decide +kernel
theorem dX11_divisor_14 : decode cX11_divisor 14 = .ok (.istore_n 2, 1) := by decide +kernel
theorem dX11_divisor_15 : decode cX11_divisor 15 = .ok (.iload 4, 2) := by decide +kernel
theorem dX11_divisor_17 : decode cX11_divisor 17 = .ok (.istore_n 3, 1) := by decide +kernel
theorem dX11_divisor_18 : decode cX11_divisor 18 = .ok (.goto (-14), 3) := by decide +kernel
theorem dX11_divisor_21 : decode cX11_divisor 21 = .ok (.iload_n 2, 1) := by decide +kernel
theorem dX11_divisor_22 : decode cX11_divisor 22 = .ok (.ireturn, 1) := by decide +kernel
theorem dX11_rule_0 : decode cX11_rule 0 = .ok (.iload_n 1, 1) := by decide +kernel
theorem dX11_rule_1 : decode cX11_rule 1 = .ok (.i2l, 1) := by decide +kernel
theorem dX11_rule_2 : decode cX11_rule 2 = .ok (.lconst 0, 1) := by decide +kernel
theorem dX11_rule_3 : decode cX11_rule 3 = .ok (.ldc2_w 124, 3) := by decide +kernel
theorem dX11_rule_6 : decode cX11_rule 6 = .ok (.invokestatic 114, 3) := by decide +kernel
theorem dX11_rule_9 : decode cX11_rule 9 = .ok (.ifCond .eq 13, 3) := by decide +kernel
theorem dX11_rule_12 : decode cX11_rule 12 = .ok (.iload_n 2, 1) := by decide +kernel
theorem dX11_rule_13 : decode cX11_rule 13 = .ok (.i2l, 1) := by decide +kernel
theorem dX11_rule_14 : decode cX11_rule 14 = .ok (.lconst 0, 1) := by decide +kernel
theorem dX11_rule_15 : decode cX11_rule 15 = .ok (.lconst 1, 1) := by decide +kernel
theorem dX11_rule_16 : decode cX11_rule 16 = .ok (.invokestatic 114, 3) := by decide +kernel
theorem dX11_rule_19 : decode cX11_rule 19 = .ok (.ifCond .ne 5, 3) := by decide +kernel
theorem dX11_rule_22 : decode cX11_rule 22 = .ok (.iconst (-1), 1) := by decide +kernel
theorem dX11_rule_23 : decode cX11_rule 23 = .ok (.ireturn, 1) := by decide +kernel
theorem dX11_rule_24 : decode cX11_rule 24 = .ok (.aload_n 0, 1) := by decide +kernel
theorem dX11_rule_25 : decode cX11_rule 25 = .ok (.invokevirtual 237, 3) := by decide +kernel
theorem dX11_rule_28 : decode cX11_rule 28 = .ok (.iconst 0, 1) := by decide +kernel
theorem dX11_rule_29 : decode cX11_rule 29 = .ok (.istore_n 3, 1) := by decide +kernel
theorem dX11_rule_30 : decode cX11_rule 30 = .ok (.iconst 0, 1) := by decide +kernel
theorem dX11_rule_31 : decode cX11_rule 31 = .ok (.istore 4, 2) := by decide +kernel
theorem dX11_rule_33 : decode cX11_rule 33 = .ok (.iconst 1, 1) := by decide +kernel
theorem dX11_rule_34 : decode cX11_rule 34 = .ok (.istore 5, 2) := by decide +kernel
theorem dX11_rule_36 : decode cX11_rule 36 = .ok (.iload 5, 2) := by decide +kernel
theorem dX11_rule_38 : decode cX11_rule 38 = .ok (.iconst 1, 1) := by decide +kernel
theorem dX11_rule_39 : decode cX11_rule 39 = .ok (.iadd, 1) := by decide +kernel
theorem dX11_rule_40 : decode cX11_rule 40 = .ok (.aload_n 0, 1) := by decide +kernel
theorem dX11_rule_41 : decode cX11_rule 41 = .ok (.getfield 228, 3) := by decide +kernel
theorem dX11_rule_44 : decode cX11_rule 44 = .ok (.if_icmp .ge 84, 3) := by decide +kernel
theorem dX11_rule_47 : decode cX11_rule 47 = .ok (.iconst 0, 1) := by decide +kernel
theorem dX11_rule_48 : decode cX11_rule 48 = .ok (.istore 6, 2) := by decide +kernel
theorem dX11_rule_50 : decode cX11_rule 50 = .ok (.iload 6, 2) := by decide +kernel
theorem dX11_rule_52 : decode cX11_rule 52 = .ok (.iload 5, 2) := by decide +kernel
theorem dX11_rule_54 : decode cX11_rule 54 = .ok (.if_icmp .ge 68, 3) := by decide +kernel
theorem dX11_rule_57 : decode cX11_rule 57 = .ok (.aload_n 0, 1) := by decide +kernel
theorem dX11_rule_58 : decode cX11_rule 58 = .ok (.getfield 56, 3) := by decide +kernel
theorem dX11_rule_61 : decode cX11_rule 61 = .ok (.iload 6, 2) := by decide +kernel
theorem dX11_rule_63 : decode cX11_rule 63 = .ok (.iaload, 1) := by decide +kernel
theorem dX11_rule_64 : decode cX11_rule 64 = .ok (.aload_n 0, 1) := by decide +kernel
theorem dX11_rule_65 : decode cX11_rule 65 = .ok (.getfield 56, 3) := by decide +kernel
theorem dX11_rule_68 : decode cX11_rule 68 = .ok (.iload 5, 2) := by decide +kernel
theorem dX11_rule_70 : decode cX11_rule 70 = .ok (.iaload, 1) := by decide +kernel
theorem dX11_rule_71 : decode cX11_rule 71 = .ok (.invokestatic 246, 3) := by decide +kernel
theorem dX11_rule_74 : decode cX11_rule 74 = .ok (.iload_n 1, 1) := by decide +kernel
theorem dX11_rule_75 : decode cX11_rule 75 = .ok (.if_icmp .gt 41, 3) := by decide +kernel
theorem dX11_rule_78 : decode cX11_rule 78 = .ok (.iinc 3 1, 3) := by decide +kernel
theorem dX11_rule_81 : decode cX11_rule 81 = .ok (.iload 4, 2) := by decide +kernel
theorem dX11_rule_83 : decode cX11_rule 83 = .ok (.aload_n 0, 1) := by decide +kernel
theorem dX11_rule_84 : decode cX11_rule 84 = .ok (.getfield 56, 3) := by decide +kernel
theorem dX11_rule_87 : decode cX11_rule 87 = .ok (.iload 6, 2) := by decide +kernel
theorem dX11_rule_89 : decode cX11_rule 89 = .ok (.iconst 1, 1) := by decide +kernel
theorem dX11_rule_90 : decode cX11_rule 90 = .ok (.iadd, 1) := by decide +kernel
theorem dX11_rule_91 : decode cX11_rule 91 = .ok (.iaload, 1) := by decide +kernel
theorem dX11_rule_92 : decode cX11_rule 92 = .ok (.aload_n 0, 1) := by decide +kernel
theorem dX11_rule_93 : decode cX11_rule 93 = .ok (.getfield 56, 3) := by decide +kernel
theorem dX11_rule_96 : decode cX11_rule 96 = .ok (.iload 5, 2) := by decide +kernel
theorem dX11_rule_98 : decode cX11_rule 98 = .ok (.iconst 1, 1) := by decide +kernel
theorem dX11_rule_99 : decode cX11_rule 99 = .ok (.iadd, 1) := by decide +kernel
theorem dX11_rule_100 : decode cX11_rule 100 = .ok (.iaload, 1) := by decide +kernel
theorem dX11_rule_101 : decode cX11_rule 101 = .ok (.invokestatic 246, 3) := by decide +kernel
theorem dX11_rule_104 : decode cX11_rule 104 = .ok (.iload_n 1, 1) := by decide +kernel
theorem dX11_rule_105 : decode cX11_rule 105 = .ok (.if_icmp .gt 7, 3) := by decide +kernel
theorem dX11_rule_108 : decode cX11_rule 108 = .ok (.iconst 1, 1) := by decide +kernel
theorem dX11_rule_109 : decode cX11_rule 109 = .ok (.goto 4, 3) := by decide +kernel
theorem dX11_rule_112 : decode cX11_rule 112 = .ok (.iconst 0, 1) := by decide +kernel
theorem dX11_rule_113 : decode cX11_rule 113 = .ok (.iadd, 1) := by decide +kernel
theorem dX11_rule_114 : decode cX11_rule 114 = .ok (.istore 4, 2) := by decide +kernel
theorem dX11_rule_116 : decode cX11_rule 116 = .ok (.iinc 6 1, 3) := by decide +kernel
theorem dX11_rule_119 : decode cX11_rule 119 = .ok (.goto (-69), 3) := by decide +kernel
theorem dX11_rule_122 : decode cX11_rule 122 = .ok (.iinc 5 1, 3) := by decide +kernel
theorem dX11_rule_125 : decode cX11_rule 125 = .ok (.goto (-89), 3) := by decide +kernel
theorem dX11_rule_128 : decode cX11_rule 128 = .ok (.iload_n 3, 1) := by decide +kernel
theorem dX11_rule_129 : decode cX11_rule 129 = .ok (.ifCond .ne 6, 3) := by decide +kernel
theorem dX11_rule_132 : decode cX11_rule 132 = .ok (.bipush (-3), 2) := by decide +kernel
theorem dX11_rule_134 : decode cX11_rule 134 = .ok (.ireturn, 1) := by decide +kernel
theorem dX11_rule_135 : decode cX11_rule 135 = .ok (.iload 4, 2) := by decide +kernel
theorem dX11_rule_137 : decode cX11_rule 137 = .ok (.iload_n 3, 1) := by decide +kernel
theorem dX11_rule_138 : decode cX11_rule 138 = .ok (.invokestatic 255, 3) := by decide +kernel
theorem dX11_rule_141 : decode cX11_rule 141 = .ok (.istore 5, 2) := by decide +kernel
theorem dX11_rule_143 : decode cX11_rule 143 = .ok (.iload_n 2, 1) := by decide +kernel
theorem dX11_rule_144 : decode cX11_rule 144 = .ok (.ifCond .ne 11, 3) := by decide +kernel
theorem dX11_rule_147 : decode cX11_rule 147 = .ok (.iload 4, 2) := by decide +kernel
theorem dX11_rule_149 : decode cX11_rule 149 = .ok (.iload 5, 2) := by decide +kernel
theorem dX11_rule_151 : decode cX11_rule 151 = .ok (.idiv, 1) := by decide +kernel
theorem dX11_rule_152 : decode cX11_rule 152 = .ok (.goto 7, 3) := by decide +kernel
theorem dX11_rule_155 : decode cX11_rule 155 = .ok (.iload_n 3, 1) := by decide +kernel
theorem dX11_rule_156 : decode cX11_rule 156 = .ok (.iload 5, 2) := by decide +kernel
theorem dX11_rule_158 : decode cX11_rule 158 = .ok (.idiv, 1) := by decide +kernel
theorem dX11_rule_159 : decode cX11_rule 159 = .ok (.ireturn, 1) := by decide +kernel
theorem dX11_drift_0 : decode cX11_drift 0 = .ok (.aload_n 0, 1) := by decide +kernel
theorem dX11_drift_1 : decode cX11_drift 1 = .ok (.invokevirtual 237, 3) := by decide +kernel
theorem dX11_drift_4 : decode cX11_drift 4 = .ok (.aload_n 0, 1) := by decide +kernel
theorem dX11_drift_5 : decode cX11_drift 5 = .ok (.getfield 228, 3) := by decide +kernel
theorem dX11_drift_8 : decode cX11_drift 8 = .ok (.iconst 2, 1) := by decide +kernel
theorem dX11_drift_9 : decode cX11_drift 9 = .ok (.if_icmp .lt 19, 3) := by decide +kernel
theorem dX11_drift_12 : decode cX11_drift 12 = .ok (.iload_n 1, 1) := by decide +kernel
theorem dX11_drift_13 : decode cX11_drift 13 = .ok (.i2l, 1) := by decide +kernel
theorem dX11_drift_14 : decode cX11_drift 14 = .ok (.lconst 0, 1) := by decide +kernel
theorem dX11_drift_15 : decode cX11_drift 15 = .ok (.aload_n 0, 1) := by decide +kernel
theorem dX11_drift_16 : decode cX11_drift 16 = .ok (.getfield 228, 3) := by decide +kernel
theorem dX11_drift_19 : decode cX11_drift 19 = .ok (.iconst 1, 1) := by decide +kernel
theorem dX11_drift_20 : decode cX11_drift 20 = .ok (.isub, 1) := by decide +kernel
theorem dX11_drift_21 : decode cX11_drift 21 = .ok (.i2l, 1) := by decide +kernel
theorem dX11_drift_22 : decode cX11_drift 22 = .ok (.invokestatic 114, 3) := by decide +kernel
theorem dX11_drift_25 : decode cX11_drift 25 = .ok (.ifCond .ne 6, 3) := by decide +kernel
theorem dX11_drift_28 : decode cX11_drift 28 = .ok (.bipush (-3), 2) := by decide +kernel
theorem dX11_drift_30 : decode cX11_drift 30 = .ok (.ireturn, 1) := by decide +kernel
theorem dX11_drift_31 : decode cX11_drift 31 = .ok (.aload_n 0, 1) := by decide +kernel
theorem dX11_drift_32 : decode cX11_drift 32 = .ok (.getfield 56, 3) := by decide +kernel
theorem dX11_drift_35 : decode cX11_drift 35 = .ok (.iload_n 1, 1) := by decide +kernel
theorem dX11_drift_36 : decode cX11_drift 36 = .ok (.iaload, 1) := by decide +kernel
theorem dX11_drift_37 : decode cX11_drift 37 = .ok (.aload_n 0, 1) := by decide +kernel
theorem dX11_drift_38 : decode cX11_drift 38 = .ok (.getfield 56, 3) := by decide +kernel
theorem dX11_drift_41 : decode cX11_drift 41 = .ok (.iconst 0, 1) := by decide +kernel
theorem dX11_drift_42 : decode cX11_drift 42 = .ok (.iaload, 1) := by decide +kernel
theorem dX11_drift_43 : decode cX11_drift 43 = .ok (.isub, 1) := by decide +kernel
theorem dX11_drift_44 : decode cX11_drift 44 = .ok (.aload_n 0, 1) := by decide +kernel
theorem dX11_drift_45 : decode cX11_drift 45 = .ok (.getfield 56, 3) := by decide +kernel
theorem dX11_drift_48 : decode cX11_drift 48 = .ok (.aload_n 0, 1) := by decide +kernel
theorem dX11_drift_49 : decode cX11_drift 49 = .ok (.getfield 228, 3) := by decide +kernel
theorem dX11_drift_52 : decode cX11_drift 52 = .ok (.iconst 1, 1) := by decide +kernel
theorem dX11_drift_53 : decode cX11_drift 53 = .ok (.isub, 1) := by decide +kernel
theorem dX11_drift_54 : decode cX11_drift 54 = .ok (.iaload, 1) := by decide +kernel
theorem dX11_drift_55 : decode cX11_drift 55 = .ok (.aload_n 0, 1) := by decide +kernel
theorem dX11_drift_56 : decode cX11_drift 56 = .ok (.getfield 56, 3) := by decide +kernel
theorem dX11_drift_59 : decode cX11_drift 59 = .ok (.iconst 0, 1) := by decide +kernel
theorem dX11_drift_60 : decode cX11_drift 60 = .ok (.iaload, 1) := by decide +kernel
theorem dX11_drift_61 : decode cX11_drift 61 = .ok (.isub, 1) := by decide +kernel
theorem dX11_drift_62 : decode cX11_drift 62 = .ok (.iload_n 1, 1) := by decide +kernel
theorem dX11_drift_63 : decode cX11_drift 63 = .ok (.imul, 1) := by decide +kernel
theorem dX11_drift_64 : decode cX11_drift 64 = .ok (.aload_n 0, 1) := by decide +kernel
theorem dX11_drift_65 : decode cX11_drift 65 = .ok (.getfield 228, 3) := by decide +kernel
theorem dX11_drift_68 : decode cX11_drift 68 = .ok (.iconst 1, 1) := by decide +kernel
theorem dX11_drift_69 : decode cX11_drift 69 = .ok (.isub, 1) := by decide +kernel
theorem dX11_drift_70 : decode cX11_drift 70 = .ok (.idiv, 1) := by decide +kernel
theorem dX11_drift_71 : decode cX11_drift 71 = .ok (.isub, 1) := by decide +kernel
theorem dX11_drift_72 : decode cX11_drift 72 = .ok (.sipush 20000, 3) := by decide +kernel
theorem dX11_drift_75 : decode cX11_drift 75 = .ok (.iadd, 1) := by decide +kernel
theorem dX11_drift_76 : decode cX11_drift 76 = .ok (.ireturn, 1) := by decide +kernel
theorem dX11_span_0 : decode cX11_span 0 = .ok (.iload_n 1, 1) := by decide +kernel
theorem dX11_span_1 : decode cX11_span 1 = .ok (.i2l, 1) := by decide +kernel
theorem dX11_span_2 : decode cX11_span 2 = .ok (.lconst 0, 1) := by decide +kernel
theorem dX11_span_3 : decode cX11_span 3 = .ok (.ldc2_w 258, 3) := by decide +kernel
theorem dX11_span_6 : decode cX11_span 6 = .ok (.invokestatic 114, 3) := by decide +kernel
theorem dX11_span_9 : decode cX11_span 9 = .ok (.ifCond .ne 5, 3) := by decide +kernel
theorem dX11_span_12 : decode cX11_span 12 = .ok (.iconst (-1), 1) := by decide +kernel
theorem dX11_span_13 : decode cX11_span 13 = .ok (.ireturn, 1) := by decide +kernel
theorem dX11_span_14 : decode cX11_span 14 = .ok (.aload_n 0, 1) := by decide +kernel
theorem dX11_span_15 : decode cX11_span 15 = .ok (.invokevirtual 237, 3) := by decide +kernel
theorem dX11_span_18 : decode cX11_span 18 = .ok (.aload_n 0, 1) := by decide +kernel
theorem dX11_span_19 : decode cX11_span 19 = .ok (.getfield 228, 3) := by decide +kernel
theorem dX11_span_22 : decode cX11_span 22 = .ok (.ifCond .ne 6, 3) := by decide +kernel
theorem dX11_span_25 : decode cX11_span 25 = .ok (.bipush (-3), 2) := by decide +kernel
theorem dX11_span_27 : decode cX11_span 27 = .ok (.ireturn, 1) := by decide +kernel
theorem dX11_span_28 : decode cX11_span 28 = .ok (.aload_n 0, 1) := by decide +kernel
theorem dX11_span_29 : decode cX11_span 29 = .ok (.getfield 56, 3) := by decide +kernel
theorem dX11_span_32 : decode cX11_span 32 = .ok (.iconst 0, 1) := by decide +kernel
theorem dX11_span_33 : decode cX11_span 33 = .ok (.iaload, 1) := by decide +kernel
theorem dX11_span_34 : decode cX11_span 34 = .ok (.istore_n 2, 1) := by decide +kernel
theorem dX11_span_35 : decode cX11_span 35 = .ok (.aload_n 0, 1) := by decide +kernel
theorem dX11_span_36 : decode cX11_span 36 = .ok (.getfield 56, 3) := by decide +kernel
theorem dX11_span_39 : decode cX11_span 39 = .ok (.iconst 0, 1) := by decide +kernel
theorem dX11_span_40 : decode cX11_span 40 = .ok (.iaload, 1) := by decide +kernel
theorem dX11_span_41 : decode cX11_span 41 = .ok (.istore_n 3, 1) := by decide +kernel
theorem dX11_span_42 : decode cX11_span 42 = .ok (.iconst 0, 1) := by decide +kernel
theorem dX11_span_43 : decode cX11_span 43 = .ok (.istore 4, 2) := by decide +kernel
theorem dX11_span_45 : decode cX11_span 45 = .ok (.iconst 0, 1) := by decide +kernel
theorem dX11_span_46 : decode cX11_span 46 = .ok (.istore 5, 2) := by decide +kernel
theorem dX11_span_48 : decode cX11_span 48 = .ok (.iload 5, 2) := by decide +kernel
theorem dX11_span_50 : decode cX11_span 50 = .ok (.aload_n 0, 1) := by decide +kernel
theorem dX11_span_51 : decode cX11_span 51 = .ok (.getfield 228, 3) := by decide +kernel
theorem dX11_span_54 : decode cX11_span 54 = .ok (.if_icmp .ge 67, 3) := by decide +kernel
theorem dX11_span_57 : decode cX11_span 57 = .ok (.aload_n 0, 1) := by decide +kernel
theorem dX11_span_58 : decode cX11_span 58 = .ok (.getfield 56, 3) := by decide +kernel
theorem dX11_span_61 : decode cX11_span 61 = .ok (.iload 5, 2) := by decide +kernel
theorem dX11_span_63 : decode cX11_span 63 = .ok (.iaload, 1) := by decide +kernel
theorem dX11_span_64 : decode cX11_span 64 = .ok (.iload_n 2, 1) := by decide +kernel
theorem dX11_span_65 : decode cX11_span 65 = .ok (.if_icmp .ge 13, 3) := by decide +kernel
theorem dX11_span_68 : decode cX11_span 68 = .ok (.aload_n 0, 1) := by decide +kernel
theorem dX11_span_69 : decode cX11_span 69 = .ok (.getfield 56, 3) := by decide +kernel
theorem dX11_span_72 : decode cX11_span 72 = .ok (.iload 5, 2) := by decide +kernel
theorem dX11_span_74 : decode cX11_span 74 = .ok (.iaload, 1) := by decide +kernel
theorem dX11_span_75 : decode cX11_span 75 = .ok (.goto 4, 3) := by decide +kernel
theorem dX11_span_78 : decode cX11_span 78 = .ok (.iload_n 2, 1) := by decide +kernel
theorem dX11_span_79 : decode cX11_span 79 = .ok (.istore_n 2, 1) := by decide +kernel
theorem dX11_span_80 : decode cX11_span 80 = .ok (.aload_n 0, 1) := by decide +kernel
theorem dX11_span_81 : decode cX11_span 81 = .ok (.getfield 56, 3) := by decide +kernel
theorem dX11_span_84 : decode cX11_span 84 = .ok (.iload 5, 2) := by decide +kernel
theorem dX11_span_86 : decode cX11_span 86 = .ok (.iaload, 1) := by decide +kernel
theorem dX11_span_87 : decode cX11_span 87 = .ok (.iload_n 3, 1) := by decide +kernel
theorem dX11_span_88 : decode cX11_span 88 = .ok (.if_icmp .le 13, 3) := by decide +kernel
theorem dX11_span_91 : decode cX11_span 91 = .ok (.aload_n 0, 1) := by decide +kernel
theorem dX11_span_92 : decode cX11_span 92 = .ok (.getfield 56, 3) := by decide +kernel
theorem dX11_span_95 : decode cX11_span 95 = .ok (.iload 5, 2) := by decide +kernel
theorem dX11_span_97 : decode cX11_span 97 = .ok (.iaload, 1) := by decide +kernel
theorem dX11_span_98 : decode cX11_span 98 = .ok (.goto 4, 3) := by decide +kernel
theorem dX11_span_101 : decode cX11_span 101 = .ok (.iload_n 3, 1) := by decide +kernel
theorem dX11_span_102 : decode cX11_span 102 = .ok (.istore_n 3, 1) := by decide +kernel
theorem dX11_span_103 : decode cX11_span 103 = .ok (.iload 4, 2) := by decide +kernel
theorem dX11_span_105 : decode cX11_span 105 = .ok (.aload_n 0, 1) := by decide +kernel
theorem dX11_span_106 : decode cX11_span 106 = .ok (.getfield 56, 3) := by decide +kernel
theorem dX11_span_109 : decode cX11_span 109 = .ok (.iload 5, 2) := by decide +kernel
theorem dX11_span_111 : decode cX11_span 111 = .ok (.iaload, 1) := by decide +kernel
theorem dX11_span_112 : decode cX11_span 112 = .ok (.iadd, 1) := by decide +kernel
theorem dX11_span_113 : decode cX11_span 113 = .ok (.istore 4, 2) := by decide +kernel
theorem dX11_span_115 : decode cX11_span 115 = .ok (.iinc 5 1, 3) := by decide +kernel
theorem dX11_span_118 : decode cX11_span 118 = .ok (.goto (-70), 3) := by decide +kernel
theorem dX11_span_121 : decode cX11_span 121 = .ok (.iload_n 1, 1) := by decide +kernel
theorem dX11_span_122 : decode cX11_span 122 = .ok (.ifCond .ne 7, 3) := by decide +kernel
theorem dX11_span_125 : decode cX11_span 125 = .ok (.iload_n 2, 1) := by decide +kernel
theorem dX11_span_126 : decode cX11_span 126 = .ok (.goto 14, 3) := by decide +kernel
theorem dX11_span_129 : decode cX11_span 129 = .ok (.iload_n 1, 1) := by decide +kernel
theorem dX11_span_130 : decode cX11_span 130 = .ok (.iconst 1, 1) := by decide +kernel
theorem dX11_span_131 : decode cX11_span 131 = .ok (.if_icmp .ne 7, 3) := by decide +kernel
theorem dX11_span_134 : decode cX11_span 134 = .ok (.iload_n 3, 1) := by decide +kernel
theorem dX11_span_135 : decode cX11_span 135 = .ok (.goto 5, 3) := by decide +kernel
theorem dX11_span_138 : decode cX11_span 138 = .ok (.iload 4, 2) := by decide +kernel
theorem dX11_span_140 : decode cX11_span 140 = .ok (.ireturn, 1) := by decide +kernel
theorem dX11_gridOf_0 : decode cX11_gridOf 0 = .ok (.aload_n 0, 1) := by decide +kernel
theorem dX11_gridOf_1 : decode cX11_gridOf 1 = .ok (.invokevirtual 130, 3) := by decide +kernel
theorem dX11_gridOf_4 : decode cX11_gridOf 4 = .ok (.aload_n 0, 1) := by decide +kernel
theorem dX11_gridOf_5 : decode cX11_gridOf 5 = .ok (.getfield 32, 3) := by decide +kernel
theorem dX11_gridOf_8 : decode cX11_gridOf 8 = .ok (.bipush 6, 2) := by decide +kernel
theorem dX11_gridOf_10 : decode cX11_gridOf 10 = .ok (.iload_n 1, 1) := by decide +kernel
theorem dX11_gridOf_11 : decode cX11_gridOf 11 = .ok (.iastore, 1) := by decide +kernel
theorem dX11_gridOf_12 : decode cX11_gridOf 12 = .ok (.aload_n 0, 1) := by decide +kernel
theorem dX11_gridOf_13 : decode cX11_gridOf 13 = .ok (.sipush 400, 3) := by decide +kernel
theorem dX11_gridOf_16 : decode cX11_gridOf 16 = .ok (.invokevirtual 260, 3) := by decide +kernel
theorem dX11_gridOf_19 : decode cX11_gridOf 19 = .ok (.aload_n 0, 1) := by decide +kernel
theorem dX11_gridOf_20 : decode cX11_gridOf 20 = .ok (.invokevirtual 263, 3) := by decide +kernel
theorem dX11_gridOf_23 : decode cX11_gridOf 23 = .ok (.aload_n 0, 1) := by decide +kernel
theorem dX11_gridOf_24 : decode cX11_gridOf 24 = .ok (.invokevirtual 234, 3) := by decide +kernel
theorem dX11_gridOf_27 : decode cX11_gridOf 27 = .ok (.ireturn, 1) := by decide +kernel
theorem dX11_grid_0 : decode cX11_grid 0 = .ok (.iload_n 1, 1) := by decide +kernel
theorem dX11_grid_1 : decode cX11_grid 1 = .ok (.i2l, 1) := by decide +kernel
theorem dX11_grid_2 : decode cX11_grid 2 = .ok (.lconst 0, 1) := by decide +kernel
theorem dX11_grid_3 : decode cX11_grid 3 = .ok (.ldc2_w 126, 3) := by decide +kernel
theorem dX11_grid_6 : decode cX11_grid 6 = .ok (.invokestatic 114, 3) := by decide +kernel
theorem dX11_grid_9 : decode cX11_grid 9 = .ok (.ifCond .eq 11, 3) := by decide +kernel
theorem dX11_grid_12 : decode cX11_grid 12 = .ok (.aload_n 0, 1) := by decide +kernel
theorem dX11_grid_13 : decode cX11_grid 13 = .ok (.iload_n 1, 1) := by decide +kernel
theorem dX11_grid_14 : decode cX11_grid 14 = .ok (.invokevirtual 266, 3) := by decide +kernel
theorem dX11_grid_17 : decode cX11_grid 17 = .ok (.goto 4, 3) := by decide +kernel
theorem dX11_grid_20 : decode cX11_grid 20 = .ok (.iconst (-1), 1) := by decide +kernel
theorem dX11_grid_21 : decode cX11_grid 21 = .ok (.ireturn, 1) := by decide +kernel
theorem dX11_isSpan_0 : decode cX11_isSpan 0 = .ok (.iload_n 0, 1) := by decide +kernel
theorem dX11_isSpan_1 : decode cX11_isSpan 1 = .ok (.i2l, 1) := by decide +kernel
theorem dX11_isSpan_2 : decode cX11_isSpan 2 = .ok (.lconst 0, 1) := by decide +kernel
theorem dX11_isSpan_3 : decode cX11_isSpan 3 = .ok (.ldc2_w 126, 3) := by decide +kernel
theorem dX11_isSpan_6 : decode cX11_isSpan 6 = .ok (.invokestatic 114, 3) := by decide +kernel
theorem dX11_isSpan_9 : decode cX11_isSpan 9 = .ok (.ifCond .eq 28, 3) := by decide +kernel
theorem dX11_isSpan_12 : decode cX11_isSpan 12 = .ok (.iload_n 1, 1) := by decide +kernel
theorem dX11_isSpan_13 : decode cX11_isSpan 13 = .ok (.i2l, 1) := by decide +kernel
theorem dX11_isSpan_14 : decode cX11_isSpan 14 = .ok (.iload_n 0, 1) := by decide +kernel
theorem dX11_isSpan_15 : decode cX11_isSpan 15 = .ok (.i2l, 1) := by decide +kernel
theorem dX11_isSpan_16 : decode cX11_isSpan 16 = .ok (.ldc2_w 126, 3) := by decide +kernel
theorem dX11_isSpan_19 : decode cX11_isSpan 19 = .ok (.invokestatic 114, 3) := by decide +kernel
theorem dX11_isSpan_22 : decode cX11_isSpan 22 = .ok (.ifCond .eq 15, 3) := by decide +kernel
theorem dX11_isSpan_25 : decode cX11_isSpan 25 = .ok (.iload_n 1, 1) := by decide +kernel
theorem dX11_isSpan_26 : decode cX11_isSpan 26 = .ok (.iload_n 0, 1) := by decide +kernel
theorem dX11_isSpan_27 : decode cX11_isSpan 27 = .ok (.isub, 1) := by decide +kernel
theorem dX11_isSpan_28 : decode cX11_isSpan 28 = .ok (.bipush 20, 2) := by decide +kernel
theorem dX11_isSpan_30 : decode cX11_isSpan 30 = .ok (.if_icmp .gt 7, 3) := by decide +kernel
theorem dX11_isSpan_33 : decode cX11_isSpan 33 = .ok (.iconst 1, 1) := by decide +kernel
theorem dX11_isSpan_34 : decode cX11_isSpan 34 = .ok (.goto 4, 3) := by decide +kernel
theorem dX11_isSpan_37 : decode cX11_isSpan 37 = .ok (.iconst 0, 1) := by decide +kernel
theorem dX11_isSpan_38 : decode cX11_isSpan 38 = .ok (.ireturn, 1) := by decide +kernel
theorem dX11_doubling_0 : decode cX11_doubling 0 = .ok (.iload_n 1, 1) := by decide +kernel
theorem dX11_doubling_1 : decode cX11_doubling 1 = .ok (.iload_n 2, 1) := by decide +kernel
theorem dX11_doubling_2 : decode cX11_doubling 2 = .ok (.invokestatic 269, 3) := by decide +kernel
theorem dX11_doubling_5 : decode cX11_doubling 5 = .ok (.ifCond .ne 5, 3) := by decide +kernel
theorem dX11_doubling_8 : decode cX11_doubling 8 = .ok (.iconst (-1), 1) := by decide +kernel
theorem dX11_doubling_9 : decode cX11_doubling 9 = .ok (.ireturn, 1) := by decide +kernel
theorem dX11_doubling_10 : decode cX11_doubling 10 = .ok (.aload_n 0, 1) := by decide +kernel
theorem dX11_doubling_11 : decode cX11_doubling 11 = .ok (.iload_n 1, 1) := by decide +kernel
theorem dX11_doubling_12 : decode cX11_doubling 12 = .ok (.invokevirtual 266, 3) := by decide +kernel
theorem dX11_doubling_15 : decode cX11_doubling 15 = .ok (.istore_n 3, 1) := by decide +kernel
theorem dX11_doubling_16 : decode cX11_doubling 16 = .ok (.iload_n 1, 1) := by decide +kernel
theorem dX11_doubling_17 : decode cX11_doubling 17 = .ok (.iconst 1, 1) := by decide +kernel
theorem dX11_doubling_18 : decode cX11_doubling 18 = .ok (.iadd, 1) := by decide +kernel
theorem dX11_doubling_19 : decode cX11_doubling 19 = .ok (.istore 4, 2) := by decide +kernel
theorem dX11_doubling_21 : decode cX11_doubling 21 = .ok (.iload 4, 2) := by decide +kernel
theorem dX11_doubling_23 : decode cX11_doubling 23 = .ok (.iload_n 2, 1) := by decide +kernel
theorem dX11_doubling_24 : decode cX11_doubling 24 = .ok (.if_icmp .gt 35, 3) := by decide +kernel
theorem dX11_doubling_27 : decode cX11_doubling 27 = .ok (.aload_n 0, 1) := by decide +kernel
theorem dX11_doubling_28 : decode cX11_doubling 28 = .ok (.iload 4, 2) := by decide +kernel
theorem dX11_doubling_30 : decode cX11_doubling 30 = .ok (.invokevirtual 266, 3) := by decide +kernel
theorem dX11_doubling_33 : decode cX11_doubling 33 = .ok (.istore 5, 2) := by decide +kernel
theorem dX11_doubling_35 : decode cX11_doubling 35 = .ok (.iload_n 3, 1) := by decide +kernel
theorem dX11_doubling_36 : decode cX11_doubling 36 = .ok (.ifCond .le 14, 3) := by decide +kernel
theorem dX11_doubling_39 : decode cX11_doubling 39 = .ok (.iload 5, 2) := by decide +kernel
theorem dX11_doubling_41 : decode cX11_doubling 41 = .ok (.iconst 2, 1) := by decide +kernel
theorem dX11_doubling_42 : decode cX11_doubling 42 = .ok (.iload_n 3, 1) := by decide +kernel
theorem dX11_doubling_43 : decode cX11_doubling 43 = .ok (.imul, 1) := by decide +kernel
theorem dX11_doubling_44 : decode cX11_doubling 44 = .ok (.if_icmp .ne 6, 3) := by decide +kernel
theorem dX11_doubling_47 : decode cX11_doubling 47 = .ok (.iload 4, 2) := by decide +kernel
theorem dX11_doubling_49 : decode cX11_doubling 49 = .ok (.ireturn, 1) := by decide +kernel
theorem dX11_doubling_50 : decode cX11_doubling 50 = .ok (.iload 5, 2) := by decide +kernel
theorem dX11_doubling_52 : decode cX11_doubling 52 = .ok (.istore_n 3, 1) := by decide +kernel
theorem dX11_doubling_53 : decode cX11_doubling 53 = .ok (.iinc 4 1, 3) := by decide +kernel
theorem dX11_doubling_56 : decode cX11_doubling 56 = .ok (.goto (-35), 3) := by decide +kernel
theorem dX11_doubling_59 : decode cX11_doubling 59 = .ok (.bipush (-3), 2) := by decide +kernel
theorem dX11_doubling_61 : decode cX11_doubling 61 = .ok (.ireturn, 1) := by decide +kernel
theorem dX11_windows_0 : decode cX11_windows 0 = .ok (.iload_n 1, 1) := by decide +kernel
theorem dX11_windows_1 : decode cX11_windows 1 = .ok (.iload_n 2, 1) := by decide +kernel
theorem dX11_windows_2 : decode cX11_windows 2 = .ok (.invokestatic 269, 3) := by decide +kernel
theorem dX11_windows_5 : decode cX11_windows 5 = .ok (.ifCond .ne 5, 3) := by decide +kernel
theorem dX11_windows_8 : decode cX11_windows 8 = .ok (.iconst (-1), 1) := by decide +kernel
theorem dX11_windows_9 : decode cX11_windows 9 = .ok (.ireturn, 1) := by decide +kernel
theorem dX11_windows_10 : decode cX11_windows 10 = .ok (.iconst 0, 1) := by decide +kernel
theorem dX11_windows_11 : decode cX11_windows 11 = .ok (.istore_n 3, 1) := by decide +kernel
theorem dX11_windows_12 : decode cX11_windows 12 = .ok (.iload_n 1, 1) := by decide +kernel
theorem dX11_windows_13 : decode cX11_windows 13 = .ok (.istore 4, 2) := by decide +kernel
theorem dX11_windows_15 : decode cX11_windows 15 = .ok (.iload 4, 2) := by decide +kernel
theorem dX11_windows_17 : decode cX11_windows 17 = .ok (.iload_n 2, 1) := by decide +kernel
theorem dX11_windows_18 : decode cX11_windows 18 = .ok (.if_icmp .gt 27, 3) := by decide +kernel
theorem dX11_windows_21 : decode cX11_windows 21 = .ok (.iload_n 3, 1) := by decide +kernel
theorem dX11_windows_22 : decode cX11_windows 22 = .ok (.aload_n 0, 1) := by decide +kernel
theorem dX11_windows_23 : decode cX11_windows 23 = .ok (.iload 4, 2) := by decide +kernel
theorem dX11_windows_25 : decode cX11_windows 25 = .ok (.invokevirtual 266, 3) := by decide +kernel
theorem dX11_windows_28 : decode cX11_windows 28 = .ok (.iconst 3, 1) := by decide +kernel
theorem dX11_windows_29 : decode cX11_windows 29 = .ok (.if_icmp .ne 7, 3) := by decide +kernel
theorem dX11_windows_32 : decode cX11_windows 32 = .ok (.iconst 1, 1) := by decide +kernel
theorem dX11_windows_33 : decode cX11_windows 33 = .ok (.goto 4, 3) := by decide +kernel
theorem dX11_windows_36 : decode cX11_windows 36 = .ok (.iconst 0, 1) := by decide +kernel
theorem dX11_windows_37 : decode cX11_windows 37 = .ok (.iadd, 1) := by decide +kernel
theorem dX11_windows_38 : decode cX11_windows 38 = .ok (.istore_n 3, 1) := by decide +kernel
theorem dX11_windows_39 : decode cX11_windows 39 = .ok (.iinc 4 1, 3) := by decide +kernel
theorem dX11_windows_42 : decode cX11_windows 42 = .ok (.goto (-27), 3) := by decide +kernel
theorem dX11_windows_45 : decode cX11_windows 45 = .ok (.iload_n 3, 1) := by decide +kernel
theorem dX11_windows_46 : decode cX11_windows 46 = .ok (.ireturn, 1) := by decide +kernel
theorem dX11_isEvenBy_0 : decode cX11_isEvenBy 0 = .ok (.aload_n 0, 1) := by decide +kernel
theorem dX11_isEvenBy_1 : decode cX11_isEvenBy 1 = .ok (.invokevirtual 130, 3) := by decide +kernel
theorem dX11_isEvenBy_4 : decode cX11_isEvenBy 4 = .ok (.aload_n 0, 1) := by decide +kernel
theorem dX11_isEvenBy_5 : decode cX11_isEvenBy 5 = .ok (.getfield 32, 3) := by decide +kernel
theorem dX11_isEvenBy_8 : decode cX11_isEvenBy 8 = .ok (.iconst 2, 1) := by decide +kernel
theorem dX11_isEvenBy_9 : decode cX11_isEvenBy 9 = .ok (.dup2, 1) := by decide +kernel
theorem dX11_isEvenBy_10 : decode cX11_isEvenBy 10 = .ok (.iaload, 1) := by decide +kernel
theorem dX11_isEvenBy_11 : decode cX11_isEvenBy 11 = .ok (.iload_n 1, 1) := by decide +kernel
theorem dX11_isEvenBy_12 : decode cX11_isEvenBy 12 = .ok (.iadd, 1) := by decide +kernel
theorem dX11_isEvenBy_13 : decode cX11_isEvenBy 13 = .ok (.iastore, 1) := by decide +kernel
theorem dX11_isEvenBy_14 : decode cX11_isEvenBy 14 = .ok (.aload_n 0, 1) := by decide +kernel
theorem dX11_isEvenBy_15 : decode cX11_isEvenBy 15 = .ok (.iload_n 2, 1) := by decide +kernel
theorem dX11_isEvenBy_16 : decode cX11_isEvenBy 16 = .ok (.invokevirtual 260, 3) := by decide +kernel
theorem dX11_isEvenBy_19 : decode cX11_isEvenBy 19 = .ok (.aload_n 0, 1) := by decide +kernel
theorem dX11_isEvenBy_20 : decode cX11_isEvenBy 20 = .ok (.invokevirtual 263, 3) := by decide +kernel
theorem dX11_isEvenBy_23 : decode cX11_isEvenBy 23 = .ok (.aload_n 0, 1) := by decide +kernel
theorem dX11_isEvenBy_24 : decode cX11_isEvenBy 24 = .ok (.invokevirtual 240, 3) := by decide +kernel
theorem dX11_isEvenBy_27 : decode cX11_isEvenBy 27 = .ok (.iconst 1, 1) := by decide +kernel
theorem dX11_isEvenBy_28 : decode cX11_isEvenBy 28 = .ok (.if_icmp .ne 7, 3) := by decide +kernel
theorem dX11_isEvenBy_31 : decode cX11_isEvenBy 31 = .ok (.iconst 1, 1) := by decide +kernel
theorem dX11_isEvenBy_32 : decode cX11_isEvenBy 32 = .ok (.goto 4, 3) := by decide +kernel
theorem dX11_isEvenBy_35 : decode cX11_isEvenBy 35 = .ok (.iconst 0, 1) := by decide +kernel
theorem dX11_isEvenBy_36 : decode cX11_isEvenBy 36 = .ok (.ireturn, 1) := by decide +kernel
theorem dX11_touch_0 : decode cX11_touch 0 = .ok (.iload_n 1, 1) := by decide +kernel
theorem dX11_touch_1 : decode cX11_touch 1 = .ok (.i2l, 1) := by decide +kernel
theorem dX11_touch_2 : decode cX11_touch 2 = .ok (.lconst 1, 1) := by decide +kernel
theorem dX11_touch_3 : decode cX11_touch 3 = .ok (.ldc2_w 128, 3) := by decide +kernel
theorem dX11_touch_6 : decode cX11_touch 6 = .ok (.invokestatic 114, 3) := by decide +kernel
theorem dX11_touch_9 : decode cX11_touch 9 = .ok (.ifCond .ne 5, 3) := by decide +kernel
theorem dX11_touch_12 : decode cX11_touch 12 = .ok (.iconst (-1), 1) := by decide +kernel
theorem dX11_touch_13 : decode cX11_touch 13 = .ok (.ireturn, 1) := by decide +kernel
theorem dX11_touch_14 : decode cX11_touch 14 = .ok (.iconst 0, 1) := by decide +kernel
theorem dX11_touch_15 : decode cX11_touch 15 = .ok (.istore_n 2, 1) := by decide +kernel
theorem dX11_touch_16 : decode cX11_touch 16 = .ok (.iload_n 2, 1) := by decide +kernel
theorem dX11_touch_17 : decode cX11_touch 17 = .ok (.bipush 30, 2) := by decide +kernel
theorem dX11_touch_19 : decode cX11_touch 19 = .ok (.if_icmp .gt 43, 3) := by decide +kernel
theorem dX11_touch_22 : decode cX11_touch 22 = .ok (.aload_n 0, 1) := by decide +kernel
theorem dX11_touch_23 : decode cX11_touch 23 = .ok (.iload_n 2, 1) := by decide +kernel
theorem dX11_touch_24 : decode cX11_touch 24 = .ok (.iload_n 1, 1) := by decide +kernel
theorem dX11_touch_25 : decode cX11_touch 25 = .ok (.invokevirtual 272, 3) := by decide +kernel
theorem dX11_touch_28 : decode cX11_touch 28 = .ok (.ifCond .eq 8, 3) := by decide +kernel
theorem dX11_touch_31 : decode cX11_touch 31 = .ok (.bipush 100, 2) := by decide +kernel
theorem dX11_touch_33 : decode cX11_touch 33 = .ok (.iload_n 2, 1) := by decide +kernel
theorem dX11_touch_34 : decode cX11_touch 34 = .ok (.iadd, 1) := by decide +kernel
theorem dX11_touch_35 : decode cX11_touch 35 = .ok (.ireturn, 1) := by decide +kernel
theorem dX11_touch_36 : decode cX11_touch 36 = .ok (.iload_n 2, 1) := by decide +kernel
theorem dX11_touch_37 : decode cX11_touch 37 = .ok (.ifCond .le 19, 3) := by decide +kernel
theorem dX11_touch_40 : decode cX11_touch 40 = .ok (.aload_n 0, 1) := by decide +kernel
theorem dX11_touch_41 : decode cX11_touch 41 = .ok (.iconst 0, 1) := by decide +kernel
theorem dX11_touch_42 : decode cX11_touch 42 = .ok (.iload_n 2, 1) := by decide +kernel
theorem dX11_touch_43 : decode cX11_touch 43 = .ok (.isub, 1) := by decide +kernel
theorem dX11_touch_44 : decode cX11_touch 44 = .ok (.iload_n 1, 1) := by decide +kernel
theorem dX11_touch_45 : decode cX11_touch 45 = .ok (.invokevirtual 272, 3) := by decide +kernel
theorem dX11_touch_48 : decode cX11_touch 48 = .ok (.ifCond .eq 8, 3) := by decide +kernel
theorem dX11_touch_51 : decode cX11_touch 51 = .ok (.bipush 100, 2) := by decide +kernel
theorem dX11_touch_53 : decode cX11_touch 53 = .ok (.iload_n 2, 1) := by decide +kernel
theorem dX11_touch_54 : decode cX11_touch 54 = .ok (.isub, 1) := by decide +kernel
theorem dX11_touch_55 : decode cX11_touch 55 = .ok (.ireturn, 1) := by decide +kernel
theorem dX11_touch_56 : decode cX11_touch 56 = .ok (.iinc 2 1, 3) := by decide +kernel
theorem dX11_touch_59 : decode cX11_touch 59 = .ok (.goto (-43), 3) := by decide +kernel
theorem dX11_touch_62 : decode cX11_touch 62 = .ok (.bipush (-3), 2) := by decide +kernel
theorem dX11_touch_64 : decode cX11_touch 64 = .ok (.ireturn, 1) := by decide +kernel
theorem dX11_lost_0 : decode cX11_lost 0 = .ok (.iload_n 1, 1) := by decide +kernel
theorem dX11_lost_1 : decode cX11_lost 1 = .ok (.i2l, 1) := by decide +kernel
theorem dX11_lost_2 : decode cX11_lost 2 = .ok (.lconst 0, 1) := by decide +kernel
theorem dX11_lost_3 : decode cX11_lost 3 = .ok (.ldc2_w 112, 3) := by decide +kernel
theorem dX11_lost_6 : decode cX11_lost 6 = .ok (.invokestatic 114, 3) := by decide +kernel
theorem dX11_lost_9 : decode cX11_lost 9 = .ok (.ifCond .ne 5, 3) := by decide +kernel
theorem dX11_lost_12 : decode cX11_lost 12 = .ok (.iconst (-1), 1) := by decide +kernel
theorem dX11_lost_13 : decode cX11_lost 13 = .ok (.ireturn, 1) := by decide +kernel
theorem dX11_lost_14 : decode cX11_lost 14 = .ok (.aload_n 0, 1) := by decide +kernel
theorem dX11_lost_15 : decode cX11_lost 15 = .ok (.invokevirtual 130, 3) := by decide +kernel
theorem dX11_lost_18 : decode cX11_lost 18 = .ok (.aload_n 0, 1) := by decide +kernel
theorem dX11_lost_19 : decode cX11_lost 19 = .ok (.sipush 400, 3) := by decide +kernel
theorem dX11_lost_22 : decode cX11_lost 22 = .ok (.invokevirtual 260, 3) := by decide +kernel
theorem dX11_lost_25 : decode cX11_lost 25 = .ok (.aload_n 0, 1) := by decide +kernel
theorem dX11_lost_26 : decode cX11_lost 26 = .ok (.invokevirtual 263, 3) := by decide +kernel
theorem dX11_lost_29 : decode cX11_lost 29 = .ok (.aload_n 0, 1) := by decide +kernel
theorem dX11_lost_30 : decode cX11_lost 30 = .ok (.invokevirtual 130, 3) := by decide +kernel
theorem dX11_lost_33 : decode cX11_lost 33 = .ok (.aload_n 0, 1) := by decide +kernel
theorem dX11_lost_34 : decode cX11_lost 34 = .ok (.getfield 32, 3) := by decide +kernel
theorem dX11_lost_37 : decode cX11_lost 37 = .ok (.iconst 0, 1) := by decide +kernel
theorem dX11_lost_38 : decode cX11_lost 38 = .ok (.dup2, 1) := by decide +kernel
theorem dX11_lost_39 : decode cX11_lost 39 = .ok (.iaload, 1) := by decide +kernel
theorem dX11_lost_40 : decode cX11_lost 40 = .ok (.iload_n 1, 1) := by decide +kernel
theorem dX11_lost_41 : decode cX11_lost 41 = .ok (.iadd, 1) := by decide +kernel
theorem dX11_lost_42 : decode cX11_lost 42 = .ok (.iastore, 1) := by decide +kernel
theorem dX11_lost_43 : decode cX11_lost 43 = .ok (.aload_n 0, 1) := by decide +kernel
theorem dX11_lost_44 : decode cX11_lost 44 = .ok (.sipush 400, 3) := by decide +kernel
theorem dX11_lost_47 : decode cX11_lost 47 = .ok (.invokevirtual 260, 3) := by decide +kernel
theorem dX11_lost_50 : decode cX11_lost 50 = .ok (.iconst 0, 1) := by decide +kernel
theorem dX11_lost_51 : decode cX11_lost 51 = .ok (.istore_n 2, 1) := by decide +kernel
theorem dX11_lost_52 : decode cX11_lost 52 = .ok (.iload_n 2, 1) := by decide +kernel
theorem dX11_lost_53 : decode cX11_lost 53 = .ok (.aload_n 0, 1) := by decide +kernel
theorem dX11_lost_54 : decode cX11_lost 54 = .ok (.getfield 228, 3) := by decide +kernel
theorem dX11_lost_57 : decode cX11_lost 57 = .ok (.if_icmp .lt 11, 3) := by decide +kernel
theorem dX11_lost_60 : decode cX11_lost 60 = .ok (.iload_n 2, 1) := by decide +kernel
theorem dX11_lost_61 : decode cX11_lost 61 = .ok (.aload_n 0, 1) := by decide +kernel
theorem dX11_lost_62 : decode cX11_lost 62 = .ok (.getfield 86, 3) := by decide +kernel
theorem dX11_lost_65 : decode cX11_lost 65 = .ok (.if_icmp .ge 42, 3) := by decide +kernel
theorem dX11_lost_68 : decode cX11_lost 68 = .ok (.iload_n 2, 1) := by decide +kernel
theorem dX11_lost_69 : decode cX11_lost 69 = .ok (.aload_n 0, 1) := by decide +kernel
theorem dX11_lost_70 : decode cX11_lost 70 = .ok (.getfield 228, 3) := by decide +kernel
theorem dX11_lost_73 : decode cX11_lost 73 = .ok (.if_icmp .ge 26, 3) := by decide +kernel
theorem dX11_lost_76 : decode cX11_lost 76 = .ok (.iload_n 2, 1) := by decide +kernel
theorem dX11_lost_77 : decode cX11_lost 77 = .ok (.aload_n 0, 1) := by decide +kernel
theorem dX11_lost_78 : decode cX11_lost 78 = .ok (.getfield 86, 3) := by decide +kernel
theorem dX11_lost_81 : decode cX11_lost 81 = .ok (.if_icmp .ge 18, 3) := by decide +kernel
theorem dX11_lost_84 : decode cX11_lost 84 = .ok (.aload_n 0, 1) := by decide +kernel
theorem dX11_lost_85 : decode cX11_lost 85 = .ok (.getfield 56, 3) := by decide +kernel
theorem dX11_lost_88 : decode cX11_lost 88 = .ok (.iload_n 2, 1) := by decide +kernel
theorem dX11_lost_89 : decode cX11_lost 89 = .ok (.iaload, 1) := by decide +kernel
theorem dX11_lost_90 : decode cX11_lost 90 = .ok (.aload_n 0, 1) := by decide +kernel
theorem dX11_lost_91 : decode cX11_lost 91 = .ok (.getfield 35, 3) := by decide +kernel
theorem dX11_lost_94 : decode cX11_lost 94 = .ok (.iload_n 2, 1) := by decide +kernel
theorem dX11_lost_95 : decode cX11_lost 95 = .ok (.iaload, 1) := by decide +kernel
theorem dX11_lost_96 : decode cX11_lost 96 = .ok (.if_icmp .eq 5, 3) := by decide +kernel
theorem dX11_lost_99 : decode cX11_lost 99 = .ok (.iload_n 2, 1) := by decide +kernel
theorem dX11_lost_100 : decode cX11_lost 100 = .ok (.ireturn, 1) := by decide +kernel
theorem dX11_lost_101 : decode cX11_lost 101 = .ok (.iinc 2 1, 3) := by decide +kernel
theorem dX11_lost_104 : decode cX11_lost 104 = .ok (.goto (-52), 3) := by decide +kernel
theorem dX11_lost_107 : decode cX11_lost 107 = .ok (.bipush (-3), 2) := by decide +kernel
theorem dX11_lost_109 : decode cX11_lost 109 = .ok (.ireturn, 1) := by decide +kernel
theorem dX11_prove_0 : decode cX11_prove 0 = .ok (.iload_n 1, 1) := by decide +kernel
theorem dX11_prove_1 : decode cX11_prove 1 = .ok (.i2l, 1) := by decide +kernel
theorem dX11_prove_2 : decode cX11_prove 2 = .ok (.lconst 1, 1) := by decide +kernel
theorem dX11_prove_3 : decode cX11_prove 3 = .ok (.ldc2_w 275, 3) := by decide +kernel
theorem dX11_prove_6 : decode cX11_prove 6 = .ok (.invokestatic 114, 3) := by decide +kernel
theorem dX11_prove_9 : decode cX11_prove 9 = .ok (.ifCond .ne 5, 3) := by decide +kernel
theorem dX11_prove_12 : decode cX11_prove 12 = .ok (.iconst (-1), 1) := by decide +kernel
theorem dX11_prove_13 : decode cX11_prove 13 = .ok (.ireturn, 1) := by decide +kernel
theorem dX11_prove_14 : decode cX11_prove 14 = .ok (.aload_n 0, 1) := by decide +kernel
theorem dX11_prove_15 : decode cX11_prove 15 = .ok (.invokevirtual 130, 3) := by decide +kernel
theorem dX11_prove_18 : decode cX11_prove 18 = .ok (.aload_n 0, 1) := by decide +kernel
theorem dX11_prove_19 : decode cX11_prove 19 = .ok (.sipush 400, 3) := by decide +kernel
theorem dX11_prove_22 : decode cX11_prove 22 = .ok (.invokevirtual 260, 3) := by decide +kernel
theorem dX11_prove_25 : decode cX11_prove 25 = .ok (.aload_n 0, 1) := by decide +kernel
theorem dX11_prove_26 : decode cX11_prove 26 = .ok (.aload_n 0, 1) := by decide +kernel
theorem dX11_prove_27 : decode cX11_prove 27 = .ok (.getfield 86, 3) := by decide +kernel
theorem dX11_prove_30 : decode cX11_prove 30 = .ok (.iload_n 1, 1) := by decide +kernel
theorem dX11_prove_31 : decode cX11_prove 31 = .ok (.if_icmp .ge 10, 3) := by decide +kernel
theorem dX11_prove_34 : decode cX11_prove 34 = .ok (.aload_n 0, 1) := by decide +kernel
theorem dX11_prove_35 : decode cX11_prove 35 = .ok (.getfield 86, 3) := by decide +kernel
theorem dX11_prove_38 : decode cX11_prove 38 = .ok (.goto 4, 3) := by decide +kernel
theorem dX11_prove_41 : decode cX11_prove 41 = .ok (.iload_n 1, 1) := by decide +kernel
theorem dX11_prove_42 : decode cX11_prove 42 = .ok (.putfield 277, 3) := by decide +kernel
theorem dX11_prove_45 : decode cX11_prove 45 = .ok (.iconst 0, 1) := by decide +kernel
theorem dX11_prove_46 : decode cX11_prove 46 = .ok (.istore_n 2, 1) := by decide +kernel
theorem dX11_prove_47 : decode cX11_prove 47 = .ok (.iload_n 2, 1) := by decide +kernel
theorem dX11_prove_48 : decode cX11_prove 48 = .ok (.aload_n 0, 1) := by decide +kernel
theorem dX11_prove_49 : decode cX11_prove 49 = .ok (.getfield 277, 3) := by decide +kernel
theorem dX11_prove_52 : decode cX11_prove 52 = .ok (.if_icmp .ge 39, 3) := by decide +kernel
theorem dX11_prove_55 : decode cX11_prove 55 = .ok (.aload_n 0, 1) := by decide +kernel
theorem dX11_prove_56 : decode cX11_prove 56 = .ok (.getfield 59, 3) := by decide +kernel
theorem dX11_prove_59 : decode cX11_prove 59 = .ok (.iconst 2, 1) := by decide +kernel
theorem dX11_prove_60 : decode cX11_prove 60 = .ok (.iload_n 2, 1) := by decide +kernel
theorem dX11_prove_61 : decode cX11_prove 61 = .ok (.imul, 1) := by decide +kernel
theorem dX11_prove_62 : decode cX11_prove 62 = .ok (.aload_n 0, 1) := by decide +kernel
theorem dX11_prove_63 : decode cX11_prove 63 = .ok (.getfield 35, 3) := by decide +kernel
theorem dX11_prove_66 : decode cX11_prove 66 = .ok (.iload_n 2, 1) := by decide +kernel
theorem dX11_prove_67 : decode cX11_prove 67 = .ok (.iaload, 1) := by decide +kernel
theorem dX11_prove_68 : decode cX11_prove 68 = .ok (.iastore, 1) := by decide +kernel
theorem dX11_prove_69 : decode cX11_prove 69 = .ok (.aload_n 0, 1) := by decide +kernel
theorem dX11_prove_70 : decode cX11_prove 70 = .ok (.getfield 59, 3) := by decide +kernel
theorem dX11_prove_73 : decode cX11_prove 73 = .ok (.iconst 2, 1) := by decide +kernel
theorem dX11_prove_74 : decode cX11_prove 74 = .ok (.iload_n 2, 1) := by decide +kernel
theorem dX11_prove_75 : decode cX11_prove 75 = .ok (.imul, 1) := by decide +kernel
theorem dX11_prove_76 : decode cX11_prove 76 = .ok (.iconst 1, 1) := by decide +kernel
theorem dX11_prove_77 : decode cX11_prove 77 = .ok (.iadd, 1) := by decide +kernel
theorem dX11_prove_78 : decode cX11_prove 78 = .ok (.aload_n 0, 1) := by decide +kernel
theorem dX11_prove_79 : decode cX11_prove 79 = .ok (.getfield 38, 3) := by decide +kernel
theorem dX11_prove_82 : decode cX11_prove 82 = .ok (.iload_n 2, 1) := by decide +kernel
theorem dX11_prove_83 : decode cX11_prove 83 = .ok (.iaload, 1) := by decide +kernel
theorem dX11_prove_84 : decode cX11_prove 84 = .ok (.iastore, 1) := by decide +kernel
theorem dX11_prove_85 : decode cX11_prove 85 = .ok (.iinc 2 1, 3) := by decide +kernel
theorem dX11_prove_88 : decode cX11_prove 88 = .ok (.goto (-41), 3) := by decide +kernel
theorem dX11_prove_91 : decode cX11_prove 91 = .ok (.aload_n 0, 1) := by decide +kernel
theorem dX11_prove_92 : decode cX11_prove 92 = .ok (.getfield 277, 3) := by decide +kernel
theorem dX11_prove_95 : decode cX11_prove 95 = .ok (.ireturn, 1) := by decide +kernel
theorem dX11_row_0 : decode cX11_row 0 = .ok (.iload_n 1, 1) := by decide +kernel
theorem dX11_row_1 : decode cX11_row 1 = .ok (.i2l, 1) := by decide +kernel
theorem dX11_row_2 : decode cX11_row 2 = .ok (.lconst 0, 1) := by decide +kernel
theorem dX11_row_3 : decode cX11_row 3 = .ok (.aload_n 0, 1) := by decide +kernel
theorem dX11_row_4 : decode cX11_row 4 = .ok (.getfield 277, 3) := by decide +kernel
theorem dX11_row_7 : decode cX11_row 7 = .ok (.iconst 1, 1) := by decide +kernel
theorem dX11_row_8 : decode cX11_row 8 = .ok (.isub, 1) := by decide +kernel
theorem dX11_row_9 : decode cX11_row 9 = .ok (.i2l, 1) := by decide +kernel
theorem dX11_row_10 : decode cX11_row 10 = .ok (.invokestatic 114, 3) := by decide +kernel
theorem dX11_row_13 : decode cX11_row 13 = .ok (.ifCond .eq 26, 3) := by decide +kernel
theorem dX11_row_16 : decode cX11_row 16 = .ok (.iload_n 2, 1) := by decide +kernel
theorem dX11_row_17 : decode cX11_row 17 = .ok (.i2l, 1) := by decide +kernel
theorem dX11_row_18 : decode cX11_row 18 = .ok (.lconst 0, 1) := by decide +kernel
theorem dX11_row_19 : decode cX11_row 19 = .ok (.lconst 1, 1) := by decide +kernel
theorem dX11_row_20 : decode cX11_row 20 = .ok (.invokestatic 114, 3) := by decide +kernel
theorem dX11_row_23 : decode cX11_row 23 = .ok (.ifCond .eq 16, 3) := by decide +kernel
theorem dX11_row_26 : decode cX11_row 26 = .ok (.aload_n 0, 1) := by decide +kernel
theorem dX11_row_27 : decode cX11_row 27 = .ok (.getfield 59, 3) := by decide +kernel
theorem dX11_row_30 : decode cX11_row 30 = .ok (.iconst 2, 1) := by decide +kernel
theorem dX11_row_31 : decode cX11_row 31 = .ok (.iload_n 1, 1) := by decide +kernel
theorem dX11_row_32 : decode cX11_row 32 = .ok (.imul, 1) := by decide +kernel
theorem dX11_row_33 : decode cX11_row 33 = .ok (.iload_n 2, 1) := by decide +kernel
theorem dX11_row_34 : decode cX11_row 34 = .ok (.iadd, 1) := by decide +kernel
theorem dX11_row_35 : decode cX11_row 35 = .ok (.iaload, 1) := by decide +kernel
theorem dX11_row_36 : decode cX11_row 36 = .ok (.goto 5, 3) := by decide +kernel
theorem dX11_row_39 : decode cX11_row 39 = .ok (.bipush (-9), 2) := by decide +kernel
theorem dX11_row_41 : decode cX11_row 41 = .ok (.ireturn, 1) := by decide +kernel
theorem dX11_alterRow_0 : decode cX11_alterRow 0 = .ok (.iload_n 1, 1) := by decide +kernel
theorem dX11_alterRow_1 : decode cX11_alterRow 1 = .ok (.i2l, 1) := by decide +kernel
theorem dX11_alterRow_2 : decode cX11_alterRow 2 = .ok (.lconst 0, 1) := by decide +kernel
theorem dX11_alterRow_3 : decode cX11_alterRow 3 = .ok (.aload_n 0, 1) := by decide +kernel
theorem dX11_alterRow_4 : decode cX11_alterRow 4 = .ok (.getfield 277, 3) := by decide +kernel
theorem dX11_alterRow_7 : decode cX11_alterRow 7 = .ok (.iconst 1, 1) := by decide +kernel
theorem dX11_alterRow_8 : decode cX11_alterRow 8 = .ok (.isub, 1) := by decide +kernel
theorem dX11_alterRow_9 : decode cX11_alterRow 9 = .ok (.i2l, 1) := by decide +kernel
theorem dX11_alterRow_10 : decode cX11_alterRow 10 = .ok (.invokestatic 114, 3) := by decide +kernel
theorem dX11_alterRow_13 : decode cX11_alterRow 13 = .ok (.ifCond .eq 13, 3) := by decide +kernel
theorem dX11_alterRow_16 : decode cX11_alterRow 16 = .ok (.iload_n 2, 1) := by decide +kernel
theorem dX11_alterRow_17 : decode cX11_alterRow 17 = .ok (.i2l, 1) := by decide +kernel
theorem dX11_alterRow_18 : decode cX11_alterRow 18 = .ok (.lconst 0, 1) := by decide +kernel
theorem dX11_alterRow_19 : decode cX11_alterRow 19 = .ok (.lconst 1, 1) := by decide +kernel
theorem dX11_alterRow_20 : decode cX11_alterRow 20 = .ok (.invokestatic 114, 3) := by decide +kernel
theorem dX11_alterRow_23 : decode cX11_alterRow 23 = .ok (.ifCond .ne 6, 3) := by decide +kernel
theorem dX11_alterRow_26 : decode cX11_alterRow 26 = .ok (.bipush (-9), 2) := by decide +kernel
theorem dX11_alterRow_28 : decode cX11_alterRow 28 = .ok (.ireturn, 1) := by decide +kernel
theorem dX11_alterRow_29 : decode cX11_alterRow 29 = .ok (.aload_n 0, 1) := by decide +kernel
theorem dX11_alterRow_30 : decode cX11_alterRow 30 = .ok (.getfield 59, 3) := by decide +kernel
theorem dX11_alterRow_33 : decode cX11_alterRow 33 = .ok (.iconst 2, 1) := by decide +kernel
theorem dX11_alterRow_34 : decode cX11_alterRow 34 = .ok (.iload_n 1, 1) := by decide +kernel
theorem dX11_alterRow_35 : decode cX11_alterRow 35 = .ok (.imul, 1) := by decide +kernel
theorem dX11_alterRow_36 : decode cX11_alterRow 36 = .ok (.iload_n 2, 1) := by decide +kernel
theorem dX11_alterRow_37 : decode cX11_alterRow 37 = .ok (.iadd, 1) := by decide +kernel
theorem dX11_alterRow_38 : decode cX11_alterRow 38 = .ok (.iaload, 1) := by decide +kernel
theorem dX11_alterRow_39 : decode cX11_alterRow 39 = .ok (.istore 4, 2) := by decide +kernel
theorem dX11_alterRow_41 : decode cX11_alterRow 41 = .ok (.aload_n 0, 1) := by decide +kernel
theorem dX11_alterRow_42 : decode cX11_alterRow 42 = .ok (.getfield 59, 3) := by decide +kernel
theorem dX11_alterRow_45 : decode cX11_alterRow 45 = .ok (.iconst 2, 1) := by decide +kernel
theorem dX11_alterRow_46 : decode cX11_alterRow 46 = .ok (.iload_n 1, 1) := by decide +kernel
theorem dX11_alterRow_47 : decode cX11_alterRow 47 = .ok (.imul, 1) := by decide +kernel
theorem dX11_alterRow_48 : decode cX11_alterRow 48 = .ok (.iload_n 2, 1) := by decide +kernel
theorem dX11_alterRow_49 : decode cX11_alterRow 49 = .ok (.iadd, 1) := by decide +kernel
theorem dX11_alterRow_50 : decode cX11_alterRow 50 = .ok (.iload_n 3, 1) := by decide +kernel
theorem dX11_alterRow_51 : decode cX11_alterRow 51 = .ok (.iastore, 1) := by decide +kernel
theorem dX11_alterRow_52 : decode cX11_alterRow 52 = .ok (.iload 4, 2) := by decide +kernel
theorem dX11_alterRow_54 : decode cX11_alterRow 54 = .ok (.ireturn, 1) := by decide +kernel
theorem dX11_judge_0 : decode cX11_judge 0 = .ok (.aload_n 0, 1) := by decide +kernel
theorem dX11_judge_1 : decode cX11_judge 1 = .ok (.invokevirtual 130, 3) := by decide +kernel
theorem dX11_judge_4 : decode cX11_judge 4 = .ok (.aload_n 0, 1) := by decide +kernel
theorem dX11_judge_5 : decode cX11_judge 5 = .ok (.sipush 400, 3) := by decide +kernel
theorem dX11_judge_8 : decode cX11_judge 8 = .ok (.invokevirtual 260, 3) := by decide +kernel
theorem dX11_judge_11 : decode cX11_judge 11 = .ok (.iconst 0, 1) := by decide +kernel
theorem dX11_judge_12 : decode cX11_judge 12 = .ok (.istore_n 1, 1) := by decide +kernel
theorem dX11_judge_13 : decode cX11_judge 13 = .ok (.iload_n 1, 1) := by decide +kernel
theorem dX11_judge_14 : decode cX11_judge 14 = .ok (.aload_n 0, 1) := by decide +kernel
theorem dX11_judge_15 : decode cX11_judge 15 = .ok (.getfield 277, 3) := by decide +kernel
theorem dX11_judge_18 : decode cX11_judge 18 = .ok (.if_icmp .ge 57, 3) := by decide +kernel
theorem dX11_judge_21 : decode cX11_judge 21 = .ok (.iload_n 1, 1) := by decide +kernel
theorem dX11_judge_22 : decode cX11_judge 22 = .ok (.aload_n 0, 1) := by decide +kernel
theorem dX11_judge_23 : decode cX11_judge 23 = .ok (.getfield 86, 3) := by decide +kernel
theorem dX11_judge_26 : decode cX11_judge 26 = .ok (.if_icmp .ge 39, 3) := by decide +kernel
theorem dX11_judge_29 : decode cX11_judge 29 = .ok (.aload_n 0, 1) := by decide +kernel
theorem dX11_judge_30 : decode cX11_judge 30 = .ok (.getfield 59, 3) := by decide +kernel
theorem dX11_judge_33 : decode cX11_judge 33 = .ok (.iconst 2, 1) := by decide +kernel
theorem dX11_judge_34 : decode cX11_judge 34 = .ok (.iload_n 1, 1) := by decide +kernel
theorem dX11_judge_35 : decode cX11_judge 35 = .ok (.imul, 1) := by decide +kernel
theorem dX11_judge_36 : decode cX11_judge 36 = .ok (.iaload, 1) := by decide +kernel
theorem dX11_judge_37 : decode cX11_judge 37 = .ok (.aload_n 0, 1) := by decide +kernel
theorem dX11_judge_38 : decode cX11_judge 38 = .ok (.getfield 35, 3) := by decide +kernel
theorem dX11_judge_41 : decode cX11_judge 41 = .ok (.iload_n 1, 1) := by decide +kernel
theorem dX11_judge_42 : decode cX11_judge 42 = .ok (.iaload, 1) := by decide +kernel
theorem dX11_judge_43 : decode cX11_judge 43 = .ok (.if_icmp .ne 22, 3) := by decide +kernel
theorem dX11_judge_46 : decode cX11_judge 46 = .ok (.aload_n 0, 1) := by decide +kernel
theorem dX11_judge_47 : decode cX11_judge 47 = .ok (.getfield 59, 3) := by decide +kernel
theorem dX11_judge_50 : decode cX11_judge 50 = .ok (.iconst 2, 1) := by decide +kernel
theorem dX11_judge_51 : decode cX11_judge 51 = .ok (.iload_n 1, 1) := by decide +kernel
theorem dX11_judge_52 : decode cX11_judge 52 = .ok (.imul, 1) := by decide +kernel
theorem dX11_judge_53 : decode cX11_judge 53 = .ok (.iconst 1, 1) := by decide +kernel
theorem dX11_judge_54 : decode cX11_judge 54 = .ok (.iadd, 1) := by decide +kernel
theorem dX11_judge_55 : decode cX11_judge 55 = .ok (.iaload, 1) := by decide +kernel
theorem dX11_judge_56 : decode cX11_judge 56 = .ok (.aload_n 0, 1) := by decide +kernel
theorem dX11_judge_57 : decode cX11_judge 57 = .ok (.getfield 38, 3) := by decide +kernel
theorem dX11_judge_60 : decode cX11_judge 60 = .ok (.iload_n 1, 1) := by decide +kernel
theorem dX11_judge_61 : decode cX11_judge 61 = .ok (.iaload, 1) := by decide +kernel
theorem dX11_judge_62 : decode cX11_judge 62 = .ok (.if_icmp .eq 7, 3) := by decide +kernel
theorem dX11_judge_65 : decode cX11_judge 65 = .ok (.iload_n 1, 1) := by decide +kernel
theorem dX11_judge_66 : decode cX11_judge 66 = .ok (.iconst 1, 1) := by decide +kernel
theorem dX11_judge_67 : decode cX11_judge 67 = .ok (.iadd, 1) := by decide +kernel
theorem dX11_judge_68 : decode cX11_judge 68 = .ok (.ireturn, 1) := by decide +kernel
theorem dX11_judge_69 : decode cX11_judge 69 = .ok (.iinc 1 1, 3) := by decide +kernel
theorem dX11_judge_72 : decode cX11_judge 72 = .ok (.goto (-59), 3) := by decide +kernel
theorem dX11_judge_75 : decode cX11_judge 75 = .ok (.iconst 0, 1) := by decide +kernel
theorem dX11_judge_76 : decode cX11_judge 76 = .ok (.ireturn, 1) := by decide +kernel
theorem dX11_isRecord_0 : decode cX11_isRecord 0 = .ok (.iload_n 1, 1) := by decide +kernel
theorem dX11_isRecord_1 : decode cX11_isRecord 1 = .ok (.i2l, 1) := by decide +kernel
theorem dX11_isRecord_2 : decode cX11_isRecord 2 = .ok (.lconst 0, 1) := by decide +kernel
theorem dX11_isRecord_3 : decode cX11_isRecord 3 = .ok (.aload_n 0, 1) := by decide +kernel
theorem dX11_isRecord_4 : decode cX11_isRecord 4 = .ok (.getfield 7, 3) := by decide +kernel
theorem dX11_isRecord_7 : decode cX11_isRecord 7 = .ok (.bipush 10, 2) := by decide +kernel
theorem dX11_isRecord_9 : decode cX11_isRecord 9 = .ok (.iaload, 1) := by decide +kernel
theorem dX11_isRecord_10 : decode cX11_isRecord 10 = .ok (.iconst 1, 1) := by decide +kernel
theorem dX11_isRecord_11 : decode cX11_isRecord 11 = .ok (.isub, 1) := by decide +kernel
theorem dX11_isRecord_12 : decode cX11_isRecord 12 = .ok (.i2l, 1) := by decide +kernel
theorem dX11_isRecord_13 : decode cX11_isRecord 13 = .ok (.invokestatic 114, 3) := by decide +kernel
theorem dX11_isRecord_16 : decode cX11_isRecord 16 = .ok (.ireturn, 1) := by decide +kernel
theorem dX11_record_0 : decode cX11_record 0 = .ok (.aload_n 0, 1) := by decide +kernel
theorem dX11_record_1 : decode cX11_record 1 = .ok (.getfield 7, 3) := by decide +kernel
theorem dX11_record_4 : decode cX11_record 4 = .ok (.bipush 10, 2) := by decide +kernel
theorem dX11_record_6 : decode cX11_record 6 = .ok (.iaload, 1) := by decide +kernel
theorem dX11_record_7 : decode cX11_record 7 = .ok (.bipush 6, 2) := by decide +kernel
theorem dX11_record_9 : decode cX11_record 9 = .ok (.if_icmp .ne 6, 3) := by decide +kernel
theorem dX11_record_12 : decode cX11_record 12 = .ok (.bipush (-2), 2) := by decide +kernel
theorem dX11_record_14 : decode cX11_record 14 = .ok (.ireturn, 1) := by decide +kernel
theorem dX11_record_15 : decode cX11_record 15 = .ok (.bipush 72, 2) := by decide +kernel
theorem dX11_record_17 : decode cX11_record 17 = .ok (.bipush 61, 2) := by decide +kernel
theorem dX11_record_19 : decode cX11_record 19 = .ok (.aload_n 0, 1) := by decide +kernel
theorem dX11_record_20 : decode cX11_record 20 = .ok (.getfield 7, 3) := by decide +kernel
theorem dX11_record_23 : decode cX11_record 23 = .ok (.bipush 10, 2) := by decide +kernel
theorem dX11_record_25 : decode cX11_record 25 = .ok (.iaload, 1) := by decide +kernel
theorem dX11_record_26 : decode cX11_record 26 = .ok (.imul, 1) := by decide +kernel
theorem dX11_record_27 : decode cX11_record 27 = .ok (.iadd, 1) := by decide +kernel
theorem dX11_record_28 : decode cX11_record 28 = .ok (.istore_n 1, 1) := by decide +kernel
theorem dX11_record_29 : decode cX11_record 29 = .ok (.aload_n 0, 1) := by decide +kernel
theorem dX11_record_30 : decode cX11_record 30 = .ok (.getfield 7, 3) := by decide +kernel
theorem dX11_record_33 : decode cX11_record 33 = .ok (.iload_n 1, 1) := by decide +kernel
theorem dX11_record_34 : decode cX11_record 34 = .ok (.aload_n 0, 1) := by decide +kernel
theorem dX11_record_35 : decode cX11_record 35 = .ok (.getfield 7, 3) := by decide +kernel
theorem dX11_record_38 : decode cX11_record 38 = .ok (.bipush 9, 2) := by decide +kernel
theorem dX11_record_40 : decode cX11_record 40 = .ok (.iaload, 1) := by decide +kernel
theorem dX11_record_41 : decode cX11_record 41 = .ok (.iastore, 1) := by decide +kernel
theorem dX11_record_42 : decode cX11_record 42 = .ok (.iconst 0, 1) := by decide +kernel
theorem dX11_record_43 : decode cX11_record 43 = .ok (.istore_n 2, 1) := by decide +kernel
theorem dX11_record_44 : decode cX11_record 44 = .ok (.iload_n 2, 1) := by decide +kernel
theorem dX11_record_45 : decode cX11_record 45 = .ok (.bipush 60, 2) := by decide +kernel
theorem dX11_record_47 : decode cX11_record 47 = .ok (.if_icmp .ge 43, 3) := by decide +kernel
theorem dX11_record_50 : decode cX11_record 50 = .ok (.aload_n 0, 1) := by decide +kernel
theorem dX11_record_51 : decode cX11_record 51 = .ok (.getfield 7, 3) := by decide +kernel
theorem dX11_record_54 : decode cX11_record 54 = .ok (.iload_n 1, 1) := by decide +kernel
theorem dX11_record_55 : decode cX11_record 55 = .ok (.iconst 1, 1) := by decide +kernel
theorem dX11_record_56 : decode cX11_record 56 = .ok (.iadd, 1) := by decide +kernel
theorem dX11_record_57 : decode cX11_record 57 = .ok (.iload_n 2, 1) := by decide +kernel
theorem dX11_record_58 : decode cX11_record 58 = .ok (.iadd, 1) := by decide +kernel
theorem dX11_record_59 : decode cX11_record 59 = .ok (.iload_n 2, 1) := by decide +kernel
theorem dX11_record_60 : decode cX11_record 60 = .ok (.aload_n 0, 1) := by decide +kernel
theorem dX11_record_61 : decode cX11_record 61 = .ok (.getfield 7, 3) := by decide +kernel
theorem dX11_record_64 : decode cX11_record 64 = .ok (.bipush 9, 2) := by decide +kernel
theorem dX11_record_66 : decode cX11_record 66 = .ok (.iaload, 1) := by decide +kernel
theorem dX11_record_67 : decode cX11_record 67 = .ok (.if_icmp .ge 15, 3) := by decide +kernel
theorem dX11_record_70 : decode cX11_record 70 = .ok (.aload_n 0, 1) := by decide +kernel
theorem dX11_record_71 : decode cX11_record 71 = .ok (.getfield 7, 3) := by decide +kernel
theorem dX11_record_74 : decode cX11_record 74 = .ok (.bipush 12, 2) := by decide +kernel
theorem dX11_record_76 : decode cX11_record 76 = .ok (.iload_n 2, 1) := by decide +kernel
theorem dX11_record_77 : decode cX11_record 77 = .ok (.iadd, 1) := by decide +kernel
theorem dX11_record_78 : decode cX11_record 78 = .ok (.iaload, 1) := by decide +kernel
theorem dX11_record_79 : decode cX11_record 79 = .ok (.goto 4, 3) := by decide +kernel
theorem dX11_record_82 : decode cX11_record 82 = .ok (.iconst 0, 1) := by decide +kernel
theorem dX11_record_83 : decode cX11_record 83 = .ok (.iastore, 1) := by decide +kernel
theorem dX11_record_84 : decode cX11_record 84 = .ok (.iinc 2 1, 3) := by decide +kernel
theorem dX11_record_87 : decode cX11_record 87 = .ok (.goto (-43), 3) := by decide +kernel
theorem dX11_record_90 : decode cX11_record 90 = .ok (.aload_n 0, 1) := by decide +kernel
theorem dX11_record_91 : decode cX11_record 91 = .ok (.getfield 7, 3) := by decide +kernel
theorem dX11_record_94 : decode cX11_record 94 = .ok (.bipush 10, 2) := by decide +kernel
theorem dX11_record_96 : decode cX11_record 96 = .ok (.dup2, 1) := by decide +kernel
theorem dX11_record_97 : decode cX11_record 97 = .ok (.iaload, 1) := by decide +kernel
theorem dX11_record_98 : decode cX11_record 98 = .ok (.iconst 1, 1) := by decide +kernel
theorem dX11_record_99 : decode cX11_record 99 = .ok (.iadd, 1) := by decide +kernel
theorem dX11_record_100 : decode cX11_record 100 = .ok (.iastore, 1) := by decide +kernel
theorem dX11_record_101 : decode cX11_record 101 = .ok (.aload_n 0, 1) := by decide +kernel
theorem dX11_record_102 : decode cX11_record 102 = .ok (.getfield 7, 3) := by decide +kernel
theorem dX11_record_105 : decode cX11_record 105 = .ok (.bipush 10, 2) := by decide +kernel
theorem dX11_record_107 : decode cX11_record 107 = .ok (.iaload, 1) := by decide +kernel
theorem dX11_record_108 : decode cX11_record 108 = .ok (.iconst 1, 1) := by decide +kernel
theorem dX11_record_109 : decode cX11_record 109 = .ok (.isub, 1) := by decide +kernel
theorem dX11_record_110 : decode cX11_record 110 = .ok (.ireturn, 1) := by decide +kernel
theorem dX11_recorded_0 : decode cX11_recorded 0 = .ok (.aload_n 0, 1) := by decide +kernel
theorem dX11_recorded_1 : decode cX11_recorded 1 = .ok (.iload_n 1, 1) := by decide +kernel
theorem dX11_recorded_2 : decode cX11_recorded 2 = .ok (.invokevirtual 280, 3) := by decide +kernel
theorem dX11_recorded_5 : decode cX11_recorded 5 = .ok (.ifCond .eq 27, 3) := by decide +kernel
theorem dX11_recorded_8 : decode cX11_recorded 8 = .ok (.iload_n 2, 1) := by decide +kernel
theorem dX11_recorded_9 : decode cX11_recorded 9 = .ok (.i2l, 1) := by decide +kernel
theorem dX11_recorded_10 : decode cX11_recorded 10 = .ok (.lconst 0, 1) := by decide +kernel
theorem dX11_recorded_11 : decode cX11_recorded 11 = .ok (.iconst 2, 1) := by decide +kernel
theorem dX11_recorded_12 : decode cX11_recorded 12 = .ok (.aload_n 0, 1) := by decide +kernel
theorem dX11_recorded_13 : decode cX11_recorded 13 = .ok (.getfield 7, 3) := by decide +kernel
theorem dX11_recorded_16 : decode cX11_recorded 16 = .ok (.bipush 72, 2) := by decide +kernel
theorem dX11_recorded_18 : decode cX11_recorded 18 = .ok (.bipush 61, 2) := by decide +kernel
theorem dX11_recorded_20 : decode cX11_recorded 20 = .ok (.iload_n 1, 1) := by decide +kernel
theorem dX11_recorded_21 : decode cX11_recorded 21 = .ok (.imul, 1) := by decide +kernel
theorem dX11_recorded_22 : decode cX11_recorded 22 = .ok (.iadd, 1) := by decide +kernel
theorem dX11_recorded_23 : decode cX11_recorded 23 = .ok (.iaload, 1) := by decide +kernel
theorem dX11_recorded_24 : decode cX11_recorded 24 = .ok (.iadd, 1) := by decide +kernel
theorem dX11_recorded_25 : decode cX11_recorded 25 = .ok (.i2l, 1) := by decide +kernel
theorem dX11_recorded_26 : decode cX11_recorded 26 = .ok (.invokestatic 114, 3) := by decide +kernel
theorem dX11_recorded_29 : decode cX11_recorded 29 = .ok (.ifCond .ne 5, 3) := by decide +kernel
theorem dX11_recorded_32 : decode cX11_recorded 32 = .ok (.iconst (-1), 1) := by decide +kernel
theorem dX11_recorded_33 : decode cX11_recorded 33 = .ok (.ireturn, 1) := by decide +kernel
theorem dX11_recorded_34 : decode cX11_recorded 34 = .ok (.aload_n 0, 1) := by decide +kernel
theorem dX11_recorded_35 : decode cX11_recorded 35 = .ok (.iload_n 1, 1) := by decide +kernel
theorem dX11_recorded_36 : decode cX11_recorded 36 = .ok (.invokevirtual 283, 3) := by decide +kernel
theorem dX11_recorded_39 : decode cX11_recorded 39 = .ok (.iload_n 2, 1) := by decide +kernel
theorem dX11_recorded_40 : decode cX11_recorded 40 = .ok (.ifCond .ne 10, 3) := by decide +kernel
theorem dX11_recorded_43 : decode cX11_recorded 43 = .ok (.aload_n 0, 1) := by decide +kernel
theorem dX11_recorded_44 : decode cX11_recorded 44 = .ok (.invokevirtual 240, 3) := by decide +kernel
theorem dX11_recorded_47 : decode cX11_recorded 47 = .ok (.goto 35, 3) := by decide +kernel
theorem dX11_recorded_50 : decode cX11_recorded 50 = .ok (.iload_n 2, 1) := by decide +kernel
theorem dX11_recorded_51 : decode cX11_recorded 51 = .ok (.iconst 1, 1) := by decide +kernel
theorem dX11_recorded_52 : decode cX11_recorded 52 = .ok (.if_icmp .ne 10, 3) := by decide +kernel
theorem dX11_recorded_55 : decode cX11_recorded 55 = .ok (.aload_n 0, 1) := by decide +kernel
theorem dX11_recorded_56 : decode cX11_recorded 56 = .ok (.getfield 228, 3) := by decide +kernel
theorem dX11_recorded_59 : decode cX11_recorded 59 = .ok (.goto 23, 3) := by decide +kernel
theorem dX11_recorded_62 : decode cX11_recorded 62 = .ok (.iload_n 2, 1) := by decide +kernel
theorem dX11_recorded_63 : decode cX11_recorded 63 = .ok (.iconst 2, 1) := by decide +kernel
theorem dX11_recorded_64 : decode cX11_recorded 64 = .ok (.if_icmp .ne 10, 3) := by decide +kernel
theorem dX11_recorded_67 : decode cX11_recorded 67 = .ok (.aload_n 0, 1) := by decide +kernel
theorem dX11_recorded_68 : decode cX11_recorded 68 = .ok (.invokevirtual 234, 3) := by decide +kernel
theorem dX11_recorded_71 : decode cX11_recorded 71 = .ok (.goto 11, 3) := by decide +kernel
theorem dX11_recorded_74 : decode cX11_recorded 74 = .ok (.aload_n 0, 1) := by decide +kernel
theorem dX11_recorded_75 : decode cX11_recorded 75 = .ok (.getfield 56, 3) := by decide +kernel
theorem dX11_recorded_78 : decode cX11_recorded 78 = .ok (.iload_n 2, 1) := by decide +kernel
theorem dX11_recorded_79 : decode cX11_recorded 79 = .ok (.iconst 3, 1) := by decide +kernel
theorem dX11_recorded_80 : decode cX11_recorded 80 = .ok (.isub, 1) := by decide +kernel
theorem dX11_recorded_81 : decode cX11_recorded 81 = .ok (.iaload, 1) := by decide +kernel
theorem dX11_recorded_82 : decode cX11_recorded 82 = .ok (.ireturn, 1) := by decide +kernel
theorem dX11_alike_0 : decode cX11_alike 0 = .ok (.aload_n 0, 1) := by decide +kernel
theorem dX11_alike_1 : decode cX11_alike 1 = .ok (.iload_n 1, 1) := by decide +kernel
theorem dX11_alike_2 : decode cX11_alike 2 = .ok (.invokevirtual 280, 3) := by decide +kernel
theorem dX11_alike_5 : decode cX11_alike 5 = .ok (.ifCond .eq 11, 3) := by decide +kernel
theorem dX11_alike_8 : decode cX11_alike 8 = .ok (.aload_n 0, 1) := by decide +kernel
theorem dX11_alike_9 : decode cX11_alike 9 = .ok (.iload_n 2, 1) := by decide +kernel
theorem dX11_alike_10 : decode cX11_alike 10 = .ok (.invokevirtual 280, 3) := by decide +kernel
theorem dX11_alike_13 : decode cX11_alike 13 = .ok (.ifCond .ne 5, 3) := by decide +kernel
theorem dX11_alike_16 : decode cX11_alike 16 = .ok (.iconst (-1), 1) := by decide +kernel
theorem dX11_alike_17 : decode cX11_alike 17 = .ok (.ireturn, 1) := by decide +kernel
theorem dX11_alike_18 : decode cX11_alike 18 = .ok (.iconst 0, 1) := by decide +kernel
theorem dX11_alike_19 : decode cX11_alike 19 = .ok (.istore_n 3, 1) := by decide +kernel
theorem dX11_alike_20 : decode cX11_alike 20 = .ok (.iconst 0, 1) := by decide +kernel
theorem dX11_alike_21 : decode cX11_alike 21 = .ok (.istore 4, 2) := by decide +kernel
theorem dX11_alike_23 : decode cX11_alike 23 = .ok (.iload 4, 2) := by decide +kernel
theorem dX11_alike_25 : decode cX11_alike 25 = .ok (.aload_n 0, 1) := by decide +kernel
theorem dX11_alike_26 : decode cX11_alike 26 = .ok (.getfield 7, 3) := by decide +kernel
theorem dX11_alike_29 : decode cX11_alike 29 = .ok (.bipush 72, 2) := by decide +kernel
theorem dX11_alike_31 : decode cX11_alike 31 = .ok (.bipush 61, 2) := by decide +kernel
theorem dX11_alike_33 : decode cX11_alike 33 = .ok (.iload_n 1, 1) := by decide +kernel
theorem dX11_alike_34 : decode cX11_alike 34 = .ok (.imul, 1) := by decide +kernel
theorem dX11_alike_35 : decode cX11_alike 35 = .ok (.iadd, 1) := by decide +kernel
theorem dX11_alike_36 : decode cX11_alike 36 = .ok (.iaload, 1) := by decide +kernel
theorem dX11_alike_37 : decode cX11_alike 37 = .ok (.if_icmp .ge 71, 3) := by decide +kernel
theorem dX11_alike_40 : decode cX11_alike 40 = .ok (.iload 4, 2) := by decide +kernel
theorem dX11_alike_42 : decode cX11_alike 42 = .ok (.aload_n 0, 1) := by decide +kernel
theorem dX11_alike_43 : decode cX11_alike 43 = .ok (.getfield 7, 3) := by decide +kernel
theorem dX11_alike_46 : decode cX11_alike 46 = .ok (.bipush 72, 2) := by decide +kernel
theorem dX11_alike_48 : decode cX11_alike 48 = .ok (.bipush 61, 2) := by decide +kernel
theorem dX11_alike_50 : decode cX11_alike 50 = .ok (.iload_n 2, 1) := by decide +kernel
theorem dX11_alike_51 : decode cX11_alike 51 = .ok (.imul, 1) := by decide +kernel
theorem dX11_alike_52 : decode cX11_alike 52 = .ok (.iadd, 1) := by decide +kernel
theorem dX11_alike_53 : decode cX11_alike 53 = .ok (.iaload, 1) := by decide +kernel
theorem dX11_alike_54 : decode cX11_alike 54 = .ok (.if_icmp .ge 54, 3) := by decide +kernel
theorem dX11_alike_57 : decode cX11_alike 57 = .ok (.iload_n 3, 1) := by decide +kernel
theorem dX11_alike_58 : decode cX11_alike 58 = .ok (.aload_n 0, 1) := by decide +kernel
theorem dX11_alike_59 : decode cX11_alike 59 = .ok (.getfield 7, 3) := by decide +kernel
theorem dX11_alike_62 : decode cX11_alike 62 = .ok (.bipush 72, 2) := by decide +kernel
theorem dX11_alike_64 : decode cX11_alike 64 = .ok (.bipush 61, 2) := by decide +kernel
theorem dX11_alike_66 : decode cX11_alike 66 = .ok (.iload_n 1, 1) := by decide +kernel
theorem dX11_alike_67 : decode cX11_alike 67 = .ok (.imul, 1) := by decide +kernel
theorem dX11_alike_68 : decode cX11_alike 68 = .ok (.iadd, 1) := by decide +kernel
theorem dX11_alike_69 : decode cX11_alike 69 = .ok (.iconst 1, 1) := by decide +kernel
theorem dX11_alike_70 : decode cX11_alike 70 = .ok (.iadd, 1) := by decide +kernel
theorem dX11_alike_71 : decode cX11_alike 71 = .ok (.iload 4, 2) := by decide +kernel
theorem dX11_alike_73 : decode cX11_alike 73 = .ok (.iadd, 1) := by decide +kernel
theorem dX11_alike_74 : decode cX11_alike 74 = .ok (.iaload, 1) := by decide +kernel
theorem dX11_alike_75 : decode cX11_alike 75 = .ok (.aload_n 0, 1) := by decide +kernel
theorem dX11_alike_76 : decode cX11_alike 76 = .ok (.getfield 7, 3) := by decide +kernel
theorem dX11_alike_79 : decode cX11_alike 79 = .ok (.bipush 72, 2) := by decide +kernel
theorem dX11_alike_81 : decode cX11_alike 81 = .ok (.bipush 61, 2) := by decide +kernel
theorem dX11_alike_83 : decode cX11_alike 83 = .ok (.iload_n 2, 1) := by decide +kernel
theorem dX11_alike_84 : decode cX11_alike 84 = .ok (.imul, 1) := by decide +kernel
theorem dX11_alike_85 : decode cX11_alike 85 = .ok (.iadd, 1) := by decide +kernel
theorem dX11_alike_86 : decode cX11_alike 86 = .ok (.iconst 1, 1) := by decide +kernel
theorem dX11_alike_87 : decode cX11_alike 87 = .ok (.iadd, 1) := by decide +kernel
theorem dX11_alike_88 : decode cX11_alike 88 = .ok (.iload 4, 2) := by decide +kernel
theorem dX11_alike_90 : decode cX11_alike 90 = .ok (.iadd, 1) := by decide +kernel
theorem dX11_alike_91 : decode cX11_alike 91 = .ok (.iaload, 1) := by decide +kernel
theorem dX11_alike_92 : decode cX11_alike 92 = .ok (.if_icmp .ne 7, 3) := by decide +kernel
theorem dX11_alike_95 : decode cX11_alike 95 = .ok (.iconst 1, 1) := by decide +kernel
theorem dX11_alike_96 : decode cX11_alike 96 = .ok (.goto 4, 3) := by decide +kernel
theorem dX11_alike_99 : decode cX11_alike 99 = .ok (.iconst 0, 1) := by decide +kernel
theorem dX11_alike_100 : decode cX11_alike 100 = .ok (.iadd, 1) := by decide +kernel
theorem dX11_alike_101 : decode cX11_alike 101 = .ok (.istore_n 3, 1) := by decide +kernel
theorem dX11_alike_102 : decode cX11_alike 102 = .ok (.iinc 4 1, 3) := by decide +kernel
theorem dX11_alike_105 : decode cX11_alike 105 = .ok (.goto (-82), 3) := by decide +kernel
theorem dX11_alike_108 : decode cX11_alike 108 = .ok (.iload_n 3, 1) := by decide +kernel
theorem dX11_alike_109 : decode cX11_alike 109 = .ok (.ireturn, 1) := by decide +kernel
theorem dX11_isOne_0 : decode cX11_isOne 0 = .ok (.iload_n 0, 1) := by decide +kernel
theorem dX11_isOne_1 : decode cX11_isOne 1 = .ok (.i2l, 1) := by decide +kernel
theorem dX11_isOne_2 : decode cX11_isOne 2 = .ok (.lconst 0, 1) := by decide +kernel
theorem dX11_isOne_3 : decode cX11_isOne 3 = .ok (.ldc2_w 226, 3) := by decide +kernel
theorem dX11_isOne_6 : decode cX11_isOne 6 = .ok (.invokestatic 114, 3) := by decide +kernel
theorem dX11_isOne_9 : decode cX11_isOne 9 = .ok (.ireturn, 1) := by decide +kernel
theorem dX11_sheet_0 : decode cX11_sheet 0 = .ok (.iload_n 1, 1) := by decide +kernel
theorem dX11_sheet_1 : decode cX11_sheet 1 = .ok (.invokestatic 286, 3) := by decide +kernel
theorem dX11_sheet_4 : decode cX11_sheet 4 = .ok (.ifCond .eq 27, 3) := by decide +kernel
theorem dX11_sheet_7 : decode cX11_sheet 7 = .ok (.iload_n 2, 1) := by decide +kernel
theorem dX11_sheet_8 : decode cX11_sheet 8 = .ok (.i2l, 1) := by decide +kernel
theorem dX11_sheet_9 : decode cX11_sheet 9 = .ok (.ldc2_w 289, 3) := by decide +kernel
theorem dX11_sheet_12 : decode cX11_sheet 12 = .ok (.ldc2_w 291, 3) := by decide +kernel
theorem dX11_sheet_15 : decode cX11_sheet 15 = .ok (.invokestatic 114, 3) := by decide +kernel
theorem dX11_sheet_18 : decode cX11_sheet 18 = .ok (.ifCond .eq 13, 3) := by decide +kernel
theorem dX11_sheet_21 : decode cX11_sheet 21 = .ok (.iload_n 2, 1) := by decide +kernel
theorem dX11_sheet_22 : decode cX11_sheet 22 = .ok (.ifCond .lt 11, 3) := by decide +kernel
theorem dX11_sheet_25 : decode cX11_sheet 25 = .ok (.iload_n 3, 1) := by decide +kernel
theorem dX11_sheet_26 : decode cX11_sheet 26 = .ok (.bipush 40, 2) := by decide +kernel
theorem dX11_sheet_28 : decode cX11_sheet 28 = .ok (.if_icmp .le 5, 3) := by decide +kernel
theorem dX11_sheet_31 : decode cX11_sheet 31 = .ok (.iconst (-1), 1) := by decide +kernel
theorem dX11_sheet_32 : decode cX11_sheet 32 = .ok (.ireturn, 1) := by decide +kernel
theorem dX11_sheet_33 : decode cX11_sheet 33 = .ok (.iload_n 2, 1) := by decide +kernel
theorem dX11_sheet_34 : decode cX11_sheet 34 = .ok (.ifCond .lt 10, 3) := by decide +kernel
theorem dX11_sheet_37 : decode cX11_sheet 37 = .ok (.iload_n 3, 1) := by decide +kernel
theorem dX11_sheet_38 : decode cX11_sheet 38 = .ok (.ifCond .ge 6, 3) := by decide +kernel
theorem dX11_sheet_41 : decode cX11_sheet 41 = .ok (.bipush (-14), 2) := by decide +kernel
theorem dX11_sheet_43 : decode cX11_sheet 43 = .ok (.ireturn, 1) := by decide +kernel
theorem dX11_sheet_44 : decode cX11_sheet 44 = .ok (.aload_n 0, 1) := by decide +kernel
theorem dX11_sheet_45 : decode cX11_sheet 45 = .ok (.getfield 62, 3) := by decide +kernel
theorem dX11_sheet_48 : decode cX11_sheet 48 = .ok (.iload_n 1, 1) := by decide +kernel
theorem dX11_sheet_49 : decode cX11_sheet 49 = .ok (.iload_n 2, 1) := by decide +kernel
theorem dX11_sheet_50 : decode cX11_sheet 50 = .ok (.iastore, 1) := by decide +kernel
theorem dX11_sheet_51 : decode cX11_sheet 51 = .ok (.aload_n 0, 1) := by decide +kernel
theorem dX11_sheet_52 : decode cX11_sheet 52 = .ok (.getfield 65, 3) := by decide +kernel
theorem dX11_sheet_55 : decode cX11_sheet 55 = .ok (.iload_n 1, 1) := by decide +kernel
theorem dX11_sheet_56 : decode cX11_sheet 56 = .ok (.iload_n 2, 1) := by decide +kernel
theorem dX11_sheet_57 : decode cX11_sheet 57 = .ok (.ifCond .ge 7, 3) := by decide +kernel
theorem dX11_sheet_60 : decode cX11_sheet 60 = .ok (.iconst 0, 1) := by decide +kernel
theorem dX11_sheet_61 : decode cX11_sheet 61 = .ok (.goto 4, 3) := by decide +kernel
theorem dX11_sheet_64 : decode cX11_sheet 64 = .ok (.iload_n 3, 1) := by decide +kernel
theorem dX11_sheet_65 : decode cX11_sheet 65 = .ok (.iastore, 1) := by decide +kernel
theorem dX11_sheet_66 : decode cX11_sheet 66 = .ok (.iconst 0, 1) := by decide +kernel
theorem dX11_sheet_67 : decode cX11_sheet 67 = .ok (.istore 4, 2) := by decide +kernel
theorem dX11_sheet_69 : decode cX11_sheet 69 = .ok (.iload 4, 2) := by decide +kernel
theorem dX11_sheet_71 : decode cX11_sheet 71 = .ok (.bipush 40, 2) := by decide +kernel
theorem dX11_sheet_73 : decode cX11_sheet 73 = .ok (.if_icmp .ge 22, 3) := by decide +kernel
theorem dX11_sheet_76 : decode cX11_sheet 76 = .ok (.aload_n 0, 1) := by decide +kernel
theorem dX11_sheet_77 : decode cX11_sheet 77 = .ok (.getfield 68, 3) := by decide +kernel
theorem dX11_sheet_80 : decode cX11_sheet 80 = .ok (.bipush 40, 2) := by decide +kernel
theorem dX11_sheet_82 : decode cX11_sheet 82 = .ok (.iload_n 1, 1) := by decide +kernel
theorem dX11_sheet_83 : decode cX11_sheet 83 = .ok (.imul, 1) := by decide +kernel
theorem dX11_sheet_84 : decode cX11_sheet 84 = .ok (.iload 4, 2) := by decide +kernel
theorem dX11_sheet_86 : decode cX11_sheet 86 = .ok (.iadd, 1) := by decide +kernel
theorem dX11_sheet_87 : decode cX11_sheet 87 = .ok (.iconst 0, 1) := by decide +kernel
theorem dX11_sheet_88 : decode cX11_sheet 88 = .ok (.iastore, 1) := by decide +kernel
theorem dX11_sheet_89 : decode cX11_sheet 89 = .ok (.iinc 4 1, 3) := by decide +kernel
theorem dX11_sheet_92 : decode cX11_sheet 92 = .ok (.goto (-23), 3) := by decide +kernel
theorem dX11_sheet_95 : decode cX11_sheet 95 = .ok (.iconst 1, 1) := by decide +kernel
theorem dX11_sheet_96 : decode cX11_sheet 96 = .ok (.ireturn, 1) := by decide +kernel
theorem dX11_narrowed_0 : decode cX11_narrowed 0 = .ok (.iload_n 0, 1) := by decide +kernel
theorem dX11_narrowed_1 : decode cX11_narrowed 1 = .ok (.ifCond .ne 8, 3) := by decide +kernel
theorem dX11_narrowed_4 : decode cX11_narrowed 4 = .ok (.iload_n 1, 1) := by decide +kernel
theorem dX11_narrowed_5 : decode cX11_narrowed 5 = .ok (.i2b, 1) := by decide +kernel
theorem dX11_narrowed_6 : decode cX11_narrowed 6 = .ok (.goto 31, 3) := by decide +kernel
theorem dX11_narrowed_9 : decode cX11_narrowed 9 = .ok (.iload_n 0, 1) := by decide +kernel
theorem dX11_narrowed_10 : decode cX11_narrowed 10 = .ok (.iconst 1, 1) := by decide +kernel
theorem dX11_narrowed_11 : decode cX11_narrowed 11 = .ok (.if_icmp .ne 8, 3) := by decide +kernel
theorem dX11_narrowed_14 : decode cX11_narrowed 14 = .ok (.iload_n 1, 1) := by decide +kernel
theorem dX11_narrowed_15 : decode cX11_narrowed 15 = .ok (.i2s, 1) := by decide +kernel
theorem dX11_narrowed_16 : decode cX11_narrowed 16 = .ok (.goto 21, 3) := by decide +kernel
theorem dX11_narrowed_19 : decode cX11_narrowed 19 = .ok (.iload_n 0, 1) := by decide +kernel
theorem dX11_narrowed_20 : decode cX11_narrowed 20 = .ok (.iconst 4, 1) := by decide +kernel
theorem dX11_narrowed_21 : decode cX11_narrowed 21 = .ok (.if_icmp .ne 15, 3) := by decide +kernel
theorem dX11_narrowed_24 : decode cX11_narrowed 24 = .ok (.iload_n 1, 1) := by decide +kernel
theorem dX11_narrowed_25 : decode cX11_narrowed 25 = .ok (.ifCond .ne 7, 3) := by decide +kernel
theorem dX11_narrowed_28 : decode cX11_narrowed 28 = .ok (.iconst 0, 1) := by decide +kernel
theorem dX11_narrowed_29 : decode cX11_narrowed 29 = .ok (.goto 8, 3) := by decide +kernel
theorem dX11_narrowed_32 : decode cX11_narrowed 32 = .ok (.iconst 1, 1) := by decide +kernel
theorem dX11_narrowed_33 : decode cX11_narrowed 33 = .ok (.goto 4, 3) := by decide +kernel
theorem dX11_narrowed_36 : decode cX11_narrowed 36 = .ok (.iload_n 1, 1) := by decide +kernel
theorem dX11_narrowed_37 : decode cX11_narrowed 37 = .ok (.ireturn, 1) := by decide +kernel
theorem dX11_put_0 : decode cX11_put 0 = .ok (.iload_n 1, 1) := by decide +kernel
theorem dX11_put_1 : decode cX11_put 1 = .ok (.invokestatic 286, 3) := by decide +kernel
theorem dX11_put_4 : decode cX11_put 4 = .ok (.ifCond .ne 5, 3) := by decide +kernel
theorem dX11_put_7 : decode cX11_put 7 = .ok (.iconst (-1), 1) := by decide +kernel
theorem dX11_put_8 : decode cX11_put 8 = .ok (.ireturn, 1) := by decide +kernel
theorem dX11_put_9 : decode cX11_put 9 = .ok (.aload_n 0, 1) := by decide +kernel
theorem dX11_put_10 : decode cX11_put 10 = .ok (.getfield 62, 3) := by decide +kernel
theorem dX11_put_13 : decode cX11_put 13 = .ok (.iload_n 1, 1) := by decide +kernel
theorem dX11_put_14 : decode cX11_put 14 = .ok (.iaload, 1) := by decide +kernel
theorem dX11_put_15 : decode cX11_put 15 = .ok (.ifCond .ge 6, 3) := by decide +kernel
theorem dX11_put_18 : decode cX11_put 18 = .ok (.bipush (-11), 2) := by decide +kernel
theorem dX11_put_20 : decode cX11_put 20 = .ok (.ireturn, 1) := by decide +kernel
theorem dX11_put_21 : decode cX11_put 21 = .ok (.iload_n 2, 1) := by decide +kernel
theorem dX11_put_22 : decode cX11_put 22 = .ok (.i2l, 1) := by decide +kernel
theorem dX11_put_23 : decode cX11_put 23 = .ok (.lconst 0, 1) := by decide +kernel
theorem dX11_put_24 : decode cX11_put 24 = .ok (.aload_n 0, 1) := by decide +kernel
theorem dX11_put_25 : decode cX11_put 25 = .ok (.getfield 65, 3) := by decide +kernel
theorem dX11_put_28 : decode cX11_put 28 = .ok (.iload_n 1, 1) := by decide +kernel
theorem dX11_put_29 : decode cX11_put 29 = .ok (.iaload, 1) := by decide +kernel
theorem dX11_put_30 : decode cX11_put 30 = .ok (.iconst 1, 1) := by decide +kernel
theorem dX11_put_31 : decode cX11_put 31 = .ok (.isub, 1) := by decide +kernel
theorem dX11_put_32 : decode cX11_put 32 = .ok (.i2l, 1) := by decide +kernel
theorem dX11_put_33 : decode cX11_put 33 = .ok (.invokestatic 114, 3) := by decide +kernel
theorem dX11_put_36 : decode cX11_put 36 = .ok (.ifCond .ne 6, 3) := by decide +kernel
theorem dX11_put_39 : decode cX11_put 39 = .ok (.bipush (-12), 2) := by decide +kernel
theorem dX11_put_41 : decode cX11_put 41 = .ok (.ireturn, 1) := by decide +kernel
theorem dX11_put_42 : decode cX11_put 42 = .ok (.aload_n 0, 1) := by decide +kernel
theorem dX11_put_43 : decode cX11_put 43 = .ok (.getfield 68, 3) := by decide +kernel
theorem dX11_put_46 : decode cX11_put 46 = .ok (.bipush 40, 2) := by decide +kernel
theorem dX11_put_48 : decode cX11_put 48 = .ok (.iload_n 1, 1) := by decide +kernel
theorem dX11_put_49 : decode cX11_put 49 = .ok (.imul, 1) := by decide +kernel
theorem dX11_put_50 : decode cX11_put 50 = .ok (.iload_n 2, 1) := by decide +kernel
theorem dX11_put_51 : decode cX11_put 51 = .ok (.iadd, 1) := by decide +kernel
theorem dX11_put_52 : decode cX11_put 52 = .ok (.aload_n 0, 1) := by decide +kernel
theorem dX11_put_53 : decode cX11_put 53 = .ok (.getfield 62, 3) := by decide +kernel
theorem dX11_put_56 : decode cX11_put 56 = .ok (.iload_n 1, 1) := by decide +kernel
theorem dX11_put_57 : decode cX11_put 57 = .ok (.iaload, 1) := by decide +kernel
theorem dX11_put_58 : decode cX11_put 58 = .ok (.iload_n 3, 1) := by decide +kernel
theorem dX11_put_59 : decode cX11_put 59 = .ok (.invokestatic 293, 3) := by decide +kernel
theorem dX11_put_62 : decode cX11_put 62 = .ok (.iastore, 1) := by decide +kernel
theorem dX11_put_63 : decode cX11_put 63 = .ok (.iconst 1, 1) := by decide +kernel
theorem dX11_put_64 : decode cX11_put 64 = .ok (.ireturn, 1) := by decide +kernel
theorem dX11_taking_0 : decode cX11_taking 0 = .ok (.aload_n 0, 1) := by decide +kernel
theorem dX11_taking_1 : decode cX11_taking 1 = .ok (.getfield 62, 3) := by decide +kernel
theorem dX11_taking_4 : decode cX11_taking 4 = .ok (.iload_n 1, 1) := by decide +kernel
theorem dX11_taking_5 : decode cX11_taking 5 = .ok (.iaload, 1) := by decide +kernel
theorem dX11_taking_6 : decode cX11_taking 6 = .ok (.ifCond .ge 8, 3) := by decide +kernel
theorem dX11_taking_9 : decode cX11_taking 9 = .ok (.bipush (-11), 2) := by decide +kernel
theorem dX11_taking_11 : decode cX11_taking 11 = .ok (.goto 19, 3) := by decide +kernel
theorem dX11_taking_14 : decode cX11_taking 14 = .ok (.aload_n 0, 1) := by decide +kernel
theorem dX11_taking_15 : decode cX11_taking 15 = .ok (.getfield 62, 3) := by decide +kernel
theorem dX11_taking_18 : decode cX11_taking 18 = .ok (.iload_n 1, 1) := by decide +kernel
theorem dX11_taking_19 : decode cX11_taking 19 = .ok (.iaload, 1) := by decide +kernel
theorem dX11_taking_20 : decode cX11_taking 20 = .ok (.iload_n 2, 1) := by decide +kernel
theorem dX11_taking_21 : decode cX11_taking 21 = .ok (.if_icmp .eq 8, 3) := by decide +kernel
theorem dX11_taking_24 : decode cX11_taking 24 = .ok (.bipush (-13), 2) := by decide +kernel
theorem dX11_taking_26 : decode cX11_taking 26 = .ok (.goto 4, 3) := by decide +kernel
theorem dX11_taking_29 : decode cX11_taking 29 = .ok (.iconst 0, 1) := by decide +kernel
theorem dX11_taking_30 : decode cX11_taking 30 = .ok (.ireturn, 1) := by decide +kernel
theorem dX11_item_0 : decode cX11_item 0 = .ok (.iload_n 1, 1) := by decide +kernel
theorem dX11_item_1 : decode cX11_item 1 = .ok (.invokestatic 286, 3) := by decide +kernel
theorem dX11_item_4 : decode cX11_item 4 = .ok (.ifCond .eq 15, 3) := by decide +kernel
theorem dX11_item_7 : decode cX11_item 7 = .ok (.iload_n 2, 1) := by decide +kernel
theorem dX11_item_8 : decode cX11_item 8 = .ok (.i2l, 1) := by decide +kernel
theorem dX11_item_9 : decode cX11_item 9 = .ok (.lconst 0, 1) := by decide +kernel
theorem dX11_item_10 : decode cX11_item 10 = .ok (.ldc2_w 291, 3) := by decide +kernel
theorem dX11_item_13 : decode cX11_item 13 = .ok (.invokestatic 114, 3) := by decide +kernel
theorem dX11_item_16 : decode cX11_item 16 = .ok (.ifCond .ne 5, 3) := by decide +kernel
theorem dX11_item_19 : decode cX11_item 19 = .ok (.iconst (-1), 1) := by decide +kernel
theorem dX11_item_20 : decode cX11_item 20 = .ok (.ireturn, 1) := by decide +kernel
theorem dX11_item_21 : decode cX11_item 21 = .ok (.aload_n 0, 1) := by decide +kernel
theorem dX11_item_22 : decode cX11_item 22 = .ok (.iload_n 1, 1) := by decide +kernel
theorem dX11_item_23 : decode cX11_item 23 = .ok (.iload_n 2, 1) := by decide +kernel
theorem dX11_item_24 : decode cX11_item 24 = .ok (.invokevirtual 296, 3) := by decide +kernel
theorem dX11_item_27 : decode cX11_item 27 = .ok (.istore 4, 2) := by decide +kernel
theorem dX11_item_29 : decode cX11_item 29 = .ok (.iload 4, 2) := by decide +kernel
theorem dX11_item_31 : decode cX11_item 31 = .ok (.ifCond .eq 6, 3) := by decide +kernel
theorem dX11_item_34 : decode cX11_item 34 = .ok (.iload 4, 2) := by decide +kernel
theorem dX11_item_36 : decode cX11_item 36 = .ok (.ireturn, 1) := by decide +kernel
theorem dX11_item_37 : decode cX11_item 37 = .ok (.iload_n 3, 1) := by decide +kernel
theorem dX11_item_38 : decode cX11_item 38 = .ok (.i2l, 1) := by decide +kernel
theorem dX11_item_39 : decode cX11_item 39 = .ok (.lconst 0, 1) := by decide +kernel
theorem dX11_item_40 : decode cX11_item 40 = .ok (.aload_n 0, 1) := by decide +kernel
theorem dX11_item_41 : decode cX11_item 41 = .ok (.getfield 65, 3) := by decide +kernel
theorem dX11_item_44 : decode cX11_item 44 = .ok (.iload_n 1, 1) := by decide +kernel
theorem dX11_item_45 : decode cX11_item 45 = .ok (.iaload, 1) := by decide +kernel
theorem dX11_item_46 : decode cX11_item 46 = .ok (.iconst 1, 1) := by decide +kernel
theorem dX11_item_47 : decode cX11_item 47 = .ok (.isub, 1) := by decide +kernel
theorem dX11_item_48 : decode cX11_item 48 = .ok (.i2l, 1) := by decide +kernel
theorem dX11_item_49 : decode cX11_item 49 = .ok (.invokestatic 114, 3) := by decide +kernel
theorem dX11_item_52 : decode cX11_item 52 = .ok (.ifCond .eq 17, 3) := by decide +kernel
theorem dX11_item_55 : decode cX11_item 55 = .ok (.aload_n 0, 1) := by decide +kernel
theorem dX11_item_56 : decode cX11_item 56 = .ok (.getfield 68, 3) := by decide +kernel
theorem dX11_item_59 : decode cX11_item 59 = .ok (.bipush 40, 2) := by decide +kernel
theorem dX11_item_61 : decode cX11_item 61 = .ok (.iload_n 1, 1) := by decide +kernel
theorem dX11_item_62 : decode cX11_item 62 = .ok (.imul, 1) := by decide +kernel
theorem dX11_item_63 : decode cX11_item 63 = .ok (.iload_n 3, 1) := by decide +kernel
theorem dX11_item_64 : decode cX11_item 64 = .ok (.iadd, 1) := by decide +kernel
theorem dX11_item_65 : decode cX11_item 65 = .ok (.iaload, 1) := by decide +kernel
theorem dX11_item_66 : decode cX11_item 66 = .ok (.goto 5, 3) := by decide +kernel
theorem dX11_item_69 : decode cX11_item 69 = .ok (.bipush (-12), 2) := by decide +kernel
theorem dX11_item_71 : decode cX11_item 71 = .ok (.ireturn, 1) := by decide +kernel
theorem dX11_times_0 : decode cX11_times 0 = .ok (.iload_n 1, 1) := by decide +kernel
theorem dX11_times_1 : decode cX11_times 1 = .ok (.invokestatic 286, 3) := by decide +kernel
theorem dX11_times_4 : decode cX11_times 4 = .ok (.ifCond .eq 15, 3) := by decide +kernel
theorem dX11_times_7 : decode cX11_times 7 = .ok (.iload_n 3, 1) := by decide +kernel
theorem dX11_times_8 : decode cX11_times 8 = .ok (.i2l, 1) := by decide +kernel
theorem dX11_times_9 : decode cX11_times 9 = .ok (.lconst 0, 1) := by decide +kernel
theorem dX11_times_10 : decode cX11_times 10 = .ok (.ldc2_w 299, 3) := by decide +kernel
theorem dX11_times_13 : decode cX11_times 13 = .ok (.invokestatic 114, 3) := by decide +kernel
theorem dX11_times_16 : decode cX11_times 16 = .ok (.ifCond .ne 5, 3) := by decide +kernel
theorem dX11_times_19 : decode cX11_times 19 = .ok (.iconst (-1), 1) := by decide +kernel
theorem dX11_times_20 : decode cX11_times 20 = .ok (.ireturn, 1) := by decide +kernel
theorem dX11_times_21 : decode cX11_times 21 = .ok (.aload_n 0, 1) := by decide +kernel
theorem dX11_times_22 : decode cX11_times 22 = .ok (.iload_n 1, 1) := by decide +kernel
theorem dX11_times_23 : decode cX11_times 23 = .ok (.iconst 1, 1) := by decide +kernel
theorem dX11_times_24 : decode cX11_times 24 = .ok (.invokevirtual 296, 3) := by decide +kernel
theorem dX11_times_27 : decode cX11_times 27 = .ok (.istore 4, 2) := by decide +kernel
theorem dX11_times_29 : decode cX11_times 29 = .ok (.iload 4, 2) := by decide +kernel
theorem dX11_times_31 : decode cX11_times 31 = .ok (.ifCond .eq 6, 3) := by decide +kernel
theorem dX11_times_34 : decode cX11_times 34 = .ok (.iload 4, 2) := by decide +kernel
theorem dX11_times_36 : decode cX11_times 36 = .ok (.ireturn, 1) := by decide +kernel
theorem dX11_times_37 : decode cX11_times 37 = .ok (.iconst 0, 1) := by decide +kernel
theorem dX11_times_38 : decode cX11_times 38 = .ok (.istore 5, 2) := by decide +kernel
theorem dX11_times_40 : decode cX11_times 40 = .ok (.iconst 0, 1) := by decide +kernel
theorem dX11_times_41 : decode cX11_times 41 = .ok (.istore 6, 2) := by decide +kernel
theorem dX11_times_43 : decode cX11_times 43 = .ok (.iload 6, 2) := by decide +kernel
theorem dX11_times_45 : decode cX11_times 45 = .ok (.iload_n 3, 1) := by decide +kernel
theorem dX11_times_46 : decode cX11_times 46 = .ok (.if_icmp .ge 68, 3) := by decide +kernel
theorem dX11_times_49 : decode cX11_times 49 = .ok (.iload_n 2, 1) := by decide +kernel
theorem dX11_times_50 : decode cX11_times 50 = .ok (.i2l, 1) := by decide +kernel
theorem dX11_times_51 : decode cX11_times 51 = .ok (.iload 6, 2) := by decide +kernel
theorem dX11_times_53 : decode cX11_times 53 = .ok (.i2l, 1) := by decide +kernel
theorem dX11_times_54 : decode cX11_times 54 = .ok (.ladd, 1) := by decide +kernel
theorem dX11_times_55 : decode cX11_times 55 = .ok (.lstore 7, 2) := by decide +kernel
theorem dX11_times_57 : decode cX11_times 57 = .ok (.lload 7, 2) := by decide +kernel
theorem dX11_times_59 : decode cX11_times 59 = .ok (.lconst 0, 1) := by decide +kernel
theorem dX11_times_60 : decode cX11_times 60 = .ok (.aload_n 0, 1) := by decide +kernel
theorem dX11_times_61 : decode cX11_times 61 = .ok (.getfield 65, 3) := by decide +kernel
theorem dX11_times_64 : decode cX11_times 64 = .ok (.iload_n 1, 1) := by decide +kernel
theorem dX11_times_65 : decode cX11_times 65 = .ok (.iaload, 1) := by decide +kernel
theorem dX11_times_66 : decode cX11_times 66 = .ok (.iconst 1, 1) := by decide +kernel
theorem dX11_times_67 : decode cX11_times 67 = .ok (.isub, 1) := by decide +kernel
theorem dX11_times_68 : decode cX11_times 68 = .ok (.i2l, 1) := by decide +kernel
theorem dX11_times_69 : decode cX11_times 69 = .ok (.invokestatic 114, 3) := by decide +kernel
theorem dX11_times_72 : decode cX11_times 72 = .ok (.ifCond .ne 6, 3) := by decide +kernel
theorem dX11_times_75 : decode cX11_times 75 = .ok (.bipush (-12), 2) := by decide +kernel
theorem dX11_times_77 : decode cX11_times 77 = .ok (.ireturn, 1) := by decide +kernel
theorem dX11_times_78 : decode cX11_times 78 = .ok (.iload 5, 2) := by decide +kernel
theorem dX11_times_80 : decode cX11_times 80 = .ok (.aload_n 0, 1) := by decide +kernel
theorem dX11_times_81 : decode cX11_times 81 = .ok (.aload_n 0, 1) := by decide +kernel
theorem dX11_times_82 : decode cX11_times 82 = .ok (.getfield 68, 3) := by decide +kernel
theorem dX11_times_85 : decode cX11_times 85 = .ok (.bipush 40, 2) := by decide +kernel
theorem dX11_times_87 : decode cX11_times 87 = .ok (.iload_n 1, 1) := by decide +kernel
theorem dX11_times_88 : decode cX11_times 88 = .ok (.imul, 1) := by decide +kernel
theorem dX11_times_89 : decode cX11_times 89 = .ok (.lload 7, 2) := by decide +kernel
theorem dX11_times_91 : decode cX11_times 91 = .ok (.l2i, 1) := by decide +kernel
theorem dX11_times_92 : decode cX11_times 92 = .ok (.iadd, 1) := by decide +kernel
theorem dX11_times_93 : decode cX11_times 93 = .ok (.iaload, 1) := by decide +kernel
theorem dX11_times_94 : decode cX11_times 94 = .ok (.invokevirtual 301, 3) := by decide +kernel
theorem dX11_times_97 : decode cX11_times 97 = .ok (.ifCond .le 7, 3) := by decide +kernel
theorem dX11_times_100 : decode cX11_times 100 = .ok (.iconst 1, 1) := by decide +kernel
theorem dX11_times_101 : decode cX11_times 101 = .ok (.goto 4, 3) := by decide +kernel
theorem dX11_times_104 : decode cX11_times 104 = .ok (.iconst 0, 1) := by decide +kernel
theorem dX11_times_105 : decode cX11_times 105 = .ok (.iadd, 1) := by decide +kernel
theorem dX11_times_106 : decode cX11_times 106 = .ok (.istore 5, 2) := by decide +kernel
theorem dX11_times_108 : decode cX11_times 108 = .ok (.iinc 6 1, 3) := by decide +kernel
theorem dX11_times_111 : decode cX11_times 111 = .ok (.goto (-68), 3) := by decide +kernel
theorem dX11_times_114 : decode cX11_times 114 = .ok (.iload 5, 2) := by decide +kernel
theorem dX11_times_116 : decode cX11_times 116 = .ok (.ireturn, 1) := by decide +kernel
theorem dX11_shelf_0 : decode cX11_shelf 0 = .ok (.iload_n 1, 1) := by decide +kernel
theorem dX11_shelf_1 : decode cX11_shelf 1 = .ok (.invokestatic 286, 3) := by decide +kernel
theorem dX11_shelf_4 : decode cX11_shelf 4 = .ok (.ifCond .eq 56, 3) := by decide +kernel
theorem dX11_shelf_7 : decode cX11_shelf 7 = .ok (.iload_n 2, 1) := by decide +kernel
theorem dX11_shelf_8 : decode cX11_shelf 8 = .ok (.i2l, 1) := by decide +kernel
theorem dX11_shelf_9 : decode cX11_shelf 9 = .ok (.lconst 0, 1) := by decide +kernel
theorem dX11_shelf_10 : decode cX11_shelf 10 = .ok (.ldc2_w 226, 3) := by decide +kernel
theorem dX11_shelf_13 : decode cX11_shelf 13 = .ok (.invokestatic 114, 3) := by decide +kernel
theorem dX11_shelf_16 : decode cX11_shelf 16 = .ok (.ifCond .eq 44, 3) := by decide +kernel
theorem dX11_shelf_19 : decode cX11_shelf 19 = .ok (.iload_n 2, 1) := by decide +kernel
theorem dX11_shelf_20 : decode cX11_shelf 20 = .ok (.ifCond .ne 11, 3) := by decide +kernel
theorem dX11_shelf_23 : decode cX11_shelf 23 = .ok (.aload_n 0, 1) := by decide +kernel
theorem dX11_shelf_24 : decode cX11_shelf 24 = .ok (.iload_n 3, 1) := by decide +kernel
theorem dX11_shelf_25 : decode cX11_shelf 25 = .ok (.invokevirtual 280, 3) := by decide +kernel
theorem dX11_shelf_28 : decode cX11_shelf 28 = .ok (.ifCond .eq 32, 3) := by decide +kernel
theorem dX11_shelf_31 : decode cX11_shelf 31 = .ok (.iload_n 2, 1) := by decide +kernel
theorem dX11_shelf_32 : decode cX11_shelf 32 = .ok (.iconst 1, 1) := by decide +kernel
theorem dX11_shelf_33 : decode cX11_shelf 33 = .ok (.if_icmp .ne 15, 3) := by decide +kernel
theorem dX11_shelf_36 : decode cX11_shelf 36 = .ok (.iload_n 3, 1) := by decide +kernel
theorem dX11_shelf_37 : decode cX11_shelf 37 = .ok (.i2l, 1) := by decide +kernel
theorem dX11_shelf_38 : decode cX11_shelf 38 = .ok (.lconst 0, 1) := by decide +kernel
theorem dX11_shelf_39 : decode cX11_shelf 39 = .ok (.ldc2_w 226, 3) := by decide +kernel
theorem dX11_shelf_42 : decode cX11_shelf 42 = .ok (.invokestatic 114, 3) := by decide +kernel
theorem dX11_shelf_45 : decode cX11_shelf 45 = .ok (.ifCond .eq 15, 3) := by decide +kernel
theorem dX11_shelf_48 : decode cX11_shelf 48 = .ok (.iload_n 2, 1) := by decide +kernel
theorem dX11_shelf_49 : decode cX11_shelf 49 = .ok (.iconst 2, 1) := by decide +kernel
theorem dX11_shelf_50 : decode cX11_shelf 50 = .ok (.if_icmp .ne 12, 3) := by decide +kernel
theorem dX11_shelf_53 : decode cX11_shelf 53 = .ok (.iload_n 3, 1) := by decide +kernel
theorem dX11_shelf_54 : decode cX11_shelf 54 = .ok (.invokestatic 286, 3) := by decide +kernel
theorem dX11_shelf_57 : decode cX11_shelf 57 = .ok (.ifCond .ne 5, 3) := by decide +kernel
theorem dX11_shelf_60 : decode cX11_shelf 60 = .ok (.iconst (-1), 1) := by decide +kernel
theorem dX11_shelf_61 : decode cX11_shelf 61 = .ok (.ireturn, 1) := by decide +kernel
theorem dX11_shelf_62 : decode cX11_shelf 62 = .ok (.iload_n 2, 1) := by decide +kernel
theorem dX11_shelf_63 : decode cX11_shelf 63 = .ok (.iconst 2, 1) := by decide +kernel
theorem dX11_shelf_64 : decode cX11_shelf 64 = .ok (.if_icmp .ne 16, 3) := by decide +kernel
theorem dX11_shelf_67 : decode cX11_shelf 67 = .ok (.aload_n 0, 1) := by decide +kernel
theorem dX11_shelf_68 : decode cX11_shelf 68 = .ok (.getfield 62, 3) := by decide +kernel
theorem dX11_shelf_71 : decode cX11_shelf 71 = .ok (.iload_n 3, 1) := by decide +kernel
theorem dX11_shelf_72 : decode cX11_shelf 72 = .ok (.iaload, 1) := by decide +kernel
theorem dX11_shelf_73 : decode cX11_shelf 73 = .ok (.ifCond .lt 7, 3) := by decide +kernel
theorem dX11_shelf_76 : decode cX11_shelf 76 = .ok (.iconst 1, 1) := by decide +kernel
theorem dX11_shelf_77 : decode cX11_shelf 77 = .ok (.goto 4, 3) := by decide +kernel
theorem dX11_shelf_80 : decode cX11_shelf 80 = .ok (.iconst 0, 1) := by decide +kernel
theorem dX11_shelf_81 : decode cX11_shelf 81 = .ok (.istore 4, 2) := by decide +kernel
theorem dX11_shelf_83 : decode cX11_shelf 83 = .ok (.aload_n 0, 1) := by decide +kernel
theorem dX11_shelf_84 : decode cX11_shelf 84 = .ok (.getfield 71, 3) := by decide +kernel
theorem dX11_shelf_87 : decode cX11_shelf 87 = .ok (.iload_n 1, 1) := by decide +kernel
theorem dX11_shelf_88 : decode cX11_shelf 88 = .ok (.iload_n 2, 1) := by decide +kernel
theorem dX11_shelf_89 : decode cX11_shelf 89 = .ok (.iconst 2, 1) := by decide +kernel
theorem dX11_shelf_90 : decode cX11_shelf 90 = .ok (.if_icmp .ne 12, 3) := by decide +kernel
theorem dX11_shelf_93 : decode cX11_shelf 93 = .ok (.iload 4, 2) := by decide +kernel
theorem dX11_shelf_95 : decode cX11_shelf 95 = .ok (.ifCond .ne 7, 3) := by decide +kernel
theorem dX11_shelf_98 : decode cX11_shelf 98 = .ok (.iconst 3, 1) := by decide +kernel
theorem dX11_shelf_99 : decode cX11_shelf 99 = .ok (.goto 4, 3) := by decide +kernel
theorem dX11_shelf_102 : decode cX11_shelf 102 = .ok (.iload_n 2, 1) := by decide +kernel
theorem dX11_shelf_103 : decode cX11_shelf 103 = .ok (.iastore, 1) := by decide +kernel
theorem dX11_shelf_104 : decode cX11_shelf 104 = .ok (.aload_n 0, 1) := by decide +kernel
theorem dX11_shelf_105 : decode cX11_shelf 105 = .ok (.getfield 74, 3) := by decide +kernel
theorem dX11_shelf_108 : decode cX11_shelf 108 = .ok (.iload_n 1, 1) := by decide +kernel
theorem dX11_shelf_109 : decode cX11_shelf 109 = .ok (.iload 4, 2) := by decide +kernel
theorem dX11_shelf_111 : decode cX11_shelf 111 = .ok (.ifCond .eq 12, 3) := by decide +kernel
theorem dX11_shelf_114 : decode cX11_shelf 114 = .ok (.aload_n 0, 1) := by decide +kernel
theorem dX11_shelf_115 : decode cX11_shelf 115 = .ok (.getfield 62, 3) := by decide +kernel
theorem dX11_shelf_118 : decode cX11_shelf 118 = .ok (.iload_n 3, 1) := by decide +kernel
theorem dX11_shelf_119 : decode cX11_shelf 119 = .ok (.iaload, 1) := by decide +kernel
theorem dX11_shelf_120 : decode cX11_shelf 120 = .ok (.goto 4, 3) := by decide +kernel
theorem dX11_shelf_123 : decode cX11_shelf 123 = .ok (.iload_n 3, 1) := by decide +kernel
theorem dX11_shelf_124 : decode cX11_shelf 124 = .ok (.iastore, 1) := by decide +kernel
theorem dX11_shelf_125 : decode cX11_shelf 125 = .ok (.aload_n 0, 1) := by decide +kernel
theorem dX11_shelf_126 : decode cX11_shelf 126 = .ok (.getfield 77, 3) := by decide +kernel
theorem dX11_shelf_129 : decode cX11_shelf 129 = .ok (.iload_n 1, 1) := by decide +kernel
theorem dX11_shelf_130 : decode cX11_shelf 130 = .ok (.iload 4, 2) := by decide +kernel
theorem dX11_shelf_132 : decode cX11_shelf 132 = .ok (.ifCond .eq 12, 3) := by decide +kernel
theorem dX11_shelf_135 : decode cX11_shelf 135 = .ok (.aload_n 0, 1) := by decide +kernel
theorem dX11_shelf_136 : decode cX11_shelf 136 = .ok (.getfield 65, 3) := by decide +kernel
theorem dX11_shelf_139 : decode cX11_shelf 139 = .ok (.iload_n 3, 1) := by decide +kernel
theorem dX11_shelf_140 : decode cX11_shelf 140 = .ok (.iaload, 1) := by decide +kernel
theorem dX11_shelf_141 : decode cX11_shelf 141 = .ok (.goto 4, 3) := by decide +kernel
theorem dX11_shelf_144 : decode cX11_shelf 144 = .ok (.iconst 0, 1) := by decide +kernel
theorem dX11_shelf_145 : decode cX11_shelf 145 = .ok (.iastore, 1) := by decide +kernel
theorem dX11_shelf_146 : decode cX11_shelf 146 = .ok (.iconst 1, 1) := by decide +kernel
theorem dX11_shelf_147 : decode cX11_shelf 147 = .ok (.ireturn, 1) := by decide +kernel
theorem dX11_takes_0 : decode cX11_takes 0 = .ok (.aload_n 0, 1) := by decide +kernel
theorem dX11_takes_1 : decode cX11_takes 1 = .ok (.getfield 74, 3) := by decide +kernel
theorem dX11_takes_4 : decode cX11_takes 4 = .ok (.iload_n 1, 1) := by decide +kernel
theorem dX11_takes_5 : decode cX11_takes 5 = .ok (.iaload, 1) := by decide +kernel
theorem dX11_takes_6 : decode cX11_takes 6 = .ok (.istore_n 2, 1) := by decide +kernel
theorem dX11_takes_7 : decode cX11_takes 7 = .ok (.aload_n 0, 1) := by decide +kernel
theorem dX11_takes_8 : decode cX11_takes 8 = .ok (.iconst (-1), 1) := by decide +kernel
theorem dX11_takes_9 : decode cX11_takes 9 = .ok (.putfield 304, 3) := by decide +kernel
theorem dX11_takes_12 : decode cX11_takes 12 = .ok (.aload_n 0, 1) := by decide +kernel
theorem dX11_takes_13 : decode cX11_takes 13 = .ok (.iload_n 2, 1) := by decide +kernel
theorem dX11_takes_14 : decode cX11_takes 14 = .ok (.putfield 307, 3) := by decide +kernel
theorem dX11_takes_17 : decode cX11_takes 17 = .ok (.aload_n 0, 1) := by decide +kernel
theorem dX11_takes_18 : decode cX11_takes 18 = .ok (.getfield 71, 3) := by decide +kernel
theorem dX11_takes_21 : decode cX11_takes 21 = .ok (.iload_n 1, 1) := by decide +kernel
theorem dX11_takes_22 : decode cX11_takes 22 = .ok (.iaload, 1) := by decide +kernel
theorem dX11_takes_23 : decode cX11_takes 23 = .ok (.ifCond .ne 35, 3) := by decide +kernel
theorem dX11_takes_26 : decode cX11_takes 26 = .ok (.aload_n 0, 1) := by decide +kernel
theorem dX11_takes_27 : decode cX11_takes 27 = .ok (.iload_n 2, 1) := by decide +kernel
theorem dX11_takes_28 : decode cX11_takes 28 = .ok (.invokevirtual 280, 3) := by decide +kernel
theorem dX11_takes_31 : decode cX11_takes 31 = .ok (.ifCond .eq 27, 3) := by decide +kernel
theorem dX11_takes_34 : decode cX11_takes 34 = .ok (.aload_n 0, 1) := by decide +kernel
theorem dX11_takes_35 : decode cX11_takes 35 = .ok (.iload_n 2, 1) := by decide +kernel
theorem dX11_takes_36 : decode cX11_takes 36 = .ok (.invokevirtual 283, 3) := by decide +kernel
theorem dX11_takes_39 : decode cX11_takes 39 = .ok (.aload_n 0, 1) := by decide +kernel
theorem dX11_takes_40 : decode cX11_takes 40 = .ok (.aload_n 0, 1) := by decide +kernel
theorem dX11_takes_41 : decode cX11_takes 41 = .ok (.invokevirtual 240, 3) := by decide +kernel
theorem dX11_takes_44 : decode cX11_takes 44 = .ok (.putfield 304, 3) := by decide +kernel
theorem dX11_takes_47 : decode cX11_takes 47 = .ok (.aload_n 0, 1) := by decide +kernel
theorem dX11_takes_48 : decode cX11_takes 48 = .ok (.aload_n 0, 1) := by decide +kernel
theorem dX11_takes_49 : decode cX11_takes 49 = .ok (.getfield 228, 3) := by decide +kernel
theorem dX11_takes_52 : decode cX11_takes 52 = .ok (.putfield 309, 3) := by decide +kernel
theorem dX11_takes_55 : decode cX11_takes 55 = .ok (.goto 28, 3) := by decide +kernel
theorem dX11_takes_58 : decode cX11_takes 58 = .ok (.aload_n 0, 1) := by decide +kernel
theorem dX11_takes_59 : decode cX11_takes 59 = .ok (.getfield 71, 3) := by decide +kernel
theorem dX11_takes_62 : decode cX11_takes 62 = .ok (.iload_n 1, 1) := by decide +kernel
theorem dX11_takes_63 : decode cX11_takes 63 = .ok (.iaload, 1) := by decide +kernel
theorem dX11_takes_64 : decode cX11_takes 64 = .ok (.iconst 1, 1) := by decide +kernel
theorem dX11_takes_65 : decode cX11_takes 65 = .ok (.if_icmp .ne 18, 3) := by decide +kernel
theorem dX11_takes_68 : decode cX11_takes 68 = .ok (.aload_n 0, 1) := by decide +kernel
theorem dX11_takes_69 : decode cX11_takes 69 = .ok (.bipush 7, 2) := by decide +kernel
theorem dX11_takes_71 : decode cX11_takes 71 = .ok (.putfield 304, 3) := by decide +kernel
theorem dX11_takes_74 : decode cX11_takes 74 = .ok (.aload_n 0, 1) := by decide +kernel
theorem dX11_takes_75 : decode cX11_takes 75 = .ok (.aload_n 0, 1) := by decide +kernel
theorem dX11_takes_76 : decode cX11_takes 76 = .ok (.iload_n 2, 1) := by decide +kernel
theorem dX11_takes_77 : decode cX11_takes 77 = .ok (.invokevirtual 312, 3) := by decide +kernel
theorem dX11_takes_80 : decode cX11_takes 80 = .ok (.putfield 309, 3) := by decide +kernel
theorem dX11_takes_83 : decode cX11_takes 83 = .ok (.return_, 1) := by decide +kernel
theorem dX11_isUnder_0 : decode cX11_isUnder 0 = .ok (.iload_n 0, 1) := by decide +kernel
theorem dX11_isUnder_1 : decode cX11_isUnder 1 = .ok (.iload_n 1, 1) := by decide +kernel
theorem dX11_isUnder_2 : decode cX11_isUnder 2 = .ok (.if_icmp .eq 34, 3) := by decide +kernel
theorem dX11_isUnder_5 : decode cX11_isUnder 5 = .ok (.iload_n 1, 1) := by decide +kernel
theorem dX11_isUnder_6 : decode cX11_isUnder 6 = .ok (.ifCond .ne 9, 3) := by decide +kernel
theorem dX11_isUnder_9 : decode cX11_isUnder 9 = .ok (.iload_n 0, 1) := by decide +kernel
theorem dX11_isUnder_10 : decode cX11_isUnder 10 = .ok (.bipush 7, 2) := by decide +kernel
theorem dX11_isUnder_12 : decode cX11_isUnder 12 = .ok (.if_icmp .lt 24, 3) := by decide +kernel
theorem dX11_isUnder_15 : decode cX11_isUnder 15 = .ok (.iload_n 1, 1) := by decide +kernel
theorem dX11_isUnder_16 : decode cX11_isUnder 16 = .ok (.iconst 2, 1) := by decide +kernel
theorem dX11_isUnder_17 : decode cX11_isUnder 17 = .ok (.if_icmp .ne 8, 3) := by decide +kernel
theorem dX11_isUnder_20 : decode cX11_isUnder 20 = .ok (.iload_n 0, 1) := by decide +kernel
theorem dX11_isUnder_21 : decode cX11_isUnder 21 = .ok (.iconst 3, 1) := by decide +kernel
theorem dX11_isUnder_22 : decode cX11_isUnder 22 = .ok (.if_icmp .eq 14, 3) := by decide +kernel
theorem dX11_isUnder_25 : decode cX11_isUnder 25 = .ok (.iload_n 1, 1) := by decide +kernel
theorem dX11_isUnder_26 : decode cX11_isUnder 26 = .ok (.iconst 5, 1) := by decide +kernel
theorem dX11_isUnder_27 : decode cX11_isUnder 27 = .ok (.if_icmp .ne 13, 3) := by decide +kernel
theorem dX11_isUnder_30 : decode cX11_isUnder 30 = .ok (.iload_n 0, 1) := by decide +kernel
theorem dX11_isUnder_31 : decode cX11_isUnder 31 = .ok (.bipush 6, 2) := by decide +kernel
theorem dX11_isUnder_33 : decode cX11_isUnder 33 = .ok (.if_icmp .ne 7, 3) := by decide +kernel
theorem dX11_isUnder_36 : decode cX11_isUnder 36 = .ok (.iconst 1, 1) := by decide +kernel
theorem dX11_isUnder_37 : decode cX11_isUnder 37 = .ok (.goto 4, 3) := by decide +kernel
theorem dX11_isUnder_40 : decode cX11_isUnder 40 = .ok (.iconst 0, 1) := by decide +kernel
theorem dX11_isUnder_41 : decode cX11_isUnder 41 = .ok (.ireturn, 1) := by decide +kernel
theorem dX11_taken_0 : decode cX11_taken 0 = .ok (.iload_n 1, 1) := by decide +kernel
theorem dX11_taken_1 : decode cX11_taken 1 = .ok (.invokestatic 286, 3) := by decide +kernel
theorem dX11_taken_4 : decode cX11_taken 4 = .ok (.ifCond .eq 29, 3) := by decide +kernel
theorem dX11_taken_7 : decode cX11_taken 7 = .ok (.iload_n 2, 1) := by decide +kernel
theorem dX11_taken_8 : decode cX11_taken 8 = .ok (.i2l, 1) := by decide +kernel
theorem dX11_taken_9 : decode cX11_taken 9 = .ok (.lconst 0, 1) := by decide +kernel
theorem dX11_taken_10 : decode cX11_taken 10 = .ok (.ldc2_w 133, 3) := by decide +kernel
theorem dX11_taken_13 : decode cX11_taken 13 = .ok (.invokestatic 114, 3) := by decide +kernel
theorem dX11_taken_16 : decode cX11_taken 16 = .ok (.ifCond .ne 19, 3) := by decide +kernel
theorem dX11_taken_19 : decode cX11_taken 19 = .ok (.iload_n 2, 1) := by decide +kernel
theorem dX11_taken_20 : decode cX11_taken 20 = .ok (.i2l, 1) := by decide +kernel
theorem dX11_taken_21 : decode cX11_taken 21 = .ok (.ldc2_w 315, 3) := by decide +kernel
theorem dX11_taken_24 : decode cX11_taken 24 = .ok (.ldc2_w 317, 3) := by decide +kernel
theorem dX11_taken_27 : decode cX11_taken 27 = .ok (.invokestatic 114, 3) := by decide +kernel
theorem dX11_taken_30 : decode cX11_taken 30 = .ok (.ifCond .ne 5, 3) := by decide +kernel
theorem dX11_taken_33 : decode cX11_taken 33 = .ok (.iconst (-1), 1) := by decide +kernel
theorem dX11_taken_34 : decode cX11_taken 34 = .ok (.ireturn, 1) := by decide +kernel
theorem dX11_taken_35 : decode cX11_taken 35 = .ok (.aload_n 0, 1) := by decide +kernel
theorem dX11_taken_36 : decode cX11_taken 36 = .ok (.iload_n 1, 1) := by decide +kernel
theorem dX11_taken_37 : decode cX11_taken 37 = .ok (.invokevirtual 319, 3) := by decide +kernel
theorem dX11_taken_40 : decode cX11_taken 40 = .ok (.aload_n 0, 1) := by decide +kernel
theorem dX11_taken_41 : decode cX11_taken 41 = .ok (.getfield 71, 3) := by decide +kernel
theorem dX11_taken_44 : decode cX11_taken 44 = .ok (.iload_n 1, 1) := by decide +kernel
theorem dX11_taken_45 : decode cX11_taken 45 = .ok (.iaload, 1) := by decide +kernel
theorem dX11_taken_46 : decode cX11_taken 46 = .ok (.iconst 2, 1) := by decide +kernel
theorem dX11_taken_47 : decode cX11_taken 47 = .ok (.if_icmp .ne 7, 3) := by decide +kernel
theorem dX11_taken_50 : decode cX11_taken 50 = .ok (.iconst 1, 1) := by decide +kernel
theorem dX11_taken_51 : decode cX11_taken 51 = .ok (.goto 4, 3) := by decide +kernel
theorem dX11_taken_54 : decode cX11_taken 54 = .ok (.iconst 0, 1) := by decide +kernel
theorem dX11_taken_55 : decode cX11_taken 55 = .ok (.istore_n 3, 1) := by decide +kernel
theorem dX11_taken_56 : decode cX11_taken 56 = .ok (.iload_n 3, 1) := by decide +kernel
theorem dX11_taken_57 : decode cX11_taken 57 = .ok (.ifCond .ne 13, 3) := by decide +kernel
theorem dX11_taken_60 : decode cX11_taken 60 = .ok (.aload_n 0, 1) := by decide +kernel
theorem dX11_taken_61 : decode cX11_taken 61 = .ok (.getfield 304, 3) := by decide +kernel
theorem dX11_taken_64 : decode cX11_taken 64 = .ok (.ifCond .ge 6, 3) := by decide +kernel
theorem dX11_taken_67 : decode cX11_taken 67 = .ok (.bipush (-11), 2) := by decide +kernel
theorem dX11_taken_69 : decode cX11_taken 69 = .ok (.ireturn, 1) := by decide +kernel
theorem dX11_taken_70 : decode cX11_taken 70 = .ok (.iload_n 2, 1) := by decide +kernel
theorem dX11_taken_71 : decode cX11_taken 71 = .ok (.bipush 10, 2) := by decide +kernel
theorem dX11_taken_73 : decode cX11_taken 73 = .ok (.if_icmp .lt 32, 3) := by decide +kernel
theorem dX11_taken_76 : decode cX11_taken 76 = .ok (.iload_n 3, 1) := by decide +kernel
theorem dX11_taken_77 : decode cX11_taken 77 = .ok (.ifCond .eq 25, 3) := by decide +kernel
theorem dX11_taken_80 : decode cX11_taken 80 = .ok (.aload_n 0, 1) := by decide +kernel
theorem dX11_taken_81 : decode cX11_taken 81 = .ok (.getfield 74, 3) := by decide +kernel
theorem dX11_taken_84 : decode cX11_taken 84 = .ok (.iload_n 1, 1) := by decide +kernel
theorem dX11_taken_85 : decode cX11_taken 85 = .ok (.iaload, 1) := by decide +kernel
theorem dX11_taken_86 : decode cX11_taken 86 = .ok (.iload_n 2, 1) := by decide +kernel
theorem dX11_taken_87 : decode cX11_taken 87 = .ok (.bipush 10, 2) := by decide +kernel
theorem dX11_taken_89 : decode cX11_taken 89 = .ok (.isub, 1) := by decide +kernel
theorem dX11_taken_90 : decode cX11_taken 90 = .ok (.if_icmp .ne 12, 3) := by decide +kernel
theorem dX11_taken_93 : decode cX11_taken 93 = .ok (.aload_n 0, 1) := by decide +kernel
theorem dX11_taken_94 : decode cX11_taken 94 = .ok (.getfield 77, 3) := by decide +kernel
theorem dX11_taken_97 : decode cX11_taken 97 = .ok (.iload_n 1, 1) := by decide +kernel
theorem dX11_taken_98 : decode cX11_taken 98 = .ok (.iaload, 1) := by decide +kernel
theorem dX11_taken_99 : decode cX11_taken 99 = .ok (.goto 5, 3) := by decide +kernel
theorem dX11_taken_102 : decode cX11_taken 102 = .ok (.bipush (-13), 2) := by decide +kernel
theorem dX11_taken_104 : decode cX11_taken 104 = .ok (.ireturn, 1) := by decide +kernel
theorem dX11_taken_105 : decode cX11_taken 105 = .ok (.iload_n 3, 1) := by decide +kernel
theorem dX11_taken_106 : decode cX11_taken 106 = .ok (.ifCond .ne 21, 3) := by decide +kernel
theorem dX11_taken_109 : decode cX11_taken 109 = .ok (.aload_n 0, 1) := by decide +kernel
theorem dX11_taken_110 : decode cX11_taken 110 = .ok (.getfield 304, 3) := by decide +kernel
theorem dX11_taken_113 : decode cX11_taken 113 = .ok (.iload_n 2, 1) := by decide +kernel
theorem dX11_taken_114 : decode cX11_taken 114 = .ok (.invokestatic 322, 3) := by decide +kernel
theorem dX11_taken_117 : decode cX11_taken 117 = .ok (.ifCond .eq 10, 3) := by decide +kernel
theorem dX11_taken_120 : decode cX11_taken 120 = .ok (.aload_n 0, 1) := by decide +kernel
theorem dX11_taken_121 : decode cX11_taken 121 = .ok (.getfield 307, 3) := by decide +kernel
theorem dX11_taken_124 : decode cX11_taken 124 = .ok (.goto 5, 3) := by decide +kernel
theorem dX11_taken_127 : decode cX11_taken 127 = .ok (.bipush (-13), 2) := by decide +kernel
theorem dX11_taken_129 : decode cX11_taken 129 = .ok (.ireturn, 1) := by decide +kernel
theorem dX11_ran_0 : decode cX11_ran 0 = .ok (.aload_n 0, 1) := by decide +kernel
theorem dX11_ran_1 : decode cX11_ran 1 = .ok (.getfield 325, 3) := by decide +kernel
theorem dX11_ran_4 : decode cX11_ran 4 = .ok (.bipush 30, 2) := by decide +kernel
theorem dX11_ran_6 : decode cX11_ran 6 = .ok (.if_icmp .ge 23, 3) := by decide +kernel
theorem dX11_ran_9 : decode cX11_ran 9 = .ok (.aload_n 0, 1) := by decide +kernel
theorem dX11_ran_10 : decode cX11_ran 10 = .ok (.getfield 80, 3) := by decide +kernel
theorem dX11_ran_13 : decode cX11_ran 13 = .ok (.aload_n 0, 1) := by decide +kernel
theorem dX11_ran_14 : decode cX11_ran 14 = .ok (.getfield 325, 3) := by decide +kernel
theorem dX11_ran_17 : decode cX11_ran 17 = .ok (.iload_n 1, 1) := by decide +kernel
theorem dX11_ran_18 : decode cX11_ran 18 = .ok (.iastore, 1) := by decide +kernel
theorem dX11_ran_19 : decode cX11_ran 19 = .ok (.aload_n 0, 1) := by decide +kernel
theorem dX11_ran_20 : decode cX11_ran 20 = .ok (.dup, 1) := by decide +kernel
theorem dX11_ran_21 : decode cX11_ran 21 = .ok (.getfield 325, 3) := by decide +kernel
theorem dX11_ran_24 : decode cX11_ran 24 = .ok (.iconst 1, 1) := by decide +kernel
theorem dX11_ran_25 : decode cX11_ran 25 = .ok (.iadd, 1) := by decide +kernel
theorem dX11_ran_26 : decode cX11_ran 26 = .ok (.putfield 325, 3) := by decide +kernel
theorem dX11_ran_29 : decode cX11_ran 29 = .ok (.return_, 1) := by decide +kernel
theorem dX11_anyGrows_0 : decode cX11_anyGrows 0 = .ok (.aload_n 0, 1) := by decide +kernel
theorem dX11_anyGrows_1 : decode cX11_anyGrows 1 = .ok (.bipush 10, 2) := by decide +kernel
theorem dX11_anyGrows_3 : decode cX11_anyGrows 3 = .ok (.invokevirtual 328, 3) := by decide +kernel
theorem dX11_anyGrows_6 : decode cX11_anyGrows 6 = .ok (.iload_n 1, 1) := by decide +kernel
theorem dX11_anyGrows_7 : decode cX11_anyGrows 7 = .ok (.aload_n 0, 1) := by decide +kernel
theorem dX11_anyGrows_8 : decode cX11_anyGrows 8 = .ok (.getfield 309, 3) := by decide +kernel
theorem dX11_anyGrows_11 : decode cX11_anyGrows 11 = .ok (.iadd, 1) := by decide +kernel
theorem dX11_anyGrows_12 : decode cX11_anyGrows 12 = .ok (.ireturn, 1) := by decide +kernel
theorem dX11_twosGrows_0 : decode cX11_twosGrows 0 = .ok (.aload_n 0, 1) := by decide +kernel
theorem dX11_twosGrows_1 : decode cX11_twosGrows 1 = .ok (.bipush 30, 2) := by decide +kernel
theorem dX11_twosGrows_3 : decode cX11_twosGrows 3 = .ok (.invokevirtual 328, 3) := by decide +kernel
theorem dX11_twosGrows_6 : decode cX11_twosGrows 6 = .ok (.aload_n 0, 1) := by decide +kernel
theorem dX11_twosGrows_7 : decode cX11_twosGrows 7 = .ok (.iload_n 1, 1) := by decide +kernel
theorem dX11_twosGrows_8 : decode cX11_twosGrows 8 = .ok (.invokevirtual 331, 3) := by decide +kernel
theorem dX11_twosGrows_11 : decode cX11_twosGrows 11 = .ok (.iconst 5, 1) := by decide +kernel
theorem dX11_twosGrows_12 : decode cX11_twosGrows 12 = .ok (.imul, 1) := by decide +kernel
theorem dX11_twosGrows_13 : decode cX11_twosGrows 13 = .ok (.ireturn, 1) := by decide +kernel
theorem dX11_grows_0 : decode cX11_grows 0 = .ok (.aload_n 0, 1) := by decide +kernel
theorem dX11_grows_1 : decode cX11_grows 1 = .ok (.getfield 304, 3) := by decide +kernel
theorem dX11_grows_4 : decode cX11_grows 4 = .ok (.tableswitch 91 2 7 #[40, 46, 91, 91, 63, 78], 40) := by decide +kernel
theorem dX11_grows_44 : decode cX11_grows 44 = .ok (.aload_n 0, 1) := by decide +kernel
theorem dX11_grows_45 : decode cX11_grows 45 = .ok (.iload_n 1, 1) := by decide +kernel
theorem dX11_grows_46 : decode cX11_grows 46 = .ok (.invokevirtual 334, 3) := by decide +kernel
theorem dX11_grows_49 : decode cX11_grows 49 = .ok (.ireturn, 1) := by decide +kernel
theorem dX11_grows_50 : decode cX11_grows 50 = .ok (.aload_n 0, 1) := by decide +kernel
theorem dX11_grows_51 : decode cX11_grows 51 = .ok (.bipush 40, 2) := by decide +kernel
theorem dX11_grows_53 : decode cX11_grows 53 = .ok (.invokevirtual 328, 3) := by decide +kernel
theorem dX11_grows_56 : decode cX11_grows 56 = .ok (.aload_n 0, 1) := by decide +kernel
theorem dX11_grows_57 : decode cX11_grows 57 = .ok (.iload_n 1, 1) := by decide +kernel
theorem dX11_grows_58 : decode cX11_grows 58 = .ok (.invokevirtual 334, 3) := by decide +kernel
theorem dX11_grows_61 : decode cX11_grows 61 = .ok (.aload_n 0, 1) := by decide +kernel
theorem dX11_grows_62 : decode cX11_grows 62 = .ok (.getfield 309, 3) := by decide +kernel
theorem dX11_grows_65 : decode cX11_grows 65 = .ok (.ixor, 1) := by decide +kernel
theorem dX11_grows_66 : decode cX11_grows 66 = .ok (.ireturn, 1) := by decide +kernel
theorem dX11_grows_67 : decode cX11_grows 67 = .ok (.aload_n 0, 1) := by decide +kernel
theorem dX11_grows_68 : decode cX11_grows 68 = .ok (.bipush 70, 2) := by decide +kernel
theorem dX11_grows_70 : decode cX11_grows 70 = .ok (.invokevirtual 328, 3) := by decide +kernel
theorem dX11_grows_73 : decode cX11_grows 73 = .ok (.aload_n 0, 1) := by decide +kernel
theorem dX11_grows_74 : decode cX11_grows 74 = .ok (.iload_n 1, 1) := by decide +kernel
theorem dX11_grows_75 : decode cX11_grows 75 = .ok (.invokevirtual 331, 3) := by decide +kernel
theorem dX11_grows_78 : decode cX11_grows 78 = .ok (.bipush 6, 2) := by decide +kernel
theorem dX11_grows_80 : decode cX11_grows 80 = .ok (.isub, 1) := by decide +kernel
theorem dX11_grows_81 : decode cX11_grows 81 = .ok (.ireturn, 1) := by decide +kernel
theorem dX11_grows_82 : decode cX11_grows 82 = .ok (.aload_n 0, 1) := by decide +kernel
theorem dX11_grows_83 : decode cX11_grows 83 = .ok (.bipush 80, 2) := by decide +kernel
theorem dX11_grows_85 : decode cX11_grows 85 = .ok (.invokevirtual 328, 3) := by decide +kernel
theorem dX11_grows_88 : decode cX11_grows 88 = .ok (.aload_n 0, 1) := by decide +kernel
theorem dX11_grows_89 : decode cX11_grows 89 = .ok (.getfield 309, 3) := by decide +kernel
theorem dX11_grows_92 : decode cX11_grows 92 = .ok (.iload_n 1, 1) := by decide +kernel
theorem dX11_grows_93 : decode cX11_grows 93 = .ok (.isub, 1) := by decide +kernel
theorem dX11_grows_94 : decode cX11_grows 94 = .ok (.ireturn, 1) := by decide +kernel
theorem dX11_grows_95 : decode cX11_grows 95 = .ok (.aload_n 0, 1) := by decide +kernel
theorem dX11_grows_96 : decode cX11_grows 96 = .ok (.iload_n 1, 1) := by decide +kernel
theorem dX11_grows_97 : decode cX11_grows 97 = .ok (.invokevirtual 331, 3) := by decide +kernel
theorem dX11_grows_100 : decode cX11_grows 100 = .ok (.ireturn, 1) := by decide +kernel
theorem dX11_anySwings_0 : decode cX11_anySwings 0 = .ok (.aload_n 0, 1) := by decide +kernel
theorem dX11_anySwings_1 : decode cX11_anySwings 1 = .ok (.bipush 11, 2) := by decide +kernel
theorem dX11_anySwings_3 : decode cX11_anySwings 3 = .ok (.invokevirtual 328, 3) := by decide +kernel
theorem dX11_anySwings_6 : decode cX11_anySwings 6 = .ok (.aload_n 0, 1) := by decide +kernel
theorem dX11_anySwings_7 : decode cX11_anySwings 7 = .ok (.iload_n 1, 1) := by decide +kernel
theorem dX11_anySwings_8 : decode cX11_anySwings 8 = .ok (.invokevirtual 337, 3) := by decide +kernel
theorem dX11_anySwings_11 : decode cX11_anySwings 11 = .ok (.iconst 2, 1) := by decide +kernel
theorem dX11_anySwings_12 : decode cX11_anySwings 12 = .ok (.imul, 1) := by decide +kernel
theorem dX11_anySwings_13 : decode cX11_anySwings 13 = .ok (.ireturn, 1) := by decide +kernel
theorem dX11_swings_0 : decode cX11_swings 0 = .ok (.aload_n 0, 1) := by decide +kernel
theorem dX11_swings_1 : decode cX11_swings 1 = .ok (.getfield 304, 3) := by decide +kernel
theorem dX11_swings_4 : decode cX11_swings 4 = .ok (.lookupswitch 81 #[(1, 36), (4, 50), (7, 64)], 36) := by decide +kernel
theorem dX11_swings_40 : decode cX11_swings 40 = .ok (.aload_n 0, 1) := by decide +kernel
theorem dX11_swings_41 : decode cX11_swings 41 = .ok (.bipush 20, 2) := by decide +kernel
theorem dX11_swings_43 : decode cX11_swings 43 = .ok (.invokevirtual 328, 3) := by decide +kernel
theorem dX11_swings_46 : decode cX11_swings 46 = .ok (.aload_n 0, 1) := by decide +kernel
theorem dX11_swings_47 : decode cX11_swings 47 = .ok (.iload_n 1, 1) := by decide +kernel
theorem dX11_swings_48 : decode cX11_swings 48 = .ok (.invokevirtual 340, 3) := by decide +kernel
theorem dX11_swings_51 : decode cX11_swings 51 = .ok (.iconst 3, 1) := by decide +kernel
theorem dX11_swings_52 : decode cX11_swings 52 = .ok (.isub, 1) := by decide +kernel
theorem dX11_swings_53 : decode cX11_swings 53 = .ok (.ireturn, 1) := by decide +kernel
theorem dX11_swings_54 : decode cX11_swings 54 = .ok (.aload_n 0, 1) := by decide +kernel
theorem dX11_swings_55 : decode cX11_swings 55 = .ok (.bipush 50, 2) := by decide +kernel
theorem dX11_swings_57 : decode cX11_swings 57 = .ok (.invokevirtual 328, 3) := by decide +kernel
theorem dX11_swings_60 : decode cX11_swings 60 = .ok (.iconst 0, 1) := by decide +kernel
theorem dX11_swings_61 : decode cX11_swings 61 = .ok (.aload_n 0, 1) := by decide +kernel
theorem dX11_swings_62 : decode cX11_swings 62 = .ok (.iload_n 1, 1) := by decide +kernel
theorem dX11_swings_63 : decode cX11_swings 63 = .ok (.invokevirtual 340, 3) := by decide +kernel
theorem dX11_swings_66 : decode cX11_swings 66 = .ok (.isub, 1) := by decide +kernel
theorem dX11_swings_67 : decode cX11_swings 67 = .ok (.ireturn, 1) := by decide +kernel
theorem dX11_swings_68 : decode cX11_swings 68 = .ok (.aload_n 0, 1) := by decide +kernel
theorem dX11_swings_69 : decode cX11_swings 69 = .ok (.bipush 81, 2) := by decide +kernel
theorem dX11_swings_71 : decode cX11_swings 71 = .ok (.invokevirtual 328, 3) := by decide +kernel
theorem dX11_swings_74 : decode cX11_swings 74 = .ok (.aload_n 0, 1) := by decide +kernel
theorem dX11_swings_75 : decode cX11_swings 75 = .ok (.iload_n 1, 1) := by decide +kernel
theorem dX11_swings_76 : decode cX11_swings 76 = .ok (.invokevirtual 337, 3) := by decide +kernel
theorem dX11_swings_79 : decode cX11_swings 79 = .ok (.aload_n 0, 1) := by decide +kernel
theorem dX11_swings_80 : decode cX11_swings 80 = .ok (.getfield 307, 3) := by decide +kernel
theorem dX11_swings_83 : decode cX11_swings 83 = .ok (.imul, 1) := by decide +kernel
theorem dX11_swings_84 : decode cX11_swings 84 = .ok (.ireturn, 1) := by decide +kernel
theorem dX11_swings_85 : decode cX11_swings 85 = .ok (.aload_n 0, 1) := by decide +kernel
theorem dX11_swings_86 : decode cX11_swings 86 = .ok (.iload_n 1, 1) := by decide +kernel
theorem dX11_swings_87 : decode cX11_swings 87 = .ok (.invokevirtual 340, 3) := by decide +kernel
theorem dX11_swings_90 : decode cX11_swings 90 = .ok (.ireturn, 1) := by decide +kernel
theorem dX11_anyParts_0 : decode cX11_anyParts 0 = .ok (.aload_n 0, 1) := by decide +kernel
theorem dX11_anyParts_1 : decode cX11_anyParts 1 = .ok (.bipush 12, 2) := by decide +kernel
theorem dX11_anyParts_3 : decode cX11_anyParts 3 = .ok (.invokevirtual 328, 3) := by decide +kernel
theorem dX11_anyParts_6 : decode cX11_anyParts 6 = .ok (.aload_n 0, 1) := by decide +kernel
theorem dX11_anyParts_7 : decode cX11_anyParts 7 = .ok (.aload_n 0, 1) := by decide +kernel
theorem dX11_anyParts_8 : decode cX11_anyParts 8 = .ok (.getfield 309, 3) := by decide +kernel
theorem dX11_anyParts_11 : decode cX11_anyParts 11 = .ok (.aload_n 0, 1) := by decide +kernel
theorem dX11_anyParts_12 : decode cX11_anyParts 12 = .ok (.getfield 307, 3) := by decide +kernel
theorem dX11_anyParts_15 : decode cX11_anyParts 15 = .ok (.if_icmp .ne 7, 3) := by decide +kernel
theorem dX11_anyParts_18 : decode cX11_anyParts 18 = .ok (.iconst 1, 1) := by decide +kernel
theorem dX11_anyParts_19 : decode cX11_anyParts 19 = .ok (.goto 4, 3) := by decide +kernel
theorem dX11_anyParts_22 : decode cX11_anyParts 22 = .ok (.iconst 0, 1) := by decide +kernel
theorem dX11_anyParts_23 : decode cX11_anyParts 23 = .ok (.putfield 343, 3) := by decide +kernel
theorem dX11_anyParts_26 : decode cX11_anyParts 26 = .ok (.aload_n 0, 1) := by decide +kernel
theorem dX11_anyParts_27 : decode cX11_anyParts 27 = .ok (.getfield 343, 3) := by decide +kernel
theorem dX11_anyParts_30 : decode cX11_anyParts 30 = .ok (.ifCond .eq 7, 3) := by decide +kernel
theorem dX11_anyParts_33 : decode cX11_anyParts 33 = .ok (.iconst 0, 1) := by decide +kernel
theorem dX11_anyParts_34 : decode cX11_anyParts 34 = .ok (.goto 14, 3) := by decide +kernel
theorem dX11_anyParts_37 : decode cX11_anyParts 37 = .ok (.iload_n 1, 1) := by decide +kernel
theorem dX11_anyParts_38 : decode cX11_anyParts 38 = .ok (.aload_n 0, 1) := by decide +kernel
theorem dX11_anyParts_39 : decode cX11_anyParts 39 = .ok (.getfield 309, 3) := by decide +kernel
theorem dX11_anyParts_42 : decode cX11_anyParts 42 = .ok (.aload_n 0, 1) := by decide +kernel
theorem dX11_anyParts_43 : decode cX11_anyParts 43 = .ok (.getfield 307, 3) := by decide +kernel
theorem dX11_anyParts_46 : decode cX11_anyParts 46 = .ok (.isub, 1) := by decide +kernel
theorem dX11_anyParts_47 : decode cX11_anyParts 47 = .ok (.idiv, 1) := by decide +kernel
theorem dX11_anyParts_48 : decode cX11_anyParts 48 = .ok (.ireturn, 1) := by decide +kernel
theorem dX11_mudParts_0 : decode cX11_mudParts 0 = .ok (.aload_n 0, 1) := by decide +kernel
theorem dX11_mudParts_1 : decode cX11_mudParts 1 = .ok (.bipush 61, 2) := by decide +kernel
theorem dX11_mudParts_3 : decode cX11_mudParts 3 = .ok (.invokevirtual 328, 3) := by decide +kernel
theorem dX11_mudParts_6 : decode cX11_mudParts 6 = .ok (.aload_n 0, 1) := by decide +kernel
theorem dX11_mudParts_7 : decode cX11_mudParts 7 = .ok (.iload_n 1, 1) := by decide +kernel
theorem dX11_mudParts_8 : decode cX11_mudParts 8 = .ok (.iconst 1, 1) := by decide +kernel
theorem dX11_mudParts_9 : decode cX11_mudParts 9 = .ok (.isub, 1) := by decide +kernel
theorem dX11_mudParts_10 : decode cX11_mudParts 10 = .ok (.invokevirtual 346, 3) := by decide +kernel
theorem dX11_mudParts_13 : decode cX11_mudParts 13 = .ok (.ireturn, 1) := by decide +kernel
theorem dX11_parts_0 : decode cX11_parts 0 = .ok (.aload_n 0, 1) := by decide +kernel
theorem dX11_parts_1 : decode cX11_parts 1 = .ok (.getfield 304, 3) := by decide +kernel
theorem dX11_parts_4 : decode cX11_parts 4 = .ok (.tableswitch 83 3 7 #[36, 83, 50, 56, 70], 36) := by decide +kernel
theorem dX11_parts_40 : decode cX11_parts 40 = .ok (.aload_n 0, 1) := by decide +kernel
theorem dX11_parts_41 : decode cX11_parts 41 = .ok (.bipush 41, 2) := by decide +kernel
theorem dX11_parts_43 : decode cX11_parts 43 = .ok (.invokevirtual 328, 3) := by decide +kernel
theorem dX11_parts_46 : decode cX11_parts 46 = .ok (.aload_n 0, 1) := by decide +kernel
theorem dX11_parts_47 : decode cX11_parts 47 = .ok (.iload_n 1, 1) := by decide +kernel
theorem dX11_parts_48 : decode cX11_parts 48 = .ok (.iconst 1, 1) := by decide +kernel
theorem dX11_parts_49 : decode cX11_parts 49 = .ok (.iadd, 1) := by decide +kernel
theorem dX11_parts_50 : decode cX11_parts 50 = .ok (.invokevirtual 346, 3) := by decide +kernel
theorem dX11_parts_53 : decode cX11_parts 53 = .ok (.ireturn, 1) := by decide +kernel
theorem dX11_parts_54 : decode cX11_parts 54 = .ok (.aload_n 0, 1) := by decide +kernel
theorem dX11_parts_55 : decode cX11_parts 55 = .ok (.iload_n 1, 1) := by decide +kernel
theorem dX11_parts_56 : decode cX11_parts 56 = .ok (.invokevirtual 349, 3) := by decide +kernel
theorem dX11_parts_59 : decode cX11_parts 59 = .ok (.ireturn, 1) := by decide +kernel
theorem dX11_parts_60 : decode cX11_parts 60 = .ok (.aload_n 0, 1) := by decide +kernel
theorem dX11_parts_61 : decode cX11_parts 61 = .ok (.bipush 71, 2) := by decide +kernel
theorem dX11_parts_63 : decode cX11_parts 63 = .ok (.invokevirtual 328, 3) := by decide +kernel
theorem dX11_parts_66 : decode cX11_parts 66 = .ok (.aload_n 0, 1) := by decide +kernel
theorem dX11_parts_67 : decode cX11_parts 67 = .ok (.iload_n 1, 1) := by decide +kernel
theorem dX11_parts_68 : decode cX11_parts 68 = .ok (.invokevirtual 349, 3) := by decide +kernel
theorem dX11_parts_71 : decode cX11_parts 71 = .ok (.iconst 1, 1) := by decide +kernel
theorem dX11_parts_72 : decode cX11_parts 72 = .ok (.ixor, 1) := by decide +kernel
theorem dX11_parts_73 : decode cX11_parts 73 = .ok (.ireturn, 1) := by decide +kernel
theorem dX11_parts_74 : decode cX11_parts 74 = .ok (.aload_n 0, 1) := by decide +kernel
theorem dX11_parts_75 : decode cX11_parts 75 = .ok (.bipush 82, 2) := by decide +kernel
theorem dX11_parts_77 : decode cX11_parts 77 = .ok (.invokevirtual 328, 3) := by decide +kernel
theorem dX11_parts_80 : decode cX11_parts 80 = .ok (.iload_n 1, 1) := by decide +kernel
theorem dX11_parts_81 : decode cX11_parts 81 = .ok (.aload_n 0, 1) := by decide +kernel
theorem dX11_parts_82 : decode cX11_parts 82 = .ok (.getfield 309, 3) := by decide +kernel
theorem dX11_parts_85 : decode cX11_parts 85 = .ok (.iand, 1) := by decide +kernel
theorem dX11_parts_86 : decode cX11_parts 86 = .ok (.ireturn, 1) := by decide +kernel
theorem dX11_parts_87 : decode cX11_parts 87 = .ok (.aload_n 0, 1) := by decide +kernel
theorem dX11_parts_88 : decode cX11_parts 88 = .ok (.iload_n 1, 1) := by decide +kernel
theorem dX11_parts_89 : decode cX11_parts 89 = .ok (.invokevirtual 346, 3) := by decide +kernel
theorem dX11_parts_92 : decode cX11_parts 92 = .ok (.ireturn, 1) := by decide +kernel
theorem dX11_anyTells_0 : decode cX11_anyTells 0 = .ok (.aload_n 0, 1) := by decide +kernel
theorem dX11_anyTells_1 : decode cX11_anyTells 1 = .ok (.bipush 13, 2) := by decide +kernel
theorem dX11_anyTells_3 : decode cX11_anyTells 3 = .ok (.invokevirtual 328, 3) := by decide +kernel
theorem dX11_anyTells_6 : decode cX11_anyTells 6 = .ok (.aload_n 0, 1) := by decide +kernel
theorem dX11_anyTells_7 : decode cX11_anyTells 7 = .ok (.iload_n 1, 1) := by decide +kernel
theorem dX11_anyTells_8 : decode cX11_anyTells 8 = .ok (.invokevirtual 352, 3) := by decide +kernel
theorem dX11_anyTells_11 : decode cX11_anyTells 11 = .ok (.aload_n 0, 1) := by decide +kernel
theorem dX11_anyTells_12 : decode cX11_anyTells 12 = .ok (.getfield 307, 3) := by decide +kernel
theorem dX11_anyTells_15 : decode cX11_anyTells 15 = .ok (.ixor, 1) := by decide +kernel
theorem dX11_anyTells_16 : decode cX11_anyTells 16 = .ok (.ireturn, 1) := by decide +kernel
theorem dX11_tells_0 : decode cX11_tells 0 = .ok (.aload_n 0, 1) := by decide +kernel
theorem dX11_tells_1 : decode cX11_tells 1 = .ok (.getfield 304, 3) := by decide +kernel
theorem dX11_tells_4 : decode cX11_tells 4 = .ok (.tableswitch 100 2 7 #[40, 40, 100, 63, 63, 77], 40) := by decide +kernel
theorem dX11_tells_44 : decode cX11_tells 44 = .ok (.aload_n 0, 1) := by decide +kernel
theorem dX11_tells_45 : decode cX11_tells 45 = .ok (.bipush 31, 2) := by decide +kernel
theorem dX11_tells_47 : decode cX11_tells 47 = .ok (.invokevirtual 328, 3) := by decide +kernel
theorem dX11_tells_50 : decode cX11_tells 50 = .ok (.aload_n 0, 1) := by decide +kernel
theorem dX11_tells_51 : decode cX11_tells 51 = .ok (.iload_n 1, 1) := by decide +kernel
theorem dX11_tells_52 : decode cX11_tells 52 = .ok (.invokevirtual 355, 3) := by decide +kernel
theorem dX11_tells_55 : decode cX11_tells 55 = .ok (.istore_n 2, 1) := by decide +kernel
theorem dX11_tells_56 : decode cX11_tells 56 = .ok (.iload_n 2, 1) := by decide +kernel
theorem dX11_tells_57 : decode cX11_tells 57 = .ok (.aload_n 0, 1) := by decide +kernel
theorem dX11_tells_58 : decode cX11_tells 58 = .ok (.aload_n 0, 1) := by decide +kernel
theorem dX11_tells_59 : decode cX11_tells 59 = .ok (.getfield 307, 3) := by decide +kernel
theorem dX11_tells_62 : decode cX11_tells 62 = .ok (.invokevirtual 358, 3) := by decide +kernel
theorem dX11_tells_65 : decode cX11_tells 65 = .ok (.iadd, 1) := by decide +kernel
theorem dX11_tells_66 : decode cX11_tells 66 = .ok (.ireturn, 1) := by decide +kernel
theorem dX11_tells_67 : decode cX11_tells 67 = .ok (.aload_n 0, 1) := by decide +kernel
theorem dX11_tells_68 : decode cX11_tells 68 = .ok (.bipush 60, 2) := by decide +kernel
theorem dX11_tells_70 : decode cX11_tells 70 = .ok (.invokevirtual 328, 3) := by decide +kernel
theorem dX11_tells_73 : decode cX11_tells 73 = .ok (.aload_n 0, 1) := by decide +kernel
theorem dX11_tells_74 : decode cX11_tells 74 = .ok (.iload_n 1, 1) := by decide +kernel
theorem dX11_tells_75 : decode cX11_tells 75 = .ok (.invokevirtual 355, 3) := by decide +kernel
theorem dX11_tells_78 : decode cX11_tells 78 = .ok (.iconst 2, 1) := by decide +kernel
theorem dX11_tells_79 : decode cX11_tells 79 = .ok (.imul, 1) := by decide +kernel
theorem dX11_tells_80 : decode cX11_tells 80 = .ok (.ireturn, 1) := by decide +kernel
theorem dX11_tells_81 : decode cX11_tells 81 = .ok (.aload_n 0, 1) := by decide +kernel
theorem dX11_tells_82 : decode cX11_tells 82 = .ok (.bipush 83, 2) := by decide +kernel
theorem dX11_tells_84 : decode cX11_tells 84 = .ok (.invokevirtual 328, 3) := by decide +kernel
theorem dX11_tells_87 : decode cX11_tells 87 = .ok (.aload_n 0, 1) := by decide +kernel
theorem dX11_tells_88 : decode cX11_tells 88 = .ok (.iload_n 1, 1) := by decide +kernel
theorem dX11_tells_89 : decode cX11_tells 89 = .ok (.invokevirtual 352, 3) := by decide +kernel
theorem dX11_tells_92 : decode cX11_tells 92 = .ok (.istore_n 2, 1) := by decide +kernel
theorem dX11_tells_93 : decode cX11_tells 93 = .ok (.iload_n 2, 1) := by decide +kernel
theorem dX11_tells_94 : decode cX11_tells 94 = .ok (.aload_n 0, 1) := by decide +kernel
theorem dX11_tells_95 : decode cX11_tells 95 = .ok (.aload_n 0, 1) := by decide +kernel
theorem dX11_tells_96 : decode cX11_tells 96 = .ok (.getfield 307, 3) := by decide +kernel
theorem dX11_tells_99 : decode cX11_tells 99 = .ok (.invokevirtual 358, 3) := by decide +kernel
theorem dX11_tells_102 : decode cX11_tells 102 = .ok (.isub, 1) := by decide +kernel
theorem dX11_tells_103 : decode cX11_tells 103 = .ok (.ireturn, 1) := by decide +kernel
theorem dX11_tells_104 : decode cX11_tells 104 = .ok (.aload_n 0, 1) := by decide +kernel
theorem dX11_tells_105 : decode cX11_tells 105 = .ok (.iload_n 1, 1) := by decide +kernel
theorem dX11_tells_106 : decode cX11_tells 106 = .ok (.invokevirtual 355, 3) := by decide +kernel
theorem dX11_tells_109 : decode cX11_tells 109 = .ok (.ireturn, 1) := by decide +kernel
theorem dX11_act_0 : decode cX11_act 0 = .ok (.aload_n 0, 1) := by decide +kernel
theorem dX11_act_1 : decode cX11_act 1 = .ok (.iconst 0, 1) := by decide +kernel
theorem dX11_act_2 : decode cX11_act 2 = .ok (.putfield 325, 3) := by decide +kernel
theorem dX11_act_5 : decode cX11_act 5 = .ok (.iload_n 1, 1) := by decide +kernel
theorem dX11_act_6 : decode cX11_act 6 = .ok (.invokestatic 286, 3) := by decide +kernel
theorem dX11_act_9 : decode cX11_act 9 = .ok (.ifCond .eq 15, 3) := by decide +kernel
theorem dX11_act_12 : decode cX11_act 12 = .ok (.iload_n 2, 1) := by decide +kernel
theorem dX11_act_13 : decode cX11_act 13 = .ok (.i2l, 1) := by decide +kernel
theorem dX11_act_14 : decode cX11_act 14 = .ok (.lconst 0, 1) := by decide +kernel
theorem dX11_act_15 : decode cX11_act 15 = .ok (.ldc2_w 226, 3) := by decide +kernel
theorem dX11_act_18 : decode cX11_act 18 = .ok (.invokestatic 114, 3) := by decide +kernel
theorem dX11_act_21 : decode cX11_act 21 = .ok (.ifCond .ne 5, 3) := by decide +kernel
theorem dX11_act_24 : decode cX11_act 24 = .ok (.iconst 0, 1) := by decide +kernel
theorem dX11_act_25 : decode cX11_act 25 = .ok (.ireturn, 1) := by decide +kernel
theorem dX11_act_26 : decode cX11_act 26 = .ok (.aload_n 0, 1) := by decide +kernel
theorem dX11_act_27 : decode cX11_act 27 = .ok (.iload_n 1, 1) := by decide +kernel
theorem dX11_act_28 : decode cX11_act 28 = .ok (.invokevirtual 319, 3) := by decide +kernel
theorem dX11_act_31 : decode cX11_act 31 = .ok (.aload_n 0, 1) := by decide +kernel
theorem dX11_act_32 : decode cX11_act 32 = .ok (.getfield 304, 3) := by decide +kernel
theorem dX11_act_35 : decode cX11_act 35 = .ok (.ifCond .ge 5, 3) := by decide +kernel
theorem dX11_act_38 : decode cX11_act 38 = .ok (.iconst 0, 1) := by decide +kernel
theorem dX11_act_39 : decode cX11_act 39 = .ok (.ireturn, 1) := by decide +kernel
theorem dX11_act_40 : decode cX11_act 40 = .ok (.aload_n 0, 1) := by decide +kernel
theorem dX11_act_41 : decode cX11_act 41 = .ok (.iconst 0, 1) := by decide +kernel
theorem dX11_act_42 : decode cX11_act 42 = .ok (.putfield 343, 3) := by decide +kernel
theorem dX11_act_45 : decode cX11_act 45 = .ok (.iload_n 2, 1) := by decide +kernel
theorem dX11_act_46 : decode cX11_act 46 = .ok (.ifCond .ne 11, 3) := by decide +kernel
theorem dX11_act_49 : decode cX11_act 49 = .ok (.aload_n 0, 1) := by decide +kernel
theorem dX11_act_50 : decode cX11_act 50 = .ok (.iload_n 3, 1) := by decide +kernel
theorem dX11_act_51 : decode cX11_act 51 = .ok (.invokevirtual 337, 3) := by decide +kernel
theorem dX11_act_54 : decode cX11_act 54 = .ok (.goto 34, 3) := by decide +kernel
theorem dX11_act_57 : decode cX11_act 57 = .ok (.iload_n 2, 1) := by decide +kernel
theorem dX11_act_58 : decode cX11_act 58 = .ok (.iconst 1, 1) := by decide +kernel
theorem dX11_act_59 : decode cX11_act 59 = .ok (.if_icmp .ne 11, 3) := by decide +kernel
theorem dX11_act_62 : decode cX11_act 62 = .ok (.aload_n 0, 1) := by decide +kernel
theorem dX11_act_63 : decode cX11_act 63 = .ok (.iload_n 3, 1) := by decide +kernel
theorem dX11_act_64 : decode cX11_act 64 = .ok (.invokevirtual 352, 3) := by decide +kernel
theorem dX11_act_67 : decode cX11_act 67 = .ok (.goto 21, 3) := by decide +kernel
theorem dX11_act_70 : decode cX11_act 70 = .ok (.iload_n 2, 1) := by decide +kernel
theorem dX11_act_71 : decode cX11_act 71 = .ok (.iconst 2, 1) := by decide +kernel
theorem dX11_act_72 : decode cX11_act 72 = .ok (.if_icmp .ne 11, 3) := by decide +kernel
theorem dX11_act_75 : decode cX11_act 75 = .ok (.aload_n 0, 1) := by decide +kernel
theorem dX11_act_76 : decode cX11_act 76 = .ok (.iload_n 3, 1) := by decide +kernel
theorem dX11_act_77 : decode cX11_act 77 = .ok (.invokevirtual 358, 3) := by decide +kernel
theorem dX11_act_80 : decode cX11_act 80 = .ok (.goto 8, 3) := by decide +kernel
theorem dX11_act_83 : decode cX11_act 83 = .ok (.aload_n 0, 1) := by decide +kernel
theorem dX11_act_84 : decode cX11_act 84 = .ok (.iload_n 3, 1) := by decide +kernel
theorem dX11_act_85 : decode cX11_act 85 = .ok (.invokevirtual 361, 3) := by decide +kernel
theorem dX11_act_88 : decode cX11_act 88 = .ok (.istore 4, 2) := by decide +kernel
theorem dX11_act_90 : decode cX11_act 90 = .ok (.aload_n 0, 1) := by decide +kernel
theorem dX11_act_91 : decode cX11_act 91 = .ok (.getfield 343, 3) := by decide +kernel
theorem dX11_act_94 : decode cX11_act 94 = .ok (.ifCond .eq 8, 3) := by decide +kernel
theorem dX11_act_97 : decode cX11_act 97 = .ok (.bipush (-15), 2) := by decide +kernel
theorem dX11_act_99 : decode cX11_act 99 = .ok (.goto 5, 3) := by decide +kernel
theorem dX11_act_102 : decode cX11_act 102 = .ok (.iload 4, 2) := by decide +kernel
theorem dX11_act_104 : decode cX11_act 104 = .ok (.ireturn, 1) := by decide +kernel
theorem dX11_trace_0 : decode cX11_trace 0 = .ok (.iload_n 1, 1) := by decide +kernel
theorem dX11_trace_1 : decode cX11_trace 1 = .ok (.i2l, 1) := by decide +kernel
theorem dX11_trace_2 : decode cX11_trace 2 = .ok (.lconst 0, 1) := by decide +kernel
theorem dX11_trace_3 : decode cX11_trace 3 = .ok (.aload_n 0, 1) := by decide +kernel
theorem dX11_trace_4 : decode cX11_trace 4 = .ok (.getfield 325, 3) := by decide +kernel
theorem dX11_trace_7 : decode cX11_trace 7 = .ok (.iconst 1, 1) := by decide +kernel
theorem dX11_trace_8 : decode cX11_trace 8 = .ok (.isub, 1) := by decide +kernel
theorem dX11_trace_9 : decode cX11_trace 9 = .ok (.i2l, 1) := by decide +kernel
theorem dX11_trace_10 : decode cX11_trace 10 = .ok (.invokestatic 114, 3) := by decide +kernel
theorem dX11_trace_13 : decode cX11_trace 13 = .ok (.ifCond .eq 12, 3) := by decide +kernel
theorem dX11_trace_16 : decode cX11_trace 16 = .ok (.aload_n 0, 1) := by decide +kernel
theorem dX11_trace_17 : decode cX11_trace 17 = .ok (.getfield 80, 3) := by decide +kernel
theorem dX11_trace_20 : decode cX11_trace 20 = .ok (.iload_n 1, 1) := by decide +kernel
theorem dX11_trace_21 : decode cX11_trace 21 = .ok (.iaload, 1) := by decide +kernel
theorem dX11_trace_22 : decode cX11_trace 22 = .ok (.goto 5, 3) := by decide +kernel
theorem dX11_trace_25 : decode cX11_trace 25 = .ok (.bipush (-3), 2) := by decide +kernel
theorem dX11_trace_27 : decode cX11_trace 27 = .ok (.ireturn, 1) := by decide +kernel
theorem dX11_many_0 : decode cX11_many 0 = .ok (.iload_n 1, 1) := by decide +kernel
theorem dX11_many_1 : decode cX11_many 1 = .ok (.tableswitch 78 0 5 #[39, 47, 55, 60, 65, 70], 39) := by decide +kernel
theorem dX11_many_40 : decode cX11_many 40 = .ok (.aload_n 0, 1) := by decide +kernel
theorem dX11_many_41 : decode cX11_many 41 = .ok (.getfield 7, 3) := by decide +kernel
theorem dX11_many_44 : decode cX11_many 44 = .ok (.bipush 9, 2) := by decide +kernel
theorem dX11_many_46 : decode cX11_many 46 = .ok (.iaload, 1) := by decide +kernel
theorem dX11_many_47 : decode cX11_many 47 = .ok (.ireturn, 1) := by decide +kernel
theorem dX11_many_48 : decode cX11_many 48 = .ok (.aload_n 0, 1) := by decide +kernel
theorem dX11_many_49 : decode cX11_many 49 = .ok (.getfield 7, 3) := by decide +kernel
theorem dX11_many_52 : decode cX11_many 52 = .ok (.bipush 10, 2) := by decide +kernel
theorem dX11_many_54 : decode cX11_many 54 = .ok (.iaload, 1) := by decide +kernel
theorem dX11_many_55 : decode cX11_many 55 = .ok (.ireturn, 1) := by decide +kernel
theorem dX11_many_56 : decode cX11_many 56 = .ok (.aload_n 0, 1) := by decide +kernel
theorem dX11_many_57 : decode cX11_many 57 = .ok (.getfield 277, 3) := by decide +kernel
theorem dX11_many_60 : decode cX11_many 60 = .ok (.ireturn, 1) := by decide +kernel
theorem dX11_many_61 : decode cX11_many 61 = .ok (.aload_n 0, 1) := by decide +kernel
theorem dX11_many_62 : decode cX11_many 62 = .ok (.getfield 137, 3) := by decide +kernel
theorem dX11_many_65 : decode cX11_many 65 = .ok (.ireturn, 1) := by decide +kernel
theorem dX11_many_66 : decode cX11_many 66 = .ok (.aload_n 0, 1) := by decide +kernel
theorem dX11_many_67 : decode cX11_many 67 = .ok (.getfield 325, 3) := by decide +kernel
theorem dX11_many_70 : decode cX11_many 70 = .ok (.ireturn, 1) := by decide +kernel
theorem dX11_many_71 : decode cX11_many 71 = .ok (.aload_n 0, 1) := by decide +kernel
theorem dX11_many_72 : decode cX11_many 72 = .ok (.getfield 7, 3) := by decide +kernel
theorem dX11_many_75 : decode cX11_many 75 = .ok (.bipush 11, 2) := by decide +kernel
theorem dX11_many_77 : decode cX11_many 77 = .ok (.iaload, 1) := by decide +kernel
theorem dX11_many_78 : decode cX11_many 78 = .ok (.ireturn, 1) := by decide +kernel
theorem dX11_many_79 : decode cX11_many 79 = .ok (.iconst (-1), 1) := by decide +kernel
theorem dX11_many_80 : decode cX11_many 80 = .ok (.ireturn, 1) := by decide +kernel
theorem dX11_keep_0 : decode cX11_keep 0 = .ok (.iconst 0, 1) := by decide +kernel
theorem dX11_keep_1 : decode cX11_keep 1 = .ok (.istore_n 1, 1) := by decide +kernel
theorem dX11_keep_2 : decode cX11_keep 2 = .ok (.iload_n 1, 1) := by decide +kernel
theorem dX11_keep_3 : decode cX11_keep 3 = .ok (.sipush 666, 3) := by decide +kernel
theorem dX11_keep_6 : decode cX11_keep 6 = .ok (.if_icmp .ge 21, 3) := by decide +kernel
theorem dX11_keep_9 : decode cX11_keep 9 = .ok (.aload_n 0, 1) := by decide +kernel
theorem dX11_keep_10 : decode cX11_keep 10 = .ok (.getfield 13, 3) := by decide +kernel
theorem dX11_keep_13 : decode cX11_keep 13 = .ok (.iload_n 1, 1) := by decide +kernel
theorem dX11_keep_14 : decode cX11_keep 14 = .ok (.aload_n 0, 1) := by decide +kernel
theorem dX11_keep_15 : decode cX11_keep 15 = .ok (.getfield 7, 3) := by decide +kernel
theorem dX11_keep_18 : decode cX11_keep 18 = .ok (.iload_n 1, 1) := by decide +kernel
theorem dX11_keep_19 : decode cX11_keep 19 = .ok (.iaload, 1) := by decide +kernel
theorem dX11_keep_20 : decode cX11_keep 20 = .ok (.iastore, 1) := by decide +kernel
theorem dX11_keep_21 : decode cX11_keep 21 = .ok (.iinc 1 1, 3) := by decide +kernel
theorem dX11_keep_24 : decode cX11_keep 24 = .ok (.goto (-22), 3) := by decide +kernel
theorem dX11_keep_27 : decode cX11_keep 27 = .ok (.iconst 0, 1) := by decide +kernel
theorem dX11_keep_28 : decode cX11_keep 28 = .ok (.istore_n 1, 1) := by decide +kernel
theorem dX11_keep_29 : decode cX11_keep 29 = .ok (.iload_n 1, 1) := by decide +kernel
theorem dX11_keep_30 : decode cX11_keep 30 = .ok (.iconst 3, 1) := by decide +kernel
theorem dX11_keep_31 : decode cX11_keep 31 = .ok (.if_icmp .ge 21, 3) := by decide +kernel
theorem dX11_keep_34 : decode cX11_keep 34 = .ok (.aload_n 0, 1) := by decide +kernel
theorem dX11_keep_35 : decode cX11_keep 35 = .ok (.getfield 20, 3) := by decide +kernel
theorem dX11_keep_38 : decode cX11_keep 38 = .ok (.iload_n 1, 1) := by decide +kernel
theorem dX11_keep_39 : decode cX11_keep 39 = .ok (.aload_n 0, 1) := by decide +kernel
theorem dX11_keep_40 : decode cX11_keep 40 = .ok (.getfield 16, 3) := by decide +kernel
theorem dX11_keep_43 : decode cX11_keep 43 = .ok (.iload_n 1, 1) := by decide +kernel
theorem dX11_keep_44 : decode cX11_keep 44 = .ok (.laload, 1) := by decide +kernel
theorem dX11_keep_45 : decode cX11_keep 45 = .ok (.lastore, 1) := by decide +kernel
theorem dX11_keep_46 : decode cX11_keep 46 = .ok (.iinc 1 1, 3) := by decide +kernel
theorem dX11_keep_49 : decode cX11_keep 49 = .ok (.goto (-20), 3) := by decide +kernel
theorem dX11_keep_52 : decode cX11_keep 52 = .ok (.aload_n 0, 1) := by decide +kernel
theorem dX11_keep_53 : decode cX11_keep 53 = .ok (.iconst 1, 1) := by decide +kernel
theorem dX11_keep_54 : decode cX11_keep 54 = .ok (.putfield 364, 3) := by decide +kernel
theorem dX11_keep_57 : decode cX11_keep 57 = .ok (.iconst 1, 1) := by decide +kernel
theorem dX11_keep_58 : decode cX11_keep 58 = .ok (.ireturn, 1) := by decide +kernel
theorem dX11_again_0 : decode cX11_again 0 = .ok (.aload_n 0, 1) := by decide +kernel
theorem dX11_again_1 : decode cX11_again 1 = .ok (.getfield 364, 3) := by decide +kernel
theorem dX11_again_4 : decode cX11_again 4 = .ok (.ifCond .ne 6, 3) := by decide +kernel
theorem dX11_again_7 : decode cX11_again 7 = .ok (.bipush (-3), 2) := by decide +kernel
theorem dX11_again_9 : decode cX11_again 9 = .ok (.ireturn, 1) := by decide +kernel
theorem dX11_again_10 : decode cX11_again 10 = .ok (.iconst 0, 1) := by decide +kernel
theorem dX11_again_11 : decode cX11_again 11 = .ok (.istore_n 1, 1) := by decide +kernel
theorem dX11_again_12 : decode cX11_again 12 = .ok (.iload_n 1, 1) := by decide +kernel
theorem dX11_again_13 : decode cX11_again 13 = .ok (.sipush 666, 3) := by decide +kernel
theorem dX11_again_16 : decode cX11_again 16 = .ok (.if_icmp .ge 21, 3) := by decide +kernel
theorem dX11_again_19 : decode cX11_again 19 = .ok (.aload_n 0, 1) := by decide +kernel
theorem dX11_again_20 : decode cX11_again 20 = .ok (.getfield 7, 3) := by decide +kernel
theorem dX11_again_23 : decode cX11_again 23 = .ok (.iload_n 1, 1) := by decide +kernel
theorem dX11_again_24 : decode cX11_again 24 = .ok (.aload_n 0, 1) := by decide +kernel
theorem dX11_again_25 : decode cX11_again 25 = .ok (.getfield 13, 3) := by decide +kernel
theorem dX11_again_28 : decode cX11_again 28 = .ok (.iload_n 1, 1) := by decide +kernel
theorem dX11_again_29 : decode cX11_again 29 = .ok (.iaload, 1) := by decide +kernel
theorem dX11_again_30 : decode cX11_again 30 = .ok (.iastore, 1) := by decide +kernel
theorem dX11_again_31 : decode cX11_again 31 = .ok (.iinc 1 1, 3) := by decide +kernel
theorem dX11_again_34 : decode cX11_again 34 = .ok (.goto (-22), 3) := by decide +kernel
theorem dX11_again_37 : decode cX11_again 37 = .ok (.iconst 0, 1) := by decide +kernel
theorem dX11_again_38 : decode cX11_again 38 = .ok (.istore_n 1, 1) := by decide +kernel
theorem dX11_again_39 : decode cX11_again 39 = .ok (.iload_n 1, 1) := by decide +kernel
theorem dX11_again_40 : decode cX11_again 40 = .ok (.iconst 3, 1) := by decide +kernel
theorem dX11_again_41 : decode cX11_again 41 = .ok (.if_icmp .ge 21, 3) := by decide +kernel
theorem dX11_again_44 : decode cX11_again 44 = .ok (.aload_n 0, 1) := by decide +kernel
theorem dX11_again_45 : decode cX11_again 45 = .ok (.getfield 16, 3) := by decide +kernel
theorem dX11_again_48 : decode cX11_again 48 = .ok (.iload_n 1, 1) := by decide +kernel
theorem dX11_again_49 : decode cX11_again 49 = .ok (.aload_n 0, 1) := by decide +kernel
theorem dX11_again_50 : decode cX11_again 50 = .ok (.getfield 20, 3) := by decide +kernel
theorem dX11_again_53 : decode cX11_again 53 = .ok (.iload_n 1, 1) := by decide +kernel
theorem dX11_again_54 : decode cX11_again 54 = .ok (.laload, 1) := by decide +kernel
theorem dX11_again_55 : decode cX11_again 55 = .ok (.lastore, 1) := by decide +kernel
theorem dX11_again_56 : decode cX11_again 56 = .ok (.iinc 1 1, 3) := by decide +kernel
theorem dX11_again_59 : decode cX11_again 59 = .ok (.goto (-20), 3) := by decide +kernel
theorem dX11_again_62 : decode cX11_again 62 = .ok (.iconst 1, 1) := by decide +kernel
theorem dX11_again_63 : decode cX11_again 63 = .ok (.ireturn, 1) := by decide +kernel
