theorem dX8_init_0 : decode cX8_init 0 = .ok (.aload_n 0, 1) := by decide +kernel
theorem dX8_init_1 : decode cX8_init 1 = .ok (.invokespecial 1, 3) := by decide +kernel
theorem dX8_init_4 : decode cX8_init 4 = .ok (.aload_n 0, 1) := by decide +kernel
theorem dX8_init_5 : decode cX8_init 5 = .ok (.bipush 6, 2) := by decide +kernel
theorem dX8_init_7 : decode cX8_init 7 = .ok (.newarray .int, 2) := by decide +kernel
theorem dX8_init_9 : decode cX8_init 9 = .ok (.putfield 7, 3) := by decide +kernel
theorem dX8_init_12 : decode cX8_init 12 = .ok (.aload_n 0, 1) := by decide +kernel
theorem dX8_init_13 : decode cX8_init 13 = .ok (.bipush 6, 2) := by decide +kernel
theorem dX8_init_15 : decode cX8_init 15 = .ok (.newarray .int, 2) := by decide +kernel
theorem dX8_init_17 : decode cX8_init 17 = .ok (.putfield 13, 3) := by decide +kernel
theorem dX8_init_20 : decode cX8_init 20 = .ok (.aload_n 0, 1) := by decide +kernel
theorem dX8_init_21 : decode cX8_init 21 = .ok (.bipush 30, 2) := by decide +kernel
theorem dX8_init_23 : decode cX8_init 23 = .ok (.newarray .int, 2) := by decide +kernel
theorem dX8_init_25 : decode cX8_init 25 = .ok (.putfield 16, 3) := by decide +kernel
theorem dX8_init_28 : decode cX8_init 28 = .ok (.aload_n 0, 1) := by decide +kernel
theorem dX8_init_29 : decode cX8_init 29 = .ok (.sipush 160, 3) := by decide +kernel
theorem dX8_init_32 : decode cX8_init 32 = .ok (.newarray .int, 2) := by decide +kernel
theorem dX8_init_34 : decode cX8_init 34 = .ok (.putfield 19, 3) := by decide +kernel
theorem dX8_init_37 : decode cX8_init 37 = .ok (.aload_n 0, 1) := by decide +kernel
theorem dX8_init_38 : decode cX8_init 38 = .ok (.sipush 1200, 3) := by decide +kernel
theorem dX8_init_41 : decode cX8_init 41 = .ok (.newarray .int, 2) := by decide +kernel
theorem dX8_init_43 : decode cX8_init 43 = .ok (.putfield 22, 3) := by decide +kernel
theorem dX8_init_46 : decode cX8_init 46 = .ok (.aload_n 0, 1) := by decide +kernel
theorem dX8_init_47 : decode cX8_init 47 = .ok (.bipush 24, 2) := by decide +kernel
theorem dX8_init_49 : decode cX8_init 49 = .ok (.newarray .int, 2) := by decide +kernel
theorem dX8_init_51 : decode cX8_init 51 = .ok (.putfield 25, 3) := by decide +kernel
theorem dX8_init_54 : decode cX8_init 54 = .ok (.aload_n 0, 1) := by decide +kernel
theorem dX8_init_55 : decode cX8_init 55 = .ok (.bipush 30, 2) := by decide +kernel
theorem dX8_init_57 : decode cX8_init 57 = .ok (.newarray .int, 2) := by decide +kernel
theorem dX8_init_59 : decode cX8_init 59 = .ok (.putfield 28, 3) := by decide +kernel
theorem dX8_init_62 : decode cX8_init 62 = .ok (.aload_n 0, 1) := by decide +kernel
theorem dX8_init_63 : decode cX8_init 63 = .ok (.iconst 3, 1) := by decide +kernel
theorem dX8_init_64 : decode cX8_init 64 = .ok (.newarray .int, 2) := by decide +kernel
theorem dX8_init_66 : decode cX8_init 66 = .ok (.putfield 31, 3) := by decide +kernel
theorem dX8_init_69 : decode cX8_init 69 = .ok (.aload_n 0, 1) := by decide +kernel
theorem dX8_init_70 : decode cX8_init 70 = .ok (.iconst 4, 1) := by decide +kernel
theorem dX8_init_71 : decode cX8_init 71 = .ok (.newarray .int, 2) := by decide +kernel
theorem dX8_init_73 : decode cX8_init 73 = .ok (.dup, 1) := by decide +kernel
theorem dX8_init_74 : decode cX8_init 74 = .ok (.iconst 0, 1) := by decide +kernel
theorem dX8_init_75 : decode cX8_init 75 = .ok (.iconst (-1), 1) := by decide +kernel
theorem dX8_init_76 : decode cX8_init 76 = .ok (.iastore, 1) := by decide +kernel
theorem dX8_init_77 : decode cX8_init 77 = .ok (.dup, 1) := by decide +kernel
theorem dX8_init_78 : decode cX8_init 78 = .ok (.iconst 1, 1) := by decide +kernel
theorem dX8_init_79 : decode cX8_init 79 = .ok (.iconst (-1), 1) := by decide +kernel
theorem dX8_init_80 : decode cX8_init 80 = .ok (.iastore, 1) := by decide +kernel
theorem dX8_init_81 : decode cX8_init 81 = .ok (.dup, 1) := by decide +kernel
theorem dX8_init_82 : decode cX8_init 82 = .ok (.iconst 2, 1) := by decide +kernel
theorem dX8_init_83 : decode cX8_init 83 = .ok (.iconst (-1), 1) := by decide +kernel
theorem dX8_init_84 : decode cX8_init 84 = .ok (.iastore, 1) := by decide +kernel
theorem dX8_init_85 : decode cX8_init 85 = .ok (.dup, 1) := by decide +kernel
theorem dX8_init_86 : decode cX8_init 86 = .ok (.iconst 3, 1) := by decide +kernel
theorem dX8_init_87 : decode cX8_init 87 = .ok (.iconst (-1), 1) := by decide +kernel
theorem dX8_init_88 : decode cX8_init 88 = .ok (.iastore, 1) := by decide +kernel
theorem dX8_init_89 : decode cX8_init 89 = .ok (.putfield 34, 3) := by decide +kernel
theorem dX8_init_92 : decode cX8_init 92 = .ok (.aload_n 0, 1) := by decide +kernel
theorem dX8_init_93 : decode cX8_init 93 = .ok (.iconst 4, 1) := by decide +kernel
theorem dX8_init_94 : decode cX8_init 94 = .ok (.newarray .int, 2) := by decide +kernel
theorem dX8_init_96 : decode cX8_init 96 = .ok (.putfield 37, 3) := by decide +kernel
theorem dX8_init_99 : decode cX8_init 99 = .ok (.aload_n 0, 1) := by decide +kernel
theorem dX8_init_100 : decode cX8_init 100 = .ok (.sipush 160, 3) := by decide +kernel
theorem dX8_init_103 : decode cX8_init 103 = .ok (.newarray .int, 2) := by decide +kernel
theorem dX8_init_105 : decode cX8_init 105 = .ok (.putfield 40, 3) := by decide +kernel
theorem dX8_init_108 : decode cX8_init 108 = .ok (.aload_n 0, 1) := by decide +kernel
theorem dX8_init_109 : decode cX8_init 109 = .ok (.bipush 29, 2) := by decide +kernel
theorem dX8_init_111 : decode cX8_init 111 = .ok (.newarray .int, 2) := by decide +kernel
theorem dX8_init_113 : decode cX8_init 113 = .ok (.dup, 1) := by decide +kernel
theorem dX8_init_114 : decode cX8_init 114 = .ok (.iconst 0, 1) := by decide +kernel
theorem dX8_init_115 : decode cX8_init 115 = .ok (.bipush 100, 2) := by decide +kernel
theorem dX8_init_117 : decode cX8_init 117 = .ok (.iastore, 1) := by decide +kernel
theorem dX8_init_118 : decode cX8_init 118 = .ok (.dup, 1) := by decide +kernel
theorem dX8_init_119 : decode cX8_init 119 = .ok (.iconst 1, 1) := by decide +kernel
theorem dX8_init_120 : decode cX8_init 120 = .ok (.bipush 97, 2) := by decide +kernel
theorem dX8_init_122 : decode cX8_init 122 = .ok (.iastore, 1) := by decide +kernel
theorem dX8_init_123 : decode cX8_init 123 = .ok (.dup, 1) := by decide +kernel
theorem dX8_init_124 : decode cX8_init 124 = .ok (.iconst 2, 1) := by decide +kernel
theorem dX8_init_125 : decode cX8_init 125 = .ok (.bipush 114, 2) := by decide +kernel
theorem dX8_init_127 : decode cX8_init 127 = .ok (.iastore, 1) := by decide +kernel
theorem dX8_init_128 : decode cX8_init 128 = .ok (.dup, 1) := by decide +kernel
theorem dX8_init_129 : decode cX8_init 129 = .ok (.iconst 3, 1) := by decide +kernel
theorem dX8_init_130 : decode cX8_init 130 = .ok (.bipush 101, 2) := by decide +kernel
theorem dX8_init_132 : decode cX8_init 132 = .ok (.iastore, 1) := by decide +kernel
theorem dX8_init_133 : decode cX8_init 133 = .ok (.dup, 1) := by decide +kernel
theorem dX8_init_134 : decode cX8_init 134 = .ok (.iconst 4, 1) := by decide +kernel
theorem dX8_init_135 : decode cX8_init 135 = .ok (.bipush 115, 2) := by decide +kernel
theorem dX8_init_137 : decode cX8_init 137 = .ok (.iastore, 1) := by decide +kernel
theorem dX8_init_138 : decode cX8_init 138 = .ok (.dup, 1) := by decide +kernel
theorem dX8_init_139 : decode cX8_init 139 = .ok (.iconst 5, 1) := by decide +kernel
theorem dX8_init_140 : decode cX8_init 140 = .ok (.bipush 32, 2) := by decide +kernel
theorem dX8_init_142 : decode cX8_init 142 = .ok (.iastore, 1) := by decide +kernel
theorem dX8_init_143 : decode cX8_init 143 = .ok (.dup, 1) := by decide +kernel
theorem dX8_init_144 : decode cX8_init 144 = .ok (.bipush 6, 2) := by decide +kernel
theorem dX8_init_146 : decode cX8_init 146 = .ok (.bipush 57, 2) := by decide +kernel
theorem dX8_init_148 : decode cX8_init 148 = .ok (.iastore, 1) := by decide +kernel
theorem dX8_init_149 : decode cX8_init 149 = .ok (.dup, 1) := by decide +kernel
theorem dX8_init_150 : decode cX8_init 150 = .ok (.bipush 7, 2) := by decide +kernel
theorem dX8_init_152 : decode cX8_init 152 = .ok (.bipush 57, 2) := by decide +kernel
theorem dX8_init_154 : decode cX8_init 154 = .ok (.iastore, 1) := by decide +kernel
theorem dX8_init_155 : decode cX8_init 155 = .ok (.dup, 1) := by decide +kernel
theorem dX8_init_156 : decode cX8_init 156 = .ok (.bipush 8, 2) := by decide +kernel
theorem dX8_init_158 : decode cX8_init 158 = .ok (.bipush 32, 2) := by decide +kernel
theorem dX8_init_160 : decode cX8_init 160 = .ok (.iastore, 1) := by decide +kernel
theorem dX8_init_161 : decode cX8_init 161 = .ok (.dup, 1) := by decide +kernel
theorem dX8_init_162 : decode cX8_init 162 = .ok (.bipush 9, 2) := by decide +kernel
theorem dX8_init_164 : decode cX8_init 164 = .ok (.bipush 59, 2) := by decide +kernel
theorem dX8_init_166 : decode cX8_init 166 = .ok (.iastore, 1) := by decide +kernel
theorem dX8_init_167 : decode cX8_init 167 = .ok (.dup, 1) := by decide +kernel
theorem dX8_init_168 : decode cX8_init 168 = .ok (.bipush 10, 2) := by decide +kernel
theorem dX8_init_170 : decode cX8_init 170 = .ok (.bipush 32, 2) := by decide +kernel
theorem dX8_init_172 : decode cX8_init 172 = .ok (.iastore, 1) := by decide +kernel
theorem dX8_init_173 : decode cX8_init 173 = .ok (.dup, 1) := by decide +kernel
theorem dX8_init_174 : decode cX8_init 174 = .ok (.bipush 11, 2) := by decide +kernel
theorem dX8_init_176 : decode cX8_init 176 = .ok (.bipush 101, 2) := by decide +kernel
theorem dX8_init_178 : decode cX8_init 178 = .ok (.iastore, 1) := by decide +kernel
theorem dX8_init_179 : decode cX8_init 179 = .ok (.dup, 1) := by decide +kernel
theorem dX8_init_180 : decode cX8_init 180 = .ok (.bipush 12, 2) := by decide +kernel
theorem dX8_init_182 : decode cX8_init 182 = .ok (.bipush 97, 2) := by decide +kernel
theorem dX8_init_184 : decode cX8_init 184 = .ok (.iastore, 1) := by decide +kernel
theorem dX8_init_185 : decode cX8_init 185 = .ok (.dup, 1) := by decide +kernel
theorem dX8_init_186 : decode cX8_init 186 = .ok (.bipush 13, 2) := by decide +kernel
theorem dX8_init_188 : decode cX8_init 188 = .ok (.bipush 116, 2) := by decide +kernel
theorem dX8_init_190 : decode cX8_init 190 = .ok (.iastore, 1) := by decide +kernel
theorem dX8_init_191 : decode cX8_init 191 = .ok (.dup, 1) := by decide +kernel
theorem dX8_init_192 : decode cX8_init 192 = .ok (.bipush 14, 2) := by decide +kernel
theorem dX8_init_194 : decode cX8_init 194 = .ok (.bipush 115, 2) := by decide +kernel
theorem dX8_init_196 : decode cX8_init 196 = .ok (.iastore, 1) := by decide +kernel
theorem dX8_init_197 : decode cX8_init 197 = .ok (.dup, 1) := by decide +kernel
theorem dX8_init_198 : decode cX8_init 198 = .ok (.bipush 15, 2) := by decide +kernel
theorem dX8_init_200 : decode cX8_init 200 = .ok (.bipush 32, 2) := by decide +kernel
theorem dX8_init_202 : decode cX8_init 202 = .ok (.iastore, 1) := by decide +kernel
theorem dX8_init_203 : decode cX8_init 203 = .ok (.dup, 1) := by decide +kernel
theorem dX8_init_204 : decode cX8_init 204 = .ok (.bipush 16, 2) := by decide +kernel
theorem dX8_init_206 : decode cX8_init 206 = .ok (.bipush 49, 2) := by decide +kernel
theorem dX8_init_208 : decode cX8_init 208 = .ok (.iastore, 1) := by decide +kernel
theorem dX8_init_209 : decode cX8_init 209 = .ok (.dup, 1) := by decide +kernel
theorem dX8_init_210 : decode cX8_init 210 = .ok (.bipush 17, 2) := by decide +kernel
theorem dX8_init_212 : decode cX8_init 212 = .ok (.bipush 32, 2) := by decide +kernel
theorem dX8_init_214 : decode cX8_init 214 = .ok (.iastore, 1) := by decide +kernel
theorem dX8_init_215 : decode cX8_init 215 = .ok (.dup, 1) := by decide +kernel
theorem dX8_init_216 : decode cX8_init 216 = .ok (.bipush 18, 2) := by decide +kernel
theorem dX8_init_218 : decode cX8_init 218 = .ok (.bipush 59, 2) := by decide +kernel
theorem dX8_init_220 : decode cX8_init 220 = .ok (.iastore, 1) := by decide +kernel
theorem dX8_init_221 : decode cX8_init 221 = .ok (.dup, 1) := by decide +kernel
theorem dX8_init_222 : decode cX8_init 222 = .ok (.bipush 19, 2) := by decide +kernel
theorem dX8_init_224 : decode cX8_init 224 = .ok (.bipush 32, 2) := by decide +kernel
theorem dX8_init_226 : decode cX8_init 226 = .ok (.iastore, 1) := by decide +kernel
theorem dX8_init_227 : decode cX8_init 227 = .ok (.dup, 1) := by decide +kernel
theorem dX8_init_228 : decode cX8_init 228 = .ok (.bipush 20, 2) := by decide +kernel
theorem dX8_init_230 : decode cX8_init 230 = .ok (.bipush 116, 2) := by decide +kernel
theorem dX8_init_232 : decode cX8_init 232 = .ok (.iastore, 1) := by decide +kernel
theorem dX8_init_233 : decode cX8_init 233 = .ok (.dup, 1) := by decide +kernel
theorem dX8_init_234 : decode cX8_init 234 = .ok (.bipush 21, 2) := by decide +kernel
theorem dX8_init_236 : decode cX8_init 236 = .ok (.bipush 101, 2) := by decide +kernel
theorem dX8_init_238 : decode cX8_init 238 = .ok (.iastore, 1) := by decide +kernel
theorem dX8_init_239 : decode cX8_init 239 = .ok (.dup, 1) := by decide +kernel
theorem dX8_init_240 : decode cX8_init 240 = .ok (.bipush 22, 2) := by decide +kernel
theorem dX8_init_242 : decode cX8_init 242 = .ok (.bipush 108, 2) := by decide +kernel
theorem dX8_init_244 : decode cX8_init 244 = .ok (.iastore, 1) := by decide +kernel
theorem dX8_init_245 : decode cX8_init 245 = .ok (.dup, 1) := by decide +kernel
theorem dX8_init_246 : decode cX8_init 246 = .ok (.bipush 23, 2) := by decide +kernel
theorem dX8_init_248 : decode cX8_init 248 = .ok (.bipush 108, 2) := by decide +kernel
theorem dX8_init_250 : decode cX8_init 250 = .ok (.iastore, 1) := by decide +kernel
theorem dX8_init_251 : decode cX8_init 251 = .ok (.dup, 1) := by decide +kernel
theorem dX8_init_252 : decode cX8_init 252 = .ok (.bipush 24, 2) := by decide +kernel
theorem dX8_init_254 : decode cX8_init 254 = .ok (.bipush 115, 2) := by decide +kernel
theorem dX8_init_256 : decode cX8_init 256 = .ok (.iastore, 1) := by decide +kernel
theorem dX8_init_257 : decode cX8_init 257 = .ok (.dup, 1) := by decide +kernel
theorem dX8_init_258 : decode cX8_init 258 = .ok (.bipush 25, 2) := by decide +kernel
theorem dX8_init_260 : decode cX8_init 260 = .ok (.bipush 32, 2) := by decide +kernel
theorem dX8_init_262 : decode cX8_init 262 = .ok (.iastore, 1) := by decide +kernel
theorem dX8_init_263 : decode cX8_init 263 = .ok (.dup, 1) := by decide +kernel
theorem dX8_init_264 : decode cX8_init 264 = .ok (.bipush 26, 2) := by decide +kernel
theorem dX8_init_266 : decode cX8_init 266 = .ok (.bipush 49, 2) := by decide +kernel
theorem dX8_init_268 : decode cX8_init 268 = .ok (.iastore, 1) := by decide +kernel
theorem dX8_init_269 : decode cX8_init 269 = .ok (.dup, 1) := by decide +kernel
theorem dX8_init_270 : decode cX8_init 270 = .ok (.bipush 27, 2) := by decide +kernel
theorem dX8_init_272 : decode cX8_init 272 = .ok (.bipush 32, 2) := by decide +kernel
theorem dX8_init_274 : decode cX8_init 274 = .ok (.iastore, 1) := by decide +kernel
theorem dX8_init_275 : decode cX8_init 275 = .ok (.dup, 1) := by decide +kernel
theorem dX8_init_276 : decode cX8_init 276 = .ok (.bipush 28, 2) := by decide +kernel
theorem dX8_init_278 : decode cX8_init 278 = .ok (.bipush 59, 2) := by decide +kernel
theorem dX8_init_280 : decode cX8_init 280 = .ok (.iastore, 1) := by decide +kernel
theorem dX8_init_281 : decode cX8_init 281 = .ok (.putfield 43, 3) := by decide +kernel
theorem dX8_init_284 : decode cX8_init 284 = .ok (.aload_n 0, 1) := by decide +kernel
theorem dX8_init_285 : decode cX8_init 285 = .ok (.bipush 96, 2) := by decide +kernel
theorem dX8_init_287 : decode cX8_init 287 = .ok (.newarray .int, 2) := by decide +kernel
theorem dX8_init_289 : decode cX8_init 289 = .ok (.dup, 1) := by decide +kernel
theorem dX8_init_290 : decode cX8_init 290 = .ok (.iconst 0, 1) := by decide +kernel
theorem dX8_init_291 : decode cX8_init 291 = .ok (.bipush 100, 2) := by decide +kernel
theorem dX8_init_293 : decode cX8_init 293 = .ok (.iastore, 1) := by decide +kernel
theorem dX8_init_294 : decode cX8_init 294 = .ok (.dup, 1) := by decide +kernel
theorem dX8_init_295 : decode cX8_init 295 = .ok (.iconst 1, 1) := by decide +kernel
theorem dX8_init_296 : decode cX8_init 296 = .ok (.bipush 97, 2) := by decide +kernel
theorem dX8_init_298 : decode cX8_init 298 = .ok (.iastore, 1) := by decide +kernel
theorem dX8_init_299 : decode cX8_init 299 = .ok (.dup, 1) := by decide +kernel
theorem dX8_init_300 : decode cX8_init 300 = .ok (.iconst 2, 1) := by decide +kernel
theorem dX8_init_301 : decode cX8_init 301 = .ok (.bipush 114, 2) := by decide +kernel
theorem dX8_init_303 : decode cX8_init 303 = .ok (.iastore, 1) := by decide +kernel
theorem dX8_init_304 : decode cX8_init 304 = .ok (.dup, 1) := by decide +kernel
theorem dX8_init_305 : decode cX8_init 305 = .ok (.iconst 3, 1) := by decide +kernel
theorem dX8_init_306 : decode cX8_init 306 = .ok (.bipush 101, 2) := by decide +kernel
theorem dX8_init_308 : decode cX8_init 308 = .ok (.iastore, 1) := by decide +kernel
theorem dX8_init_309 : decode cX8_init 309 = .ok (.dup, 1) := by decide +kernel
theorem dX8_init_310 : decode cX8_init 310 = .ok (.iconst 4, 1) := by decide +kernel
theorem dX8_init_311 : decode cX8_init 311 = .ok (.bipush 115, 2) := by decide +kernel
theorem dX8_init_313 : decode cX8_init 313 = .ok (.iastore, 1) := by decide +kernel
theorem dX8_init_314 : decode cX8_init 314 = .ok (.dup, 1) := by decide +kernel
theorem dX8_init_315 : decode cX8_init 315 = .ok (.iconst 5, 1) := by decide +kernel
theorem dX8_init_316 : decode cX8_init 316 = .ok (.bipush 32, 2) := by decide +kernel
theorem dX8_init_318 : decode cX8_init 318 = .ok (.iastore, 1) := by decide +kernel
theorem dX8_init_319 : decode cX8_init 319 = .ok (.dup, 1) := by decide +kernel
theorem dX8_init_320 : decode cX8_init 320 = .ok (.bipush 6, 2) := by decide +kernel
theorem dX8_init_322 : decode cX8_init 322 = .ok (.bipush 32, 2) := by decide +kernel
theorem dX8_init_324 : decode cX8_init 324 = .ok (.iastore, 1) := by decide +kernel
theorem dX8_init_325 : decode cX8_init 325 = .ok (.dup, 1) := by decide +kernel
theorem dX8_init_326 : decode cX8_init 326 = .ok (.bipush 7, 2) := by decide +kernel
theorem dX8_init_328 : decode cX8_init 328 = .ok (.bipush 32, 2) := by decide +kernel
theorem dX8_init_330 : decode cX8_init 330 = .ok (.iastore, 1) := by decide +kernel
theorem dX8_init_331 : decode cX8_init 331 = .ok (.dup, 1) := by decide +kernel
theorem dX8_init_332 : decode cX8_init 332 = .ok (.bipush 8, 2) := by decide +kernel
theorem dX8_init_334 : decode cX8_init 334 = .ok (.bipush 101, 2) := by decide +kernel
theorem dX8_init_336 : decode cX8_init 336 = .ok (.iastore, 1) := by decide +kernel
theorem dX8_init_337 : decode cX8_init 337 = .ok (.dup, 1) := by decide +kernel
theorem dX8_init_338 : decode cX8_init 338 = .ok (.bipush 9, 2) := by decide +kernel
theorem dX8_init_340 : decode cX8_init 340 = .ok (.bipush 97, 2) := by decide +kernel
theorem dX8_init_342 : decode cX8_init 342 = .ok (.iastore, 1) := by decide +kernel
theorem dX8_init_343 : decode cX8_init 343 = .ok (.dup, 1) := by decide +kernel
theorem dX8_init_344 : decode cX8_init 344 = .ok (.bipush 10, 2) := by decide +kernel
theorem dX8_init_346 : decode cX8_init 346 = .ok (.bipush 116, 2) := by decide +kernel
theorem dX8_init_348 : decode cX8_init 348 = .ok (.iastore, 1) := by decide +kernel
theorem dX8_init_349 : decode cX8_init 349 = .ok (.dup, 1) := by decide +kernel
theorem dX8_init_350 : decode cX8_init 350 = .ok (.bipush 11, 2) := by decide +kernel
theorem dX8_init_352 : decode cX8_init 352 = .ok (.bipush 115, 2) := by decide +kernel
theorem dX8_init_354 : decode cX8_init 354 = .ok (.iastore, 1) := by decide +kernel
theorem dX8_init_355 : decode cX8_init 355 = .ok (.dup, 1) := by decide +kernel
theorem dX8_init_356 : decode cX8_init 356 = .ok (.bipush 12, 2) := by decide +kernel
theorem dX8_init_358 : decode cX8_init 358 = .ok (.bipush 32, 2) := by decide +kernel
theorem dX8_init_360 : decode cX8_init 360 = .ok (.iastore, 1) := by decide +kernel
theorem dX8_init_361 : decode cX8_init 361 = .ok (.dup, 1) := by decide +kernel
theorem dX8_init_362 : decode cX8_init 362 = .ok (.bipush 13, 2) := by decide +kernel
theorem dX8_init_364 : decode cX8_init 364 = .ok (.bipush 32, 2) := by decide +kernel
theorem dX8_init_366 : decode cX8_init 366 = .ok (.iastore, 1) := by decide +kernel
theorem dX8_init_367 : decode cX8_init 367 = .ok (.dup, 1) := by decide +kernel
theorem dX8_init_368 : decode cX8_init 368 = .ok (.bipush 14, 2) := by decide +kernel
theorem dX8_init_370 : decode cX8_init 370 = .ok (.bipush 32, 2) := by decide +kernel
theorem dX8_init_372 : decode cX8_init 372 = .ok (.iastore, 1) := by decide +kernel
theorem dX8_init_373 : decode cX8_init 373 = .ok (.dup, 1) := by decide +kernel
theorem dX8_init_374 : decode cX8_init 374 = .ok (.bipush 15, 2) := by decide +kernel
theorem dX8_init_376 : decode cX8_init 376 = .ok (.bipush 32, 2) := by decide +kernel
theorem dX8_init_378 : decode cX8_init 378 = .ok (.iastore, 1) := by decide +kernel
theorem dX8_init_379 : decode cX8_init 379 = .ok (.dup, 1) := by decide +kernel
theorem dX8_init_380 : decode cX8_init 380 = .ok (.bipush 16, 2) := by decide +kernel
theorem dX8_init_382 : decode cX8_init 382 = .ok (.bipush 116, 2) := by decide +kernel
theorem dX8_init_384 : decode cX8_init 384 = .ok (.iastore, 1) := by decide +kernel
theorem dX8_init_385 : decode cX8_init 385 = .ok (.dup, 1) := by decide +kernel
theorem dX8_init_386 : decode cX8_init 386 = .ok (.bipush 17, 2) := by decide +kernel
theorem dX8_init_388 : decode cX8_init 388 = .ok (.bipush 101, 2) := by decide +kernel
theorem dX8_init_390 : decode cX8_init 390 = .ok (.iastore, 1) := by decide +kernel
theorem dX8_init_391 : decode cX8_init 391 = .ok (.dup, 1) := by decide +kernel
theorem dX8_init_392 : decode cX8_init 392 = .ok (.bipush 18, 2) := by decide +kernel
theorem dX8_init_394 : decode cX8_init 394 = .ok (.bipush 108, 2) := by decide +kernel
theorem dX8_init_396 : decode cX8_init 396 = .ok (.iastore, 1) := by decide +kernel
theorem dX8_init_397 : decode cX8_init 397 = .ok (.dup, 1) := by decide +kernel
theorem dX8_init_398 : decode cX8_init 398 = .ok (.bipush 19, 2) := by decide +kernel
theorem dX8_init_400 : decode cX8_init 400 = .ok (.bipush 108, 2) := by decide +kernel
theorem dX8_init_402 : decode cX8_init 402 = .ok (.iastore, 1) := by decide +kernel
theorem dX8_init_403 : decode cX8_init 403 = .ok (.dup, 1) := by decide +kernel
theorem dX8_init_404 : decode cX8_init 404 = .ok (.bipush 20, 2) := by decide +kernel
theorem dX8_init_406 : decode cX8_init 406 = .ok (.bipush 115, 2) := by decide +kernel
theorem dX8_init_408 : decode cX8_init 408 = .ok (.iastore, 1) := by decide +kernel
theorem dX8_init_409 : decode cX8_init 409 = .ok (.dup, 1) := by decide +kernel
theorem dX8_init_410 : decode cX8_init 410 = .ok (.bipush 21, 2) := by decide +kernel
theorem dX8_init_412 : decode cX8_init 412 = .ok (.bipush 32, 2) := by decide +kernel
theorem dX8_init_414 : decode cX8_init 414 = .ok (.iastore, 1) := by decide +kernel
theorem dX8_init_415 : decode cX8_init 415 = .ok (.dup, 1) := by decide +kernel
theorem dX8_init_416 : decode cX8_init 416 = .ok (.bipush 22, 2) := by decide +kernel
theorem dX8_init_418 : decode cX8_init 418 = .ok (.bipush 32, 2) := by decide +kernel
theorem dX8_init_420 : decode cX8_init 420 = .ok (.iastore, 1) := by decide +kernel
theorem dX8_init_421 : decode cX8_init 421 = .ok (.dup, 1) := by decide +kernel
theorem dX8_init_422 : decode cX8_init 422 = .ok (.bipush 23, 2) := by decide +kernel
theorem dX8_init_424 : decode cX8_init 424 = .ok (.bipush 32, 2) := by decide +kernel
theorem dX8_init_426 : decode cX8_init 426 = .ok (.iastore, 1) := by decide +kernel
theorem dX8_init_427 : decode cX8_init 427 = .ok (.dup, 1) := by decide +kernel
theorem dX8_init_428 : decode cX8_init 428 = .ok (.bipush 24, 2) := by decide +kernel
theorem dX8_init_430 : decode cX8_init 430 = .ok (.bipush 115, 2) := by decide +kernel
theorem dX8_init_432 : decode cX8_init 432 = .ok (.iastore, 1) := by decide +kernel
theorem dX8_init_433 : decode cX8_init 433 = .ok (.dup, 1) := by decide +kernel
theorem dX8_init_434 : decode cX8_init 434 = .ok (.bipush 25, 2) := by decide +kernel
theorem dX8_init_436 : decode cX8_init 436 = .ok (.bipush 104, 2) := by decide +kernel
theorem dX8_init_438 : decode cX8_init 438 = .ok (.iastore, 1) := by decide +kernel
theorem dX8_init_439 : decode cX8_init 439 = .ok (.dup, 1) := by decide +kernel
theorem dX8_init_440 : decode cX8_init 440 = .ok (.bipush 26, 2) := by decide +kernel
theorem dX8_init_442 : decode cX8_init 442 = .ok (.bipush 121, 2) := by decide +kernel
theorem dX8_init_444 : decode cX8_init 444 = .ok (.iastore, 1) := by decide +kernel
theorem dX8_init_445 : decode cX8_init 445 = .ok (.dup, 1) := by decide +kernel
theorem dX8_init_446 : decode cX8_init 446 = .ok (.bipush 27, 2) := by decide +kernel
theorem dX8_init_448 : decode cX8_init 448 = .ok (.bipush 32, 2) := by decide +kernel
theorem dX8_init_450 : decode cX8_init 450 = .ok (.iastore, 1) := by decide +kernel
theorem dX8_init_451 : decode cX8_init 451 = .ok (.dup, 1) := by decide +kernel
theorem dX8_init_452 : decode cX8_init 452 = .ok (.bipush 28, 2) := by decide +kernel
theorem dX8_init_454 : decode cX8_init 454 = .ok (.bipush 32, 2) := by decide +kernel
theorem dX8_init_456 : decode cX8_init 456 = .ok (.iastore, 1) := by decide +kernel
theorem dX8_init_457 : decode cX8_init 457 = .ok (.dup, 1) := by decide +kernel
theorem dX8_init_458 : decode cX8_init 458 = .ok (.bipush 29, 2) := by decide +kernel
theorem dX8_init_460 : decode cX8_init 460 = .ok (.bipush 32, 2) := by decide +kernel
theorem dX8_init_462 : decode cX8_init 462 = .ok (.iastore, 1) := by decide +kernel
theorem dX8_init_463 : decode cX8_init 463 = .ok (.dup, 1) := by decide +kernel
theorem dX8_init_464 : decode cX8_init 464 = .ok (.bipush 30, 2) := by decide +kernel
theorem dX8_init_466 : decode cX8_init 466 = .ok (.bipush 32, 2) := by decide +kernel
theorem dX8_init_468 : decode cX8_init 468 = .ok (.iastore, 1) := by decide +kernel
theorem dX8_init_469 : decode cX8_init 469 = .ok (.dup, 1) := by decide +kernel
theorem dX8_init_470 : decode cX8_init 470 = .ok (.bipush 31, 2) := by decide +kernel
theorem dX8_init_472 : decode cX8_init 472 = .ok (.bipush 32, 2) := by decide +kernel
theorem dX8_init_474 : decode cX8_init 474 = .ok (.iastore, 1) := by decide +kernel
theorem dX8_init_475 : decode cX8_init 475 = .ok (.dup, 1) := by decide +kernel
theorem dX8_init_476 : decode cX8_init 476 = .ok (.bipush 32, 2) := by decide +kernel
theorem dX8_init_478 : decode cX8_init 478 = .ok (.bipush 98, 2) := by decide +kernel
theorem dX8_init_480 : decode cX8_init 480 = .ok (.iastore, 1) := by decide +kernel
theorem dX8_init_481 : decode cX8_init 481 = .ok (.dup, 1) := by decide +kernel
theorem dX8_init_482 : decode cX8_init 482 = .ok (.bipush 33, 2) := by decide +kernel
theorem dX8_init_484 : decode cX8_init 484 = .ok (.bipush 111, 2) := by decide +kernel
theorem dX8_init_486 : decode cX8_init 486 = .ok (.iastore, 1) := by decide +kernel
theorem dX8_init_487 : decode cX8_init 487 = .ok (.dup, 1) := by decide +kernel
theorem dX8_init_488 : decode cX8_init 488 = .ok (.bipush 34, 2) := by decide +kernel
theorem dX8_init_490 : decode cX8_init 490 = .ok (.bipush 114, 2) := by decide +kernel
theorem dX8_init_492 : decode cX8_init 492 = .ok (.iastore, 1) := by decide +kernel
theorem dX8_init_493 : decode cX8_init 493 = .ok (.dup, 1) := by decide +kernel
theorem dX8_init_494 : decode cX8_init 494 = .ok (.bipush 35, 2) := by decide +kernel
theorem dX8_init_496 : decode cX8_init 496 = .ok (.bipush 101, 2) := by decide +kernel
theorem dX8_init_498 : decode cX8_init 498 = .ok (.iastore, 1) := by decide +kernel
theorem dX8_init_499 : decode cX8_init 499 = .ok (.dup, 1) := by decide +kernel
theorem dX8_init_500 : decode cX8_init 500 = .ok (.bipush 36, 2) := by decide +kernel
theorem dX8_init_502 : decode cX8_init 502 = .ok (.bipush 100, 2) := by decide +kernel
theorem dX8_init_504 : decode cX8_init 504 = .ok (.iastore, 1) := by decide +kernel
theorem dX8_init_505 : decode cX8_init 505 = .ok (.dup, 1) := by decide +kernel
theorem dX8_init_506 : decode cX8_init 506 = .ok (.bipush 37, 2) := by decide +kernel
theorem dX8_init_508 : decode cX8_init 508 = .ok (.bipush 32, 2) := by decide +kernel
theorem dX8_init_510 : decode cX8_init 510 = .ok (.iastore, 1) := by decide +kernel
theorem dX8_init_511 : decode cX8_init 511 = .ok (.dup, 1) := by decide +kernel
theorem dX8_init_512 : decode cX8_init 512 = .ok (.bipush 38, 2) := by decide +kernel
theorem dX8_init_514 : decode cX8_init 514 = .ok (.bipush 32, 2) := by decide +kernel
theorem dX8_init_516 : decode cX8_init 516 = .ok (.iastore, 1) := by decide +kernel
theorem dX8_init_517 : decode cX8_init 517 = .ok (.dup, 1) := by decide +kernel
theorem dX8_init_518 : decode cX8_init 518 = .ok (.bipush 39, 2) := by decide +kernel
theorem dX8_init_520 : decode cX8_init 520 = .ok (.bipush 32, 2) := by decide +kernel
theorem dX8_init_522 : decode cX8_init 522 = .ok (.iastore, 1) := by decide +kernel
theorem dX8_init_523 : decode cX8_init 523 = .ok (.dup, 1) := by decide +kernel
theorem dX8_init_524 : decode cX8_init 524 = .ok (.bipush 40, 2) := by decide +kernel
theorem dX8_init_526 : decode cX8_init 526 = .ok (.bipush 97, 2) := by decide +kernel
theorem dX8_init_528 : decode cX8_init 528 = .ok (.iastore, 1) := by decide +kernel
theorem dX8_init_529 : decode cX8_init 529 = .ok (.dup, 1) := by decide +kernel
theorem dX8_init_530 : decode cX8_init 530 = .ok (.bipush 41, 2) := by decide +kernel
theorem dX8_init_532 : decode cX8_init 532 = .ok (.bipush 116, 2) := by decide +kernel
theorem dX8_init_534 : decode cX8_init 534 = .ok (.iastore, 1) := by decide +kernel
theorem dX8_init_535 : decode cX8_init 535 = .ok (.dup, 1) := by decide +kernel
theorem dX8_init_536 : decode cX8_init 536 = .ok (.bipush 42, 2) := by decide +kernel
theorem dX8_init_538 : decode cX8_init 538 = .ok (.bipush 101, 2) := by decide +kernel
theorem dX8_init_540 : decode cX8_init 540 = .ok (.iastore, 1) := by decide +kernel
theorem dX8_init_541 : decode cX8_init 541 = .ok (.dup, 1) := by decide +kernel
theorem dX8_init_542 : decode cX8_init 542 = .ok (.bipush 43, 2) := by decide +kernel
theorem dX8_init_544 : decode cX8_init 544 = .ok (.bipush 32, 2) := by decide +kernel
theorem dX8_init_546 : decode cX8_init 546 = .ok (.iastore, 1) := by decide +kernel
theorem dX8_init_547 : decode cX8_init 547 = .ok (.dup, 1) := by decide +kernel
theorem dX8_init_548 : decode cX8_init 548 = .ok (.bipush 44, 2) := by decide +kernel
theorem dX8_init_550 : decode cX8_init 550 = .ok (.bipush 32, 2) := by decide +kernel
theorem dX8_init_552 : decode cX8_init 552 = .ok (.iastore, 1) := by decide +kernel
theorem dX8_init_553 : decode cX8_init 553 = .ok (.dup, 1) := by decide +kernel
theorem dX8_init_554 : decode cX8_init 554 = .ok (.bipush 45, 2) := by decide +kernel
theorem dX8_init_556 : decode cX8_init 556 = .ok (.bipush 32, 2) := by decide +kernel
theorem dX8_init_558 : decode cX8_init 558 = .ok (.iastore, 1) := by decide +kernel
theorem dX8_init_559 : decode cX8_init 559 = .ok (.dup, 1) := by decide +kernel
theorem dX8_init_560 : decode cX8_init 560 = .ok (.bipush 46, 2) := by decide +kernel
theorem dX8_init_562 : decode cX8_init 562 = .ok (.bipush 32, 2) := by decide +kernel
theorem dX8_init_564 : decode cX8_init 564 = .ok (.iastore, 1) := by decide +kernel
theorem dX8_init_565 : decode cX8_init 565 = .ok (.dup, 1) := by decide +kernel
theorem dX8_init_566 : decode cX8_init 566 = .ok (.bipush 47, 2) := by decide +kernel
theorem dX8_init_568 : decode cX8_init 568 = .ok (.bipush 32, 2) := by decide +kernel
theorem dX8_init_570 : decode cX8_init 570 = .ok (.iastore, 1) := by decide +kernel
theorem dX8_init_571 : decode cX8_init 571 = .ok (.dup, 1) := by decide +kernel
theorem dX8_init_572 : decode cX8_init 572 = .ok (.bipush 48, 2) := by decide +kernel
theorem dX8_init_574 : decode cX8_init 574 = .ok (.bipush 109, 2) := by decide +kernel
theorem dX8_init_576 : decode cX8_init 576 = .ok (.iastore, 1) := by decide +kernel
theorem dX8_init_577 : decode cX8_init 577 = .ok (.dup, 1) := by decide +kernel
theorem dX8_init_578 : decode cX8_init 578 = .ok (.bipush 49, 2) := by decide +kernel
theorem dX8_init_580 : decode cX8_init 580 = .ok (.bipush 105, 2) := by decide +kernel
theorem dX8_init_582 : decode cX8_init 582 = .ok (.iastore, 1) := by decide +kernel
theorem dX8_init_583 : decode cX8_init 583 = .ok (.dup, 1) := by decide +kernel
theorem dX8_init_584 : decode cX8_init 584 = .ok (.bipush 50, 2) := by decide +kernel
theorem dX8_init_586 : decode cX8_init 586 = .ok (.bipush 110, 2) := by decide +kernel
theorem dX8_init_588 : decode cX8_init 588 = .ok (.iastore, 1) := by decide +kernel
theorem dX8_init_589 : decode cX8_init 589 = .ok (.dup, 1) := by decide +kernel
theorem dX8_init_590 : decode cX8_init 590 = .ok (.bipush 51, 2) := by decide +kernel
theorem dX8_init_592 : decode cX8_init 592 = .ok (.bipush 117, 2) := by decide +kernel
theorem dX8_init_594 : decode cX8_init 594 = .ok (.iastore, 1) := by decide +kernel
theorem dX8_init_595 : decode cX8_init 595 = .ok (.dup, 1) := by decide +kernel
theorem dX8_init_596 : decode cX8_init 596 = .ok (.bipush 52, 2) := by decide +kernel
theorem dX8_init_598 : decode cX8_init 598 = .ok (.bipush 116, 2) := by decide +kernel
theorem dX8_init_600 : decode cX8_init 600 = .ok (.iastore, 1) := by decide +kernel
theorem dX8_init_601 : decode cX8_init 601 = .ok (.dup, 1) := by decide +kernel
theorem dX8_init_602 : decode cX8_init 602 = .ok (.bipush 53, 2) := by decide +kernel
theorem dX8_init_604 : decode cX8_init 604 = .ok (.bipush 101, 2) := by decide +kernel
theorem dX8_init_606 : decode cX8_init 606 = .ok (.iastore, 1) := by decide +kernel
theorem dX8_init_607 : decode cX8_init 607 = .ok (.dup, 1) := by decide +kernel
theorem dX8_init_608 : decode cX8_init 608 = .ok (.bipush 54, 2) := by decide +kernel
theorem dX8_init_610 : decode cX8_init 610 = .ok (.bipush 32, 2) := by decide +kernel
theorem dX8_init_612 : decode cX8_init 612 = .ok (.iastore, 1) := by decide +kernel
theorem dX8_init_613 : decode cX8_init 613 = .ok (.dup, 1) := by decide +kernel
theorem dX8_init_614 : decode cX8_init 614 = .ok (.bipush 55, 2) := by decide +kernel
theorem dX8_init_616 : decode cX8_init 616 = .ok (.bipush 32, 2) := by decide +kernel
theorem dX8_init_618 : decode cX8_init 618 = .ok (.iastore, 1) := by decide +kernel
theorem dX8_init_619 : decode cX8_init 619 = .ok (.dup, 1) := by decide +kernel
theorem dX8_init_620 : decode cX8_init 620 = .ok (.bipush 56, 2) := by decide +kernel
theorem dX8_init_622 : decode cX8_init 622 = .ok (.bipush 119, 2) := by decide +kernel
theorem dX8_init_624 : decode cX8_init 624 = .ok (.iastore, 1) := by decide +kernel
theorem dX8_init_625 : decode cX8_init 625 = .ok (.dup, 1) := by decide +kernel
theorem dX8_init_626 : decode cX8_init 626 = .ok (.bipush 57, 2) := by decide +kernel
theorem dX8_init_628 : decode cX8_init 628 = .ok (.bipush 114, 2) := by decide +kernel
theorem dX8_init_630 : decode cX8_init 630 = .ok (.iastore, 1) := by decide +kernel
theorem dX8_init_631 : decode cX8_init 631 = .ok (.dup, 1) := by decide +kernel
theorem dX8_init_632 : decode cX8_init 632 = .ok (.bipush 58, 2) := by decide +kernel
theorem dX8_init_634 : decode cX8_init 634 = .ok (.bipush 111, 2) := by decide +kernel
theorem dX8_init_636 : decode cX8_init 636 = .ok (.iastore, 1) := by decide +kernel
theorem dX8_init_637 : decode cX8_init 637 = .ok (.dup, 1) := by decide +kernel
theorem dX8_init_638 : decode cX8_init 638 = .ok (.bipush 59, 2) := by decide +kernel
theorem dX8_init_640 : decode cX8_init 640 = .ok (.bipush 110, 2) := by decide +kernel
theorem dX8_init_642 : decode cX8_init 642 = .ok (.iastore, 1) := by decide +kernel
theorem dX8_init_643 : decode cX8_init 643 = .ok (.dup, 1) := by decide +kernel
theorem dX8_init_644 : decode cX8_init 644 = .ok (.bipush 60, 2) := by decide +kernel
theorem dX8_init_646 : decode cX8_init 646 = .ok (.bipush 103, 2) := by decide +kernel
theorem dX8_init_648 : decode cX8_init 648 = .ok (.iastore, 1) := by decide +kernel
theorem dX8_init_649 : decode cX8_init 649 = .ok (.dup, 1) := by decide +kernel
theorem dX8_init_650 : decode cX8_init 650 = .ok (.bipush 61, 2) := by decide +kernel
theorem dX8_init_652 : decode cX8_init 652 = .ok (.bipush 115, 2) := by decide +kernel
theorem dX8_init_654 : decode cX8_init 654 = .ok (.iastore, 1) := by decide +kernel
theorem dX8_init_655 : decode cX8_init 655 = .ok (.dup, 1) := by decide +kernel
theorem dX8_init_656 : decode cX8_init 656 = .ok (.bipush 62, 2) := by decide +kernel
theorem dX8_init_658 : decode cX8_init 658 = .ok (.bipush 32, 2) := by decide +kernel
theorem dX8_init_660 : decode cX8_init 660 = .ok (.iastore, 1) := by decide +kernel
theorem dX8_init_661 : decode cX8_init 661 = .ok (.dup, 1) := by decide +kernel
theorem dX8_init_662 : decode cX8_init 662 = .ok (.bipush 63, 2) := by decide +kernel
theorem dX8_init_664 : decode cX8_init 664 = .ok (.bipush 32, 2) := by decide +kernel
theorem dX8_init_666 : decode cX8_init 666 = .ok (.iastore, 1) := by decide +kernel
theorem dX8_init_667 : decode cX8_init 667 = .ok (.dup, 1) := by decide +kernel
theorem dX8_init_668 : decode cX8_init 668 = .ok (.bipush 64, 2) := by decide +kernel
theorem dX8_init_670 : decode cX8_init 670 = .ok (.bipush 109, 2) := by decide +kernel
theorem dX8_init_672 : decode cX8_init 672 = .ok (.iastore, 1) := by decide +kernel
theorem dX8_init_673 : decode cX8_init 673 = .ok (.dup, 1) := by decide +kernel
theorem dX8_init_674 : decode cX8_init 674 = .ok (.bipush 65, 2) := by decide +kernel
theorem dX8_init_676 : decode cX8_init 676 = .ok (.bipush 111, 2) := by decide +kernel
theorem dX8_init_678 : decode cX8_init 678 = .ok (.iastore, 1) := by decide +kernel
theorem dX8_init_679 : decode cX8_init 679 = .ok (.dup, 1) := by decide +kernel
theorem dX8_init_680 : decode cX8_init 680 = .ok (.bipush 66, 2) := by decide +kernel
theorem dX8_init_682 : decode cX8_init 682 = .ok (.bipush 114, 2) := by decide +kernel
theorem dX8_init_684 : decode cX8_init 684 = .ok (.iastore, 1) := by decide +kernel
theorem dX8_init_685 : decode cX8_init 685 = .ok (.dup, 1) := by decide +kernel
theorem dX8_init_686 : decode cX8_init 686 = .ok (.bipush 67, 2) := by decide +kernel
theorem dX8_init_688 : decode cX8_init 688 = .ok (.bipush 101, 2) := by decide +kernel
theorem dX8_init_690 : decode cX8_init 690 = .ok (.iastore, 1) := by decide +kernel
theorem dX8_init_691 : decode cX8_init 691 = .ok (.dup, 1) := by decide +kernel
theorem dX8_init_692 : decode cX8_init 692 = .ok (.bipush 68, 2) := by decide +kernel
theorem dX8_init_694 : decode cX8_init 694 = .ok (.bipush 32, 2) := by decide +kernel
theorem dX8_init_696 : decode cX8_init 696 = .ok (.iastore, 1) := by decide +kernel
theorem dX8_init_697 : decode cX8_init 697 = .ok (.dup, 1) := by decide +kernel
theorem dX8_init_698 : decode cX8_init 698 = .ok (.bipush 69, 2) := by decide +kernel
theorem dX8_init_700 : decode cX8_init 700 = .ok (.bipush 32, 2) := by decide +kernel
theorem dX8_init_702 : decode cX8_init 702 = .ok (.iastore, 1) := by decide +kernel
theorem dX8_init_703 : decode cX8_init 703 = .ok (.dup, 1) := by decide +kernel
theorem dX8_init_704 : decode cX8_init 704 = .ok (.bipush 70, 2) := by decide +kernel
theorem dX8_init_706 : decode cX8_init 706 = .ok (.bipush 32, 2) := by decide +kernel
theorem dX8_init_708 : decode cX8_init 708 = .ok (.iastore, 1) := by decide +kernel
theorem dX8_init_709 : decode cX8_init 709 = .ok (.dup, 1) := by decide +kernel
theorem dX8_init_710 : decode cX8_init 710 = .ok (.bipush 71, 2) := by decide +kernel
theorem dX8_init_712 : decode cX8_init 712 = .ok (.bipush 32, 2) := by decide +kernel
theorem dX8_init_714 : decode cX8_init 714 = .ok (.iastore, 1) := by decide +kernel
theorem dX8_init_715 : decode cX8_init 715 = .ok (.dup, 1) := by decide +kernel
theorem dX8_init_716 : decode cX8_init 716 = .ok (.bipush 72, 2) := by decide +kernel
theorem dX8_init_718 : decode cX8_init 718 = .ok (.bipush 111, 2) := by decide +kernel
theorem dX8_init_720 : decode cX8_init 720 = .ok (.iastore, 1) := by decide +kernel
theorem dX8_init_721 : decode cX8_init 721 = .ok (.dup, 1) := by decide +kernel
theorem dX8_init_722 : decode cX8_init 722 = .ok (.bipush 73, 2) := by decide +kernel
theorem dX8_init_724 : decode cX8_init 724 = .ok (.bipush 114, 2) := by decide +kernel
theorem dX8_init_726 : decode cX8_init 726 = .ok (.iastore, 1) := by decide +kernel
theorem dX8_init_727 : decode cX8_init 727 = .ok (.dup, 1) := by decide +kernel
theorem dX8_init_728 : decode cX8_init 728 = .ok (.bipush 74, 2) := by decide +kernel
theorem dX8_init_730 : decode cX8_init 730 = .ok (.bipush 32, 2) := by decide +kernel
theorem dX8_init_732 : decode cX8_init 732 = .ok (.iastore, 1) := by decide +kernel
theorem dX8_init_733 : decode cX8_init 733 = .ok (.dup, 1) := by decide +kernel
theorem dX8_init_734 : decode cX8_init 734 = .ok (.bipush 75, 2) := by decide +kernel
theorem dX8_init_736 : decode cX8_init 736 = .ok (.bipush 32, 2) := by decide +kernel
theorem dX8_init_738 : decode cX8_init 738 = .ok (.iastore, 1) := by decide +kernel
theorem dX8_init_739 : decode cX8_init 739 = .ok (.dup, 1) := by decide +kernel
theorem dX8_init_740 : decode cX8_init 740 = .ok (.bipush 76, 2) := by decide +kernel
theorem dX8_init_742 : decode cX8_init 742 = .ok (.bipush 32, 2) := by decide +kernel
theorem dX8_init_744 : decode cX8_init 744 = .ok (.iastore, 1) := by decide +kernel
theorem dX8_init_745 : decode cX8_init 745 = .ok (.dup, 1) := by decide +kernel
theorem dX8_init_746 : decode cX8_init 746 = .ok (.bipush 77, 2) := by decide +kernel
theorem dX8_init_748 : decode cX8_init 748 = .ok (.bipush 32, 2) := by decide +kernel
theorem dX8_init_750 : decode cX8_init 750 = .ok (.iastore, 1) := by decide +kernel
theorem dX8_init_751 : decode cX8_init 751 = .ok (.dup, 1) := by decide +kernel
theorem dX8_init_752 : decode cX8_init 752 = .ok (.bipush 78, 2) := by decide +kernel
theorem dX8_init_754 : decode cX8_init 754 = .ok (.bipush 32, 2) := by decide +kernel
theorem dX8_init_756 : decode cX8_init 756 = .ok (.iastore, 1) := by decide +kernel
theorem dX8_init_757 : decode cX8_init 757 = .ok (.dup, 1) := by decide +kernel
theorem dX8_init_758 : decode cX8_init 758 = .ok (.bipush 79, 2) := by decide +kernel
theorem dX8_init_760 : decode cX8_init 760 = .ok (.bipush 32, 2) := by decide +kernel
theorem dX8_init_762 : decode cX8_init 762 = .ok (.iastore, 1) := by decide +kernel
theorem dX8_init_763 : decode cX8_init 763 = .ok (.dup, 1) := by decide +kernel
theorem dX8_init_764 : decode cX8_init 764 = .ok (.bipush 80, 2) := by decide +kernel
theorem dX8_init_766 : decode cX8_init 766 = .ok (.bipush 97, 2) := by decide +kernel
theorem dX8_init_768 : decode cX8_init 768 = .ok (.iastore, 1) := by decide +kernel
theorem dX8_init_769 : decode cX8_init 769 = .ok (.dup, 1) := by decide +kernel
theorem dX8_init_770 : decode cX8_init 770 = .ok (.bipush 81, 2) := by decide +kernel
theorem dX8_init_772 : decode cX8_init 772 = .ok (.bipush 110, 2) := by decide +kernel
theorem dX8_init_774 : decode cX8_init 774 = .ok (.iastore, 1) := by decide +kernel
theorem dX8_init_775 : decode cX8_init 775 = .ok (.dup, 1) := by decide +kernel
theorem dX8_init_776 : decode cX8_init 776 = .ok (.bipush 82, 2) := by decide +kernel
theorem dX8_init_778 : decode cX8_init 778 = .ok (.bipush 100, 2) := by decide +kernel
theorem dX8_init_780 : decode cX8_init 780 = .ok (.iastore, 1) := by decide +kernel
theorem dX8_init_781 : decode cX8_init 781 = .ok (.dup, 1) := by decide +kernel
theorem dX8_init_782 : decode cX8_init 782 = .ok (.bipush 83, 2) := by decide +kernel
theorem dX8_init_784 : decode cX8_init 784 = .ok (.bipush 32, 2) := by decide +kernel
theorem dX8_init_786 : decode cX8_init 786 = .ok (.iastore, 1) := by decide +kernel
theorem dX8_init_787 : decode cX8_init 787 = .ok (.dup, 1) := by decide +kernel
theorem dX8_init_788 : decode cX8_init 788 = .ok (.bipush 84, 2) := by decide +kernel
theorem dX8_init_790 : decode cX8_init 790 = .ok (.bipush 32, 2) := by decide +kernel
theorem dX8_init_792 : decode cX8_init 792 = .ok (.iastore, 1) := by decide +kernel
theorem dX8_init_793 : decode cX8_init 793 = .ok (.dup, 1) := by decide +kernel
theorem dX8_init_794 : decode cX8_init 794 = .ok (.bipush 85, 2) := by decide +kernel
theorem dX8_init_796 : decode cX8_init 796 = .ok (.bipush 32, 2) := by decide +kernel
theorem dX8_init_798 : decode cX8_init 798 = .ok (.iastore, 1) := by decide +kernel
theorem dX8_init_799 : decode cX8_init 799 = .ok (.dup, 1) := by decide +kernel
theorem dX8_init_800 : decode cX8_init 800 = .ok (.bipush 86, 2) := by decide +kernel
theorem dX8_init_802 : decode cX8_init 802 = .ok (.bipush 32, 2) := by decide +kernel
theorem dX8_init_804 : decode cX8_init 804 = .ok (.iastore, 1) := by decide +kernel
theorem dX8_init_805 : decode cX8_init 805 = .ok (.dup, 1) := by decide +kernel
theorem dX8_init_806 : decode cX8_init 806 = .ok (.bipush 87, 2) := by decide +kernel
theorem dX8_init_808 : decode cX8_init 808 = .ok (.bipush 32, 2) := by decide +kernel
theorem dX8_init_810 : decode cX8_init 810 = .ok (.iastore, 1) := by decide +kernel
theorem dX8_init_811 : decode cX8_init 811 = .ok (.dup, 1) := by decide +kernel
theorem dX8_init_812 : decode cX8_init 812 = .ok (.bipush 88, 2) := by decide +kernel
theorem dX8_init_814 : decode cX8_init 814 = .ok (.bipush 110, 2) := by decide +kernel
theorem dX8_init_816 : decode cX8_init 816 = .ok (.iastore, 1) := by decide +kernel
theorem dX8_init_817 : decode cX8_init 817 = .ok (.dup, 1) := by decide +kernel
theorem dX8_init_818 : decode cX8_init 818 = .ok (.bipush 89, 2) := by decide +kernel
theorem dX8_init_820 : decode cX8_init 820 = .ok (.bipush 111, 2) := by decide +kernel
theorem dX8_init_822 : decode cX8_init 822 = .ok (.iastore, 1) := by decide +kernel
theorem dX8_init_823 : decode cX8_init 823 = .ok (.dup, 1) := by decide +kernel
theorem dX8_init_824 : decode cX8_init 824 = .ok (.bipush 90, 2) := by decide +kernel
theorem dX8_init_826 : decode cX8_init 826 = .ok (.bipush 116, 2) := by decide +kernel
theorem dX8_init_828 : decode cX8_init 828 = .ok (.iastore, 1) := by decide +kernel
theorem dX8_init_829 : decode cX8_init 829 = .ok (.dup, 1) := by decide +kernel
theorem dX8_init_830 : decode cX8_init 830 = .ok (.bipush 91, 2) := by decide +kernel
theorem dX8_init_832 : decode cX8_init 832 = .ok (.bipush 32, 2) := by decide +kernel
theorem dX8_init_834 : decode cX8_init 834 = .ok (.iastore, 1) := by decide +kernel
theorem dX8_init_835 : decode cX8_init 835 = .ok (.dup, 1) := by decide +kernel
theorem dX8_init_836 : decode cX8_init 836 = .ok (.bipush 92, 2) := by decide +kernel
theorem dX8_init_838 : decode cX8_init 838 = .ok (.bipush 32, 2) := by decide +kernel
theorem dX8_init_840 : decode cX8_init 840 = .ok (.iastore, 1) := by decide +kernel
theorem dX8_init_841 : decode cX8_init 841 = .ok (.dup, 1) := by decide +kernel
theorem dX8_init_842 : decode cX8_init 842 = .ok (.bipush 93, 2) := by decide +kernel
theorem dX8_init_844 : decode cX8_init 844 = .ok (.bipush 32, 2) := by decide +kernel
theorem dX8_init_846 : decode cX8_init 846 = .ok (.iastore, 1) := by decide +kernel
theorem dX8_init_847 : decode cX8_init 847 = .ok (.dup, 1) := by decide +kernel
theorem dX8_init_848 : decode cX8_init 848 = .ok (.bipush 94, 2) := by decide +kernel
theorem dX8_init_850 : decode cX8_init 850 = .ok (.bipush 32, 2) := by decide +kernel
theorem dX8_init_852 : decode cX8_init 852 = .ok (.iastore, 1) := by decide +kernel
theorem dX8_init_853 : decode cX8_init 853 = .ok (.dup, 1) := by decide +kernel
theorem dX8_init_854 : decode cX8_init 854 = .ok (.bipush 95, 2) := by decide +kernel
theorem dX8_init_856 : decode cX8_init 856 = .ok (.bipush 32, 2) := by decide +kernel
theorem dX8_init_858 : decode cX8_init 858 = .ok (.iastore, 1) := by decide +kernel
theorem dX8_init_859 : decode cX8_init 859 = .ok (.putfield 46, 3) := by decide +kernel
theorem dX8_init_862 : decode cX8_init 862 = .ok (.aload_n 0, 1) := by decide +kernel
theorem dX8_init_863 : decode cX8_init 863 = .ok (.sipush 200, 3) := by decide +kernel
theorem dX8_init_866 : decode cX8_init 866 = .ok (.newarray .int, 2) := by decide +kernel
theorem dX8_init_868 : decode cX8_init 868 = .ok (.putfield 49, 3) := by decide +kernel
theorem dX8_init_871 : decode cX8_init 871 = .ok (.aload_n 0, 1) := by decide +kernel
theorem dX8_init_872 : decode cX8_init 872 = .ok (.sipush 200, 3) := by decide +kernel
theorem dX8_init_875 : decode cX8_init 875 = .ok (.newarray .int, 2) := by decide +kernel
theorem dX8_init_877 : decode cX8_init 877 = .ok (.putfield 52, 3) := by decide +kernel
theorem dX8_init_880 : decode cX8_init 880 = .ok (.aload_n 0, 1) := by decide +kernel
theorem dX8_init_881 : decode cX8_init 881 = .ok (.bipush 6, 2) := by decide +kernel
theorem dX8_init_883 : decode cX8_init 883 = .ok (.newarray .int, 2) := by decide +kernel
theorem dX8_init_885 : decode cX8_init 885 = .ok (.putfield 55, 3) := by decide +kernel
theorem dX8_init_888 : decode cX8_init 888 = .ok (.aload_n 0, 1) := by decide +kernel
theorem dX8_init_889 : decode cX8_init 889 = .ok (.bipush 31, 2) := by decide +kernel
theorem dX8_init_891 : decode cX8_init 891 = .ok (.newarray .int, 2) := by decide +kernel
theorem dX8_init_893 : decode cX8_init 893 = .ok (.putfield 58, 3) := by decide +kernel
theorem dX8_init_896 : decode cX8_init 896 = .ok (.iconst 0, 1) := by decide +kernel
theorem dX8_init_897 : decode cX8_init 897 = .ok (.istore_n 1, 1) := by decide +kernel
theorem dX8_init_898 : decode cX8_init 898 = .ok (.iload_n 1, 1) := by decide +kernel
theorem dX8_init_899 : decode cX8_init 899 = .ok (.bipush 29, 2) := by decide +kernel
theorem dX8_init_901 : decode cX8_init 901 = .ok (.if_icmp .ge 21, 3) := by decide +kernel
theorem dX8_init_904 : decode cX8_init 904 = .ok (.aload_n 0, 1) := by decide +kernel
theorem dX8_init_905 : decode cX8_init 905 = .ok (.getfield 19, 3) := by decide +kernel
theorem dX8_init_908 : decode cX8_init 908 = .ok (.iload_n 1, 1) := by decide +kernel
theorem dX8_init_909 : decode cX8_init 909 = .ok (.aload_n 0, 1) := by decide +kernel
theorem dX8_init_910 : decode cX8_init 910 = .ok (.getfield 43, 3) := by decide +kernel
theorem dX8_init_913 : decode cX8_init 913 = .ok (.iload_n 1, 1) := by decide +kernel
theorem dX8_init_914 : decode cX8_init 914 = .ok (.iaload, 1) := by decide +kernel
theorem dX8_init_915 : decode cX8_init 915 = .ok (.iastore, 1) := by decide +kernel
theorem dX8_init_916 : decode cX8_init 916 = .ok (.iinc 1 1, 3) := by decide +kernel
theorem dX8_init_919 : decode cX8_init 919 = .ok (.goto (-21), 3) := by decide +kernel
theorem dX8_init_922 : decode cX8_init 922 = .ok (.aload_n 0, 1) := by decide +kernel
theorem dX8_init_923 : decode cX8_init 923 = .ok (.bipush 29, 2) := by decide +kernel
theorem dX8_init_925 : decode cX8_init 925 = .ok (.putfield 61, 3) := by decide +kernel
theorem dX8_init_928 : decode cX8_init 928 = .ok (.aload_n 0, 1) := by decide +kernel
theorem dX8_init_929 : decode cX8_init 929 = .ok (.invokevirtual 65, 3) := by decide +kernel
theorem dX8_init_932 : decode cX8_init 932 = .ok (.pop, 1) := by decide +kernel
theorem dX8_init_933 : decode cX8_init 933 = .ok (.return_, 1) := by decide +kernel
theorem dX8_in_0 : decode cX8_in 0 = .ok (.iload_n 0, 1) := by decide +kernel
theorem dX8_in_1 : decode cX8_in 1 = .ok (.iload_n 1, 1) := by decide +kernel
theorem dX8_in_2 : decode cX8_in 2 = .ok (.if_icmp .lt 12, 3) := by decide +kernel
theorem dX8_in_5 : decode cX8_in 5 = .ok (.iload_n 0, 1) := by decide +kernel
theorem dX8_in_6 : decode cX8_in 6 = .ok (.iload_n 2, 1) := by decide +kernel
theorem dX8_in_7 : decode cX8_in 7 = .ok (.if_icmp .gt 7, 3) := by decide +kernel
theorem dX8_in_10 : decode cX8_in 10 = .ok (.iconst 1, 1) := by decide +kernel
theorem dX8_in_11 : decode cX8_in 11 = .ok (.goto 4, 3) := by decide +kernel
theorem dX8_in_14 : decode cX8_in 14 = .ok (.iconst 0, 1) := by decide +kernel
theorem dX8_in_15 : decode cX8_in 15 = .ok (.ireturn, 1) := by decide +kernel
theorem dX8_within_0 : decode cX8_within 0 = .ok (.iload_n 0, 1) := by decide +kernel
theorem dX8_within_1 : decode cX8_within 1 = .ok (.iload_n 1, 1) := by decide +kernel
theorem dX8_within_2 : decode cX8_within 2 = .ok (.if_icmp .ge 7, 3) := by decide +kernel
theorem dX8_within_5 : decode cX8_within 5 = .ok (.iload_n 1, 1) := by decide +kernel
theorem dX8_within_6 : decode cX8_within 6 = .ok (.goto 13, 3) := by decide +kernel
theorem dX8_within_9 : decode cX8_within 9 = .ok (.iload_n 0, 1) := by decide +kernel
theorem dX8_within_10 : decode cX8_within 10 = .ok (.iload_n 2, 1) := by decide +kernel
theorem dX8_within_11 : decode cX8_within 11 = .ok (.if_icmp .le 7, 3) := by decide +kernel
theorem dX8_within_14 : decode cX8_within 14 = .ok (.iload_n 2, 1) := by decide +kernel
theorem dX8_within_15 : decode cX8_within 15 = .ok (.goto 4, 3) := by decide +kernel
theorem dX8_within_18 : decode cX8_within 18 = .ok (.iload_n 0, 1) := by decide +kernel
theorem dX8_within_19 : decode cX8_within 19 = .ok (.ireturn, 1) := by decide +kernel
theorem dX8_onesOf_0 : decode cX8_onesOf 0 = .ok (.iconst 0, 1) := by decide +kernel
theorem dX8_onesOf_1 : decode cX8_onesOf 1 = .ok (.istore_n 1, 1) := by decide +kernel
theorem dX8_onesOf_2 : decode cX8_onesOf 2 = .ok (.iconst 0, 1) := by decide +kernel
theorem dX8_onesOf_3 : decode cX8_onesOf 3 = .ok (.istore_n 2, 1) := by decide +kernel
theorem dX8_onesOf_4 : decode cX8_onesOf 4 = .ok (.iload_n 2, 1) := by decide +kernel
theorem dX8_onesOf_5 : decode cX8_onesOf 5 = .ok (.bipush 10, 2) := by decide +kernel
theorem dX8_onesOf_7 : decode cX8_onesOf 7 = .ok (.if_icmp .ge 17, 3) := by decide +kernel
theorem dX8_onesOf_10 : decode cX8_onesOf 10 = .ok (.iload_n 1, 1) := by decide +kernel
theorem dX8_onesOf_11 : decode cX8_onesOf 11 = .ok (.iload_n 0, 1) := by decide +kernel
theorem dX8_onesOf_12 : decode cX8_onesOf 12 = .ok (.iload_n 2, 1) := by decide +kernel
theorem dX8_onesOf_13 : decode cX8_onesOf 13 = .ok (.ishr, 1) := by decide +kernel
theorem dX8_onesOf_14 : decode cX8_onesOf 14 = .ok (.iconst 1, 1) := by decide +kernel
theorem dX8_onesOf_15 : decode cX8_onesOf 15 = .ok (.iand, 1) := by decide +kernel
theorem dX8_onesOf_16 : decode cX8_onesOf 16 = .ok (.iadd, 1) := by decide +kernel
theorem dX8_onesOf_17 : decode cX8_onesOf 17 = .ok (.istore_n 1, 1) := by decide +kernel
theorem dX8_onesOf_18 : decode cX8_onesOf 18 = .ok (.iinc 2 1, 3) := by decide +kernel
theorem dX8_onesOf_21 : decode cX8_onesOf 21 = .ok (.goto (-17), 3) := by decide +kernel
theorem dX8_onesOf_24 : decode cX8_onesOf 24 = .ok (.iload_n 1, 1) := by decide +kernel
theorem dX8_onesOf_25 : decode cX8_onesOf 25 = .ok (.ireturn, 1) := by decide +kernel
theorem dX8_isOne_0 : decode cX8_isOne 0 = .ok (.iload_n 1, 1) := by decide +kernel
theorem dX8_isOne_1 : decode cX8_isOne 1 = .ok (.iconst 0, 1) := by decide +kernel
theorem dX8_isOne_2 : decode cX8_isOne 2 = .ok (.aload_n 0, 1) := by decide +kernel
theorem dX8_isOne_3 : decode cX8_isOne 3 = .ok (.getfield 69, 3) := by decide +kernel
theorem dX8_isOne_6 : decode cX8_isOne 6 = .ok (.iconst 1, 1) := by decide +kernel
theorem dX8_isOne_7 : decode cX8_isOne 7 = .ok (.isub, 1) := by decide +kernel
theorem dX8_isOne_8 : decode cX8_isOne 8 = .ok (.invokestatic 72, 3) := by decide +kernel
theorem dX8_isOne_11 : decode cX8_isOne 11 = .ok (.ireturn, 1) := by decide +kernel
theorem dX8_count_0 : decode cX8_count 0 = .ok (.iload_n 1, 1) := by decide +kernel
theorem dX8_count_1 : decode cX8_count 1 = .ok (.tableswitch 72 0 5 #[39, 44, 49, 57, 62, 67], 39) := by decide +kernel
theorem dX8_count_40 : decode cX8_count 40 = .ok (.aload_n 0, 1) := by decide +kernel
theorem dX8_count_41 : decode cX8_count 41 = .ok (.getfield 69, 3) := by decide +kernel
theorem dX8_count_44 : decode cX8_count 44 = .ok (.ireturn, 1) := by decide +kernel
theorem dX8_count_45 : decode cX8_count 45 = .ok (.aload_n 0, 1) := by decide +kernel
theorem dX8_count_46 : decode cX8_count 46 = .ok (.getfield 76, 3) := by decide +kernel
theorem dX8_count_49 : decode cX8_count 49 = .ok (.ireturn, 1) := by decide +kernel
theorem dX8_count_50 : decode cX8_count 50 = .ok (.aload_n 0, 1) := by decide +kernel
theorem dX8_count_51 : decode cX8_count 51 = .ok (.invokevirtual 79, 3) := by decide +kernel
theorem dX8_count_54 : decode cX8_count 54 = .ok (.invokestatic 82, 3) := by decide +kernel
theorem dX8_count_57 : decode cX8_count 57 = .ok (.ireturn, 1) := by decide +kernel
theorem dX8_count_58 : decode cX8_count 58 = .ok (.aload_n 0, 1) := by decide +kernel
theorem dX8_count_59 : decode cX8_count 59 = .ok (.getfield 86, 3) := by decide +kernel
theorem dX8_count_62 : decode cX8_count 62 = .ok (.ireturn, 1) := by decide +kernel
theorem dX8_count_63 : decode cX8_count 63 = .ok (.aload_n 0, 1) := by decide +kernel
theorem dX8_count_64 : decode cX8_count 64 = .ok (.getfield 89, 3) := by decide +kernel
theorem dX8_count_67 : decode cX8_count 67 = .ok (.ireturn, 1) := by decide +kernel
theorem dX8_count_68 : decode cX8_count 68 = .ok (.aload_n 0, 1) := by decide +kernel
theorem dX8_count_69 : decode cX8_count 69 = .ok (.getfield 61, 3) := by decide +kernel
theorem dX8_count_72 : decode cX8_count 72 = .ok (.ireturn, 1) := by decide +kernel
theorem dX8_count_73 : decode cX8_count 73 = .ok (.bipush (-2), 2) := by decide +kernel
theorem dX8_count_75 : decode cX8_count 75 = .ok (.ireturn, 1) := by decide +kernel
theorem dX8_clock_0 : decode cX8_clock 0 = .ok (.iload_n 1, 1) := by decide +kernel
theorem dX8_clock_1 : decode cX8_clock 1 = .ok (.iconst 0, 1) := by decide +kernel
theorem dX8_clock_2 : decode cX8_clock 2 = .ok (.sipush 999, 3) := by decide +kernel
theorem dX8_clock_5 : decode cX8_clock 5 = .ok (.invokestatic 72, 3) := by decide +kernel
theorem dX8_clock_8 : decode cX8_clock 8 = .ok (.ifCond .ne 6, 3) := by decide +kernel
theorem dX8_clock_11 : decode cX8_clock 11 = .ok (.bipush (-2), 2) := by decide +kernel
theorem dX8_clock_13 : decode cX8_clock 13 = .ok (.ireturn, 1) := by decide +kernel
theorem dX8_clock_14 : decode cX8_clock 14 = .ok (.aload_n 0, 1) := by decide +kernel
theorem dX8_clock_15 : decode cX8_clock 15 = .ok (.getfield 76, 3) := by decide +kernel
theorem dX8_clock_18 : decode cX8_clock 18 = .ok (.istore_n 2, 1) := by decide +kernel
theorem dX8_clock_19 : decode cX8_clock 19 = .ok (.aload_n 0, 1) := by decide +kernel
theorem dX8_clock_20 : decode cX8_clock 20 = .ok (.iload_n 1, 1) := by decide +kernel
theorem dX8_clock_21 : decode cX8_clock 21 = .ok (.putfield 76, 3) := by decide +kernel
theorem dX8_clock_24 : decode cX8_clock 24 = .ok (.iload_n 2, 1) := by decide +kernel
theorem dX8_clock_25 : decode cX8_clock 25 = .ok (.ireturn, 1) := by decide +kernel
theorem dX8_isByte_0 : decode cX8_isByte 0 = .ok (.iload_n 0, 1) := by decide +kernel
theorem dX8_isByte_1 : decode cX8_isByte 1 = .ok (.iconst 0, 1) := by decide +kernel
theorem dX8_isByte_2 : decode cX8_isByte 2 = .ok (.sipush 255, 3) := by decide +kernel
theorem dX8_isByte_5 : decode cX8_isByte 5 = .ok (.invokestatic 72, 3) := by decide +kernel
theorem dX8_isByte_8 : decode cX8_isByte 8 = .ok (.ireturn, 1) := by decide +kernel
theorem dX8_feed_0 : decode cX8_feed 0 = .ok (.iload_n 1, 1) := by decide +kernel
theorem dX8_feed_1 : decode cX8_feed 1 = .ok (.iconst 1, 1) := by decide +kernel
theorem dX8_feed_2 : decode cX8_feed 2 = .ok (.iconst 5, 1) := by decide +kernel
theorem dX8_feed_3 : decode cX8_feed 3 = .ok (.invokestatic 72, 3) := by decide +kernel
theorem dX8_feed_6 : decode cX8_feed 6 = .ok (.ifCond .eq 41, 3) := by decide +kernel
theorem dX8_feed_9 : decode cX8_feed 9 = .ok (.iload_n 2, 1) := by decide +kernel
theorem dX8_feed_10 : decode cX8_feed 10 = .ok (.invokestatic 92, 3) := by decide +kernel
theorem dX8_feed_13 : decode cX8_feed 13 = .ok (.ifCond .eq 34, 3) := by decide +kernel
theorem dX8_feed_16 : decode cX8_feed 16 = .ok (.iload_n 3, 1) := by decide +kernel
theorem dX8_feed_17 : decode cX8_feed 17 = .ok (.invokestatic 92, 3) := by decide +kernel
theorem dX8_feed_20 : decode cX8_feed 20 = .ok (.ifCond .eq 27, 3) := by decide +kernel
theorem dX8_feed_23 : decode cX8_feed 23 = .ok (.iload 4, 2) := by decide +kernel
theorem dX8_feed_25 : decode cX8_feed 25 = .ok (.invokestatic 92, 3) := by decide +kernel
theorem dX8_feed_28 : decode cX8_feed 28 = .ok (.ifCond .eq 19, 3) := by decide +kernel
theorem dX8_feed_31 : decode cX8_feed 31 = .ok (.iload 5, 2) := by decide +kernel
theorem dX8_feed_33 : decode cX8_feed 33 = .ok (.invokestatic 92, 3) := by decide +kernel
theorem dX8_feed_36 : decode cX8_feed 36 = .ok (.ifCond .eq 11, 3) := by decide +kernel
theorem dX8_feed_39 : decode cX8_feed 39 = .ok (.iload 6, 2) := by decide +kernel
theorem dX8_feed_41 : decode cX8_feed 41 = .ok (.invokestatic 92, 3) := by decide +kernel
theorem dX8_feed_44 : decode cX8_feed 44 = .ok (.ifCond .ne 6, 3) := by decide +kernel
theorem dX8_feed_47 : decode cX8_feed 47 = .ok (.bipush (-2), 2) := by decide +kernel
theorem dX8_feed_49 : decode cX8_feed 49 = .ok (.ireturn, 1) := by decide +kernel
theorem dX8_feed_50 : decode cX8_feed 50 = .ok (.aload_n 0, 1) := by decide +kernel
theorem dX8_feed_51 : decode cX8_feed 51 = .ok (.getfield 61, 3) := by decide +kernel
theorem dX8_feed_54 : decode cX8_feed 54 = .ok (.iload_n 1, 1) := by decide +kernel
theorem dX8_feed_55 : decode cX8_feed 55 = .ok (.iadd, 1) := by decide +kernel
theorem dX8_feed_56 : decode cX8_feed 56 = .ok (.sipush 160, 3) := by decide +kernel
theorem dX8_feed_59 : decode cX8_feed 59 = .ok (.if_icmp .le 6, 3) := by decide +kernel
theorem dX8_feed_62 : decode cX8_feed 62 = .ok (.bipush (-4), 2) := by decide +kernel
theorem dX8_feed_64 : decode cX8_feed 64 = .ok (.ireturn, 1) := by decide +kernel
theorem dX8_feed_65 : decode cX8_feed 65 = .ok (.iconst 0, 1) := by decide +kernel
theorem dX8_feed_66 : decode cX8_feed 66 = .ok (.istore 7, 2) := by decide +kernel
theorem dX8_feed_68 : decode cX8_feed 68 = .ok (.iload 7, 2) := by decide +kernel
theorem dX8_feed_70 : decode cX8_feed 70 = .ok (.iload_n 1, 1) := by decide +kernel
theorem dX8_feed_71 : decode cX8_feed 71 = .ok (.if_icmp .ge 71, 3) := by decide +kernel
theorem dX8_feed_74 : decode cX8_feed 74 = .ok (.aload_n 0, 1) := by decide +kernel
theorem dX8_feed_75 : decode cX8_feed 75 = .ok (.getfield 19, 3) := by decide +kernel
theorem dX8_feed_78 : decode cX8_feed 78 = .ok (.aload_n 0, 1) := by decide +kernel
theorem dX8_feed_79 : decode cX8_feed 79 = .ok (.getfield 61, 3) := by decide +kernel
theorem dX8_feed_82 : decode cX8_feed 82 = .ok (.iload 7, 2) := by decide +kernel
theorem dX8_feed_84 : decode cX8_feed 84 = .ok (.ifCond .ne 7, 3) := by decide +kernel
theorem dX8_feed_87 : decode cX8_feed 87 = .ok (.iload_n 2, 1) := by decide +kernel
theorem dX8_feed_88 : decode cX8_feed 88 = .ok (.goto 37, 3) := by decide +kernel
theorem dX8_feed_91 : decode cX8_feed 91 = .ok (.iload 7, 2) := by decide +kernel
theorem dX8_feed_93 : decode cX8_feed 93 = .ok (.iconst 1, 1) := by decide +kernel
theorem dX8_feed_94 : decode cX8_feed 94 = .ok (.if_icmp .ne 7, 3) := by decide +kernel
theorem dX8_feed_97 : decode cX8_feed 97 = .ok (.iload_n 3, 1) := by decide +kernel
theorem dX8_feed_98 : decode cX8_feed 98 = .ok (.goto 27, 3) := by decide +kernel
theorem dX8_feed_101 : decode cX8_feed 101 = .ok (.iload 7, 2) := by decide +kernel
theorem dX8_feed_103 : decode cX8_feed 103 = .ok (.iconst 2, 1) := by decide +kernel
theorem dX8_feed_104 : decode cX8_feed 104 = .ok (.if_icmp .ne 8, 3) := by decide +kernel
theorem dX8_feed_107 : decode cX8_feed 107 = .ok (.iload 4, 2) := by decide +kernel
theorem dX8_feed_109 : decode cX8_feed 109 = .ok (.goto 16, 3) := by decide +kernel
theorem dX8_feed_112 : decode cX8_feed 112 = .ok (.iload 7, 2) := by decide +kernel
theorem dX8_feed_114 : decode cX8_feed 114 = .ok (.iconst 3, 1) := by decide +kernel
theorem dX8_feed_115 : decode cX8_feed 115 = .ok (.if_icmp .ne 8, 3) := by decide +kernel
theorem dX8_feed_118 : decode cX8_feed 118 = .ok (.iload 5, 2) := by decide +kernel
theorem dX8_feed_120 : decode cX8_feed 120 = .ok (.goto 5, 3) := by decide +kernel
theorem dX8_feed_123 : decode cX8_feed 123 = .ok (.iload 6, 2) := by decide +kernel
theorem dX8_feed_125 : decode cX8_feed 125 = .ok (.iastore, 1) := by decide +kernel
theorem dX8_feed_126 : decode cX8_feed 126 = .ok (.aload_n 0, 1) := by decide +kernel
theorem dX8_feed_127 : decode cX8_feed 127 = .ok (.dup, 1) := by decide +kernel
theorem dX8_feed_128 : decode cX8_feed 128 = .ok (.getfield 61, 3) := by decide +kernel
theorem dX8_feed_131 : decode cX8_feed 131 = .ok (.iconst 1, 1) := by decide +kernel
theorem dX8_feed_132 : decode cX8_feed 132 = .ok (.iadd, 1) := by decide +kernel
theorem dX8_feed_133 : decode cX8_feed 133 = .ok (.putfield 61, 3) := by decide +kernel
theorem dX8_feed_136 : decode cX8_feed 136 = .ok (.iinc 7 1, 3) := by decide +kernel
theorem dX8_feed_139 : decode cX8_feed 139 = .ok (.goto (-71), 3) := by decide +kernel
theorem dX8_feed_142 : decode cX8_feed 142 = .ok (.aload_n 0, 1) := by decide +kernel
theorem dX8_feed_143 : decode cX8_feed 143 = .ok (.getfield 61, 3) := by decide +kernel
theorem dX8_feed_146 : decode cX8_feed 146 = .ok (.ireturn, 1) := by decide +kernel
theorem dX8_wordFrom_0 : decode cX8_wordFrom 0 = .ok (.iconst 0, 1) := by decide +kernel
theorem dX8_wordFrom_1 : decode cX8_wordFrom 1 = .ok (.istore_n 3, 1) := by decide +kernel
theorem dX8_wordFrom_2 : decode cX8_wordFrom 2 = .ok (.iload_n 3, 1) := by decide +kernel
theorem dX8_wordFrom_3 : decode cX8_wordFrom 3 = .ok (.bipush 12, 2) := by decide +kernel
theorem dX8_wordFrom_5 : decode cX8_wordFrom 5 = .ok (.if_icmp .ge 96, 3) := by decide +kernel
theorem dX8_wordFrom_8 : decode cX8_wordFrom 8 = .ok (.iload_n 2, 1) := by decide +kernel
theorem dX8_wordFrom_9 : decode cX8_wordFrom 9 = .ok (.iload_n 1, 1) := by decide +kernel
theorem dX8_wordFrom_10 : decode cX8_wordFrom 10 = .ok (.isub, 1) := by decide +kernel
theorem dX8_wordFrom_11 : decode cX8_wordFrom 11 = .ok (.bipush 8, 2) := by decide +kernel
theorem dX8_wordFrom_13 : decode cX8_wordFrom 13 = .ok (.if_icmp .gt 7, 3) := by decide +kernel
theorem dX8_wordFrom_16 : decode cX8_wordFrom 16 = .ok (.iconst 1, 1) := by decide +kernel
theorem dX8_wordFrom_17 : decode cX8_wordFrom 17 = .ok (.goto 4, 3) := by decide +kernel
theorem dX8_wordFrom_20 : decode cX8_wordFrom 20 = .ok (.iconst 0, 1) := by decide +kernel
theorem dX8_wordFrom_21 : decode cX8_wordFrom 21 = .ok (.istore 4, 2) := by decide +kernel
theorem dX8_wordFrom_23 : decode cX8_wordFrom 23 = .ok (.iconst 0, 1) := by decide +kernel
theorem dX8_wordFrom_24 : decode cX8_wordFrom 24 = .ok (.istore 5, 2) := by decide +kernel
theorem dX8_wordFrom_26 : decode cX8_wordFrom 26 = .ok (.iload 5, 2) := by decide +kernel
theorem dX8_wordFrom_28 : decode cX8_wordFrom 28 = .ok (.bipush 8, 2) := by decide +kernel
theorem dX8_wordFrom_30 : decode cX8_wordFrom 30 = .ok (.if_icmp .ge 58, 3) := by decide +kernel
theorem dX8_wordFrom_33 : decode cX8_wordFrom 33 = .ok (.iload 4, 2) := by decide +kernel
theorem dX8_wordFrom_35 : decode cX8_wordFrom 35 = .ok (.ifCond .eq 53, 3) := by decide +kernel
theorem dX8_wordFrom_38 : decode cX8_wordFrom 38 = .ok (.aload_n 0, 1) := by decide +kernel
theorem dX8_wordFrom_39 : decode cX8_wordFrom 39 = .ok (.getfield 46, 3) := by decide +kernel
theorem dX8_wordFrom_42 : decode cX8_wordFrom 42 = .ok (.bipush 8, 2) := by decide +kernel
theorem dX8_wordFrom_44 : decode cX8_wordFrom 44 = .ok (.iload_n 3, 1) := by decide +kernel
theorem dX8_wordFrom_45 : decode cX8_wordFrom 45 = .ok (.imul, 1) := by decide +kernel
theorem dX8_wordFrom_46 : decode cX8_wordFrom 46 = .ok (.iload 5, 2) := by decide +kernel
theorem dX8_wordFrom_48 : decode cX8_wordFrom 48 = .ok (.iadd, 1) := by decide +kernel
theorem dX8_wordFrom_49 : decode cX8_wordFrom 49 = .ok (.iaload, 1) := by decide +kernel
theorem dX8_wordFrom_50 : decode cX8_wordFrom 50 = .ok (.iload_n 1, 1) := by decide +kernel
theorem dX8_wordFrom_51 : decode cX8_wordFrom 51 = .ok (.iload 5, 2) := by decide +kernel
theorem dX8_wordFrom_53 : decode cX8_wordFrom 53 = .ok (.iadd, 1) := by decide +kernel
theorem dX8_wordFrom_54 : decode cX8_wordFrom 54 = .ok (.iload_n 2, 1) := by decide +kernel
theorem dX8_wordFrom_55 : decode cX8_wordFrom 55 = .ok (.if_icmp .ge 15, 3) := by decide +kernel
theorem dX8_wordFrom_58 : decode cX8_wordFrom 58 = .ok (.aload_n 0, 1) := by decide +kernel
theorem dX8_wordFrom_59 : decode cX8_wordFrom 59 = .ok (.getfield 19, 3) := by decide +kernel
theorem dX8_wordFrom_62 : decode cX8_wordFrom 62 = .ok (.iload_n 1, 1) := by decide +kernel
theorem dX8_wordFrom_63 : decode cX8_wordFrom 63 = .ok (.iload 5, 2) := by decide +kernel
theorem dX8_wordFrom_65 : decode cX8_wordFrom 65 = .ok (.iadd, 1) := by decide +kernel
theorem dX8_wordFrom_66 : decode cX8_wordFrom 66 = .ok (.iaload, 1) := by decide +kernel
theorem dX8_wordFrom_67 : decode cX8_wordFrom 67 = .ok (.goto 5, 3) := by decide +kernel
theorem dX8_wordFrom_70 : decode cX8_wordFrom 70 = .ok (.bipush 32, 2) := by decide +kernel
theorem dX8_wordFrom_72 : decode cX8_wordFrom 72 = .ok (.if_icmp .ne 7, 3) := by decide +kernel
theorem dX8_wordFrom_75 : decode cX8_wordFrom 75 = .ok (.iconst 1, 1) := by decide +kernel
theorem dX8_wordFrom_76 : decode cX8_wordFrom 76 = .ok (.goto 4, 3) := by decide +kernel
theorem dX8_wordFrom_79 : decode cX8_wordFrom 79 = .ok (.iconst 0, 1) := by decide +kernel
theorem dX8_wordFrom_80 : decode cX8_wordFrom 80 = .ok (.istore 4, 2) := by decide +kernel
theorem dX8_wordFrom_82 : decode cX8_wordFrom 82 = .ok (.iinc 5 1, 3) := by decide +kernel
theorem dX8_wordFrom_85 : decode cX8_wordFrom 85 = .ok (.goto (-59), 3) := by decide +kernel
theorem dX8_wordFrom_88 : decode cX8_wordFrom 88 = .ok (.iload 4, 2) := by decide +kernel
theorem dX8_wordFrom_90 : decode cX8_wordFrom 90 = .ok (.ifCond .eq 5, 3) := by decide +kernel
theorem dX8_wordFrom_93 : decode cX8_wordFrom 93 = .ok (.iload_n 3, 1) := by decide +kernel
theorem dX8_wordFrom_94 : decode cX8_wordFrom 94 = .ok (.ireturn, 1) := by decide +kernel
theorem dX8_wordFrom_95 : decode cX8_wordFrom 95 = .ok (.iinc 3 1, 3) := by decide +kernel
theorem dX8_wordFrom_98 : decode cX8_wordFrom 98 = .ok (.goto (-96), 3) := by decide +kernel
theorem dX8_wordFrom_101 : decode cX8_wordFrom 101 = .ok (.bipush 12, 2) := by decide +kernel
theorem dX8_wordFrom_103 : decode cX8_wordFrom 103 = .ok (.ireturn, 1) := by decide +kernel
theorem dX8_next_0 : decode cX8_next 0 = .ok (.aload_n 0, 1) := by decide +kernel
theorem dX8_next_1 : decode cX8_next 1 = .ok (.getfield 96, 3) := by decide +kernel
theorem dX8_next_4 : decode cX8_next 4 = .ok (.aload_n 0, 1) := by decide +kernel
theorem dX8_next_5 : decode cX8_next 5 = .ok (.getfield 61, 3) := by decide +kernel
theorem dX8_next_8 : decode cX8_next 8 = .ok (.if_icmp .ge 44, 3) := by decide +kernel
theorem dX8_next_11 : decode cX8_next 11 = .ok (.aload_n 0, 1) := by decide +kernel
theorem dX8_next_12 : decode cX8_next 12 = .ok (.getfield 19, 3) := by decide +kernel
theorem dX8_next_15 : decode cX8_next 15 = .ok (.aload_n 0, 1) := by decide +kernel
theorem dX8_next_16 : decode cX8_next 16 = .ok (.getfield 96, 3) := by decide +kernel
theorem dX8_next_19 : decode cX8_next 19 = .ok (.iaload, 1) := by decide +kernel
theorem dX8_next_20 : decode cX8_next 20 = .ok (.bipush 32, 2) := by decide +kernel
theorem dX8_next_22 : decode cX8_next 22 = .ok (.if_icmp .eq 17, 3) := by decide +kernel
theorem dX8_next_25 : decode cX8_next 25 = .ok (.aload_n 0, 1) := by decide +kernel
theorem dX8_next_26 : decode cX8_next 26 = .ok (.getfield 19, 3) := by decide +kernel
theorem dX8_next_29 : decode cX8_next 29 = .ok (.aload_n 0, 1) := by decide +kernel
theorem dX8_next_30 : decode cX8_next 30 = .ok (.getfield 96, 3) := by decide +kernel
theorem dX8_next_33 : decode cX8_next 33 = .ok (.iaload, 1) := by decide +kernel
theorem dX8_next_34 : decode cX8_next 34 = .ok (.bipush 10, 2) := by decide +kernel
theorem dX8_next_36 : decode cX8_next 36 = .ok (.if_icmp .ne 16, 3) := by decide +kernel
theorem dX8_next_39 : decode cX8_next 39 = .ok (.aload_n 0, 1) := by decide +kernel
theorem dX8_next_40 : decode cX8_next 40 = .ok (.dup, 1) := by decide +kernel
theorem dX8_next_41 : decode cX8_next 41 = .ok (.getfield 96, 3) := by decide +kernel
theorem dX8_next_44 : decode cX8_next 44 = .ok (.iconst 1, 1) := by decide +kernel
theorem dX8_next_45 : decode cX8_next 45 = .ok (.iadd, 1) := by decide +kernel
theorem dX8_next_46 : decode cX8_next 46 = .ok (.putfield 96, 3) := by decide +kernel
theorem dX8_next_49 : decode cX8_next 49 = .ok (.goto (-49), 3) := by decide +kernel
theorem dX8_next_52 : decode cX8_next 52 = .ok (.aload_n 0, 1) := by decide +kernel
theorem dX8_next_53 : decode cX8_next 53 = .ok (.aload_n 0, 1) := by decide +kernel
theorem dX8_next_54 : decode cX8_next 54 = .ok (.getfield 96, 3) := by decide +kernel
theorem dX8_next_57 : decode cX8_next 57 = .ok (.putfield 99, 3) := by decide +kernel
theorem dX8_next_60 : decode cX8_next 60 = .ok (.aload_n 0, 1) := by decide +kernel
theorem dX8_next_61 : decode cX8_next 61 = .ok (.iconst 0, 1) := by decide +kernel
theorem dX8_next_62 : decode cX8_next 62 = .ok (.putfield 102, 3) := by decide +kernel
theorem dX8_next_65 : decode cX8_next 65 = .ok (.aload_n 0, 1) := by decide +kernel
theorem dX8_next_66 : decode cX8_next 66 = .ok (.iconst 0, 1) := by decide +kernel
theorem dX8_next_67 : decode cX8_next 67 = .ok (.putfield 105, 3) := by decide +kernel
theorem dX8_next_70 : decode cX8_next 70 = .ok (.aload_n 0, 1) := by decide +kernel
theorem dX8_next_71 : decode cX8_next 71 = .ok (.getfield 96, 3) := by decide +kernel
theorem dX8_next_74 : decode cX8_next 74 = .ok (.aload_n 0, 1) := by decide +kernel
theorem dX8_next_75 : decode cX8_next 75 = .ok (.getfield 61, 3) := by decide +kernel
theorem dX8_next_78 : decode cX8_next 78 = .ok (.if_icmp .ne 4, 3) := by decide +kernel
theorem dX8_next_81 : decode cX8_next 81 = .ok (.return_, 1) := by decide +kernel
theorem dX8_next_82 : decode cX8_next 82 = .ok (.aload_n 0, 1) := by decide +kernel
theorem dX8_next_83 : decode cX8_next 83 = .ok (.getfield 19, 3) := by decide +kernel
theorem dX8_next_86 : decode cX8_next 86 = .ok (.aload_n 0, 1) := by decide +kernel
theorem dX8_next_87 : decode cX8_next 87 = .ok (.getfield 96, 3) := by decide +kernel
theorem dX8_next_90 : decode cX8_next 90 = .ok (.iaload, 1) := by decide +kernel
theorem dX8_next_91 : decode cX8_next 91 = .ok (.istore_n 1, 1) := by decide +kernel
theorem dX8_next_92 : decode cX8_next 92 = .ok (.iload_n 1, 1) := by decide +kernel
theorem dX8_next_93 : decode cX8_next 93 = .ok (.bipush 97, 2) := by decide +kernel
theorem dX8_next_95 : decode cX8_next 95 = .ok (.bipush 122, 2) := by decide +kernel
theorem dX8_next_97 : decode cX8_next 97 = .ok (.invokestatic 72, 3) := by decide +kernel
theorem dX8_next_100 : decode cX8_next 100 = .ok (.ifCond .eq 117, 3) := by decide +kernel
theorem dX8_next_103 : decode cX8_next 103 = .ok (.aload_n 0, 1) := by decide +kernel
theorem dX8_next_104 : decode cX8_next 104 = .ok (.getfield 96, 3) := by decide +kernel
theorem dX8_next_107 : decode cX8_next 107 = .ok (.aload_n 0, 1) := by decide +kernel
theorem dX8_next_108 : decode cX8_next 108 = .ok (.getfield 61, 3) := by decide +kernel
theorem dX8_next_111 : decode cX8_next 111 = .ok (.if_icmp .ge 35, 3) := by decide +kernel
theorem dX8_next_114 : decode cX8_next 114 = .ok (.aload_n 0, 1) := by decide +kernel
theorem dX8_next_115 : decode cX8_next 115 = .ok (.getfield 19, 3) := by decide +kernel
theorem dX8_next_118 : decode cX8_next 118 = .ok (.aload_n 0, 1) := by decide +kernel
theorem dX8_next_119 : decode cX8_next 119 = .ok (.getfield 96, 3) := by decide +kernel
theorem dX8_next_122 : decode cX8_next 122 = .ok (.iaload, 1) := by decide +kernel
theorem dX8_next_123 : decode cX8_next 123 = .ok (.bipush 97, 2) := by decide +kernel
theorem dX8_next_125 : decode cX8_next 125 = .ok (.bipush 122, 2) := by decide +kernel
theorem dX8_next_127 : decode cX8_next 127 = .ok (.invokestatic 72, 3) := by decide +kernel
theorem dX8_next_130 : decode cX8_next 130 = .ok (.ifCond .eq 16, 3) := by decide +kernel
theorem dX8_next_133 : decode cX8_next 133 = .ok (.aload_n 0, 1) := by decide +kernel
theorem dX8_next_134 : decode cX8_next 134 = .ok (.dup, 1) := by decide +kernel
theorem dX8_next_135 : decode cX8_next 135 = .ok (.getfield 96, 3) := by decide +kernel
theorem dX8_next_138 : decode cX8_next 138 = .ok (.iconst 1, 1) := by decide +kernel
theorem dX8_next_139 : decode cX8_next 139 = .ok (.iadd, 1) := by decide +kernel
theorem dX8_next_140 : decode cX8_next 140 = .ok (.putfield 96, 3) := by decide +kernel
theorem dX8_next_143 : decode cX8_next 143 = .ok (.goto (-40), 3) := by decide +kernel
theorem dX8_next_146 : decode cX8_next 146 = .ok (.aload_n 0, 1) := by decide +kernel
theorem dX8_next_147 : decode cX8_next 147 = .ok (.aload_n 0, 1) := by decide +kernel
theorem dX8_next_148 : decode cX8_next 148 = .ok (.getfield 99, 3) := by decide +kernel
theorem dX8_next_151 : decode cX8_next 151 = .ok (.aload_n 0, 1) := by decide +kernel
theorem dX8_next_152 : decode cX8_next 152 = .ok (.getfield 96, 3) := by decide +kernel
theorem dX8_next_155 : decode cX8_next 155 = .ok (.invokevirtual 108, 3) := by decide +kernel
theorem dX8_next_158 : decode cX8_next 158 = .ok (.istore_n 2, 1) := by decide +kernel
theorem dX8_next_159 : decode cX8_next 159 = .ok (.aload_n 0, 1) := by decide +kernel
theorem dX8_next_160 : decode cX8_next 160 = .ok (.iload_n 2, 1) := by decide +kernel
theorem dX8_next_161 : decode cX8_next 161 = .ok (.iconst 3, 1) := by decide +kernel
theorem dX8_next_162 : decode cX8_next 162 = .ok (.if_icmp .ge 7, 3) := by decide +kernel
theorem dX8_next_165 : decode cX8_next 165 = .ok (.iconst 3, 1) := by decide +kernel
theorem dX8_next_166 : decode cX8_next 166 = .ok (.goto 29, 3) := by decide +kernel
theorem dX8_next_169 : decode cX8_next 169 = .ok (.iload_n 2, 1) := by decide +kernel
theorem dX8_next_170 : decode cX8_next 170 = .ok (.bipush 9, 2) := by decide +kernel
theorem dX8_next_172 : decode cX8_next 172 = .ok (.if_icmp .ge 7, 3) := by decide +kernel
theorem dX8_next_175 : decode cX8_next 175 = .ok (.iconst 2, 1) := by decide +kernel
theorem dX8_next_176 : decode cX8_next 176 = .ok (.goto 19, 3) := by decide +kernel
theorem dX8_next_179 : decode cX8_next 179 = .ok (.iload_n 2, 1) := by decide +kernel
theorem dX8_next_180 : decode cX8_next 180 = .ok (.bipush 12, 2) := by decide +kernel
theorem dX8_next_182 : decode cX8_next 182 = .ok (.if_icmp .ne 7, 3) := by decide +kernel
theorem dX8_next_185 : decode cX8_next 185 = .ok (.iconst (-1), 1) := by decide +kernel
theorem dX8_next_186 : decode cX8_next 186 = .ok (.goto 9, 3) := by decide +kernel
theorem dX8_next_189 : decode cX8_next 189 = .ok (.iconst 4, 1) := by decide +kernel
theorem dX8_next_190 : decode cX8_next 190 = .ok (.iload_n 2, 1) := by decide +kernel
theorem dX8_next_191 : decode cX8_next 191 = .ok (.iadd, 1) := by decide +kernel
theorem dX8_next_192 : decode cX8_next 192 = .ok (.bipush 9, 2) := by decide +kernel
theorem dX8_next_194 : decode cX8_next 194 = .ok (.isub, 1) := by decide +kernel
theorem dX8_next_195 : decode cX8_next 195 = .ok (.putfield 102, 3) := by decide +kernel
theorem dX8_next_198 : decode cX8_next 198 = .ok (.aload_n 0, 1) := by decide +kernel
theorem dX8_next_199 : decode cX8_next 199 = .ok (.iload_n 2, 1) := by decide +kernel
theorem dX8_next_200 : decode cX8_next 200 = .ok (.iconst 3, 1) := by decide +kernel
theorem dX8_next_201 : decode cX8_next 201 = .ok (.if_icmp .ge 7, 3) := by decide +kernel
theorem dX8_next_204 : decode cX8_next 204 = .ok (.iload_n 2, 1) := by decide +kernel
theorem dX8_next_205 : decode cX8_next 205 = .ok (.goto 6, 3) := by decide +kernel
theorem dX8_next_208 : decode cX8_next 208 = .ok (.iload_n 2, 1) := by decide +kernel
theorem dX8_next_209 : decode cX8_next 209 = .ok (.iconst 3, 1) := by decide +kernel
theorem dX8_next_210 : decode cX8_next 210 = .ok (.isub, 1) := by decide +kernel
theorem dX8_next_211 : decode cX8_next 211 = .ok (.putfield 105, 3) := by decide +kernel
theorem dX8_next_214 : decode cX8_next 214 = .ok (.goto 189, 3) := by decide +kernel
theorem dX8_next_217 : decode cX8_next 217 = .ok (.iload_n 1, 1) := by decide +kernel
theorem dX8_next_218 : decode cX8_next 218 = .ok (.bipush 48, 2) := by decide +kernel
theorem dX8_next_220 : decode cX8_next 220 = .ok (.bipush 57, 2) := by decide +kernel
theorem dX8_next_222 : decode cX8_next 222 = .ok (.invokestatic 72, 3) := by decide +kernel
theorem dX8_next_225 : decode cX8_next 225 = .ok (.ifCond .eq 101, 3) := by decide +kernel
theorem dX8_next_228 : decode cX8_next 228 = .ok (.iconst 0, 1) := by decide +kernel
theorem dX8_next_229 : decode cX8_next 229 = .ok (.istore_n 2, 1) := by decide +kernel
theorem dX8_next_230 : decode cX8_next 230 = .ok (.aload_n 0, 1) := by decide +kernel
theorem dX8_next_231 : decode cX8_next 231 = .ok (.getfield 96, 3) := by decide +kernel
theorem dX8_next_234 : decode cX8_next 234 = .ok (.aload_n 0, 1) := by decide +kernel
theorem dX8_next_235 : decode cX8_next 235 = .ok (.getfield 61, 3) := by decide +kernel
theorem dX8_next_238 : decode cX8_next 238 = .ok (.if_icmp .ge 71, 3) := by decide +kernel
theorem dX8_next_241 : decode cX8_next 241 = .ok (.aload_n 0, 1) := by decide +kernel
theorem dX8_next_242 : decode cX8_next 242 = .ok (.getfield 19, 3) := by decide +kernel
theorem dX8_next_245 : decode cX8_next 245 = .ok (.aload_n 0, 1) := by decide +kernel
theorem dX8_next_246 : decode cX8_next 246 = .ok (.getfield 96, 3) := by decide +kernel
theorem dX8_next_249 : decode cX8_next 249 = .ok (.iaload, 1) := by decide +kernel
theorem dX8_next_250 : decode cX8_next 250 = .ok (.bipush 48, 2) := by decide +kernel
theorem dX8_next_252 : decode cX8_next 252 = .ok (.bipush 57, 2) := by decide +kernel
theorem dX8_next_254 : decode cX8_next 254 = .ok (.invokestatic 72, 3) := by decide +kernel
theorem dX8_next_257 : decode cX8_next 257 = .ok (.ifCond .eq 52, 3) := by decide +kernel
theorem dX8_next_260 : decode cX8_next 260 = .ok (.aload_n 0, 1) := by decide +kernel
theorem dX8_next_261 : decode cX8_next 261 = .ok (.iload_n 2, 1) := by decide +kernel
theorem dX8_next_262 : decode cX8_next 262 = .ok (.iconst 4, 1) := by decide +kernel
theorem dX8_next_263 : decode cX8_next 263 = .ok (.if_icmp .ge 26, 3) := by decide +kernel
theorem dX8_next_266 : decode cX8_next 266 = .ok (.bipush 10, 2) := by decide +kernel
theorem dX8_next_268 : decode cX8_next 268 = .ok (.aload_n 0, 1) := by decide +kernel
theorem dX8_next_269 : decode cX8_next 269 = .ok (.getfield 105, 3) := by decide +kernel
theorem dX8_next_272 : decode cX8_next 272 = .ok (.imul, 1) := by decide +kernel
theorem dX8_next_273 : decode cX8_next 273 = .ok (.aload_n 0, 1) := by decide +kernel
theorem dX8_next_274 : decode cX8_next 274 = .ok (.getfield 19, 3) := by decide +kernel
theorem dX8_next_277 : decode cX8_next 277 = .ok (.aload_n 0, 1) := by decide +kernel
theorem dX8_next_278 : decode cX8_next 278 = .ok (.getfield 96, 3) := by decide +kernel
theorem dX8_next_281 : decode cX8_next 281 = .ok (.iaload, 1) := by decide +kernel
theorem dX8_next_282 : decode cX8_next 282 = .ok (.iadd, 1) := by decide +kernel
theorem dX8_next_283 : decode cX8_next 283 = .ok (.bipush 48, 2) := by decide +kernel
theorem dX8_next_285 : decode cX8_next 285 = .ok (.isub, 1) := by decide +kernel
theorem dX8_next_286 : decode cX8_next 286 = .ok (.goto 4, 3) := by decide +kernel
theorem dX8_next_289 : decode cX8_next 289 = .ok (.iconst 0, 1) := by decide +kernel
theorem dX8_next_290 : decode cX8_next 290 = .ok (.putfield 105, 3) := by decide +kernel
theorem dX8_next_293 : decode cX8_next 293 = .ok (.iinc 2 1, 3) := by decide +kernel
theorem dX8_next_296 : decode cX8_next 296 = .ok (.aload_n 0, 1) := by decide +kernel
theorem dX8_next_297 : decode cX8_next 297 = .ok (.dup, 1) := by decide +kernel
theorem dX8_next_298 : decode cX8_next 298 = .ok (.getfield 96, 3) := by decide +kernel
theorem dX8_next_301 : decode cX8_next 301 = .ok (.iconst 1, 1) := by decide +kernel
theorem dX8_next_302 : decode cX8_next 302 = .ok (.iadd, 1) := by decide +kernel
theorem dX8_next_303 : decode cX8_next 303 = .ok (.putfield 96, 3) := by decide +kernel
theorem dX8_next_306 : decode cX8_next 306 = .ok (.goto (-76), 3) := by decide +kernel
theorem dX8_next_309 : decode cX8_next 309 = .ok (.aload_n 0, 1) := by decide +kernel
theorem dX8_next_310 : decode cX8_next 310 = .ok (.iload_n 2, 1) := by decide +kernel
theorem dX8_next_311 : decode cX8_next 311 = .ok (.iconst 4, 1) := by decide +kernel
theorem dX8_next_312 : decode cX8_next 312 = .ok (.if_icmp .le 7, 3) := by decide +kernel
theorem dX8_next_315 : decode cX8_next 315 = .ok (.iconst (-1), 1) := by decide +kernel
theorem dX8_next_316 : decode cX8_next 316 = .ok (.goto 4, 3) := by decide +kernel
theorem dX8_next_319 : decode cX8_next 319 = .ok (.iconst 1, 1) := by decide +kernel
theorem dX8_next_320 : decode cX8_next 320 = .ok (.putfield 102, 3) := by decide +kernel
theorem dX8_next_323 : decode cX8_next 323 = .ok (.goto 80, 3) := by decide +kernel
theorem dX8_next_326 : decode cX8_next 326 = .ok (.iload_n 1, 1) := by decide +kernel
theorem dX8_next_327 : decode cX8_next 327 = .ok (.bipush 40, 2) := by decide +kernel
theorem dX8_next_329 : decode cX8_next 329 = .ok (.if_icmp .eq 45, 3) := by decide +kernel
theorem dX8_next_332 : decode cX8_next 332 = .ok (.iload_n 1, 1) := by decide +kernel
theorem dX8_next_333 : decode cX8_next 333 = .ok (.bipush 41, 2) := by decide +kernel
theorem dX8_next_335 : decode cX8_next 335 = .ok (.if_icmp .eq 39, 3) := by decide +kernel
theorem dX8_next_338 : decode cX8_next 338 = .ok (.iload_n 1, 1) := by decide +kernel
theorem dX8_next_339 : decode cX8_next 339 = .ok (.bipush 59, 2) := by decide +kernel
theorem dX8_next_341 : decode cX8_next 341 = .ok (.if_icmp .eq 33, 3) := by decide +kernel
theorem dX8_next_344 : decode cX8_next 344 = .ok (.iload_n 1, 1) := by decide +kernel
theorem dX8_next_345 : decode cX8_next 345 = .ok (.bipush 43, 2) := by decide +kernel
theorem dX8_next_347 : decode cX8_next 347 = .ok (.if_icmp .eq 27, 3) := by decide +kernel
theorem dX8_next_350 : decode cX8_next 350 = .ok (.iload_n 1, 1) := by decide +kernel
theorem dX8_next_351 : decode cX8_next 351 = .ok (.bipush 45, 2) := by decide +kernel
theorem dX8_next_353 : decode cX8_next 353 = .ok (.if_icmp .eq 21, 3) := by decide +kernel
theorem dX8_next_356 : decode cX8_next 356 = .ok (.iload_n 1, 1) := by decide +kernel
theorem dX8_next_357 : decode cX8_next 357 = .ok (.bipush 42, 2) := by decide +kernel
theorem dX8_next_359 : decode cX8_next 359 = .ok (.if_icmp .eq 15, 3) := by decide +kernel
theorem dX8_next_362 : decode cX8_next 362 = .ok (.iload_n 1, 1) := by decide +kernel
theorem dX8_next_363 : decode cX8_next 363 = .ok (.bipush 60, 2) := by decide +kernel
theorem dX8_next_365 : decode cX8_next 365 = .ok (.if_icmp .eq 9, 3) := by decide +kernel
theorem dX8_next_368 : decode cX8_next 368 = .ok (.iload_n 1, 1) := by decide +kernel
theorem dX8_next_369 : decode cX8_next 369 = .ok (.bipush 61, 2) := by decide +kernel
theorem dX8_next_371 : decode cX8_next 371 = .ok (.if_icmp .ne 7, 3) := by decide +kernel
theorem dX8_next_374 : decode cX8_next 374 = .ok (.iconst 1, 1) := by decide +kernel
theorem dX8_next_375 : decode cX8_next 375 = .ok (.goto 4, 3) := by decide +kernel
theorem dX8_next_378 : decode cX8_next 378 = .ok (.iconst 0, 1) := by decide +kernel
theorem dX8_next_379 : decode cX8_next 379 = .ok (.istore_n 2, 1) := by decide +kernel
theorem dX8_next_380 : decode cX8_next 380 = .ok (.aload_n 0, 1) := by decide +kernel
theorem dX8_next_381 : decode cX8_next 381 = .ok (.iload_n 2, 1) := by decide +kernel
theorem dX8_next_382 : decode cX8_next 382 = .ok (.ifCond .eq 7, 3) := by decide +kernel
theorem dX8_next_385 : decode cX8_next 385 = .ok (.iload_n 1, 1) := by decide +kernel
theorem dX8_next_386 : decode cX8_next 386 = .ok (.goto 4, 3) := by decide +kernel
theorem dX8_next_389 : decode cX8_next 389 = .ok (.iconst (-1), 1) := by decide +kernel
theorem dX8_next_390 : decode cX8_next 390 = .ok (.putfield 102, 3) := by decide +kernel
theorem dX8_next_393 : decode cX8_next 393 = .ok (.aload_n 0, 1) := by decide +kernel
theorem dX8_next_394 : decode cX8_next 394 = .ok (.dup, 1) := by decide +kernel
theorem dX8_next_395 : decode cX8_next 395 = .ok (.getfield 96, 3) := by decide +kernel
theorem dX8_next_398 : decode cX8_next 398 = .ok (.iconst 1, 1) := by decide +kernel
theorem dX8_next_399 : decode cX8_next 399 = .ok (.iadd, 1) := by decide +kernel
theorem dX8_next_400 : decode cX8_next 400 = .ok (.putfield 96, 3) := by decide +kernel
theorem dX8_next_403 : decode cX8_next 403 = .ok (.return_, 1) := by decide +kernel
theorem dX8_rank_0 : decode cX8_rank 0 = .ok (.iload_n 0, 1) := by decide +kernel
theorem dX8_rank_1 : decode cX8_rank 1 = .ok (.ifCond .ne 7, 3) := by decide +kernel
theorem dX8_rank_4 : decode cX8_rank 4 = .ok (.iconst 0, 1) := by decide +kernel
theorem dX8_rank_5 : decode cX8_rank 5 = .ok (.goto 66, 3) := by decide +kernel
theorem dX8_rank_8 : decode cX8_rank 8 = .ok (.iload_n 0, 1) := by decide +kernel
theorem dX8_rank_9 : decode cX8_rank 9 = .ok (.bipush 11, 2) := by decide +kernel
theorem dX8_rank_11 : decode cX8_rank 11 = .ok (.if_icmp .ne 7, 3) := by decide +kernel
theorem dX8_rank_14 : decode cX8_rank 14 = .ok (.iconst 1, 1) := by decide +kernel
theorem dX8_rank_15 : decode cX8_rank 15 = .ok (.goto 56, 3) := by decide +kernel
theorem dX8_rank_18 : decode cX8_rank 18 = .ok (.iload_n 0, 1) := by decide +kernel
theorem dX8_rank_19 : decode cX8_rank 19 = .ok (.bipush 12, 2) := by decide +kernel
theorem dX8_rank_21 : decode cX8_rank 21 = .ok (.if_icmp .ne 7, 3) := by decide +kernel
theorem dX8_rank_24 : decode cX8_rank 24 = .ok (.iconst 2, 1) := by decide +kernel
theorem dX8_rank_25 : decode cX8_rank 25 = .ok (.goto 46, 3) := by decide +kernel
theorem dX8_rank_28 : decode cX8_rank 28 = .ok (.iload_n 0, 1) := by decide +kernel
theorem dX8_rank_29 : decode cX8_rank 29 = .ok (.bipush 13, 2) := by decide +kernel
theorem dX8_rank_31 : decode cX8_rank 31 = .ok (.if_icmp .ne 7, 3) := by decide +kernel
theorem dX8_rank_34 : decode cX8_rank 34 = .ok (.iconst 3, 1) := by decide +kernel
theorem dX8_rank_35 : decode cX8_rank 35 = .ok (.goto 36, 3) := by decide +kernel
theorem dX8_rank_38 : decode cX8_rank 38 = .ok (.iload_n 0, 1) := by decide +kernel
theorem dX8_rank_39 : decode cX8_rank 39 = .ok (.bipush 15, 2) := by decide +kernel
theorem dX8_rank_41 : decode cX8_rank 41 = .ok (.if_icmp .gt 7, 3) := by decide +kernel
theorem dX8_rank_44 : decode cX8_rank 44 = .ok (.iconst 4, 1) := by decide +kernel
theorem dX8_rank_45 : decode cX8_rank 45 = .ok (.goto 26, 3) := by decide +kernel
theorem dX8_rank_48 : decode cX8_rank 48 = .ok (.iload_n 0, 1) := by decide +kernel
theorem dX8_rank_49 : decode cX8_rank 49 = .ok (.bipush 17, 2) := by decide +kernel
theorem dX8_rank_51 : decode cX8_rank 51 = .ok (.if_icmp .gt 7, 3) := by decide +kernel
theorem dX8_rank_54 : decode cX8_rank 54 = .ok (.iconst 5, 1) := by decide +kernel
theorem dX8_rank_55 : decode cX8_rank 55 = .ok (.goto 16, 3) := by decide +kernel
theorem dX8_rank_58 : decode cX8_rank 58 = .ok (.iload_n 0, 1) := by decide +kernel
theorem dX8_rank_59 : decode cX8_rank 59 = .ok (.bipush 18, 2) := by decide +kernel
theorem dX8_rank_61 : decode cX8_rank 61 = .ok (.if_icmp .ne 8, 3) := by decide +kernel
theorem dX8_rank_64 : decode cX8_rank 64 = .ok (.bipush 6, 2) := by decide +kernel
theorem dX8_rank_66 : decode cX8_rank 66 = .ok (.goto 5, 3) := by decide +kernel
theorem dX8_rank_69 : decode cX8_rank 69 = .ok (.bipush 7, 2) := by decide +kernel
theorem dX8_rank_71 : decode cX8_rank 71 = .ok (.ireturn, 1) := by decide +kernel
theorem dX8_puts_0 : decode cX8_puts 0 = .ok (.aload_n 0, 1) := by decide +kernel
theorem dX8_puts_1 : decode cX8_puts 1 = .ok (.getfield 22, 3) := by decide +kernel
theorem dX8_puts_4 : decode cX8_puts 4 = .ok (.sipush 200, 3) := by decide +kernel
theorem dX8_puts_7 : decode cX8_puts 7 = .ok (.aload_n 0, 1) := by decide +kernel
theorem dX8_puts_8 : decode cX8_puts 8 = .ok (.getfield 86, 3) := by decide +kernel
theorem dX8_puts_11 : decode cX8_puts 11 = .ok (.imul, 1) := by decide +kernel
theorem dX8_puts_12 : decode cX8_puts 12 = .ok (.aload_n 0, 1) := by decide +kernel
theorem dX8_puts_13 : decode cX8_puts 13 = .ok (.getfield 112, 3) := by decide +kernel
theorem dX8_puts_16 : decode cX8_puts 16 = .ok (.iadd, 1) := by decide +kernel
theorem dX8_puts_17 : decode cX8_puts 17 = .ok (.iload_n 1, 1) := by decide +kernel
theorem dX8_puts_18 : decode cX8_puts 18 = .ok (.iastore, 1) := by decide +kernel
theorem dX8_puts_19 : decode cX8_puts 19 = .ok (.aload_n 0, 1) := by decide +kernel
theorem dX8_puts_20 : decode cX8_puts 20 = .ok (.dup, 1) := by decide +kernel
theorem dX8_puts_21 : decode cX8_puts 21 = .ok (.getfield 112, 3) := by decide +kernel
theorem dX8_puts_24 : decode cX8_puts 24 = .ok (.iconst 1, 1) := by decide +kernel
theorem dX8_puts_25 : decode cX8_puts 25 = .ok (.iadd, 1) := by decide +kernel
theorem dX8_puts_26 : decode cX8_puts 26 = .ok (.putfield 112, 3) := by decide +kernel
theorem dX8_puts_29 : decode cX8_puts 29 = .ok (.return_, 1) := by decide +kernel
theorem dX8_unwinds_0 : decode cX8_unwinds 0 = .ok (.aload_n 0, 1) := by decide +kernel
theorem dX8_unwinds_1 : decode cX8_unwinds 1 = .ok (.getfield 115, 3) := by decide +kernel
theorem dX8_unwinds_4 : decode cX8_unwinds 4 = .ok (.ifCond .le 75, 3) := by decide +kernel
theorem dX8_unwinds_7 : decode cX8_unwinds 7 = .ok (.aload_n 0, 1) := by decide +kernel
theorem dX8_unwinds_8 : decode cX8_unwinds 8 = .ok (.getfield 49, 3) := by decide +kernel
theorem dX8_unwinds_11 : decode cX8_unwinds 11 = .ok (.aload_n 0, 1) := by decide +kernel
theorem dX8_unwinds_12 : decode cX8_unwinds 12 = .ok (.getfield 115, 3) := by decide +kernel
theorem dX8_unwinds_15 : decode cX8_unwinds 15 = .ok (.iconst 1, 1) := by decide +kernel
theorem dX8_unwinds_16 : decode cX8_unwinds 16 = .ok (.isub, 1) := by decide +kernel
theorem dX8_unwinds_17 : decode cX8_unwinds 17 = .ok (.iaload, 1) := by decide +kernel
theorem dX8_unwinds_18 : decode cX8_unwinds 18 = .ok (.invokestatic 118, 3) := by decide +kernel
theorem dX8_unwinds_21 : decode cX8_unwinds 21 = .ok (.iload_n 1, 1) := by decide +kernel
theorem dX8_unwinds_22 : decode cX8_unwinds 22 = .ok (.if_icmp .lt 57, 3) := by decide +kernel
theorem dX8_unwinds_25 : decode cX8_unwinds 25 = .ok (.aload_n 0, 1) := by decide +kernel
theorem dX8_unwinds_26 : decode cX8_unwinds 26 = .ok (.dup, 1) := by decide +kernel
theorem dX8_unwinds_27 : decode cX8_unwinds 27 = .ok (.getfield 115, 3) := by decide +kernel
theorem dX8_unwinds_30 : decode cX8_unwinds 30 = .ok (.iconst 1, 1) := by decide +kernel
theorem dX8_unwinds_31 : decode cX8_unwinds 31 = .ok (.isub, 1) := by decide +kernel
theorem dX8_unwinds_32 : decode cX8_unwinds 32 = .ok (.putfield 115, 3) := by decide +kernel
theorem dX8_unwinds_35 : decode cX8_unwinds 35 = .ok (.aload_n 0, 1) := by decide +kernel
theorem dX8_unwinds_36 : decode cX8_unwinds 36 = .ok (.getfield 49, 3) := by decide +kernel
theorem dX8_unwinds_39 : decode cX8_unwinds 39 = .ok (.aload_n 0, 1) := by decide +kernel
theorem dX8_unwinds_40 : decode cX8_unwinds 40 = .ok (.getfield 115, 3) := by decide +kernel
theorem dX8_unwinds_43 : decode cX8_unwinds 43 = .ok (.iaload, 1) := by decide +kernel
theorem dX8_unwinds_44 : decode cX8_unwinds 44 = .ok (.istore_n 2, 1) := by decide +kernel
theorem dX8_unwinds_45 : decode cX8_unwinds 45 = .ok (.aload_n 0, 1) := by decide +kernel
theorem dX8_unwinds_46 : decode cX8_unwinds 46 = .ok (.dup, 1) := by decide +kernel
theorem dX8_unwinds_47 : decode cX8_unwinds 47 = .ok (.getfield 121, 3) := by decide +kernel
theorem dX8_unwinds_50 : decode cX8_unwinds 50 = .ok (.iload_n 2, 1) := by decide +kernel
theorem dX8_unwinds_51 : decode cX8_unwinds 51 = .ok (.bipush 13, 2) := by decide +kernel
theorem dX8_unwinds_53 : decode cX8_unwinds 53 = .ok (.if_icmp .eq 9, 3) := by decide +kernel
theorem dX8_unwinds_56 : decode cX8_unwinds 56 = .ok (.iload_n 2, 1) := by decide +kernel
theorem dX8_unwinds_57 : decode cX8_unwinds 57 = .ok (.bipush 19, 2) := by decide +kernel
theorem dX8_unwinds_59 : decode cX8_unwinds 59 = .ok (.if_icmp .ne 7, 3) := by decide +kernel
theorem dX8_unwinds_62 : decode cX8_unwinds 62 = .ok (.iconst 1, 1) := by decide +kernel
theorem dX8_unwinds_63 : decode cX8_unwinds 63 = .ok (.goto 4, 3) := by decide +kernel
theorem dX8_unwinds_66 : decode cX8_unwinds 66 = .ok (.iconst 0, 1) := by decide +kernel
theorem dX8_unwinds_67 : decode cX8_unwinds 67 = .ok (.isub, 1) := by decide +kernel
theorem dX8_unwinds_68 : decode cX8_unwinds 68 = .ok (.putfield 121, 3) := by decide +kernel
theorem dX8_unwinds_71 : decode cX8_unwinds 71 = .ok (.aload_n 0, 1) := by decide +kernel
theorem dX8_unwinds_72 : decode cX8_unwinds 72 = .ok (.iload_n 2, 1) := by decide +kernel
theorem dX8_unwinds_73 : decode cX8_unwinds 73 = .ok (.invokevirtual 124, 3) := by decide +kernel
theorem dX8_unwinds_76 : decode cX8_unwinds 76 = .ok (.goto (-76), 3) := by decide +kernel
theorem dX8_unwinds_79 : decode cX8_unwinds 79 = .ok (.return_, 1) := by decide +kernel
theorem dX8_holds_0 : decode cX8_holds 0 = .ok (.aload_n 0, 1) := by decide +kernel
theorem dX8_holds_1 : decode cX8_holds 1 = .ok (.getfield 49, 3) := by decide +kernel
theorem dX8_holds_4 : decode cX8_holds 4 = .ok (.aload_n 0, 1) := by decide +kernel
theorem dX8_holds_5 : decode cX8_holds 5 = .ok (.getfield 115, 3) := by decide +kernel
theorem dX8_holds_8 : decode cX8_holds 8 = .ok (.iload_n 1, 1) := by decide +kernel
theorem dX8_holds_9 : decode cX8_holds 9 = .ok (.iastore, 1) := by decide +kernel
theorem dX8_holds_10 : decode cX8_holds 10 = .ok (.aload_n 0, 1) := by decide +kernel
theorem dX8_holds_11 : decode cX8_holds 11 = .ok (.dup, 1) := by decide +kernel
theorem dX8_holds_12 : decode cX8_holds 12 = .ok (.getfield 115, 3) := by decide +kernel
theorem dX8_holds_15 : decode cX8_holds 15 = .ok (.iconst 1, 1) := by decide +kernel
theorem dX8_holds_16 : decode cX8_holds 16 = .ok (.iadd, 1) := by decide +kernel
theorem dX8_holds_17 : decode cX8_holds 17 = .ok (.putfield 115, 3) := by decide +kernel
theorem dX8_holds_20 : decode cX8_holds 20 = .ok (.return_, 1) := by decide +kernel
theorem dX8_opensOne_0 : decode cX8_opensOne 0 = .ok (.aload_n 0, 1) := by decide +kernel
theorem dX8_opensOne_1 : decode cX8_opensOne 1 = .ok (.getfield 121, 3) := by decide +kernel
theorem dX8_opensOne_4 : decode cX8_opensOne 4 = .ok (.iconst 5, 1) := by decide +kernel
theorem dX8_opensOne_5 : decode cX8_opensOne 5 = .ok (.if_icmp .ne 5, 3) := by decide +kernel
theorem dX8_opensOne_8 : decode cX8_opensOne 8 = .ok (.iconst 0, 1) := by decide +kernel
theorem dX8_opensOne_9 : decode cX8_opensOne 9 = .ok (.ireturn, 1) := by decide +kernel
theorem dX8_opensOne_10 : decode cX8_opensOne 10 = .ok (.aload_n 0, 1) := by decide +kernel
theorem dX8_opensOne_11 : decode cX8_opensOne 11 = .ok (.dup, 1) := by decide +kernel
theorem dX8_opensOne_12 : decode cX8_opensOne 12 = .ok (.getfield 121, 3) := by decide +kernel
theorem dX8_opensOne_15 : decode cX8_opensOne 15 = .ok (.iconst 1, 1) := by decide +kernel
theorem dX8_opensOne_16 : decode cX8_opensOne 16 = .ok (.iadd, 1) := by decide +kernel
theorem dX8_opensOne_17 : decode cX8_opensOne 17 = .ok (.putfield 121, 3) := by decide +kernel
theorem dX8_opensOne_20 : decode cX8_opensOne 20 = .ok (.aload_n 0, 1) := by decide +kernel
theorem dX8_opensOne_21 : decode cX8_opensOne 21 = .ok (.iload_n 1, 1) := by decide +kernel
theorem dX8_opensOne_22 : decode cX8_opensOne 22 = .ok (.invokevirtual 128, 3) := by decide +kernel
theorem dX8_opensOne_25 : decode cX8_opensOne 25 = .ok (.iconst 1, 1) := by decide +kernel
theorem dX8_opensOne_26 : decode cX8_opensOne 26 = .ok (.ireturn, 1) := by decide +kernel
theorem dX8_between_0 : decode cX8_between 0 = .ok (.aload_n 0, 1) := by decide +kernel
theorem dX8_between_1 : decode cX8_between 1 = .ok (.iload_n 1, 1) := by decide +kernel
theorem dX8_between_2 : decode cX8_between 2 = .ok (.invokestatic 118, 3) := by decide +kernel
theorem dX8_between_5 : decode cX8_between 5 = .ok (.iconst 4, 1) := by decide +kernel
theorem dX8_between_6 : decode cX8_between 6 = .ok (.if_icmp .ne 7, 3) := by decide +kernel
theorem dX8_between_9 : decode cX8_between 9 = .ok (.iconst 5, 1) := by decide +kernel
theorem dX8_between_10 : decode cX8_between 10 = .ok (.goto 7, 3) := by decide +kernel
theorem dX8_between_13 : decode cX8_between 13 = .ok (.iload_n 1, 1) := by decide +kernel
theorem dX8_between_14 : decode cX8_between 14 = .ok (.invokestatic 118, 3) := by decide +kernel
theorem dX8_between_17 : decode cX8_between 17 = .ok (.invokevirtual 131, 3) := by decide +kernel
theorem dX8_between_20 : decode cX8_between 20 = .ok (.iload_n 1, 1) := by decide +kernel
theorem dX8_between_21 : decode cX8_between 21 = .ok (.invokestatic 118, 3) := by decide +kernel
theorem dX8_between_24 : decode cX8_between 24 = .ok (.iconst 4, 1) := by decide +kernel
theorem dX8_between_25 : decode cX8_between 25 = .ok (.if_icmp .ne 30, 3) := by decide +kernel
theorem dX8_between_28 : decode cX8_between 28 = .ok (.aload_n 0, 1) := by decide +kernel
theorem dX8_between_29 : decode cX8_between 29 = .ok (.getfield 115, 3) := by decide +kernel
theorem dX8_between_32 : decode cX8_between 32 = .ok (.ifCond .le 23, 3) := by decide +kernel
theorem dX8_between_35 : decode cX8_between 35 = .ok (.aload_n 0, 1) := by decide +kernel
theorem dX8_between_36 : decode cX8_between 36 = .ok (.getfield 49, 3) := by decide +kernel
theorem dX8_between_39 : decode cX8_between 39 = .ok (.aload_n 0, 1) := by decide +kernel
theorem dX8_between_40 : decode cX8_between 40 = .ok (.getfield 115, 3) := by decide +kernel
theorem dX8_between_43 : decode cX8_between 43 = .ok (.iconst 1, 1) := by decide +kernel
theorem dX8_between_44 : decode cX8_between 44 = .ok (.isub, 1) := by decide +kernel
theorem dX8_between_45 : decode cX8_between 45 = .ok (.iaload, 1) := by decide +kernel
theorem dX8_between_46 : decode cX8_between 46 = .ok (.invokestatic 118, 3) := by decide +kernel
theorem dX8_between_49 : decode cX8_between 49 = .ok (.iconst 4, 1) := by decide +kernel
theorem dX8_between_50 : decode cX8_between 50 = .ok (.if_icmp .ne 5, 3) := by decide +kernel
theorem dX8_between_53 : decode cX8_between 53 = .ok (.iconst 0, 1) := by decide +kernel
theorem dX8_between_54 : decode cX8_between 54 = .ok (.ireturn, 1) := by decide +kernel
theorem dX8_between_55 : decode cX8_between 55 = .ok (.aload_n 0, 1) := by decide +kernel
theorem dX8_between_56 : decode cX8_between 56 = .ok (.iload_n 1, 1) := by decide +kernel
theorem dX8_between_57 : decode cX8_between 57 = .ok (.invokevirtual 128, 3) := by decide +kernel
theorem dX8_between_60 : decode cX8_between 60 = .ok (.iconst 1, 1) := by decide +kernel
theorem dX8_between_61 : decode cX8_between 61 = .ok (.ireturn, 1) := by decide +kernel
theorem dX8_signOf_0 : decode cX8_signOf 0 = .ok (.aload_n 0, 1) := by decide +kernel
theorem dX8_signOf_1 : decode cX8_signOf 1 = .ok (.getfield 102, 3) := by decide +kernel
theorem dX8_signOf_4 : decode cX8_signOf 4 = .ok (.iconst 4, 1) := by decide +kernel
theorem dX8_signOf_5 : decode cX8_signOf 5 = .ok (.if_icmp .ne 8, 3) := by decide +kernel
theorem dX8_signOf_8 : decode cX8_signOf 8 = .ok (.bipush 11, 2) := by decide +kernel
theorem dX8_signOf_10 : decode cX8_signOf 10 = .ok (.goto 87, 3) := by decide +kernel
theorem dX8_signOf_13 : decode cX8_signOf 13 = .ok (.aload_n 0, 1) := by decide +kernel
theorem dX8_signOf_14 : decode cX8_signOf 14 = .ok (.getfield 102, 3) := by decide +kernel
theorem dX8_signOf_17 : decode cX8_signOf 17 = .ok (.iconst 5, 1) := by decide +kernel
theorem dX8_signOf_18 : decode cX8_signOf 18 = .ok (.if_icmp .ne 8, 3) := by decide +kernel
theorem dX8_signOf_21 : decode cX8_signOf 21 = .ok (.bipush 12, 2) := by decide +kernel
theorem dX8_signOf_23 : decode cX8_signOf 23 = .ok (.goto 74, 3) := by decide +kernel
theorem dX8_signOf_26 : decode cX8_signOf 26 = .ok (.aload_n 0, 1) := by decide +kernel
theorem dX8_signOf_27 : decode cX8_signOf 27 = .ok (.getfield 102, 3) := by decide +kernel
theorem dX8_signOf_30 : decode cX8_signOf 30 = .ok (.bipush 60, 2) := by decide +kernel
theorem dX8_signOf_32 : decode cX8_signOf 32 = .ok (.if_icmp .ne 8, 3) := by decide +kernel
theorem dX8_signOf_35 : decode cX8_signOf 35 = .ok (.bipush 14, 2) := by decide +kernel
theorem dX8_signOf_37 : decode cX8_signOf 37 = .ok (.goto 60, 3) := by decide +kernel
theorem dX8_signOf_40 : decode cX8_signOf 40 = .ok (.aload_n 0, 1) := by decide +kernel
theorem dX8_signOf_41 : decode cX8_signOf 41 = .ok (.getfield 102, 3) := by decide +kernel
theorem dX8_signOf_44 : decode cX8_signOf 44 = .ok (.bipush 61, 2) := by decide +kernel
theorem dX8_signOf_46 : decode cX8_signOf 46 = .ok (.if_icmp .ne 8, 3) := by decide +kernel
theorem dX8_signOf_49 : decode cX8_signOf 49 = .ok (.bipush 15, 2) := by decide +kernel
theorem dX8_signOf_51 : decode cX8_signOf 51 = .ok (.goto 46, 3) := by decide +kernel
theorem dX8_signOf_54 : decode cX8_signOf 54 = .ok (.aload_n 0, 1) := by decide +kernel
theorem dX8_signOf_55 : decode cX8_signOf 55 = .ok (.getfield 102, 3) := by decide +kernel
theorem dX8_signOf_58 : decode cX8_signOf 58 = .ok (.bipush 43, 2) := by decide +kernel
theorem dX8_signOf_60 : decode cX8_signOf 60 = .ok (.if_icmp .ne 8, 3) := by decide +kernel
theorem dX8_signOf_63 : decode cX8_signOf 63 = .ok (.bipush 16, 2) := by decide +kernel
theorem dX8_signOf_65 : decode cX8_signOf 65 = .ok (.goto 32, 3) := by decide +kernel
theorem dX8_signOf_68 : decode cX8_signOf 68 = .ok (.aload_n 0, 1) := by decide +kernel
theorem dX8_signOf_69 : decode cX8_signOf 69 = .ok (.getfield 102, 3) := by decide +kernel
theorem dX8_signOf_72 : decode cX8_signOf 72 = .ok (.bipush 45, 2) := by decide +kernel
theorem dX8_signOf_74 : decode cX8_signOf 74 = .ok (.if_icmp .ne 8, 3) := by decide +kernel
theorem dX8_signOf_77 : decode cX8_signOf 77 = .ok (.bipush 17, 2) := by decide +kernel
theorem dX8_signOf_79 : decode cX8_signOf 79 = .ok (.goto 18, 3) := by decide +kernel
theorem dX8_signOf_82 : decode cX8_signOf 82 = .ok (.aload_n 0, 1) := by decide +kernel
theorem dX8_signOf_83 : decode cX8_signOf 83 = .ok (.getfield 102, 3) := by decide +kernel
theorem dX8_signOf_86 : decode cX8_signOf 86 = .ok (.bipush 42, 2) := by decide +kernel
theorem dX8_signOf_88 : decode cX8_signOf 88 = .ok (.if_icmp .ne 8, 3) := by decide +kernel
theorem dX8_signOf_91 : decode cX8_signOf 91 = .ok (.bipush 18, 2) := by decide +kernel
theorem dX8_signOf_93 : decode cX8_signOf 93 = .ok (.goto 4, 3) := by decide +kernel
theorem dX8_signOf_96 : decode cX8_signOf 96 = .ok (.iconst (-1), 1) := by decide +kernel
theorem dX8_signOf_97 : decode cX8_signOf 97 = .ok (.ireturn, 1) := by decide +kernel
theorem dX8_eRead_0 : decode cX8_eRead 0 = .ok (.aload_n 0, 1) := by decide +kernel
theorem dX8_eRead_1 : decode cX8_eRead 1 = .ok (.iconst 0, 1) := by decide +kernel
theorem dX8_eRead_2 : decode cX8_eRead 2 = .ok (.putfield 115, 3) := by decide +kernel
theorem dX8_eRead_5 : decode cX8_eRead 5 = .ok (.aload_n 0, 1) := by decide +kernel
theorem dX8_eRead_6 : decode cX8_eRead 6 = .ok (.iconst 0, 1) := by decide +kernel
theorem dX8_eRead_7 : decode cX8_eRead 7 = .ok (.putfield 121, 3) := by decide +kernel
theorem dX8_eRead_10 : decode cX8_eRead 10 = .ok (.iconst 1, 1) := by decide +kernel
theorem dX8_eRead_11 : decode cX8_eRead 11 = .ok (.istore_n 1, 1) := by decide +kernel
theorem dX8_eRead_12 : decode cX8_eRead 12 = .ok (.iconst 1, 1) := by decide +kernel
theorem dX8_eRead_13 : decode cX8_eRead 13 = .ok (.istore_n 2, 1) := by decide +kernel
theorem dX8_eRead_14 : decode cX8_eRead 14 = .ok (.aload_n 0, 1) := by decide +kernel
theorem dX8_eRead_15 : decode cX8_eRead 15 = .ok (.invokevirtual 134, 3) := by decide +kernel
theorem dX8_eRead_18 : decode cX8_eRead 18 = .ok (.iload_n 1, 1) := by decide +kernel
theorem dX8_eRead_19 : decode cX8_eRead 19 = .ok (.ifCond .eq 131, 3) := by decide +kernel
theorem dX8_eRead_22 : decode cX8_eRead 22 = .ok (.aload_n 0, 1) := by decide +kernel
theorem dX8_eRead_23 : decode cX8_eRead 23 = .ok (.getfield 102, 3) := by decide +kernel
theorem dX8_eRead_26 : decode cX8_eRead 26 = .ok (.iconst 1, 1) := by decide +kernel
theorem dX8_eRead_27 : decode cX8_eRead 27 = .ok (.if_icmp .eq 11, 3) := by decide +kernel
theorem dX8_eRead_30 : decode cX8_eRead 30 = .ok (.aload_n 0, 1) := by decide +kernel
theorem dX8_eRead_31 : decode cX8_eRead 31 = .ok (.getfield 102, 3) := by decide +kernel
theorem dX8_eRead_34 : decode cX8_eRead 34 = .ok (.iconst 2, 1) := by decide +kernel
theorem dX8_eRead_35 : decode cX8_eRead 35 = .ok (.if_icmp .ne 40, 3) := by decide +kernel
theorem dX8_eRead_38 : decode cX8_eRead 38 = .ok (.aload_n 0, 1) := by decide +kernel
theorem dX8_eRead_39 : decode cX8_eRead 39 = .ok (.aload_n 0, 1) := by decide +kernel
theorem dX8_eRead_40 : decode cX8_eRead 40 = .ok (.getfield 102, 3) := by decide +kernel
theorem dX8_eRead_43 : decode cX8_eRead 43 = .ok (.iconst 1, 1) := by decide +kernel
theorem dX8_eRead_44 : decode cX8_eRead 44 = .ok (.if_icmp .ne 13, 3) := by decide +kernel
theorem dX8_eRead_47 : decode cX8_eRead 47 = .ok (.ldc 137, 2) := by decide +kernel
theorem dX8_eRead_49 : decode cX8_eRead 49 = .ok (.aload_n 0, 1) := by decide +kernel
theorem dX8_eRead_50 : decode cX8_eRead 50 = .ok (.getfield 105, 3) := by decide +kernel
theorem dX8_eRead_53 : decode cX8_eRead 53 = .ok (.iadd, 1) := by decide +kernel
theorem dX8_eRead_54 : decode cX8_eRead 54 = .ok (.goto 7, 3) := by decide +kernel
theorem dX8_eRead_57 : decode cX8_eRead 57 = .ok (.aload_n 0, 1) := by decide +kernel
theorem dX8_eRead_58 : decode cX8_eRead 58 = .ok (.getfield 105, 3) := by decide +kernel
theorem dX8_eRead_61 : decode cX8_eRead 61 = .ok (.invokevirtual 124, 3) := by decide +kernel
theorem dX8_eRead_64 : decode cX8_eRead 64 = .ok (.aload_n 0, 1) := by decide +kernel
theorem dX8_eRead_65 : decode cX8_eRead 65 = .ok (.bipush 7, 2) := by decide +kernel
theorem dX8_eRead_67 : decode cX8_eRead 67 = .ok (.invokevirtual 131, 3) := by decide +kernel
theorem dX8_eRead_70 : decode cX8_eRead 70 = .ok (.iconst 0, 1) := by decide +kernel
theorem dX8_eRead_71 : decode cX8_eRead 71 = .ok (.istore_n 1, 1) := by decide +kernel
theorem dX8_eRead_72 : decode cX8_eRead 72 = .ok (.goto (-58), 3) := by decide +kernel
theorem dX8_eRead_75 : decode cX8_eRead 75 = .ok (.aload_n 0, 1) := by decide +kernel
theorem dX8_eRead_76 : decode cX8_eRead 76 = .ok (.getfield 102, 3) := by decide +kernel
theorem dX8_eRead_79 : decode cX8_eRead 79 = .ok (.bipush 6, 2) := by decide +kernel
theorem dX8_eRead_81 : decode cX8_eRead 81 = .ok (.if_icmp .ne 18, 3) := by decide +kernel
theorem dX8_eRead_84 : decode cX8_eRead 84 = .ok (.iload_n 2, 1) := by decide +kernel
theorem dX8_eRead_85 : decode cX8_eRead 85 = .ok (.ifCond .eq 14, 3) := by decide +kernel
theorem dX8_eRead_88 : decode cX8_eRead 88 = .ok (.aload_n 0, 1) := by decide +kernel
theorem dX8_eRead_89 : decode cX8_eRead 89 = .ok (.bipush 13, 2) := by decide +kernel
theorem dX8_eRead_91 : decode cX8_eRead 91 = .ok (.invokevirtual 138, 3) := by decide +kernel
theorem dX8_eRead_94 : decode cX8_eRead 94 = .ok (.ifCond .ne (-80), 3) := by decide +kernel
theorem dX8_eRead_97 : decode cX8_eRead 97 = .ok (.iconst 0, 1) := by decide +kernel
theorem dX8_eRead_98 : decode cX8_eRead 98 = .ok (.ireturn, 1) := by decide +kernel
theorem dX8_eRead_99 : decode cX8_eRead 99 = .ok (.aload_n 0, 1) := by decide +kernel
theorem dX8_eRead_100 : decode cX8_eRead 100 = .ok (.getfield 102, 3) := by decide +kernel
theorem dX8_eRead_103 : decode cX8_eRead 103 = .ok (.bipush 45, 2) := by decide +kernel
theorem dX8_eRead_105 : decode cX8_eRead 105 = .ok (.if_icmp .ne 19, 3) := by decide +kernel
theorem dX8_eRead_108 : decode cX8_eRead 108 = .ok (.aload_n 0, 1) := by decide +kernel
theorem dX8_eRead_109 : decode cX8_eRead 109 = .ok (.bipush 19, 2) := by decide +kernel
theorem dX8_eRead_111 : decode cX8_eRead 111 = .ok (.invokevirtual 138, 3) := by decide +kernel
theorem dX8_eRead_114 : decode cX8_eRead 114 = .ok (.ifCond .ne 5, 3) := by decide +kernel
theorem dX8_eRead_117 : decode cX8_eRead 117 = .ok (.iconst 0, 1) := by decide +kernel
theorem dX8_eRead_118 : decode cX8_eRead 118 = .ok (.ireturn, 1) := by decide +kernel
theorem dX8_eRead_119 : decode cX8_eRead 119 = .ok (.iconst 0, 1) := by decide +kernel
theorem dX8_eRead_120 : decode cX8_eRead 120 = .ok (.istore_n 2, 1) := by decide +kernel
theorem dX8_eRead_121 : decode cX8_eRead 121 = .ok (.goto (-107), 3) := by decide +kernel
theorem dX8_eRead_124 : decode cX8_eRead 124 = .ok (.aload_n 0, 1) := by decide +kernel
theorem dX8_eRead_125 : decode cX8_eRead 125 = .ok (.getfield 102, 3) := by decide +kernel
theorem dX8_eRead_128 : decode cX8_eRead 128 = .ok (.bipush 40, 2) := by decide +kernel
theorem dX8_eRead_130 : decode cX8_eRead 130 = .ok (.if_icmp .ne 18, 3) := by decide +kernel
theorem dX8_eRead_133 : decode cX8_eRead 133 = .ok (.aload_n 0, 1) := by decide +kernel
theorem dX8_eRead_134 : decode cX8_eRead 134 = .ok (.iconst 0, 1) := by decide +kernel
theorem dX8_eRead_135 : decode cX8_eRead 135 = .ok (.invokevirtual 138, 3) := by decide +kernel
theorem dX8_eRead_138 : decode cX8_eRead 138 = .ok (.ifCond .ne 5, 3) := by decide +kernel
theorem dX8_eRead_141 : decode cX8_eRead 141 = .ok (.iconst 0, 1) := by decide +kernel
theorem dX8_eRead_142 : decode cX8_eRead 142 = .ok (.ireturn, 1) := by decide +kernel
theorem dX8_eRead_143 : decode cX8_eRead 143 = .ok (.iconst 1, 1) := by decide +kernel
theorem dX8_eRead_144 : decode cX8_eRead 144 = .ok (.istore_n 2, 1) := by decide +kernel
theorem dX8_eRead_145 : decode cX8_eRead 145 = .ok (.goto (-131), 3) := by decide +kernel
theorem dX8_eRead_148 : decode cX8_eRead 148 = .ok (.iconst 0, 1) := by decide +kernel
theorem dX8_eRead_149 : decode cX8_eRead 149 = .ok (.ireturn, 1) := by decide +kernel
theorem dX8_eRead_150 : decode cX8_eRead 150 = .ok (.aload_n 0, 1) := by decide +kernel
theorem dX8_eRead_151 : decode cX8_eRead 151 = .ok (.getfield 102, 3) := by decide +kernel
theorem dX8_eRead_154 : decode cX8_eRead 154 = .ok (.bipush 59, 2) := by decide +kernel
theorem dX8_eRead_156 : decode cX8_eRead 156 = .ok (.if_icmp .ne 21, 3) := by decide +kernel
theorem dX8_eRead_159 : decode cX8_eRead 159 = .ok (.aload_n 0, 1) := by decide +kernel
theorem dX8_eRead_160 : decode cX8_eRead 160 = .ok (.iconst 1, 1) := by decide +kernel
theorem dX8_eRead_161 : decode cX8_eRead 161 = .ok (.invokevirtual 131, 3) := by decide +kernel
theorem dX8_eRead_164 : decode cX8_eRead 164 = .ok (.aload_n 0, 1) := by decide +kernel
theorem dX8_eRead_165 : decode cX8_eRead 165 = .ok (.getfield 115, 3) := by decide +kernel
theorem dX8_eRead_168 : decode cX8_eRead 168 = .ok (.ifCond .ne 7, 3) := by decide +kernel
theorem dX8_eRead_171 : decode cX8_eRead 171 = .ok (.iconst 1, 1) := by decide +kernel
theorem dX8_eRead_172 : decode cX8_eRead 172 = .ok (.goto 4, 3) := by decide +kernel
theorem dX8_eRead_175 : decode cX8_eRead 175 = .ok (.iconst 0, 1) := by decide +kernel
theorem dX8_eRead_176 : decode cX8_eRead 176 = .ok (.ireturn, 1) := by decide +kernel
theorem dX8_eRead_177 : decode cX8_eRead 177 = .ok (.aload_n 0, 1) := by decide +kernel
theorem dX8_eRead_178 : decode cX8_eRead 178 = .ok (.getfield 102, 3) := by decide +kernel
theorem dX8_eRead_181 : decode cX8_eRead 181 = .ok (.bipush 41, 2) := by decide +kernel
theorem dX8_eRead_183 : decode cX8_eRead 183 = .ok (.if_icmp .ne 46, 3) := by decide +kernel
theorem dX8_eRead_186 : decode cX8_eRead 186 = .ok (.aload_n 0, 1) := by decide +kernel
theorem dX8_eRead_187 : decode cX8_eRead 187 = .ok (.iconst 1, 1) := by decide +kernel
theorem dX8_eRead_188 : decode cX8_eRead 188 = .ok (.invokevirtual 131, 3) := by decide +kernel
theorem dX8_eRead_191 : decode cX8_eRead 191 = .ok (.aload_n 0, 1) := by decide +kernel
theorem dX8_eRead_192 : decode cX8_eRead 192 = .ok (.getfield 115, 3) := by decide +kernel
theorem dX8_eRead_195 : decode cX8_eRead 195 = .ok (.ifCond .ne 5, 3) := by decide +kernel
theorem dX8_eRead_198 : decode cX8_eRead 198 = .ok (.iconst 0, 1) := by decide +kernel
theorem dX8_eRead_199 : decode cX8_eRead 199 = .ok (.ireturn, 1) := by decide +kernel
theorem dX8_eRead_200 : decode cX8_eRead 200 = .ok (.aload_n 0, 1) := by decide +kernel
theorem dX8_eRead_201 : decode cX8_eRead 201 = .ok (.dup, 1) := by decide +kernel
theorem dX8_eRead_202 : decode cX8_eRead 202 = .ok (.getfield 115, 3) := by decide +kernel
theorem dX8_eRead_205 : decode cX8_eRead 205 = .ok (.iconst 1, 1) := by decide +kernel
theorem dX8_eRead_206 : decode cX8_eRead 206 = .ok (.isub, 1) := by decide +kernel
theorem dX8_eRead_207 : decode cX8_eRead 207 = .ok (.putfield 115, 3) := by decide +kernel
theorem dX8_eRead_210 : decode cX8_eRead 210 = .ok (.aload_n 0, 1) := by decide +kernel
theorem dX8_eRead_211 : decode cX8_eRead 211 = .ok (.dup, 1) := by decide +kernel
theorem dX8_eRead_212 : decode cX8_eRead 212 = .ok (.getfield 121, 3) := by decide +kernel
theorem dX8_eRead_215 : decode cX8_eRead 215 = .ok (.iconst 1, 1) := by decide +kernel
theorem dX8_eRead_216 : decode cX8_eRead 216 = .ok (.isub, 1) := by decide +kernel
theorem dX8_eRead_217 : decode cX8_eRead 217 = .ok (.putfield 121, 3) := by decide +kernel
theorem dX8_eRead_220 : decode cX8_eRead 220 = .ok (.aload_n 0, 1) := by decide +kernel
theorem dX8_eRead_221 : decode cX8_eRead 221 = .ok (.bipush 7, 2) := by decide +kernel
theorem dX8_eRead_223 : decode cX8_eRead 223 = .ok (.invokevirtual 131, 3) := by decide +kernel
theorem dX8_eRead_226 : decode cX8_eRead 226 = .ok (.goto (-212), 3) := by decide +kernel
theorem dX8_eRead_229 : decode cX8_eRead 229 = .ok (.aload_n 0, 1) := by decide +kernel
theorem dX8_eRead_230 : decode cX8_eRead 230 = .ok (.invokevirtual 141, 3) := by decide +kernel
theorem dX8_eRead_233 : decode cX8_eRead 233 = .ok (.istore_n 3, 1) := by decide +kernel
theorem dX8_eRead_234 : decode cX8_eRead 234 = .ok (.iload_n 3, 1) := by decide +kernel
theorem dX8_eRead_235 : decode cX8_eRead 235 = .ok (.iconst (-1), 1) := by decide +kernel
theorem dX8_eRead_236 : decode cX8_eRead 236 = .ok (.if_icmp .eq 11, 3) := by decide +kernel
theorem dX8_eRead_239 : decode cX8_eRead 239 = .ok (.aload_n 0, 1) := by decide +kernel
theorem dX8_eRead_240 : decode cX8_eRead 240 = .ok (.iload_n 3, 1) := by decide +kernel
theorem dX8_eRead_241 : decode cX8_eRead 241 = .ok (.invokevirtual 144, 3) := by decide +kernel
theorem dX8_eRead_244 : decode cX8_eRead 244 = .ok (.ifCond .ne 5, 3) := by decide +kernel
theorem dX8_eRead_247 : decode cX8_eRead 247 = .ok (.iconst 0, 1) := by decide +kernel
theorem dX8_eRead_248 : decode cX8_eRead 248 = .ok (.ireturn, 1) := by decide +kernel
theorem dX8_eRead_249 : decode cX8_eRead 249 = .ok (.iconst 1, 1) := by decide +kernel
theorem dX8_eRead_250 : decode cX8_eRead 250 = .ok (.istore_n 1, 1) := by decide +kernel
theorem dX8_eRead_251 : decode cX8_eRead 251 = .ok (.iload_n 3, 1) := by decide +kernel
theorem dX8_eRead_252 : decode cX8_eRead 252 = .ok (.bipush 12, 2) := by decide +kernel
theorem dX8_eRead_254 : decode cX8_eRead 254 = .ok (.if_icmp .gt 7, 3) := by decide +kernel
theorem dX8_eRead_257 : decode cX8_eRead 257 = .ok (.iconst 1, 1) := by decide +kernel
theorem dX8_eRead_258 : decode cX8_eRead 258 = .ok (.goto 4, 3) := by decide +kernel
theorem dX8_eRead_261 : decode cX8_eRead 261 = .ok (.iconst 0, 1) := by decide +kernel
theorem dX8_eRead_262 : decode cX8_eRead 262 = .ok (.istore_n 2, 1) := by decide +kernel
theorem dX8_eRead_263 : decode cX8_eRead 263 = .ok (.goto (-249), 3) := by decide +kernel
theorem dX8_text_0 : decode cX8_text 0 = .ok (.aload_n 0, 1) := by decide +kernel
theorem dX8_text_1 : decode cX8_text 1 = .ok (.getfield 86, 3) := by decide +kernel
theorem dX8_text_4 : decode cX8_text 4 = .ok (.bipush 6, 2) := by decide +kernel
theorem dX8_text_6 : decode cX8_text 6 = .ok (.if_icmp .ne 6, 3) := by decide +kernel
theorem dX8_text_9 : decode cX8_text 9 = .ok (.bipush (-4), 2) := by decide +kernel
theorem dX8_text_11 : decode cX8_text 11 = .ok (.ireturn, 1) := by decide +kernel
theorem dX8_text_12 : decode cX8_text 12 = .ok (.aload_n 0, 1) := by decide +kernel
theorem dX8_text_13 : decode cX8_text 13 = .ok (.iconst 0, 1) := by decide +kernel
theorem dX8_text_14 : decode cX8_text 14 = .ok (.putfield 96, 3) := by decide +kernel
theorem dX8_text_17 : decode cX8_text 17 = .ok (.aload_n 0, 1) := by decide +kernel
theorem dX8_text_18 : decode cX8_text 18 = .ok (.iconst 0, 1) := by decide +kernel
theorem dX8_text_19 : decode cX8_text 19 = .ok (.putfield 112, 3) := by decide +kernel
theorem dX8_text_22 : decode cX8_text 22 = .ok (.iconst 1, 1) := by decide +kernel
theorem dX8_text_23 : decode cX8_text 23 = .ok (.istore_n 1, 1) := by decide +kernel
theorem dX8_text_24 : decode cX8_text 24 = .ok (.iconst 0, 1) := by decide +kernel
theorem dX8_text_25 : decode cX8_text 25 = .ok (.istore_n 2, 1) := by decide +kernel
theorem dX8_text_26 : decode cX8_text 26 = .ok (.iload_n 2, 1) := by decide +kernel
theorem dX8_text_27 : decode cX8_text 27 = .ok (.iconst 3, 1) := by decide +kernel
theorem dX8_text_28 : decode cX8_text 28 = .ok (.if_icmp .ge 73, 3) := by decide +kernel
theorem dX8_text_31 : decode cX8_text 31 = .ok (.iload_n 1, 1) := by decide +kernel
theorem dX8_text_32 : decode cX8_text 32 = .ok (.ifCond .eq 69, 3) := by decide +kernel
theorem dX8_text_35 : decode cX8_text 35 = .ok (.aload_n 0, 1) := by decide +kernel
theorem dX8_text_36 : decode cX8_text 36 = .ok (.invokevirtual 134, 3) := by decide +kernel
theorem dX8_text_39 : decode cX8_text 39 = .ok (.aload_n 0, 1) := by decide +kernel
theorem dX8_text_40 : decode cX8_text 40 = .ok (.getfield 102, 3) := by decide +kernel
theorem dX8_text_43 : decode cX8_text 43 = .ok (.iconst 3, 1) := by decide +kernel
theorem dX8_text_44 : decode cX8_text 44 = .ok (.if_icmp .ne 15, 3) := by decide +kernel
theorem dX8_text_47 : decode cX8_text 47 = .ok (.aload_n 0, 1) := by decide +kernel
theorem dX8_text_48 : decode cX8_text 48 = .ok (.getfield 105, 3) := by decide +kernel
theorem dX8_text_51 : decode cX8_text 51 = .ok (.iload_n 2, 1) := by decide +kernel
theorem dX8_text_52 : decode cX8_text 52 = .ok (.if_icmp .ne 7, 3) := by decide +kernel
theorem dX8_text_55 : decode cX8_text 55 = .ok (.iconst 1, 1) := by decide +kernel
theorem dX8_text_56 : decode cX8_text 56 = .ok (.goto 4, 3) := by decide +kernel
theorem dX8_text_59 : decode cX8_text 59 = .ok (.iconst 0, 1) := by decide +kernel
theorem dX8_text_60 : decode cX8_text 60 = .ok (.istore_n 1, 1) := by decide +kernel
theorem dX8_text_61 : decode cX8_text 61 = .ok (.aload_n 0, 1) := by decide +kernel
theorem dX8_text_62 : decode cX8_text 62 = .ok (.getfield 25, 3) := by decide +kernel
theorem dX8_text_65 : decode cX8_text 65 = .ok (.iconst 4, 1) := by decide +kernel
theorem dX8_text_66 : decode cX8_text 66 = .ok (.aload_n 0, 1) := by decide +kernel
theorem dX8_text_67 : decode cX8_text 67 = .ok (.getfield 86, 3) := by decide +kernel
theorem dX8_text_70 : decode cX8_text 70 = .ok (.imul, 1) := by decide +kernel
theorem dX8_text_71 : decode cX8_text 71 = .ok (.iload_n 2, 1) := by decide +kernel
theorem dX8_text_72 : decode cX8_text 72 = .ok (.iadd, 1) := by decide +kernel
theorem dX8_text_73 : decode cX8_text 73 = .ok (.aload_n 0, 1) := by decide +kernel
theorem dX8_text_74 : decode cX8_text 74 = .ok (.getfield 112, 3) := by decide +kernel
theorem dX8_text_77 : decode cX8_text 77 = .ok (.iastore, 1) := by decide +kernel
theorem dX8_text_78 : decode cX8_text 78 = .ok (.iload_n 1, 1) := by decide +kernel
theorem dX8_text_79 : decode cX8_text 79 = .ok (.ifCond .eq 14, 3) := by decide +kernel
theorem dX8_text_82 : decode cX8_text 82 = .ok (.aload_n 0, 1) := by decide +kernel
theorem dX8_text_83 : decode cX8_text 83 = .ok (.invokevirtual 147, 3) := by decide +kernel
theorem dX8_text_86 : decode cX8_text 86 = .ok (.ifCond .eq 7, 3) := by decide +kernel
theorem dX8_text_89 : decode cX8_text 89 = .ok (.iconst 1, 1) := by decide +kernel
theorem dX8_text_90 : decode cX8_text 90 = .ok (.goto 4, 3) := by decide +kernel
theorem dX8_text_93 : decode cX8_text 93 = .ok (.iconst 0, 1) := by decide +kernel
theorem dX8_text_94 : decode cX8_text 94 = .ok (.istore_n 1, 1) := by decide +kernel
theorem dX8_text_95 : decode cX8_text 95 = .ok (.iinc 2 1, 3) := by decide +kernel
theorem dX8_text_98 : decode cX8_text 98 = .ok (.goto (-72), 3) := by decide +kernel
theorem dX8_text_101 : decode cX8_text 101 = .ok (.iload_n 1, 1) := by decide +kernel
theorem dX8_text_102 : decode cX8_text 102 = .ok (.ifCond .eq 20, 3) := by decide +kernel
theorem dX8_text_105 : decode cX8_text 105 = .ok (.aload_n 0, 1) := by decide +kernel
theorem dX8_text_106 : decode cX8_text 106 = .ok (.invokevirtual 134, 3) := by decide +kernel
theorem dX8_text_109 : decode cX8_text 109 = .ok (.aload_n 0, 1) := by decide +kernel
theorem dX8_text_110 : decode cX8_text 110 = .ok (.getfield 102, 3) := by decide +kernel
theorem dX8_text_113 : decode cX8_text 113 = .ok (.ifCond .ne 7, 3) := by decide +kernel
theorem dX8_text_116 : decode cX8_text 116 = .ok (.iconst 1, 1) := by decide +kernel
theorem dX8_text_117 : decode cX8_text 117 = .ok (.goto 4, 3) := by decide +kernel
theorem dX8_text_120 : decode cX8_text 120 = .ok (.iconst 0, 1) := by decide +kernel
theorem dX8_text_121 : decode cX8_text 121 = .ok (.istore_n 1, 1) := by decide +kernel
theorem dX8_text_122 : decode cX8_text 122 = .ok (.aload_n 0, 1) := by decide +kernel
theorem dX8_text_123 : decode cX8_text 123 = .ok (.getfield 25, 3) := by decide +kernel
theorem dX8_text_126 : decode cX8_text 126 = .ok (.iconst 4, 1) := by decide +kernel
theorem dX8_text_127 : decode cX8_text 127 = .ok (.aload_n 0, 1) := by decide +kernel
theorem dX8_text_128 : decode cX8_text 128 = .ok (.getfield 86, 3) := by decide +kernel
theorem dX8_text_131 : decode cX8_text 131 = .ok (.imul, 1) := by decide +kernel
theorem dX8_text_132 : decode cX8_text 132 = .ok (.iconst 3, 1) := by decide +kernel
theorem dX8_text_133 : decode cX8_text 133 = .ok (.iadd, 1) := by decide +kernel
theorem dX8_text_134 : decode cX8_text 134 = .ok (.aload_n 0, 1) := by decide +kernel
theorem dX8_text_135 : decode cX8_text 135 = .ok (.getfield 112, 3) := by decide +kernel
theorem dX8_text_138 : decode cX8_text 138 = .ok (.iastore, 1) := by decide +kernel
theorem dX8_text_139 : decode cX8_text 139 = .ok (.aload_n 0, 1) := by decide +kernel
theorem dX8_text_140 : decode cX8_text 140 = .ok (.iconst 0, 1) := by decide +kernel
theorem dX8_text_141 : decode cX8_text 141 = .ok (.putfield 61, 3) := by decide +kernel
theorem dX8_text_144 : decode cX8_text 144 = .ok (.iload_n 1, 1) := by decide +kernel
theorem dX8_text_145 : decode cX8_text 145 = .ok (.ifCond .ne 11, 3) := by decide +kernel
theorem dX8_text_148 : decode cX8_text 148 = .ok (.bipush (-100), 2) := by decide +kernel
theorem dX8_text_150 : decode cX8_text 150 = .ok (.aload_n 0, 1) := by decide +kernel
theorem dX8_text_151 : decode cX8_text 151 = .ok (.getfield 99, 3) := by decide +kernel
theorem dX8_text_154 : decode cX8_text 154 = .ok (.isub, 1) := by decide +kernel
theorem dX8_text_155 : decode cX8_text 155 = .ok (.ireturn, 1) := by decide +kernel
theorem dX8_text_156 : decode cX8_text 156 = .ok (.aload_n 0, 1) := by decide +kernel
theorem dX8_text_157 : decode cX8_text 157 = .ok (.dup, 1) := by decide +kernel
theorem dX8_text_158 : decode cX8_text 158 = .ok (.getfield 86, 3) := by decide +kernel
theorem dX8_text_161 : decode cX8_text 161 = .ok (.iconst 1, 1) := by decide +kernel
theorem dX8_text_162 : decode cX8_text 162 = .ok (.iadd, 1) := by decide +kernel
theorem dX8_text_163 : decode cX8_text 163 = .ok (.putfield 86, 3) := by decide +kernel
theorem dX8_text_166 : decode cX8_text 166 = .ok (.aload_n 0, 1) := by decide +kernel
theorem dX8_text_167 : decode cX8_text 167 = .ok (.getfield 86, 3) := by decide +kernel
theorem dX8_text_170 : decode cX8_text 170 = .ok (.iconst 1, 1) := by decide +kernel
theorem dX8_text_171 : decode cX8_text 171 = .ok (.isub, 1) := by decide +kernel
theorem dX8_text_172 : decode cX8_text 172 = .ok (.ireturn, 1) := by decide +kernel
theorem dX8_two_0 : decode cX8_two 0 = .ok (.iload_n 0, 1) := by decide +kernel
theorem dX8_two_1 : decode cX8_two 1 = .ok (.tableswitch 101 11 17 #[43, 57, 101, 71, 82, 93, 97], 43) := by decide +kernel
theorem dX8_two_44 : decode cX8_two 44 = .ok (.iload_n 1, 1) := by decide +kernel
theorem dX8_two_45 : decode cX8_two 45 = .ok (.ifCond .ne 7, 3) := by decide +kernel
theorem dX8_two_48 : decode cX8_two 48 = .ok (.iload_n 2, 1) := by decide +kernel
theorem dX8_two_49 : decode cX8_two 49 = .ok (.ifCond .eq 7, 3) := by decide +kernel
theorem dX8_two_52 : decode cX8_two 52 = .ok (.iconst 1, 1) := by decide +kernel
theorem dX8_two_53 : decode cX8_two 53 = .ok (.goto 4, 3) := by decide +kernel
theorem dX8_two_56 : decode cX8_two 56 = .ok (.iconst 0, 1) := by decide +kernel
theorem dX8_two_57 : decode cX8_two 57 = .ok (.ireturn, 1) := by decide +kernel
theorem dX8_two_58 : decode cX8_two 58 = .ok (.iload_n 1, 1) := by decide +kernel
theorem dX8_two_59 : decode cX8_two 59 = .ok (.ifCond .eq 11, 3) := by decide +kernel
theorem dX8_two_62 : decode cX8_two 62 = .ok (.iload_n 2, 1) := by decide +kernel
theorem dX8_two_63 : decode cX8_two 63 = .ok (.ifCond .eq 7, 3) := by decide +kernel
theorem dX8_two_66 : decode cX8_two 66 = .ok (.iconst 1, 1) := by decide +kernel
theorem dX8_two_67 : decode cX8_two 67 = .ok (.goto 4, 3) := by decide +kernel
theorem dX8_two_70 : decode cX8_two 70 = .ok (.iconst 0, 1) := by decide +kernel
theorem dX8_two_71 : decode cX8_two 71 = .ok (.ireturn, 1) := by decide +kernel
theorem dX8_two_72 : decode cX8_two 72 = .ok (.iload_n 1, 1) := by decide +kernel
theorem dX8_two_73 : decode cX8_two 73 = .ok (.iload_n 2, 1) := by decide +kernel
theorem dX8_two_74 : decode cX8_two 74 = .ok (.if_icmp .ge 7, 3) := by decide +kernel
theorem dX8_two_77 : decode cX8_two 77 = .ok (.iconst 1, 1) := by decide +kernel
theorem dX8_two_78 : decode cX8_two 78 = .ok (.goto 4, 3) := by decide +kernel
theorem dX8_two_81 : decode cX8_two 81 = .ok (.iconst 0, 1) := by decide +kernel
theorem dX8_two_82 : decode cX8_two 82 = .ok (.ireturn, 1) := by decide +kernel
theorem dX8_two_83 : decode cX8_two 83 = .ok (.iload_n 1, 1) := by decide +kernel
theorem dX8_two_84 : decode cX8_two 84 = .ok (.iload_n 2, 1) := by decide +kernel
theorem dX8_two_85 : decode cX8_two 85 = .ok (.if_icmp .ne 7, 3) := by decide +kernel
theorem dX8_two_88 : decode cX8_two 88 = .ok (.iconst 1, 1) := by decide +kernel
theorem dX8_two_89 : decode cX8_two 89 = .ok (.goto 4, 3) := by decide +kernel
theorem dX8_two_92 : decode cX8_two 92 = .ok (.iconst 0, 1) := by decide +kernel
theorem dX8_two_93 : decode cX8_two 93 = .ok (.ireturn, 1) := by decide +kernel
theorem dX8_two_94 : decode cX8_two 94 = .ok (.iload_n 1, 1) := by decide +kernel
theorem dX8_two_95 : decode cX8_two 95 = .ok (.iload_n 2, 1) := by decide +kernel
theorem dX8_two_96 : decode cX8_two 96 = .ok (.iadd, 1) := by decide +kernel
theorem dX8_two_97 : decode cX8_two 97 = .ok (.ireturn, 1) := by decide +kernel
theorem dX8_two_98 : decode cX8_two 98 = .ok (.iload_n 1, 1) := by decide +kernel
theorem dX8_two_99 : decode cX8_two 99 = .ok (.iload_n 2, 1) := by decide +kernel
theorem dX8_two_100 : decode cX8_two 100 = .ok (.isub, 1) := by decide +kernel
theorem dX8_two_101 : decode cX8_two 101 = .ok (.ireturn, 1) := by decide +kernel
theorem dX8_two_102 : decode cX8_two 102 = .ok (.iload_n 1, 1) := by decide +kernel
theorem dX8_two_103 : decode cX8_two 103 = .ok (.iload_n 2, 1) := by decide +kernel
theorem dX8_two_104 : decode cX8_two 104 = .ok (.imul, 1) := by decide +kernel
theorem dX8_two_105 : decode cX8_two 105 = .ok (.ireturn, 1) := by decide +kernel
theorem dX8_says_0 : decode cX8_says 0 = .ok (.iconst 0, 1) := by decide +kernel
theorem dX8_says_1 : decode cX8_says 1 = .ok (.istore_n 2, 1) := by decide +kernel
theorem dX8_says_2 : decode cX8_says 2 = .ok (.aload_n 0, 1) := by decide +kernel
theorem dX8_says_3 : decode cX8_says 3 = .ok (.getfield 25, 3) := by decide +kernel
theorem dX8_says_6 : decode cX8_says 6 = .ok (.iconst 4, 1) := by decide +kernel
theorem dX8_says_7 : decode cX8_says 7 = .ok (.aload_n 0, 1) := by decide +kernel
theorem dX8_says_8 : decode cX8_says 8 = .ok (.getfield 89, 3) := by decide +kernel
theorem dX8_says_11 : decode cX8_says 11 = .ok (.imul, 1) := by decide +kernel
theorem dX8_says_12 : decode cX8_says 12 = .ok (.iload_n 1, 1) := by decide +kernel
theorem dX8_says_13 : decode cX8_says 13 = .ok (.iadd, 1) := by decide +kernel
theorem dX8_says_14 : decode cX8_says 14 = .ok (.iaload, 1) := by decide +kernel
theorem dX8_says_15 : decode cX8_says 15 = .ok (.istore_n 3, 1) := by decide +kernel
theorem dX8_says_16 : decode cX8_says 16 = .ok (.iload_n 3, 1) := by decide +kernel
theorem dX8_says_17 : decode cX8_says 17 = .ok (.aload_n 0, 1) := by decide +kernel
theorem dX8_says_18 : decode cX8_says 18 = .ok (.getfield 25, 3) := by decide +kernel
theorem dX8_says_21 : decode cX8_says 21 = .ok (.iconst 4, 1) := by decide +kernel
theorem dX8_says_22 : decode cX8_says 22 = .ok (.aload_n 0, 1) := by decide +kernel
theorem dX8_says_23 : decode cX8_says 23 = .ok (.getfield 89, 3) := by decide +kernel
theorem dX8_says_26 : decode cX8_says 26 = .ok (.imul, 1) := by decide +kernel
theorem dX8_says_27 : decode cX8_says 27 = .ok (.iload_n 1, 1) := by decide +kernel
theorem dX8_says_28 : decode cX8_says 28 = .ok (.iadd, 1) := by decide +kernel
theorem dX8_says_29 : decode cX8_says 29 = .ok (.iconst 1, 1) := by decide +kernel
theorem dX8_says_30 : decode cX8_says 30 = .ok (.iadd, 1) := by decide +kernel
theorem dX8_says_31 : decode cX8_says 31 = .ok (.iaload, 1) := by decide +kernel
theorem dX8_says_32 : decode cX8_says 32 = .ok (.if_icmp .ge 165, 3) := by decide +kernel
theorem dX8_says_35 : decode cX8_says 35 = .ok (.aload_n 0, 1) := by decide +kernel
theorem dX8_says_36 : decode cX8_says 36 = .ok (.getfield 22, 3) := by decide +kernel
theorem dX8_says_39 : decode cX8_says 39 = .ok (.sipush 200, 3) := by decide +kernel
theorem dX8_says_42 : decode cX8_says 42 = .ok (.aload_n 0, 1) := by decide +kernel
theorem dX8_says_43 : decode cX8_says 43 = .ok (.getfield 89, 3) := by decide +kernel
theorem dX8_says_46 : decode cX8_says 46 = .ok (.imul, 1) := by decide +kernel
theorem dX8_says_47 : decode cX8_says 47 = .ok (.iload_n 3, 1) := by decide +kernel
theorem dX8_says_48 : decode cX8_says 48 = .ok (.iadd, 1) := by decide +kernel
theorem dX8_says_49 : decode cX8_says 49 = .ok (.iaload, 1) := by decide +kernel
theorem dX8_says_50 : decode cX8_says 50 = .ok (.istore 4, 2) := by decide +kernel
theorem dX8_says_52 : decode cX8_says 52 = .ok (.iload 4, 2) := by decide +kernel
theorem dX8_says_54 : decode cX8_says 54 = .ok (.ldc 137, 2) := by decide +kernel
theorem dX8_says_56 : decode cX8_says 56 = .ok (.if_icmp .ge 10, 3) := by decide +kernel
theorem dX8_says_59 : decode cX8_says 59 = .ok (.iload 4, 2) := by decide +kernel
theorem dX8_says_61 : decode cX8_says 61 = .ok (.bipush 11, 2) := by decide +kernel
theorem dX8_says_63 : decode cX8_says 63 = .ok (.if_icmp .ge 37, 3) := by decide +kernel
theorem dX8_says_66 : decode cX8_says 66 = .ok (.aload_n 0, 1) := by decide +kernel
theorem dX8_says_67 : decode cX8_says 67 = .ok (.getfield 52, 3) := by decide +kernel
theorem dX8_says_70 : decode cX8_says 70 = .ok (.iload_n 2, 1) := by decide +kernel
theorem dX8_says_71 : decode cX8_says 71 = .ok (.iload 4, 2) := by decide +kernel
theorem dX8_says_73 : decode cX8_says 73 = .ok (.bipush 11, 2) := by decide +kernel
theorem dX8_says_75 : decode cX8_says 75 = .ok (.if_icmp .ge 13, 3) := by decide +kernel
theorem dX8_says_78 : decode cX8_says 78 = .ok (.aload_n 0, 1) := by decide +kernel
theorem dX8_says_79 : decode cX8_says 79 = .ok (.getfield 55, 3) := by decide +kernel
theorem dX8_says_82 : decode cX8_says 82 = .ok (.iload 4, 2) := by decide +kernel
theorem dX8_says_84 : decode cX8_says 84 = .ok (.iaload, 1) := by decide +kernel
theorem dX8_says_85 : decode cX8_says 85 = .ok (.goto 8, 3) := by decide +kernel
theorem dX8_says_88 : decode cX8_says 88 = .ok (.iload 4, 2) := by decide +kernel
theorem dX8_says_90 : decode cX8_says 90 = .ok (.ldc 137, 2) := by decide +kernel
theorem dX8_says_92 : decode cX8_says 92 = .ok (.isub, 1) := by decide +kernel
theorem dX8_says_93 : decode cX8_says 93 = .ok (.iastore, 1) := by decide +kernel
theorem dX8_says_94 : decode cX8_says 94 = .ok (.iinc 2 1, 3) := by decide +kernel
theorem dX8_says_97 : decode cX8_says 97 = .ok (.goto 94, 3) := by decide +kernel
theorem dX8_says_100 : decode cX8_says 100 = .ok (.iload 4, 2) := by decide +kernel
theorem dX8_says_102 : decode cX8_says 102 = .ok (.bipush 13, 2) := by decide +kernel
theorem dX8_says_104 : decode cX8_says 104 = .ok (.if_icmp .ne 30, 3) := by decide +kernel
theorem dX8_says_107 : decode cX8_says 107 = .ok (.aload_n 0, 1) := by decide +kernel
theorem dX8_says_108 : decode cX8_says 108 = .ok (.getfield 52, 3) := by decide +kernel
theorem dX8_says_111 : decode cX8_says 111 = .ok (.iload_n 2, 1) := by decide +kernel
theorem dX8_says_112 : decode cX8_says 112 = .ok (.iconst 1, 1) := by decide +kernel
theorem dX8_says_113 : decode cX8_says 113 = .ok (.isub, 1) := by decide +kernel
theorem dX8_says_114 : decode cX8_says 114 = .ok (.aload_n 0, 1) := by decide +kernel
theorem dX8_says_115 : decode cX8_says 115 = .ok (.getfield 52, 3) := by decide +kernel
theorem dX8_says_118 : decode cX8_says 118 = .ok (.iload_n 2, 1) := by decide +kernel
theorem dX8_says_119 : decode cX8_says 119 = .ok (.iconst 1, 1) := by decide +kernel
theorem dX8_says_120 : decode cX8_says 120 = .ok (.isub, 1) := by decide +kernel
theorem dX8_says_121 : decode cX8_says 121 = .ok (.iaload, 1) := by decide +kernel
theorem dX8_says_122 : decode cX8_says 122 = .ok (.ifCond .ne 7, 3) := by decide +kernel
theorem dX8_says_125 : decode cX8_says 125 = .ok (.iconst 1, 1) := by decide +kernel
theorem dX8_says_126 : decode cX8_says 126 = .ok (.goto 4, 3) := by decide +kernel
theorem dX8_says_129 : decode cX8_says 129 = .ok (.iconst 0, 1) := by decide +kernel
theorem dX8_says_130 : decode cX8_says 130 = .ok (.iastore, 1) := by decide +kernel
theorem dX8_says_131 : decode cX8_says 131 = .ok (.goto 60, 3) := by decide +kernel
theorem dX8_says_134 : decode cX8_says 134 = .ok (.iload 4, 2) := by decide +kernel
theorem dX8_says_136 : decode cX8_says 136 = .ok (.bipush 19, 2) := by decide +kernel
theorem dX8_says_138 : decode cX8_says 138 = .ok (.if_icmp .ne 23, 3) := by decide +kernel
theorem dX8_says_141 : decode cX8_says 141 = .ok (.aload_n 0, 1) := by decide +kernel
theorem dX8_says_142 : decode cX8_says 142 = .ok (.getfield 52, 3) := by decide +kernel
theorem dX8_says_145 : decode cX8_says 145 = .ok (.iload_n 2, 1) := by decide +kernel
theorem dX8_says_146 : decode cX8_says 146 = .ok (.iconst 1, 1) := by decide +kernel
theorem dX8_says_147 : decode cX8_says 147 = .ok (.isub, 1) := by decide +kernel
theorem dX8_says_148 : decode cX8_says 148 = .ok (.aload_n 0, 1) := by decide +kernel
theorem dX8_says_149 : decode cX8_says 149 = .ok (.getfield 52, 3) := by decide +kernel
theorem dX8_says_152 : decode cX8_says 152 = .ok (.iload_n 2, 1) := by decide +kernel
theorem dX8_says_153 : decode cX8_says 153 = .ok (.iconst 1, 1) := by decide +kernel
theorem dX8_says_154 : decode cX8_says 154 = .ok (.isub, 1) := by decide +kernel
theorem dX8_says_155 : decode cX8_says 155 = .ok (.iaload, 1) := by decide +kernel
theorem dX8_says_156 : decode cX8_says 156 = .ok (.ineg, 1) := by decide +kernel
theorem dX8_says_157 : decode cX8_says 157 = .ok (.iastore, 1) := by decide +kernel
theorem dX8_says_158 : decode cX8_says 158 = .ok (.goto 33, 3) := by decide +kernel
theorem dX8_says_161 : decode cX8_says 161 = .ok (.iinc 2 (-1), 3) := by decide +kernel
theorem dX8_says_164 : decode cX8_says 164 = .ok (.aload_n 0, 1) := by decide +kernel
theorem dX8_says_165 : decode cX8_says 165 = .ok (.getfield 52, 3) := by decide +kernel
theorem dX8_says_168 : decode cX8_says 168 = .ok (.iload_n 2, 1) := by decide +kernel
theorem dX8_says_169 : decode cX8_says 169 = .ok (.iconst 1, 1) := by decide +kernel
theorem dX8_says_170 : decode cX8_says 170 = .ok (.isub, 1) := by decide +kernel
theorem dX8_says_171 : decode cX8_says 171 = .ok (.iload 4, 2) := by decide +kernel
theorem dX8_says_173 : decode cX8_says 173 = .ok (.aload_n 0, 1) := by decide +kernel
theorem dX8_says_174 : decode cX8_says 174 = .ok (.getfield 52, 3) := by decide +kernel
theorem dX8_says_177 : decode cX8_says 177 = .ok (.iload_n 2, 1) := by decide +kernel
theorem dX8_says_178 : decode cX8_says 178 = .ok (.iconst 1, 1) := by decide +kernel
theorem dX8_says_179 : decode cX8_says 179 = .ok (.isub, 1) := by decide +kernel
theorem dX8_says_180 : decode cX8_says 180 = .ok (.iaload, 1) := by decide +kernel
theorem dX8_says_181 : decode cX8_says 181 = .ok (.aload_n 0, 1) := by decide +kernel
theorem dX8_says_182 : decode cX8_says 182 = .ok (.getfield 52, 3) := by decide +kernel
theorem dX8_says_185 : decode cX8_says 185 = .ok (.iload_n 2, 1) := by decide +kernel
theorem dX8_says_186 : decode cX8_says 186 = .ok (.iaload, 1) := by decide +kernel
theorem dX8_says_187 : decode cX8_says 187 = .ok (.invokestatic 151, 3) := by decide +kernel
theorem dX8_says_190 : decode cX8_says 190 = .ok (.iastore, 1) := by decide +kernel
theorem dX8_says_191 : decode cX8_says 191 = .ok (.iinc 3 1, 3) := by decide +kernel
theorem dX8_says_194 : decode cX8_says 194 = .ok (.goto (-178), 3) := by decide +kernel
theorem dX8_says_197 : decode cX8_says 197 = .ok (.aload_n 0, 1) := by decide +kernel
theorem dX8_says_198 : decode cX8_says 198 = .ok (.getfield 52, 3) := by decide +kernel
theorem dX8_says_201 : decode cX8_says 201 = .ok (.iconst 0, 1) := by decide +kernel
theorem dX8_says_202 : decode cX8_says 202 = .ok (.iaload, 1) := by decide +kernel
theorem dX8_says_203 : decode cX8_says 203 = .ok (.ireturn, 1) := by decide +kernel
theorem dX8_force_0 : decode cX8_force 0 = .ok (.iload_n 1, 1) := by decide +kernel
theorem dX8_force_1 : decode cX8_force 1 = .ok (.iconst 0, 1) := by decide +kernel
theorem dX8_force_2 : decode cX8_force 2 = .ok (.aload_n 0, 1) := by decide +kernel
theorem dX8_force_3 : decode cX8_force 3 = .ok (.getfield 86, 3) := by decide +kernel
theorem dX8_force_6 : decode cX8_force 6 = .ok (.iconst 1, 1) := by decide +kernel
theorem dX8_force_7 : decode cX8_force 7 = .ok (.isub, 1) := by decide +kernel
theorem dX8_force_8 : decode cX8_force 8 = .ok (.invokestatic 72, 3) := by decide +kernel
theorem dX8_force_11 : decode cX8_force 11 = .ok (.ifCond .ne 6, 3) := by decide +kernel
theorem dX8_force_14 : decode cX8_force 14 = .ok (.bipush (-2), 2) := by decide +kernel
theorem dX8_force_16 : decode cX8_force 16 = .ok (.ireturn, 1) := by decide +kernel
theorem dX8_force_17 : decode cX8_force 17 = .ok (.aload_n 0, 1) := by decide +kernel
theorem dX8_force_18 : decode cX8_force 18 = .ok (.getfield 89, 3) := by decide +kernel
theorem dX8_force_21 : decode cX8_force 21 = .ok (.istore_n 2, 1) := by decide +kernel
theorem dX8_force_22 : decode cX8_force 22 = .ok (.aload_n 0, 1) := by decide +kernel
theorem dX8_force_23 : decode cX8_force 23 = .ok (.iload_n 1, 1) := by decide +kernel
theorem dX8_force_24 : decode cX8_force 24 = .ok (.putfield 89, 3) := by decide +kernel
theorem dX8_force_27 : decode cX8_force 27 = .ok (.iload_n 2, 1) := by decide +kernel
theorem dX8_force_28 : decode cX8_force 28 = .ok (.ireturn, 1) := by decide +kernel
theorem dX8_asksOf_0 : decode cX8_asksOf 0 = .ok (.aload_n 0, 1) := by decide +kernel
theorem dX8_asksOf_1 : decode cX8_asksOf 1 = .ok (.getfield 55, 3) := by decide +kernel
theorem dX8_asksOf_4 : decode cX8_asksOf 4 = .ok (.iconst 0, 1) := by decide +kernel
theorem dX8_asksOf_5 : decode cX8_asksOf 5 = .ok (.aload_n 0, 1) := by decide +kernel
theorem dX8_asksOf_6 : decode cX8_asksOf 6 = .ok (.getfield 16, 3) := by decide +kernel
theorem dX8_asksOf_9 : decode cX8_asksOf 9 = .ok (.iconst 5, 1) := by decide +kernel
theorem dX8_asksOf_10 : decode cX8_asksOf 10 = .ok (.iload_n 2, 1) := by decide +kernel
theorem dX8_asksOf_11 : decode cX8_asksOf 11 = .ok (.imul, 1) := by decide +kernel
theorem dX8_asksOf_12 : decode cX8_asksOf 12 = .ok (.iconst 1, 1) := by decide +kernel
theorem dX8_asksOf_13 : decode cX8_asksOf 13 = .ok (.iadd, 1) := by decide +kernel
theorem dX8_asksOf_14 : decode cX8_asksOf 14 = .ok (.iaload, 1) := by decide +kernel
theorem dX8_asksOf_15 : decode cX8_asksOf 15 = .ok (.iastore, 1) := by decide +kernel
theorem dX8_asksOf_16 : decode cX8_asksOf 16 = .ok (.aload_n 0, 1) := by decide +kernel
theorem dX8_asksOf_17 : decode cX8_asksOf 17 = .ok (.getfield 55, 3) := by decide +kernel
theorem dX8_asksOf_20 : decode cX8_asksOf 20 = .ok (.iconst 1, 1) := by decide +kernel
theorem dX8_asksOf_21 : decode cX8_asksOf 21 = .ok (.aload_n 0, 1) := by decide +kernel
theorem dX8_asksOf_22 : decode cX8_asksOf 22 = .ok (.getfield 16, 3) := by decide +kernel
theorem dX8_asksOf_25 : decode cX8_asksOf 25 = .ok (.iconst 5, 1) := by decide +kernel
theorem dX8_asksOf_26 : decode cX8_asksOf 26 = .ok (.iload_n 2, 1) := by decide +kernel
theorem dX8_asksOf_27 : decode cX8_asksOf 27 = .ok (.imul, 1) := by decide +kernel
theorem dX8_asksOf_28 : decode cX8_asksOf 28 = .ok (.iconst 2, 1) := by decide +kernel
theorem dX8_asksOf_29 : decode cX8_asksOf 29 = .ok (.iadd, 1) := by decide +kernel
theorem dX8_asksOf_30 : decode cX8_asksOf 30 = .ok (.iaload, 1) := by decide +kernel
theorem dX8_asksOf_31 : decode cX8_asksOf 31 = .ok (.iastore, 1) := by decide +kernel
theorem dX8_asksOf_32 : decode cX8_asksOf 32 = .ok (.aload_n 0, 1) := by decide +kernel
theorem dX8_asksOf_33 : decode cX8_asksOf 33 = .ok (.getfield 55, 3) := by decide +kernel
theorem dX8_asksOf_36 : decode cX8_asksOf 36 = .ok (.iconst 2, 1) := by decide +kernel
theorem dX8_asksOf_37 : decode cX8_asksOf 37 = .ok (.aload_n 0, 1) := by decide +kernel
theorem dX8_asksOf_38 : decode cX8_asksOf 38 = .ok (.getfield 16, 3) := by decide +kernel
theorem dX8_asksOf_41 : decode cX8_asksOf 41 = .ok (.iconst 5, 1) := by decide +kernel
theorem dX8_asksOf_42 : decode cX8_asksOf 42 = .ok (.iload_n 2, 1) := by decide +kernel
theorem dX8_asksOf_43 : decode cX8_asksOf 43 = .ok (.imul, 1) := by decide +kernel
theorem dX8_asksOf_44 : decode cX8_asksOf 44 = .ok (.iconst 3, 1) := by decide +kernel
theorem dX8_asksOf_45 : decode cX8_asksOf 45 = .ok (.iadd, 1) := by decide +kernel
theorem dX8_asksOf_46 : decode cX8_asksOf 46 = .ok (.iaload, 1) := by decide +kernel
theorem dX8_asksOf_47 : decode cX8_asksOf 47 = .ok (.iastore, 1) := by decide +kernel
theorem dX8_asksOf_48 : decode cX8_asksOf 48 = .ok (.aload_n 0, 1) := by decide +kernel
theorem dX8_asksOf_49 : decode cX8_asksOf 49 = .ok (.getfield 55, 3) := by decide +kernel
theorem dX8_asksOf_52 : decode cX8_asksOf 52 = .ok (.iconst 3, 1) := by decide +kernel
theorem dX8_asksOf_53 : decode cX8_asksOf 53 = .ok (.aload_n 0, 1) := by decide +kernel
theorem dX8_asksOf_54 : decode cX8_asksOf 54 = .ok (.getfield 76, 3) := by decide +kernel
theorem dX8_asksOf_57 : decode cX8_asksOf 57 = .ok (.iastore, 1) := by decide +kernel
theorem dX8_asksOf_58 : decode cX8_asksOf 58 = .ok (.aload_n 0, 1) := by decide +kernel
theorem dX8_asksOf_59 : decode cX8_asksOf 59 = .ok (.getfield 55, 3) := by decide +kernel
theorem dX8_asksOf_62 : decode cX8_asksOf 62 = .ok (.iconst 4, 1) := by decide +kernel
theorem dX8_asksOf_63 : decode cX8_asksOf 63 = .ok (.aload_n 0, 1) := by decide +kernel
theorem dX8_asksOf_64 : decode cX8_asksOf 64 = .ok (.getfield 16, 3) := by decide +kernel
theorem dX8_asksOf_67 : decode cX8_asksOf 67 = .ok (.iconst 5, 1) := by decide +kernel
theorem dX8_asksOf_68 : decode cX8_asksOf 68 = .ok (.iload_n 2, 1) := by decide +kernel
theorem dX8_asksOf_69 : decode cX8_asksOf 69 = .ok (.imul, 1) := by decide +kernel
theorem dX8_asksOf_70 : decode cX8_asksOf 70 = .ok (.iaload, 1) := by decide +kernel
theorem dX8_asksOf_71 : decode cX8_asksOf 71 = .ok (.invokestatic 82, 3) := by decide +kernel
theorem dX8_asksOf_74 : decode cX8_asksOf 74 = .ok (.iastore, 1) := by decide +kernel
theorem dX8_asksOf_75 : decode cX8_asksOf 75 = .ok (.aload_n 0, 1) := by decide +kernel
theorem dX8_asksOf_76 : decode cX8_asksOf 76 = .ok (.getfield 55, 3) := by decide +kernel
theorem dX8_asksOf_79 : decode cX8_asksOf 79 = .ok (.iconst 5, 1) := by decide +kernel
theorem dX8_asksOf_80 : decode cX8_asksOf 80 = .ok (.aload_n 0, 1) := by decide +kernel
theorem dX8_asksOf_81 : decode cX8_asksOf 81 = .ok (.getfield 13, 3) := by decide +kernel
theorem dX8_asksOf_84 : decode cX8_asksOf 84 = .ok (.iload_n 2, 1) := by decide +kernel
theorem dX8_asksOf_85 : decode cX8_asksOf 85 = .ok (.iaload, 1) := by decide +kernel
theorem dX8_asksOf_86 : decode cX8_asksOf 86 = .ok (.iastore, 1) := by decide +kernel
theorem dX8_asksOf_87 : decode cX8_asksOf 87 = .ok (.aload_n 0, 1) := by decide +kernel
theorem dX8_asksOf_88 : decode cX8_asksOf 88 = .ok (.iload_n 1, 1) := by decide +kernel
theorem dX8_asksOf_89 : decode cX8_asksOf 89 = .ok (.invokevirtual 155, 3) := by decide +kernel
theorem dX8_asksOf_92 : decode cX8_asksOf 92 = .ok (.iload_n 1, 1) := by decide +kernel
theorem dX8_asksOf_93 : decode cX8_asksOf 93 = .ok (.iconst 2, 1) := by decide +kernel
theorem dX8_asksOf_94 : decode cX8_asksOf 94 = .ok (.if_icmp .ne 8, 3) := by decide +kernel
theorem dX8_asksOf_97 : decode cX8_asksOf 97 = .ok (.bipush (-99), 2) := by decide +kernel
theorem dX8_asksOf_99 : decode cX8_asksOf 99 = .ok (.goto 4, 3) := by decide +kernel
theorem dX8_asksOf_102 : decode cX8_asksOf 102 = .ok (.iconst 0, 1) := by decide +kernel
theorem dX8_asksOf_103 : decode cX8_asksOf 103 = .ok (.bipush 99, 2) := by decide +kernel
theorem dX8_asksOf_105 : decode cX8_asksOf 105 = .ok (.invokestatic 158, 3) := by decide +kernel
theorem dX8_asksOf_108 : decode cX8_asksOf 108 = .ok (.ireturn, 1) := by decide +kernel
theorem dX8_asks_0 : decode cX8_asks 0 = .ok (.iload_n 1, 1) := by decide +kernel
theorem dX8_asks_1 : decode cX8_asks 1 = .ok (.iconst 0, 1) := by decide +kernel
theorem dX8_asks_2 : decode cX8_asks 2 = .ok (.iconst 2, 1) := by decide +kernel
theorem dX8_asks_3 : decode cX8_asks 3 = .ok (.invokestatic 72, 3) := by decide +kernel
theorem dX8_asks_6 : decode cX8_asks 6 = .ok (.ifCond .eq 20, 3) := by decide +kernel
theorem dX8_asks_9 : decode cX8_asks 9 = .ok (.aload_n 0, 1) := by decide +kernel
theorem dX8_asks_10 : decode cX8_asks 10 = .ok (.iload_n 2, 1) := by decide +kernel
theorem dX8_asks_11 : decode cX8_asks 11 = .ok (.invokevirtual 161, 3) := by decide +kernel
theorem dX8_asks_14 : decode cX8_asks 14 = .ok (.ifCond .eq 12, 3) := by decide +kernel
theorem dX8_asks_17 : decode cX8_asks 17 = .ok (.aload_n 0, 1) := by decide +kernel
theorem dX8_asks_18 : decode cX8_asks 18 = .ok (.iload_n 1, 1) := by decide +kernel
theorem dX8_asks_19 : decode cX8_asks 19 = .ok (.iload_n 2, 1) := by decide +kernel
theorem dX8_asks_20 : decode cX8_asks 20 = .ok (.invokevirtual 164, 3) := by decide +kernel
theorem dX8_asks_23 : decode cX8_asks 23 = .ok (.goto 6, 3) := by decide +kernel
theorem dX8_asks_26 : decode cX8_asks 26 = .ok (.sipush (-1000), 3) := by decide +kernel
theorem dX8_asks_29 : decode cX8_asks 29 = .ok (.ireturn, 1) := by decide +kernel
theorem dX8_guest_0 : decode cX8_guest 0 = .ok (.iload_n 1, 1) := by decide +kernel
theorem dX8_guest_1 : decode cX8_guest 1 = .ok (.iconst 0, 1) := by decide +kernel
theorem dX8_guest_2 : decode cX8_guest 2 = .ok (.bipush 59, 2) := by decide +kernel
theorem dX8_guest_4 : decode cX8_guest 4 = .ok (.invokestatic 72, 3) := by decide +kernel
theorem dX8_guest_7 : decode cX8_guest 7 = .ok (.ifCond .eq 24, 3) := by decide +kernel
theorem dX8_guest_10 : decode cX8_guest 10 = .ok (.iload_n 2, 1) := by decide +kernel
theorem dX8_guest_11 : decode cX8_guest 11 = .ok (.iconst 0, 1) := by decide +kernel
theorem dX8_guest_12 : decode cX8_guest 12 = .ok (.sipush 1023, 3) := by decide +kernel
theorem dX8_guest_15 : decode cX8_guest 15 = .ok (.invokestatic 72, 3) := by decide +kernel
theorem dX8_guest_18 : decode cX8_guest 18 = .ok (.ifCond .eq 13, 3) := by decide +kernel
theorem dX8_guest_21 : decode cX8_guest 21 = .ok (.iload_n 3, 1) := by decide +kernel
theorem dX8_guest_22 : decode cX8_guest 22 = .ok (.iconst 0, 1) := by decide +kernel
theorem dX8_guest_23 : decode cX8_guest 23 = .ok (.bipush 99, 2) := by decide +kernel
theorem dX8_guest_25 : decode cX8_guest 25 = .ok (.invokestatic 72, 3) := by decide +kernel
theorem dX8_guest_28 : decode cX8_guest 28 = .ok (.ifCond .ne 6, 3) := by decide +kernel
theorem dX8_guest_31 : decode cX8_guest 31 = .ok (.bipush (-2), 2) := by decide +kernel
theorem dX8_guest_33 : decode cX8_guest 33 = .ok (.ireturn, 1) := by decide +kernel
theorem dX8_guest_34 : decode cX8_guest 34 = .ok (.aload_n 0, 1) := by decide +kernel
theorem dX8_guest_35 : decode cX8_guest 35 = .ok (.getfield 69, 3) := by decide +kernel
theorem dX8_guest_38 : decode cX8_guest 38 = .ok (.bipush 6, 2) := by decide +kernel
theorem dX8_guest_40 : decode cX8_guest 40 = .ok (.if_icmp .ne 6, 3) := by decide +kernel
theorem dX8_guest_43 : decode cX8_guest 43 = .ok (.bipush (-4), 2) := by decide +kernel
theorem dX8_guest_45 : decode cX8_guest 45 = .ok (.ireturn, 1) := by decide +kernel
theorem dX8_guest_46 : decode cX8_guest 46 = .ok (.aload_n 0, 1) := by decide +kernel
theorem dX8_guest_47 : decode cX8_guest 47 = .ok (.getfield 7, 3) := by decide +kernel
theorem dX8_guest_50 : decode cX8_guest 50 = .ok (.aload_n 0, 1) := by decide +kernel
theorem dX8_guest_51 : decode cX8_guest 51 = .ok (.getfield 69, 3) := by decide +kernel
theorem dX8_guest_54 : decode cX8_guest 54 = .ok (.iload_n 1, 1) := by decide +kernel
theorem dX8_guest_55 : decode cX8_guest 55 = .ok (.bipush 10, 2) := by decide +kernel
theorem dX8_guest_57 : decode cX8_guest 57 = .ok (.idiv, 1) := by decide +kernel
theorem dX8_guest_58 : decode cX8_guest 58 = .ok (.iastore, 1) := by decide +kernel
theorem dX8_guest_59 : decode cX8_guest 59 = .ok (.aload_n 0, 1) := by decide +kernel
theorem dX8_guest_60 : decode cX8_guest 60 = .ok (.getfield 13, 3) := by decide +kernel
theorem dX8_guest_63 : decode cX8_guest 63 = .ok (.aload_n 0, 1) := by decide +kernel
theorem dX8_guest_64 : decode cX8_guest 64 = .ok (.getfield 69, 3) := by decide +kernel
theorem dX8_guest_67 : decode cX8_guest 67 = .ok (.iload_n 1, 1) := by decide +kernel
theorem dX8_guest_68 : decode cX8_guest 68 = .ok (.bipush 10, 2) := by decide +kernel
theorem dX8_guest_70 : decode cX8_guest 70 = .ok (.irem, 1) := by decide +kernel
theorem dX8_guest_71 : decode cX8_guest 71 = .ok (.iastore, 1) := by decide +kernel
theorem dX8_guest_72 : decode cX8_guest 72 = .ok (.aload_n 0, 1) := by decide +kernel
theorem dX8_guest_73 : decode cX8_guest 73 = .ok (.getfield 16, 3) := by decide +kernel
theorem dX8_guest_76 : decode cX8_guest 76 = .ok (.iconst 5, 1) := by decide +kernel
theorem dX8_guest_77 : decode cX8_guest 77 = .ok (.aload_n 0, 1) := by decide +kernel
theorem dX8_guest_78 : decode cX8_guest 78 = .ok (.getfield 69, 3) := by decide +kernel
theorem dX8_guest_81 : decode cX8_guest 81 = .ok (.imul, 1) := by decide +kernel
theorem dX8_guest_82 : decode cX8_guest 82 = .ok (.iload_n 2, 1) := by decide +kernel
theorem dX8_guest_83 : decode cX8_guest 83 = .ok (.iastore, 1) := by decide +kernel
theorem dX8_guest_84 : decode cX8_guest 84 = .ok (.aload_n 0, 1) := by decide +kernel
theorem dX8_guest_85 : decode cX8_guest 85 = .ok (.getfield 16, 3) := by decide +kernel
theorem dX8_guest_88 : decode cX8_guest 88 = .ok (.iconst 5, 1) := by decide +kernel
theorem dX8_guest_89 : decode cX8_guest 89 = .ok (.aload_n 0, 1) := by decide +kernel
theorem dX8_guest_90 : decode cX8_guest 90 = .ok (.getfield 69, 3) := by decide +kernel
theorem dX8_guest_93 : decode cX8_guest 93 = .ok (.imul, 1) := by decide +kernel
theorem dX8_guest_94 : decode cX8_guest 94 = .ok (.iconst 1, 1) := by decide +kernel
theorem dX8_guest_95 : decode cX8_guest 95 = .ok (.iadd, 1) := by decide +kernel
theorem dX8_guest_96 : decode cX8_guest 96 = .ok (.iload_n 3, 1) := by decide +kernel
theorem dX8_guest_97 : decode cX8_guest 97 = .ok (.iastore, 1) := by decide +kernel
theorem dX8_guest_98 : decode cX8_guest 98 = .ok (.aload_n 0, 1) := by decide +kernel
theorem dX8_guest_99 : decode cX8_guest 99 = .ok (.getfield 16, 3) := by decide +kernel
theorem dX8_guest_102 : decode cX8_guest 102 = .ok (.iconst 5, 1) := by decide +kernel
theorem dX8_guest_103 : decode cX8_guest 103 = .ok (.aload_n 0, 1) := by decide +kernel
theorem dX8_guest_104 : decode cX8_guest 104 = .ok (.getfield 69, 3) := by decide +kernel
theorem dX8_guest_107 : decode cX8_guest 107 = .ok (.imul, 1) := by decide +kernel
theorem dX8_guest_108 : decode cX8_guest 108 = .ok (.iconst 2, 1) := by decide +kernel
theorem dX8_guest_109 : decode cX8_guest 109 = .ok (.iadd, 1) := by decide +kernel
theorem dX8_guest_110 : decode cX8_guest 110 = .ok (.iconst 0, 1) := by decide +kernel
theorem dX8_guest_111 : decode cX8_guest 111 = .ok (.iastore, 1) := by decide +kernel
theorem dX8_guest_112 : decode cX8_guest 112 = .ok (.aload_n 0, 1) := by decide +kernel
theorem dX8_guest_113 : decode cX8_guest 113 = .ok (.getfield 16, 3) := by decide +kernel
theorem dX8_guest_116 : decode cX8_guest 116 = .ok (.iconst 5, 1) := by decide +kernel
theorem dX8_guest_117 : decode cX8_guest 117 = .ok (.aload_n 0, 1) := by decide +kernel
theorem dX8_guest_118 : decode cX8_guest 118 = .ok (.getfield 69, 3) := by decide +kernel
theorem dX8_guest_121 : decode cX8_guest 121 = .ok (.imul, 1) := by decide +kernel
theorem dX8_guest_122 : decode cX8_guest 122 = .ok (.iconst 3, 1) := by decide +kernel
theorem dX8_guest_123 : decode cX8_guest 123 = .ok (.iadd, 1) := by decide +kernel
theorem dX8_guest_124 : decode cX8_guest 124 = .ok (.iconst 0, 1) := by decide +kernel
theorem dX8_guest_125 : decode cX8_guest 125 = .ok (.iastore, 1) := by decide +kernel
theorem dX8_guest_126 : decode cX8_guest 126 = .ok (.aload_n 0, 1) := by decide +kernel
theorem dX8_guest_127 : decode cX8_guest 127 = .ok (.getfield 16, 3) := by decide +kernel
theorem dX8_guest_130 : decode cX8_guest 130 = .ok (.iconst 5, 1) := by decide +kernel
theorem dX8_guest_131 : decode cX8_guest 131 = .ok (.aload_n 0, 1) := by decide +kernel
theorem dX8_guest_132 : decode cX8_guest 132 = .ok (.getfield 69, 3) := by decide +kernel
theorem dX8_guest_135 : decode cX8_guest 135 = .ok (.imul, 1) := by decide +kernel
theorem dX8_guest_136 : decode cX8_guest 136 = .ok (.iconst 4, 1) := by decide +kernel
theorem dX8_guest_137 : decode cX8_guest 137 = .ok (.iadd, 1) := by decide +kernel
theorem dX8_guest_138 : decode cX8_guest 138 = .ok (.iconst 0, 1) := by decide +kernel
theorem dX8_guest_139 : decode cX8_guest 139 = .ok (.iastore, 1) := by decide +kernel
theorem dX8_guest_140 : decode cX8_guest 140 = .ok (.aload_n 0, 1) := by decide +kernel
theorem dX8_guest_141 : decode cX8_guest 141 = .ok (.dup, 1) := by decide +kernel
theorem dX8_guest_142 : decode cX8_guest 142 = .ok (.getfield 69, 3) := by decide +kernel
theorem dX8_guest_145 : decode cX8_guest 145 = .ok (.iconst 1, 1) := by decide +kernel
theorem dX8_guest_146 : decode cX8_guest 146 = .ok (.iadd, 1) := by decide +kernel
theorem dX8_guest_147 : decode cX8_guest 147 = .ok (.putfield 69, 3) := by decide +kernel
theorem dX8_guest_150 : decode cX8_guest 150 = .ok (.aload_n 0, 1) := by decide +kernel
theorem dX8_guest_151 : decode cX8_guest 151 = .ok (.getfield 69, 3) := by decide +kernel
theorem dX8_guest_154 : decode cX8_guest 154 = .ok (.iconst 1, 1) := by decide +kernel
theorem dX8_guest_155 : decode cX8_guest 155 = .ok (.isub, 1) := by decide +kernel
theorem dX8_guest_156 : decode cX8_guest 156 = .ok (.ireturn, 1) := by decide +kernel
theorem dX8_put_0 : decode cX8_put 0 = .ok (.aload_n 0, 1) := by decide +kernel
theorem dX8_put_1 : decode cX8_put 1 = .ok (.iload_n 1, 1) := by decide +kernel
theorem dX8_put_2 : decode cX8_put 2 = .ok (.invokevirtual 161, 3) := by decide +kernel
theorem dX8_put_5 : decode cX8_put 5 = .ok (.ifCond .ne 6, 3) := by decide +kernel
theorem dX8_put_8 : decode cX8_put 8 = .ok (.bipush (-5), 2) := by decide +kernel
theorem dX8_put_10 : decode cX8_put 10 = .ok (.ireturn, 1) := by decide +kernel
theorem dX8_put_11 : decode cX8_put 11 = .ok (.iload_n 2, 1) := by decide +kernel
theorem dX8_put_12 : decode cX8_put 12 = .ok (.ifCond .ne 9, 3) := by decide +kernel
theorem dX8_put_15 : decode cX8_put 15 = .ok (.sipush 1023, 3) := by decide +kernel
theorem dX8_put_18 : decode cX8_put 18 = .ok (.goto 14, 3) := by decide +kernel
theorem dX8_put_21 : decode cX8_put 21 = .ok (.iload_n 2, 1) := by decide +kernel
theorem dX8_put_22 : decode cX8_put 22 = .ok (.iconst 4, 1) := by decide +kernel
theorem dX8_put_23 : decode cX8_put 23 = .ok (.if_icmp .ne 7, 3) := by decide +kernel
theorem dX8_put_26 : decode cX8_put 26 = .ok (.iconst 1, 1) := by decide +kernel
theorem dX8_put_27 : decode cX8_put 27 = .ok (.goto 5, 3) := by decide +kernel
theorem dX8_put_30 : decode cX8_put 30 = .ok (.bipush 99, 2) := by decide +kernel
theorem dX8_put_32 : decode cX8_put 32 = .ok (.istore 4, 2) := by decide +kernel
theorem dX8_put_34 : decode cX8_put 34 = .ok (.iload_n 2, 1) := by decide +kernel
theorem dX8_put_35 : decode cX8_put 35 = .ok (.iconst 0, 1) := by decide +kernel
theorem dX8_put_36 : decode cX8_put 36 = .ok (.iconst 4, 1) := by decide +kernel
theorem dX8_put_37 : decode cX8_put 37 = .ok (.invokestatic 72, 3) := by decide +kernel
theorem dX8_put_40 : decode cX8_put 40 = .ok (.ifCond .eq 13, 3) := by decide +kernel
theorem dX8_put_43 : decode cX8_put 43 = .ok (.iload_n 3, 1) := by decide +kernel
theorem dX8_put_44 : decode cX8_put 44 = .ok (.iconst 0, 1) := by decide +kernel
theorem dX8_put_45 : decode cX8_put 45 = .ok (.iload 4, 2) := by decide +kernel
theorem dX8_put_47 : decode cX8_put 47 = .ok (.invokestatic 72, 3) := by decide +kernel
theorem dX8_put_50 : decode cX8_put 50 = .ok (.ifCond .ne 6, 3) := by decide +kernel
theorem dX8_put_53 : decode cX8_put 53 = .ok (.bipush (-7), 2) := by decide +kernel
theorem dX8_put_55 : decode cX8_put 55 = .ok (.ireturn, 1) := by decide +kernel
theorem dX8_put_56 : decode cX8_put 56 = .ok (.aload_n 0, 1) := by decide +kernel
theorem dX8_put_57 : decode cX8_put 57 = .ok (.getfield 16, 3) := by decide +kernel
theorem dX8_put_60 : decode cX8_put 60 = .ok (.iconst 5, 1) := by decide +kernel
theorem dX8_put_61 : decode cX8_put 61 = .ok (.iload_n 1, 1) := by decide +kernel
theorem dX8_put_62 : decode cX8_put 62 = .ok (.imul, 1) := by decide +kernel
theorem dX8_put_63 : decode cX8_put 63 = .ok (.iload_n 2, 1) := by decide +kernel
theorem dX8_put_64 : decode cX8_put 64 = .ok (.iadd, 1) := by decide +kernel
theorem dX8_put_65 : decode cX8_put 65 = .ok (.iaload, 1) := by decide +kernel
theorem dX8_put_66 : decode cX8_put 66 = .ok (.istore 5, 2) := by decide +kernel
theorem dX8_put_68 : decode cX8_put 68 = .ok (.aload_n 0, 1) := by decide +kernel
theorem dX8_put_69 : decode cX8_put 69 = .ok (.getfield 16, 3) := by decide +kernel
theorem dX8_put_72 : decode cX8_put 72 = .ok (.iconst 5, 1) := by decide +kernel
theorem dX8_put_73 : decode cX8_put 73 = .ok (.iload_n 1, 1) := by decide +kernel
theorem dX8_put_74 : decode cX8_put 74 = .ok (.imul, 1) := by decide +kernel
theorem dX8_put_75 : decode cX8_put 75 = .ok (.iload_n 2, 1) := by decide +kernel
theorem dX8_put_76 : decode cX8_put 76 = .ok (.iadd, 1) := by decide +kernel
theorem dX8_put_77 : decode cX8_put 77 = .ok (.iload_n 3, 1) := by decide +kernel
theorem dX8_put_78 : decode cX8_put 78 = .ok (.iastore, 1) := by decide +kernel
theorem dX8_put_79 : decode cX8_put 79 = .ok (.iload 5, 2) := by decide +kernel
theorem dX8_put_81 : decode cX8_put 81 = .ok (.ireturn, 1) := by decide +kernel
theorem dX8_mindSet_0 : decode cX8_mindSet 0 = .ok (.aload_n 0, 1) := by decide +kernel
theorem dX8_mindSet_1 : decode cX8_mindSet 1 = .ok (.getfield 7, 3) := by decide +kernel
theorem dX8_mindSet_4 : decode cX8_mindSet 4 = .ok (.iload_n 1, 1) := by decide +kernel
theorem dX8_mindSet_5 : decode cX8_mindSet 5 = .ok (.iaload, 1) := by decide +kernel
theorem dX8_mindSet_6 : decode cX8_mindSet 6 = .ok (.iconst 5, 1) := by decide +kernel
theorem dX8_mindSet_7 : decode cX8_mindSet 7 = .ok (.if_icmp .ne 7, 3) := by decide +kernel
theorem dX8_mindSet_10 : decode cX8_mindSet 10 = .ok (.sipush 1023, 3) := by decide +kernel
theorem dX8_mindSet_13 : decode cX8_mindSet 13 = .ok (.ireturn, 1) := by decide +kernel
theorem dX8_mindSet_14 : decode cX8_mindSet 14 = .ok (.aload_n 0, 1) := by decide +kernel
theorem dX8_mindSet_15 : decode cX8_mindSet 15 = .ok (.getfield 16, 3) := by decide +kernel
theorem dX8_mindSet_18 : decode cX8_mindSet 18 = .ok (.iconst 5, 1) := by decide +kernel
theorem dX8_mindSet_19 : decode cX8_mindSet 19 = .ok (.iload_n 1, 1) := by decide +kernel
theorem dX8_mindSet_20 : decode cX8_mindSet 20 = .ok (.imul, 1) := by decide +kernel
theorem dX8_mindSet_21 : decode cX8_mindSet 21 = .ok (.iaload, 1) := by decide +kernel
theorem dX8_mindSet_22 : decode cX8_mindSet 22 = .ok (.istore_n 2, 1) := by decide +kernel
theorem dX8_mindSet_23 : decode cX8_mindSet 23 = .ok (.aload_n 0, 1) := by decide +kernel
theorem dX8_mindSet_24 : decode cX8_mindSet 24 = .ok (.iconst 0, 1) := by decide +kernel
theorem dX8_mindSet_25 : decode cX8_mindSet 25 = .ok (.iload_n 1, 1) := by decide +kernel
theorem dX8_mindSet_26 : decode cX8_mindSet 26 = .ok (.invokevirtual 164, 3) := by decide +kernel
theorem dX8_mindSet_29 : decode cX8_mindSet 29 = .ok (.aload_n 0, 1) := by decide +kernel
theorem dX8_mindSet_30 : decode cX8_mindSet 30 = .ok (.getfield 16, 3) := by decide +kernel
theorem dX8_mindSet_33 : decode cX8_mindSet 33 = .ok (.iconst 5, 1) := by decide +kernel
theorem dX8_mindSet_34 : decode cX8_mindSet 34 = .ok (.iload_n 1, 1) := by decide +kernel
theorem dX8_mindSet_35 : decode cX8_mindSet 35 = .ok (.imul, 1) := by decide +kernel
theorem dX8_mindSet_36 : decode cX8_mindSet 36 = .ok (.iconst 1, 1) := by decide +kernel
theorem dX8_mindSet_37 : decode cX8_mindSet 37 = .ok (.iadd, 1) := by decide +kernel
theorem dX8_mindSet_38 : decode cX8_mindSet 38 = .ok (.iaload, 1) := by decide +kernel
theorem dX8_mindSet_39 : decode cX8_mindSet 39 = .ok (.if_icmp .ge 7, 3) := by decide +kernel
theorem dX8_mindSet_42 : decode cX8_mindSet 42 = .ok (.iconst 1, 1) := by decide +kernel
theorem dX8_mindSet_43 : decode cX8_mindSet 43 = .ok (.goto 4, 3) := by decide +kernel
theorem dX8_mindSet_46 : decode cX8_mindSet 46 = .ok (.iconst 0, 1) := by decide +kernel
theorem dX8_mindSet_47 : decode cX8_mindSet 47 = .ok (.istore_n 3, 1) := by decide +kernel
theorem dX8_mindSet_48 : decode cX8_mindSet 48 = .ok (.iload_n 3, 1) := by decide +kernel
theorem dX8_mindSet_49 : decode cX8_mindSet 49 = .ok (.ifCond .eq 9, 3) := by decide +kernel
theorem dX8_mindSet_52 : decode cX8_mindSet 52 = .ok (.sipush 1023, 3) := by decide +kernel
theorem dX8_mindSet_55 : decode cX8_mindSet 55 = .ok (.goto 4, 3) := by decide +kernel
theorem dX8_mindSet_58 : decode cX8_mindSet 58 = .ok (.iload_n 2, 1) := by decide +kernel
theorem dX8_mindSet_59 : decode cX8_mindSet 59 = .ok (.istore 4, 2) := by decide +kernel
theorem dX8_mindSet_61 : decode cX8_mindSet 61 = .ok (.iload_n 3, 1) := by decide +kernel
theorem dX8_mindSet_62 : decode cX8_mindSet 62 = .ok (.ifCond .eq 7, 3) := by decide +kernel
theorem dX8_mindSet_65 : decode cX8_mindSet 65 = .ok (.iload_n 2, 1) := by decide +kernel
theorem dX8_mindSet_66 : decode cX8_mindSet 66 = .ok (.goto 4, 3) := by decide +kernel
theorem dX8_mindSet_69 : decode cX8_mindSet 69 = .ok (.iconst 0, 1) := by decide +kernel
theorem dX8_mindSet_70 : decode cX8_mindSet 70 = .ok (.istore 5, 2) := by decide +kernel
theorem dX8_mindSet_72 : decode cX8_mindSet 72 = .ok (.aload_n 0, 1) := by decide +kernel
theorem dX8_mindSet_73 : decode cX8_mindSet 73 = .ok (.getfield 76, 3) := by decide +kernel
theorem dX8_mindSet_76 : decode cX8_mindSet 76 = .ok (.iconst 2, 1) := by decide +kernel
theorem dX8_mindSet_77 : decode cX8_mindSet 77 = .ok (.irem, 1) := by decide +kernel
theorem dX8_mindSet_78 : decode cX8_mindSet 78 = .ok (.ifCond .ne 9, 3) := by decide +kernel
theorem dX8_mindSet_81 : decode cX8_mindSet 81 = .ok (.sipush 341, 3) := by decide +kernel
theorem dX8_mindSet_84 : decode cX8_mindSet 84 = .ok (.goto 6, 3) := by decide +kernel
theorem dX8_mindSet_87 : decode cX8_mindSet 87 = .ok (.sipush 682, 3) := by decide +kernel
theorem dX8_mindSet_90 : decode cX8_mindSet 90 = .ok (.istore 6, 2) := by decide +kernel
theorem dX8_mindSet_92 : decode cX8_mindSet 92 = .ok (.aload_n 0, 1) := by decide +kernel
theorem dX8_mindSet_93 : decode cX8_mindSet 93 = .ok (.getfield 7, 3) := by decide +kernel
theorem dX8_mindSet_96 : decode cX8_mindSet 96 = .ok (.iload_n 1, 1) := by decide +kernel
theorem dX8_mindSet_97 : decode cX8_mindSet 97 = .ok (.iaload, 1) := by decide +kernel
theorem dX8_mindSet_98 : decode cX8_mindSet 98 = .ok (.tableswitch 80 1 4 #[30, 42, 45, 60], 30) := by decide +kernel
theorem dX8_mindSet_128 : decode cX8_mindSet 128 = .ok (.iload 4, 2) := by decide +kernel
theorem dX8_mindSet_130 : decode cX8_mindSet 130 = .ok (.iconst 1, 1) := by decide +kernel
theorem dX8_mindSet_131 : decode cX8_mindSet 131 = .ok (.aload_n 0, 1) := by decide +kernel
theorem dX8_mindSet_132 : decode cX8_mindSet 132 = .ok (.getfield 13, 3) := by decide +kernel
theorem dX8_mindSet_135 : decode cX8_mindSet 135 = .ok (.iload_n 1, 1) := by decide +kernel
theorem dX8_mindSet_136 : decode cX8_mindSet 136 = .ok (.iaload, 1) := by decide +kernel
theorem dX8_mindSet_137 : decode cX8_mindSet 137 = .ok (.ishl, 1) := by decide +kernel
theorem dX8_mindSet_138 : decode cX8_mindSet 138 = .ok (.ior, 1) := by decide +kernel
theorem dX8_mindSet_139 : decode cX8_mindSet 139 = .ok (.ireturn, 1) := by decide +kernel
theorem dX8_mindSet_140 : decode cX8_mindSet 140 = .ok (.iload 5, 2) := by decide +kernel
theorem dX8_mindSet_142 : decode cX8_mindSet 142 = .ok (.ireturn, 1) := by decide +kernel
theorem dX8_mindSet_143 : decode cX8_mindSet 143 = .ok (.iload 4, 2) := by decide +kernel
theorem dX8_mindSet_145 : decode cX8_mindSet 145 = .ok (.iconst 1, 1) := by decide +kernel
theorem dX8_mindSet_146 : decode cX8_mindSet 146 = .ok (.aload_n 0, 1) := by decide +kernel
theorem dX8_mindSet_147 : decode cX8_mindSet 147 = .ok (.getfield 13, 3) := by decide +kernel
theorem dX8_mindSet_150 : decode cX8_mindSet 150 = .ok (.iload_n 1, 1) := by decide +kernel
theorem dX8_mindSet_151 : decode cX8_mindSet 151 = .ok (.iaload, 1) := by decide +kernel
theorem dX8_mindSet_152 : decode cX8_mindSet 152 = .ok (.ishl, 1) := by decide +kernel
theorem dX8_mindSet_153 : decode cX8_mindSet 153 = .ok (.ior, 1) := by decide +kernel
theorem dX8_mindSet_154 : decode cX8_mindSet 154 = .ok (.iload 6, 2) := by decide +kernel
theorem dX8_mindSet_156 : decode cX8_mindSet 156 = .ok (.iand, 1) := by decide +kernel
theorem dX8_mindSet_157 : decode cX8_mindSet 157 = .ok (.ireturn, 1) := by decide +kernel
theorem dX8_mindSet_158 : decode cX8_mindSet 158 = .ok (.aload_n 0, 1) := by decide +kernel
theorem dX8_mindSet_159 : decode cX8_mindSet 159 = .ok (.getfield 76, 3) := by decide +kernel
theorem dX8_mindSet_162 : decode cX8_mindSet 162 = .ok (.aload_n 0, 1) := by decide +kernel
theorem dX8_mindSet_163 : decode cX8_mindSet 163 = .ok (.getfield 13, 3) := by decide +kernel
theorem dX8_mindSet_166 : decode cX8_mindSet 166 = .ok (.iload_n 1, 1) := by decide +kernel
theorem dX8_mindSet_167 : decode cX8_mindSet 167 = .ok (.iaload, 1) := by decide +kernel
theorem dX8_mindSet_168 : decode cX8_mindSet 168 = .ok (.if_icmp .ge 8, 3) := by decide +kernel
theorem dX8_mindSet_171 : decode cX8_mindSet 171 = .ok (.iload 5, 2) := by decide +kernel
theorem dX8_mindSet_173 : decode cX8_mindSet 173 = .ok (.goto 4, 3) := by decide +kernel
theorem dX8_mindSet_176 : decode cX8_mindSet 176 = .ok (.iconst 0, 1) := by decide +kernel
theorem dX8_mindSet_177 : decode cX8_mindSet 177 = .ok (.ireturn, 1) := by decide +kernel
theorem dX8_mindSet_178 : decode cX8_mindSet 178 = .ok (.iload 4, 2) := by decide +kernel
theorem dX8_mindSet_180 : decode cX8_mindSet 180 = .ok (.ireturn, 1) := by decide +kernel
theorem dX8_eatsOf_0 : decode cX8_eatsOf 0 = .ok (.aload_n 0, 1) := by decide +kernel
theorem dX8_eatsOf_1 : decode cX8_eatsOf 1 = .ok (.getfield 7, 3) := by decide +kernel
theorem dX8_eatsOf_4 : decode cX8_eatsOf 4 = .ok (.iload_n 1, 1) := by decide +kernel
theorem dX8_eatsOf_5 : decode cX8_eatsOf 5 = .ok (.iaload, 1) := by decide +kernel
theorem dX8_eatsOf_6 : decode cX8_eatsOf 6 = .ok (.iconst 5, 1) := by decide +kernel
theorem dX8_eatsOf_7 : decode cX8_eatsOf 7 = .ok (.if_icmp .ne 5, 3) := by decide +kernel
theorem dX8_eatsOf_10 : decode cX8_eatsOf 10 = .ok (.iconst 0, 1) := by decide +kernel
theorem dX8_eatsOf_11 : decode cX8_eatsOf 11 = .ok (.ireturn, 1) := by decide +kernel
theorem dX8_eatsOf_12 : decode cX8_eatsOf 12 = .ok (.aload_n 0, 1) := by decide +kernel
theorem dX8_eatsOf_13 : decode cX8_eatsOf 13 = .ok (.iconst 1, 1) := by decide +kernel
theorem dX8_eatsOf_14 : decode cX8_eatsOf 14 = .ok (.iload_n 1, 1) := by decide +kernel
theorem dX8_eatsOf_15 : decode cX8_eatsOf 15 = .ok (.invokevirtual 164, 3) := by decide +kernel
theorem dX8_eatsOf_18 : decode cX8_eatsOf 18 = .ok (.istore_n 3, 1) := by decide +kernel
theorem dX8_eatsOf_19 : decode cX8_eatsOf 19 = .ok (.aload_n 0, 1) := by decide +kernel
theorem dX8_eatsOf_20 : decode cX8_eatsOf 20 = .ok (.getfield 7, 3) := by decide +kernel
theorem dX8_eatsOf_23 : decode cX8_eatsOf 23 = .ok (.iload_n 1, 1) := by decide +kernel
theorem dX8_eatsOf_24 : decode cX8_eatsOf 24 = .ok (.iaload, 1) := by decide +kernel
theorem dX8_eatsOf_25 : decode cX8_eatsOf 25 = .ok (.iconst 1, 1) := by decide +kernel
theorem dX8_eatsOf_26 : decode cX8_eatsOf 26 = .ok (.if_icmp .eq 13, 3) := by decide +kernel
theorem dX8_eatsOf_29 : decode cX8_eatsOf 29 = .ok (.aload_n 0, 1) := by decide +kernel
theorem dX8_eatsOf_30 : decode cX8_eatsOf 30 = .ok (.getfield 7, 3) := by decide +kernel
theorem dX8_eatsOf_33 : decode cX8_eatsOf 33 = .ok (.iload_n 1, 1) := by decide +kernel
theorem dX8_eatsOf_34 : decode cX8_eatsOf 34 = .ok (.iaload, 1) := by decide +kernel
theorem dX8_eatsOf_35 : decode cX8_eatsOf 35 = .ok (.iconst 3, 1) := by decide +kernel
theorem dX8_eatsOf_36 : decode cX8_eatsOf 36 = .ok (.if_icmp .ne 9, 3) := by decide +kernel
theorem dX8_eatsOf_39 : decode cX8_eatsOf 39 = .ok (.iload_n 3, 1) := by decide +kernel
theorem dX8_eatsOf_40 : decode cX8_eatsOf 40 = .ok (.iconst 2, 1) := by decide +kernel
theorem dX8_eatsOf_41 : decode cX8_eatsOf 41 = .ok (.idiv, 1) := by decide +kernel
theorem dX8_eatsOf_42 : decode cX8_eatsOf 42 = .ok (.goto 19, 3) := by decide +kernel
theorem dX8_eatsOf_45 : decode cX8_eatsOf 45 = .ok (.aload_n 0, 1) := by decide +kernel
theorem dX8_eatsOf_46 : decode cX8_eatsOf 46 = .ok (.getfield 7, 3) := by decide +kernel
theorem dX8_eatsOf_49 : decode cX8_eatsOf 49 = .ok (.iload_n 1, 1) := by decide +kernel
theorem dX8_eatsOf_50 : decode cX8_eatsOf 50 = .ok (.iaload, 1) := by decide +kernel
theorem dX8_eatsOf_51 : decode cX8_eatsOf 51 = .ok (.ifCond .ne 7, 3) := by decide +kernel
theorem dX8_eatsOf_54 : decode cX8_eatsOf 54 = .ok (.iload_n 3, 1) := by decide +kernel
theorem dX8_eatsOf_55 : decode cX8_eatsOf 55 = .ok (.goto 6, 3) := by decide +kernel
theorem dX8_eatsOf_58 : decode cX8_eatsOf 58 = .ok (.iload_n 3, 1) := by decide +kernel
theorem dX8_eatsOf_59 : decode cX8_eatsOf 59 = .ok (.iload_n 2, 1) := by decide +kernel
theorem dX8_eatsOf_60 : decode cX8_eatsOf 60 = .ok (.iadd, 1) := by decide +kernel
theorem dX8_eatsOf_61 : decode cX8_eatsOf 61 = .ok (.ireturn, 1) := by decide +kernel
theorem dX8_tellsOf_0 : decode cX8_tellsOf 0 = .ok (.aload_n 0, 1) := by decide +kernel
theorem dX8_tellsOf_1 : decode cX8_tellsOf 1 = .ok (.iconst 2, 1) := by decide +kernel
theorem dX8_tellsOf_2 : decode cX8_tellsOf 2 = .ok (.iload_n 1, 1) := by decide +kernel
theorem dX8_tellsOf_3 : decode cX8_tellsOf 3 = .ok (.invokevirtual 164, 3) := by decide +kernel
theorem dX8_tellsOf_6 : decode cX8_tellsOf 6 = .ok (.istore_n 2, 1) := by decide +kernel
theorem dX8_tellsOf_7 : decode cX8_tellsOf 7 = .ok (.aload_n 0, 1) := by decide +kernel
theorem dX8_tellsOf_8 : decode cX8_tellsOf 8 = .ok (.getfield 7, 3) := by decide +kernel
theorem dX8_tellsOf_11 : decode cX8_tellsOf 11 = .ok (.iload_n 1, 1) := by decide +kernel
theorem dX8_tellsOf_12 : decode cX8_tellsOf 12 = .ok (.iaload, 1) := by decide +kernel
theorem dX8_tellsOf_13 : decode cX8_tellsOf 13 = .ok (.iconst 3, 1) := by decide +kernel
theorem dX8_tellsOf_14 : decode cX8_tellsOf 14 = .ok (.if_icmp .ne 8, 3) := by decide +kernel
theorem dX8_tellsOf_17 : decode cX8_tellsOf 17 = .ok (.iload_n 2, 1) := by decide +kernel
theorem dX8_tellsOf_18 : decode cX8_tellsOf 18 = .ok (.ineg, 1) := by decide +kernel
theorem dX8_tellsOf_19 : decode cX8_tellsOf 19 = .ok (.goto 25, 3) := by decide +kernel
theorem dX8_tellsOf_22 : decode cX8_tellsOf 22 = .ok (.aload_n 0, 1) := by decide +kernel
theorem dX8_tellsOf_23 : decode cX8_tellsOf 23 = .ok (.getfield 7, 3) := by decide +kernel
theorem dX8_tellsOf_26 : decode cX8_tellsOf 26 = .ok (.iload_n 1, 1) := by decide +kernel
theorem dX8_tellsOf_27 : decode cX8_tellsOf 27 = .ok (.iaload, 1) := by decide +kernel
theorem dX8_tellsOf_28 : decode cX8_tellsOf 28 = .ok (.iconst 4, 1) := by decide +kernel
theorem dX8_tellsOf_29 : decode cX8_tellsOf 29 = .ok (.if_icmp .ne 14, 3) := by decide +kernel
theorem dX8_tellsOf_32 : decode cX8_tellsOf 32 = .ok (.iload_n 2, 1) := by decide +kernel
theorem dX8_tellsOf_33 : decode cX8_tellsOf 33 = .ok (.aload_n 0, 1) := by decide +kernel
theorem dX8_tellsOf_34 : decode cX8_tellsOf 34 = .ok (.getfield 13, 3) := by decide +kernel
theorem dX8_tellsOf_37 : decode cX8_tellsOf 37 = .ok (.iload_n 1, 1) := by decide +kernel
theorem dX8_tellsOf_38 : decode cX8_tellsOf 38 = .ok (.iaload, 1) := by decide +kernel
theorem dX8_tellsOf_39 : decode cX8_tellsOf 39 = .ok (.iadd, 1) := by decide +kernel
theorem dX8_tellsOf_40 : decode cX8_tellsOf 40 = .ok (.goto 4, 3) := by decide +kernel
theorem dX8_tellsOf_43 : decode cX8_tellsOf 43 = .ok (.iload_n 2, 1) := by decide +kernel
theorem dX8_tellsOf_44 : decode cX8_tellsOf 44 = .ok (.istore_n 3, 1) := by decide +kernel
theorem dX8_tellsOf_45 : decode cX8_tellsOf 45 = .ok (.iload_n 1, 1) := by decide +kernel
theorem dX8_tellsOf_46 : decode cX8_tellsOf 46 = .ok (.iload_n 3, 1) := by decide +kernel
theorem dX8_tellsOf_47 : decode cX8_tellsOf 47 = .ok (.iadd, 1) := by decide +kernel
theorem dX8_tellsOf_48 : decode cX8_tellsOf 48 = .ok (.aload_n 0, 1) := by decide +kernel
theorem dX8_tellsOf_49 : decode cX8_tellsOf 49 = .ok (.getfield 69, 3) := by decide +kernel
theorem dX8_tellsOf_52 : decode cX8_tellsOf 52 = .ok (.irem, 1) := by decide +kernel
theorem dX8_tellsOf_53 : decode cX8_tellsOf 53 = .ok (.istore 4, 2) := by decide +kernel
theorem dX8_tellsOf_55 : decode cX8_tellsOf 55 = .ok (.iload 4, 2) := by decide +kernel
theorem dX8_tellsOf_57 : decode cX8_tellsOf 57 = .ok (.ifCond .ge 13, 3) := by decide +kernel
theorem dX8_tellsOf_60 : decode cX8_tellsOf 60 = .ok (.iload 4, 2) := by decide +kernel
theorem dX8_tellsOf_62 : decode cX8_tellsOf 62 = .ok (.aload_n 0, 1) := by decide +kernel
theorem dX8_tellsOf_63 : decode cX8_tellsOf 63 = .ok (.getfield 69, 3) := by decide +kernel
theorem dX8_tellsOf_66 : decode cX8_tellsOf 66 = .ok (.iadd, 1) := by decide +kernel
theorem dX8_tellsOf_67 : decode cX8_tellsOf 67 = .ok (.goto 5, 3) := by decide +kernel
theorem dX8_tellsOf_70 : decode cX8_tellsOf 70 = .ok (.iload 4, 2) := by decide +kernel
theorem dX8_tellsOf_72 : decode cX8_tellsOf 72 = .ok (.ireturn, 1) := by decide +kernel
theorem dX8_actOf_0 : decode cX8_actOf 0 = .ok (.aload_n 0, 1) := by decide +kernel
theorem dX8_actOf_1 : decode cX8_actOf 1 = .ok (.getfield 16, 3) := by decide +kernel
theorem dX8_actOf_4 : decode cX8_actOf 4 = .ok (.iconst 5, 1) := by decide +kernel
theorem dX8_actOf_5 : decode cX8_actOf 5 = .ok (.iload_n 1, 1) := by decide +kernel
theorem dX8_actOf_6 : decode cX8_actOf 6 = .ok (.imul, 1) := by decide +kernel
theorem dX8_actOf_7 : decode cX8_actOf 7 = .ok (.iconst 4, 1) := by decide +kernel
theorem dX8_actOf_8 : decode cX8_actOf 8 = .ok (.iadd, 1) := by decide +kernel
theorem dX8_actOf_9 : decode cX8_actOf 9 = .ok (.iaload, 1) := by decide +kernel
theorem dX8_actOf_10 : decode cX8_actOf 10 = .ok (.iconst 1, 1) := by decide +kernel
theorem dX8_actOf_11 : decode cX8_actOf 11 = .ok (.if_icmp .ne 5, 3) := by decide +kernel
theorem dX8_actOf_14 : decode cX8_actOf 14 = .ok (.iconst 0, 1) := by decide +kernel
theorem dX8_actOf_15 : decode cX8_actOf 15 = .ok (.ireturn, 1) := by decide +kernel
theorem dX8_actOf_16 : decode cX8_actOf 16 = .ok (.aload_n 0, 1) := by decide +kernel
theorem dX8_actOf_17 : decode cX8_actOf 17 = .ok (.iload_n 1, 1) := by decide +kernel
theorem dX8_actOf_18 : decode cX8_actOf 18 = .ok (.invokevirtual 167, 3) := by decide +kernel
theorem dX8_actOf_21 : decode cX8_actOf 21 = .ok (.istore_n 2, 1) := by decide +kernel
theorem dX8_actOf_22 : decode cX8_actOf 22 = .ok (.iconst 0, 1) := by decide +kernel
theorem dX8_actOf_23 : decode cX8_actOf 23 = .ok (.istore_n 3, 1) := by decide +kernel
theorem dX8_actOf_24 : decode cX8_actOf 24 = .ok (.iload_n 3, 1) := by decide +kernel
theorem dX8_actOf_25 : decode cX8_actOf 25 = .ok (.bipush 10, 2) := by decide +kernel
theorem dX8_actOf_27 : decode cX8_actOf 27 = .ok (.if_icmp .ge 19, 3) := by decide +kernel
theorem dX8_actOf_30 : decode cX8_actOf 30 = .ok (.iload_n 2, 1) := by decide +kernel
theorem dX8_actOf_31 : decode cX8_actOf 31 = .ok (.iload_n 3, 1) := by decide +kernel
theorem dX8_actOf_32 : decode cX8_actOf 32 = .ok (.ishr, 1) := by decide +kernel
theorem dX8_actOf_33 : decode cX8_actOf 33 = .ok (.iconst 1, 1) := by decide +kernel
theorem dX8_actOf_34 : decode cX8_actOf 34 = .ok (.iand, 1) := by decide +kernel
theorem dX8_actOf_35 : decode cX8_actOf 35 = .ok (.ifCond .ne 5, 3) := by decide +kernel
theorem dX8_actOf_38 : decode cX8_actOf 38 = .ok (.iload_n 3, 1) := by decide +kernel
theorem dX8_actOf_39 : decode cX8_actOf 39 = .ok (.ireturn, 1) := by decide +kernel
theorem dX8_actOf_40 : decode cX8_actOf 40 = .ok (.iinc 3 1, 3) := by decide +kernel
theorem dX8_actOf_43 : decode cX8_actOf 43 = .ok (.goto (-19), 3) := by decide +kernel
theorem dX8_actOf_46 : decode cX8_actOf 46 = .ok (.iconst (-1), 1) := by decide +kernel
theorem dX8_actOf_47 : decode cX8_actOf 47 = .ok (.ireturn, 1) := by decide +kernel
theorem dX8_isStuck_0 : decode cX8_isStuck 0 = .ok (.aload_n 0, 1) := by decide +kernel
theorem dX8_isStuck_1 : decode cX8_isStuck 1 = .ok (.iload_n 1, 1) := by decide +kernel
theorem dX8_isStuck_2 : decode cX8_isStuck 2 = .ok (.invokevirtual 170, 3) := by decide +kernel
theorem dX8_isStuck_5 : decode cX8_isStuck 5 = .ok (.iconst (-1), 1) := by decide +kernel
theorem dX8_isStuck_6 : decode cX8_isStuck 6 = .ok (.if_icmp .ne 7, 3) := by decide +kernel
theorem dX8_isStuck_9 : decode cX8_isStuck 9 = .ok (.iconst 1, 1) := by decide +kernel
theorem dX8_isStuck_10 : decode cX8_isStuck 10 = .ok (.goto 4, 3) := by decide +kernel
theorem dX8_isStuck_13 : decode cX8_isStuck 13 = .ok (.iconst 0, 1) := by decide +kernel
theorem dX8_isStuck_14 : decode cX8_isStuck 14 = .ok (.ireturn, 1) := by decide +kernel
theorem dX8_stuckSet_0 : decode cX8_stuckSet 0 = .ok (.iconst 0, 1) := by decide +kernel
theorem dX8_stuckSet_1 : decode cX8_stuckSet 1 = .ok (.istore_n 1, 1) := by decide +kernel
theorem dX8_stuckSet_2 : decode cX8_stuckSet 2 = .ok (.iconst 0, 1) := by decide +kernel
theorem dX8_stuckSet_3 : decode cX8_stuckSet 3 = .ok (.istore_n 2, 1) := by decide +kernel
theorem dX8_stuckSet_4 : decode cX8_stuckSet 4 = .ok (.iload_n 2, 1) := by decide +kernel
theorem dX8_stuckSet_5 : decode cX8_stuckSet 5 = .ok (.aload_n 0, 1) := by decide +kernel
theorem dX8_stuckSet_6 : decode cX8_stuckSet 6 = .ok (.getfield 69, 3) := by decide +kernel
theorem dX8_stuckSet_9 : decode cX8_stuckSet 9 = .ok (.if_icmp .ge 27, 3) := by decide +kernel
theorem dX8_stuckSet_12 : decode cX8_stuckSet 12 = .ok (.iload_n 1, 1) := by decide +kernel
theorem dX8_stuckSet_13 : decode cX8_stuckSet 13 = .ok (.aload_n 0, 1) := by decide +kernel
theorem dX8_stuckSet_14 : decode cX8_stuckSet 14 = .ok (.iload_n 2, 1) := by decide +kernel
theorem dX8_stuckSet_15 : decode cX8_stuckSet 15 = .ok (.invokevirtual 173, 3) := by decide +kernel
theorem dX8_stuckSet_18 : decode cX8_stuckSet 18 = .ok (.ifCond .eq 9, 3) := by decide +kernel
theorem dX8_stuckSet_21 : decode cX8_stuckSet 21 = .ok (.iconst 1, 1) := by decide +kernel
theorem dX8_stuckSet_22 : decode cX8_stuckSet 22 = .ok (.iload_n 2, 1) := by decide +kernel
theorem dX8_stuckSet_23 : decode cX8_stuckSet 23 = .ok (.ishl, 1) := by decide +kernel
theorem dX8_stuckSet_24 : decode cX8_stuckSet 24 = .ok (.goto 4, 3) := by decide +kernel
theorem dX8_stuckSet_27 : decode cX8_stuckSet 27 = .ok (.iconst 0, 1) := by decide +kernel
theorem dX8_stuckSet_28 : decode cX8_stuckSet 28 = .ok (.ior, 1) := by decide +kernel
theorem dX8_stuckSet_29 : decode cX8_stuckSet 29 = .ok (.istore_n 1, 1) := by decide +kernel
theorem dX8_stuckSet_30 : decode cX8_stuckSet 30 = .ok (.iinc 2 1, 3) := by decide +kernel
theorem dX8_stuckSet_33 : decode cX8_stuckSet 33 = .ok (.goto (-29), 3) := by decide +kernel
theorem dX8_stuckSet_36 : decode cX8_stuckSet 36 = .ok (.iload_n 1, 1) := by decide +kernel
theorem dX8_stuckSet_37 : decode cX8_stuckSet 37 = .ok (.ireturn, 1) := by decide +kernel
theorem dX8_told_0 : decode cX8_told 0 = .ok (.aload_n 0, 1) := by decide +kernel
theorem dX8_told_1 : decode cX8_told 1 = .ok (.iload_n 1, 1) := by decide +kernel
theorem dX8_told_2 : decode cX8_told 2 = .ok (.invokevirtual 161, 3) := by decide +kernel
theorem dX8_told_5 : decode cX8_told 5 = .ok (.ifCond .ne 6, 3) := by decide +kernel
theorem dX8_told_8 : decode cX8_told 8 = .ok (.bipush (-5), 2) := by decide +kernel
theorem dX8_told_10 : decode cX8_told 10 = .ok (.ireturn, 1) := by decide +kernel
theorem dX8_told_11 : decode cX8_told 11 = .ok (.iload_n 2, 1) := by decide +kernel
theorem dX8_told_12 : decode cX8_told 12 = .ok (.tableswitch 107 0 9 #[56, 56, 56, 56, 56, 67, 74, 81, 87, 101], 56) := by decide +kernel
theorem dX8_told_68 : decode cX8_told 68 = .ok (.aload_n 0, 1) := by decide +kernel
theorem dX8_told_69 : decode cX8_told 69 = .ok (.getfield 16, 3) := by decide +kernel
theorem dX8_told_72 : decode cX8_told 72 = .ok (.iconst 5, 1) := by decide +kernel
theorem dX8_told_73 : decode cX8_told 73 = .ok (.iload_n 1, 1) := by decide +kernel
theorem dX8_told_74 : decode cX8_told 74 = .ok (.imul, 1) := by decide +kernel
theorem dX8_told_75 : decode cX8_told 75 = .ok (.iload_n 2, 1) := by decide +kernel
theorem dX8_told_76 : decode cX8_told 76 = .ok (.iadd, 1) := by decide +kernel
theorem dX8_told_77 : decode cX8_told 77 = .ok (.iaload, 1) := by decide +kernel
theorem dX8_told_78 : decode cX8_told 78 = .ok (.ireturn, 1) := by decide +kernel
theorem dX8_told_79 : decode cX8_told 79 = .ok (.aload_n 0, 1) := by decide +kernel
theorem dX8_told_80 : decode cX8_told 80 = .ok (.getfield 7, 3) := by decide +kernel
theorem dX8_told_83 : decode cX8_told 83 = .ok (.iload_n 1, 1) := by decide +kernel
theorem dX8_told_84 : decode cX8_told 84 = .ok (.iaload, 1) := by decide +kernel
theorem dX8_told_85 : decode cX8_told 85 = .ok (.ireturn, 1) := by decide +kernel
theorem dX8_told_86 : decode cX8_told 86 = .ok (.aload_n 0, 1) := by decide +kernel
theorem dX8_told_87 : decode cX8_told 87 = .ok (.getfield 13, 3) := by decide +kernel
theorem dX8_told_90 : decode cX8_told 90 = .ok (.iload_n 1, 1) := by decide +kernel
theorem dX8_told_91 : decode cX8_told 91 = .ok (.iaload, 1) := by decide +kernel
theorem dX8_told_92 : decode cX8_told 92 = .ok (.ireturn, 1) := by decide +kernel
theorem dX8_told_93 : decode cX8_told 93 = .ok (.aload_n 0, 1) := by decide +kernel
theorem dX8_told_94 : decode cX8_told 94 = .ok (.iload_n 1, 1) := by decide +kernel
theorem dX8_told_95 : decode cX8_told 95 = .ok (.invokevirtual 170, 3) := by decide +kernel
theorem dX8_told_98 : decode cX8_told 98 = .ok (.ireturn, 1) := by decide +kernel
theorem dX8_told_99 : decode cX8_told 99 = .ok (.aload_n 0, 1) := by decide +kernel
theorem dX8_told_100 : decode cX8_told 100 = .ok (.iload_n 1, 1) := by decide +kernel
theorem dX8_told_101 : decode cX8_told 101 = .ok (.invokevirtual 173, 3) := by decide +kernel
theorem dX8_told_104 : decode cX8_told 104 = .ok (.ifCond .eq 7, 3) := by decide +kernel
theorem dX8_told_107 : decode cX8_told 107 = .ok (.iconst 1, 1) := by decide +kernel
theorem dX8_told_108 : decode cX8_told 108 = .ok (.goto 4, 3) := by decide +kernel
theorem dX8_told_111 : decode cX8_told 111 = .ok (.iconst 0, 1) := by decide +kernel
theorem dX8_told_112 : decode cX8_told 112 = .ok (.ireturn, 1) := by decide +kernel
theorem dX8_told_113 : decode cX8_told 113 = .ok (.aload_n 0, 1) := by decide +kernel
theorem dX8_told_114 : decode cX8_told 114 = .ok (.iload_n 1, 1) := by decide +kernel
theorem dX8_told_115 : decode cX8_told 115 = .ok (.invokevirtual 176, 3) := by decide +kernel
theorem dX8_told_118 : decode cX8_told 118 = .ok (.ireturn, 1) := by decide +kernel
theorem dX8_told_119 : decode cX8_told 119 = .ok (.bipush (-7), 2) := by decide +kernel
theorem dX8_told_121 : decode cX8_told 121 = .ok (.ireturn, 1) := by decide +kernel
theorem dX8_manners_0 : decode cX8_manners 0 = .ok (.aload_n 0, 1) := by decide +kernel
theorem dX8_manners_1 : decode cX8_manners 1 = .ok (.iload_n 1, 1) := by decide +kernel
theorem dX8_manners_2 : decode cX8_manners 2 = .ok (.invokevirtual 161, 3) := by decide +kernel
theorem dX8_manners_5 : decode cX8_manners 5 = .ok (.ifCond .ne 6, 3) := by decide +kernel
theorem dX8_manners_8 : decode cX8_manners 8 = .ok (.bipush (-5), 2) := by decide +kernel
theorem dX8_manners_10 : decode cX8_manners 10 = .ok (.ireturn, 1) := by decide +kernel
theorem dX8_manners_11 : decode cX8_manners 11 = .ok (.iload_n 2, 1) := by decide +kernel
theorem dX8_manners_12 : decode cX8_manners 12 = .ok (.iconst 0, 1) := by decide +kernel
theorem dX8_manners_13 : decode cX8_manners 13 = .ok (.bipush 9, 2) := by decide +kernel
theorem dX8_manners_15 : decode cX8_manners 15 = .ok (.invokestatic 72, 3) := by decide +kernel
theorem dX8_manners_18 : decode cX8_manners 18 = .ok (.ifCond .ne 6, 3) := by decide +kernel
theorem dX8_manners_21 : decode cX8_manners 21 = .ok (.bipush (-6), 2) := by decide +kernel
theorem dX8_manners_23 : decode cX8_manners 23 = .ok (.ireturn, 1) := by decide +kernel
theorem dX8_manners_24 : decode cX8_manners 24 = .ok (.iload_n 3, 1) := by decide +kernel
theorem dX8_manners_25 : decode cX8_manners 25 = .ok (.ifCond .ne 17, 3) := by decide +kernel
theorem dX8_manners_28 : decode cX8_manners 28 = .ok (.iconst 1, 1) := by decide +kernel
theorem dX8_manners_29 : decode cX8_manners 29 = .ok (.aload_n 0, 1) := by decide +kernel
theorem dX8_manners_30 : decode cX8_manners 30 = .ok (.iload_n 1, 1) := by decide +kernel
theorem dX8_manners_31 : decode cX8_manners 31 = .ok (.invokevirtual 167, 3) := by decide +kernel
theorem dX8_manners_34 : decode cX8_manners 34 = .ok (.iload_n 2, 1) := by decide +kernel
theorem dX8_manners_35 : decode cX8_manners 35 = .ok (.ishr, 1) := by decide +kernel
theorem dX8_manners_36 : decode cX8_manners 36 = .ok (.iconst 1, 1) := by decide +kernel
theorem dX8_manners_37 : decode cX8_manners 37 = .ok (.iand, 1) := by decide +kernel
theorem dX8_manners_38 : decode cX8_manners 38 = .ok (.isub, 1) := by decide +kernel
theorem dX8_manners_39 : decode cX8_manners 39 = .ok (.goto 19, 3) := by decide +kernel
theorem dX8_manners_42 : decode cX8_manners 42 = .ok (.iload_n 3, 1) := by decide +kernel
theorem dX8_manners_43 : decode cX8_manners 43 = .ok (.iconst 1, 1) := by decide +kernel
theorem dX8_manners_44 : decode cX8_manners 44 = .ok (.if_icmp .ne 12, 3) := by decide +kernel
theorem dX8_manners_47 : decode cX8_manners 47 = .ok (.aload_n 0, 1) := by decide +kernel
theorem dX8_manners_48 : decode cX8_manners 48 = .ok (.iload_n 1, 1) := by decide +kernel
theorem dX8_manners_49 : decode cX8_manners 49 = .ok (.iload_n 2, 1) := by decide +kernel
theorem dX8_manners_50 : decode cX8_manners 50 = .ok (.invokevirtual 179, 3) := by decide +kernel
theorem dX8_manners_53 : decode cX8_manners 53 = .ok (.goto 5, 3) := by decide +kernel
theorem dX8_manners_56 : decode cX8_manners 56 = .ok (.bipush (-7), 2) := by decide +kernel
theorem dX8_manners_58 : decode cX8_manners 58 = .ok (.ireturn, 1) := by decide +kernel
theorem dX8_ateAll_0 : decode cX8_ateAll 0 = .ok (.iconst 0, 1) := by decide +kernel
theorem dX8_ateAll_1 : decode cX8_ateAll 1 = .ok (.istore_n 1, 1) := by decide +kernel
theorem dX8_ateAll_2 : decode cX8_ateAll 2 = .ok (.iconst 0, 1) := by decide +kernel
theorem dX8_ateAll_3 : decode cX8_ateAll 3 = .ok (.istore_n 2, 1) := by decide +kernel
theorem dX8_ateAll_4 : decode cX8_ateAll 4 = .ok (.iload_n 2, 1) := by decide +kernel
theorem dX8_ateAll_5 : decode cX8_ateAll 5 = .ok (.aload_n 0, 1) := by decide +kernel
theorem dX8_ateAll_6 : decode cX8_ateAll 6 = .ok (.getfield 69, 3) := by decide +kernel
theorem dX8_ateAll_9 : decode cX8_ateAll 9 = .ok (.if_icmp .ge 22, 3) := by decide +kernel
theorem dX8_ateAll_12 : decode cX8_ateAll 12 = .ok (.iload_n 1, 1) := by decide +kernel
theorem dX8_ateAll_13 : decode cX8_ateAll 13 = .ok (.aload_n 0, 1) := by decide +kernel
theorem dX8_ateAll_14 : decode cX8_ateAll 14 = .ok (.getfield 16, 3) := by decide +kernel
theorem dX8_ateAll_17 : decode cX8_ateAll 17 = .ok (.iconst 5, 1) := by decide +kernel
theorem dX8_ateAll_18 : decode cX8_ateAll 18 = .ok (.iload_n 2, 1) := by decide +kernel
theorem dX8_ateAll_19 : decode cX8_ateAll 19 = .ok (.imul, 1) := by decide +kernel
theorem dX8_ateAll_20 : decode cX8_ateAll 20 = .ok (.iconst 3, 1) := by decide +kernel
theorem dX8_ateAll_21 : decode cX8_ateAll 21 = .ok (.iadd, 1) := by decide +kernel
theorem dX8_ateAll_22 : decode cX8_ateAll 22 = .ok (.iaload, 1) := by decide +kernel
theorem dX8_ateAll_23 : decode cX8_ateAll 23 = .ok (.iadd, 1) := by decide +kernel
theorem dX8_ateAll_24 : decode cX8_ateAll 24 = .ok (.istore_n 1, 1) := by decide +kernel
theorem dX8_ateAll_25 : decode cX8_ateAll 25 = .ok (.iinc 2 1, 3) := by decide +kernel
theorem dX8_ateAll_28 : decode cX8_ateAll 28 = .ok (.goto (-24), 3) := by decide +kernel
theorem dX8_ateAll_31 : decode cX8_ateAll 31 = .ok (.iload_n 1, 1) := by decide +kernel
theorem dX8_ateAll_32 : decode cX8_ateAll 32 = .ok (.ireturn, 1) := by decide +kernel
theorem dX8_dinner_0 : decode cX8_dinner 0 = .ok (.iconst 0, 1) := by decide +kernel
theorem dX8_dinner_1 : decode cX8_dinner 1 = .ok (.istore_n 2, 1) := by decide +kernel
theorem dX8_dinner_2 : decode cX8_dinner 2 = .ok (.iconst 0, 1) := by decide +kernel
theorem dX8_dinner_3 : decode cX8_dinner 3 = .ok (.istore_n 3, 1) := by decide +kernel
theorem dX8_dinner_4 : decode cX8_dinner 4 = .ok (.sipush 1023, 3) := by decide +kernel
theorem dX8_dinner_7 : decode cX8_dinner 7 = .ok (.istore 4, 2) := by decide +kernel
theorem dX8_dinner_9 : decode cX8_dinner 9 = .ok (.iconst 0, 1) := by decide +kernel
theorem dX8_dinner_10 : decode cX8_dinner 10 = .ok (.istore 5, 2) := by decide +kernel
theorem dX8_dinner_12 : decode cX8_dinner 12 = .ok (.iload 5, 2) := by decide +kernel
theorem dX8_dinner_14 : decode cX8_dinner 14 = .ok (.aload_n 0, 1) := by decide +kernel
theorem dX8_dinner_15 : decode cX8_dinner 15 = .ok (.getfield 69, 3) := by decide +kernel
theorem dX8_dinner_18 : decode cX8_dinner 18 = .ok (.if_icmp .ge 52, 3) := by decide +kernel
theorem dX8_dinner_21 : decode cX8_dinner 21 = .ok (.iload_n 2, 1) := by decide +kernel
theorem dX8_dinner_22 : decode cX8_dinner 22 = .ok (.aload_n 0, 1) := by decide +kernel
theorem dX8_dinner_23 : decode cX8_dinner 23 = .ok (.getfield 16, 3) := by decide +kernel
theorem dX8_dinner_26 : decode cX8_dinner 26 = .ok (.iconst 5, 1) := by decide +kernel
theorem dX8_dinner_27 : decode cX8_dinner 27 = .ok (.iload 5, 2) := by decide +kernel
theorem dX8_dinner_29 : decode cX8_dinner 29 = .ok (.imul, 1) := by decide +kernel
theorem dX8_dinner_30 : decode cX8_dinner 30 = .ok (.iconst 4, 1) := by decide +kernel
theorem dX8_dinner_31 : decode cX8_dinner 31 = .ok (.iadd, 1) := by decide +kernel
theorem dX8_dinner_32 : decode cX8_dinner 32 = .ok (.iaload, 1) := by decide +kernel
theorem dX8_dinner_33 : decode cX8_dinner 33 = .ok (.iload 5, 2) := by decide +kernel
theorem dX8_dinner_35 : decode cX8_dinner 35 = .ok (.ishl, 1) := by decide +kernel
theorem dX8_dinner_36 : decode cX8_dinner 36 = .ok (.ior, 1) := by decide +kernel
theorem dX8_dinner_37 : decode cX8_dinner 37 = .ok (.istore_n 2, 1) := by decide +kernel
theorem dX8_dinner_38 : decode cX8_dinner 38 = .ok (.sipush 1023, 3) := by decide +kernel
theorem dX8_dinner_41 : decode cX8_dinner 41 = .ok (.aload_n 0, 1) := by decide +kernel
theorem dX8_dinner_42 : decode cX8_dinner 42 = .ok (.iload 5, 2) := by decide +kernel
theorem dX8_dinner_44 : decode cX8_dinner 44 = .ok (.invokevirtual 167, 3) := by decide +kernel
theorem dX8_dinner_47 : decode cX8_dinner 47 = .ok (.iconst (-1), 1) := by decide +kernel
theorem dX8_dinner_48 : decode cX8_dinner 48 = .ok (.ixor, 1) := by decide +kernel
theorem dX8_dinner_49 : decode cX8_dinner 49 = .ok (.iand, 1) := by decide +kernel
theorem dX8_dinner_50 : decode cX8_dinner 50 = .ok (.istore 6, 2) := by decide +kernel
theorem dX8_dinner_52 : decode cX8_dinner 52 = .ok (.iload_n 3, 1) := by decide +kernel
theorem dX8_dinner_53 : decode cX8_dinner 53 = .ok (.iload 6, 2) := by decide +kernel
theorem dX8_dinner_55 : decode cX8_dinner 55 = .ok (.ior, 1) := by decide +kernel
theorem dX8_dinner_56 : decode cX8_dinner 56 = .ok (.istore_n 3, 1) := by decide +kernel
theorem dX8_dinner_57 : decode cX8_dinner 57 = .ok (.iload 4, 2) := by decide +kernel
theorem dX8_dinner_59 : decode cX8_dinner 59 = .ok (.iload 6, 2) := by decide +kernel
theorem dX8_dinner_61 : decode cX8_dinner 61 = .ok (.iand, 1) := by decide +kernel
theorem dX8_dinner_62 : decode cX8_dinner 62 = .ok (.istore 4, 2) := by decide +kernel
theorem dX8_dinner_64 : decode cX8_dinner 64 = .ok (.iinc 5 1, 3) := by decide +kernel
theorem dX8_dinner_67 : decode cX8_dinner 67 = .ok (.goto (-55), 3) := by decide +kernel
theorem dX8_dinner_70 : decode cX8_dinner 70 = .ok (.iload_n 1, 1) := by decide +kernel
theorem dX8_dinner_71 : decode cX8_dinner 71 = .ok (.tableswitch 50 0 4 #[33, 38, 40, 42, 45], 33) := by decide +kernel
theorem dX8_dinner_104 : decode cX8_dinner 104 = .ok (.aload_n 0, 1) := by decide +kernel
theorem dX8_dinner_105 : decode cX8_dinner 105 = .ok (.invokevirtual 79, 3) := by decide +kernel
theorem dX8_dinner_108 : decode cX8_dinner 108 = .ok (.ireturn, 1) := by decide +kernel
theorem dX8_dinner_109 : decode cX8_dinner 109 = .ok (.iload_n 2, 1) := by decide +kernel
theorem dX8_dinner_110 : decode cX8_dinner 110 = .ok (.ireturn, 1) := by decide +kernel
theorem dX8_dinner_111 : decode cX8_dinner 111 = .ok (.iload_n 3, 1) := by decide +kernel
theorem dX8_dinner_112 : decode cX8_dinner 112 = .ok (.ireturn, 1) := by decide +kernel
theorem dX8_dinner_113 : decode cX8_dinner 113 = .ok (.iload 4, 2) := by decide +kernel
theorem dX8_dinner_115 : decode cX8_dinner 115 = .ok (.ireturn, 1) := by decide +kernel
theorem dX8_dinner_116 : decode cX8_dinner 116 = .ok (.aload_n 0, 1) := by decide +kernel
theorem dX8_dinner_117 : decode cX8_dinner 117 = .ok (.invokevirtual 182, 3) := by decide +kernel
theorem dX8_dinner_120 : decode cX8_dinner 120 = .ok (.ireturn, 1) := by decide +kernel
theorem dX8_dinner_121 : decode cX8_dinner 121 = .ok (.bipush (-2), 2) := by decide +kernel
theorem dX8_dinner_123 : decode cX8_dinner 123 = .ok (.ireturn, 1) := by decide +kernel
theorem dX8_doesAct_0 : decode cX8_doesAct 0 = .ok (.aload_n 0, 1) := by decide +kernel
theorem dX8_doesAct_1 : decode cX8_doesAct 1 = .ok (.iload_n 1, 1) := by decide +kernel
theorem dX8_doesAct_2 : decode cX8_doesAct 2 = .ok (.invokevirtual 170, 3) := by decide +kernel
theorem dX8_doesAct_5 : decode cX8_doesAct 5 = .ok (.istore_n 2, 1) := by decide +kernel
theorem dX8_doesAct_6 : decode cX8_doesAct 6 = .ok (.iload_n 2, 1) := by decide +kernel
theorem dX8_doesAct_7 : decode cX8_doesAct 7 = .ok (.iconst (-1), 1) := by decide +kernel
theorem dX8_doesAct_8 : decode cX8_doesAct 8 = .ok (.if_icmp .eq 91, 3) := by decide +kernel
theorem dX8_doesAct_11 : decode cX8_doesAct 11 = .ok (.aload_n 0, 1) := by decide +kernel
theorem dX8_doesAct_12 : decode cX8_doesAct 12 = .ok (.iload_n 1, 1) := by decide +kernel
theorem dX8_doesAct_13 : decode cX8_doesAct 13 = .ok (.iload_n 2, 1) := by decide +kernel
theorem dX8_doesAct_14 : decode cX8_doesAct 14 = .ok (.invokevirtual 179, 3) := by decide +kernel
theorem dX8_doesAct_17 : decode cX8_doesAct 17 = .ok (.istore_n 3, 1) := by decide +kernel
theorem dX8_doesAct_18 : decode cX8_doesAct 18 = .ok (.aload_n 0, 1) := by decide +kernel
theorem dX8_doesAct_19 : decode cX8_doesAct 19 = .ok (.iload_n 1, 1) := by decide +kernel
theorem dX8_doesAct_20 : decode cX8_doesAct 20 = .ok (.invokevirtual 176, 3) := by decide +kernel
theorem dX8_doesAct_23 : decode cX8_doesAct 23 = .ok (.istore 4, 2) := by decide +kernel
theorem dX8_doesAct_25 : decode cX8_doesAct 25 = .ok (.aload_n 0, 1) := by decide +kernel
theorem dX8_doesAct_26 : decode cX8_doesAct 26 = .ok (.getfield 16, 3) := by decide +kernel
theorem dX8_doesAct_29 : decode cX8_doesAct 29 = .ok (.iconst 5, 1) := by decide +kernel
theorem dX8_doesAct_30 : decode cX8_doesAct 30 = .ok (.iload_n 1, 1) := by decide +kernel
theorem dX8_doesAct_31 : decode cX8_doesAct 31 = .ok (.imul, 1) := by decide +kernel
theorem dX8_doesAct_32 : decode cX8_doesAct 32 = .ok (.iconst 3, 1) := by decide +kernel
theorem dX8_doesAct_33 : decode cX8_doesAct 33 = .ok (.iadd, 1) := by decide +kernel
theorem dX8_doesAct_34 : decode cX8_doesAct 34 = .ok (.aload_n 0, 1) := by decide +kernel
theorem dX8_doesAct_35 : decode cX8_doesAct 35 = .ok (.getfield 16, 3) := by decide +kernel
theorem dX8_doesAct_38 : decode cX8_doesAct 38 = .ok (.iconst 5, 1) := by decide +kernel
theorem dX8_doesAct_39 : decode cX8_doesAct 39 = .ok (.iload_n 1, 1) := by decide +kernel
theorem dX8_doesAct_40 : decode cX8_doesAct 40 = .ok (.imul, 1) := by decide +kernel
theorem dX8_doesAct_41 : decode cX8_doesAct 41 = .ok (.iconst 3, 1) := by decide +kernel
theorem dX8_doesAct_42 : decode cX8_doesAct 42 = .ok (.iadd, 1) := by decide +kernel
theorem dX8_doesAct_43 : decode cX8_doesAct 43 = .ok (.iaload, 1) := by decide +kernel
theorem dX8_doesAct_44 : decode cX8_doesAct 44 = .ok (.iload_n 3, 1) := by decide +kernel
theorem dX8_doesAct_45 : decode cX8_doesAct 45 = .ok (.iadd, 1) := by decide +kernel
theorem dX8_doesAct_46 : decode cX8_doesAct 46 = .ok (.iconst 0, 1) := by decide +kernel
theorem dX8_doesAct_47 : decode cX8_doesAct 47 = .ok (.bipush 99, 2) := by decide +kernel
theorem dX8_doesAct_49 : decode cX8_doesAct 49 = .ok (.invokestatic 158, 3) := by decide +kernel
theorem dX8_doesAct_52 : decode cX8_doesAct 52 = .ok (.iastore, 1) := by decide +kernel
theorem dX8_doesAct_53 : decode cX8_doesAct 53 = .ok (.aload_n 0, 1) := by decide +kernel
theorem dX8_doesAct_54 : decode cX8_doesAct 54 = .ok (.getfield 16, 3) := by decide +kernel
theorem dX8_doesAct_57 : decode cX8_doesAct 57 = .ok (.iconst 5, 1) := by decide +kernel
theorem dX8_doesAct_58 : decode cX8_doesAct 58 = .ok (.iload_n 1, 1) := by decide +kernel
theorem dX8_doesAct_59 : decode cX8_doesAct 59 = .ok (.imul, 1) := by decide +kernel
theorem dX8_doesAct_60 : decode cX8_doesAct 60 = .ok (.dup2, 1) := by decide +kernel
theorem dX8_doesAct_61 : decode cX8_doesAct 61 = .ok (.iaload, 1) := by decide +kernel
theorem dX8_doesAct_62 : decode cX8_doesAct 62 = .ok (.iconst 1, 1) := by decide +kernel
theorem dX8_doesAct_63 : decode cX8_doesAct 63 = .ok (.iload_n 2, 1) := by decide +kernel
theorem dX8_doesAct_64 : decode cX8_doesAct 64 = .ok (.ishl, 1) := by decide +kernel
theorem dX8_doesAct_65 : decode cX8_doesAct 65 = .ok (.ior, 1) := by decide +kernel
theorem dX8_doesAct_66 : decode cX8_doesAct 66 = .ok (.iastore, 1) := by decide +kernel
theorem dX8_doesAct_67 : decode cX8_doesAct 67 = .ok (.aload_n 0, 1) := by decide +kernel
theorem dX8_doesAct_68 : decode cX8_doesAct 68 = .ok (.getfield 16, 3) := by decide +kernel
theorem dX8_doesAct_71 : decode cX8_doesAct 71 = .ok (.iconst 5, 1) := by decide +kernel
theorem dX8_doesAct_72 : decode cX8_doesAct 72 = .ok (.iload_n 1, 1) := by decide +kernel
theorem dX8_doesAct_73 : decode cX8_doesAct 73 = .ok (.imul, 1) := by decide +kernel
theorem dX8_doesAct_74 : decode cX8_doesAct 74 = .ok (.iconst 4, 1) := by decide +kernel
theorem dX8_doesAct_75 : decode cX8_doesAct 75 = .ok (.iadd, 1) := by decide +kernel
theorem dX8_doesAct_76 : decode cX8_doesAct 76 = .ok (.iconst 0, 1) := by decide +kernel
theorem dX8_doesAct_77 : decode cX8_doesAct 77 = .ok (.iastore, 1) := by decide +kernel
theorem dX8_doesAct_78 : decode cX8_doesAct 78 = .ok (.iload 4, 2) := by decide +kernel
theorem dX8_doesAct_80 : decode cX8_doesAct 80 = .ok (.iload_n 1, 1) := by decide +kernel
theorem dX8_doesAct_81 : decode cX8_doesAct 81 = .ok (.if_icmp .eq 18, 3) := by decide +kernel
theorem dX8_doesAct_84 : decode cX8_doesAct 84 = .ok (.aload_n 0, 1) := by decide +kernel
theorem dX8_doesAct_85 : decode cX8_doesAct 85 = .ok (.getfield 16, 3) := by decide +kernel
theorem dX8_doesAct_88 : decode cX8_doesAct 88 = .ok (.iconst 5, 1) := by decide +kernel
theorem dX8_doesAct_89 : decode cX8_doesAct 89 = .ok (.iload 4, 2) := by decide +kernel
theorem dX8_doesAct_91 : decode cX8_doesAct 91 = .ok (.imul, 1) := by decide +kernel
theorem dX8_doesAct_92 : decode cX8_doesAct 92 = .ok (.dup2, 1) := by decide +kernel
theorem dX8_doesAct_93 : decode cX8_doesAct 93 = .ok (.iaload, 1) := by decide +kernel
theorem dX8_doesAct_94 : decode cX8_doesAct 94 = .ok (.iconst 1, 1) := by decide +kernel
theorem dX8_doesAct_95 : decode cX8_doesAct 95 = .ok (.iload_n 2, 1) := by decide +kernel
theorem dX8_doesAct_96 : decode cX8_doesAct 96 = .ok (.ishl, 1) := by decide +kernel
theorem dX8_doesAct_97 : decode cX8_doesAct 97 = .ok (.ixor, 1) := by decide +kernel
theorem dX8_doesAct_98 : decode cX8_doesAct 98 = .ok (.iastore, 1) := by decide +kernel
theorem dX8_doesAct_99 : decode cX8_doesAct 99 = .ok (.iload_n 2, 1) := by decide +kernel
theorem dX8_doesAct_100 : decode cX8_doesAct 100 = .ok (.ireturn, 1) := by decide +kernel
theorem dX8_minuteOf_0 : decode cX8_minuteOf 0 = .ok (.iconst 0, 1) := by decide +kernel
theorem dX8_minuteOf_1 : decode cX8_minuteOf 1 = .ok (.istore_n 1, 1) := by decide +kernel
theorem dX8_minuteOf_2 : decode cX8_minuteOf 2 = .ok (.iconst 0, 1) := by decide +kernel
theorem dX8_minuteOf_3 : decode cX8_minuteOf 3 = .ok (.istore_n 2, 1) := by decide +kernel
theorem dX8_minuteOf_4 : decode cX8_minuteOf 4 = .ok (.iload_n 2, 1) := by decide +kernel
theorem dX8_minuteOf_5 : decode cX8_minuteOf 5 = .ok (.aload_n 0, 1) := by decide +kernel
theorem dX8_minuteOf_6 : decode cX8_minuteOf 6 = .ok (.getfield 69, 3) := by decide +kernel
theorem dX8_minuteOf_9 : decode cX8_minuteOf 9 = .ok (.if_icmp .ge 52, 3) := by decide +kernel
theorem dX8_minuteOf_12 : decode cX8_minuteOf 12 = .ok (.aload_n 0, 1) := by decide +kernel
theorem dX8_minuteOf_13 : decode cX8_minuteOf 13 = .ok (.iload_n 2, 1) := by decide +kernel
theorem dX8_minuteOf_14 : decode cX8_minuteOf 14 = .ok (.invokevirtual 185, 3) := by decide +kernel
theorem dX8_minuteOf_17 : decode cX8_minuteOf 17 = .ok (.iconst (-1), 1) := by decide +kernel
theorem dX8_minuteOf_18 : decode cX8_minuteOf 18 = .ok (.if_icmp .ne 34, 3) := by decide +kernel
theorem dX8_minuteOf_21 : decode cX8_minuteOf 21 = .ok (.aload_n 0, 1) := by decide +kernel
theorem dX8_minuteOf_22 : decode cX8_minuteOf 22 = .ok (.getfield 16, 3) := by decide +kernel
theorem dX8_minuteOf_25 : decode cX8_minuteOf 25 = .ok (.iconst 5, 1) := by decide +kernel
theorem dX8_minuteOf_26 : decode cX8_minuteOf 26 = .ok (.iload_n 2, 1) := by decide +kernel
theorem dX8_minuteOf_27 : decode cX8_minuteOf 27 = .ok (.imul, 1) := by decide +kernel
theorem dX8_minuteOf_28 : decode cX8_minuteOf 28 = .ok (.iconst 2, 1) := by decide +kernel
theorem dX8_minuteOf_29 : decode cX8_minuteOf 29 = .ok (.iadd, 1) := by decide +kernel
theorem dX8_minuteOf_30 : decode cX8_minuteOf 30 = .ok (.aload_n 0, 1) := by decide +kernel
theorem dX8_minuteOf_31 : decode cX8_minuteOf 31 = .ok (.getfield 16, 3) := by decide +kernel
theorem dX8_minuteOf_34 : decode cX8_minuteOf 34 = .ok (.iconst 5, 1) := by decide +kernel
theorem dX8_minuteOf_35 : decode cX8_minuteOf 35 = .ok (.iload_n 2, 1) := by decide +kernel
theorem dX8_minuteOf_36 : decode cX8_minuteOf 36 = .ok (.imul, 1) := by decide +kernel
theorem dX8_minuteOf_37 : decode cX8_minuteOf 37 = .ok (.iconst 2, 1) := by decide +kernel
theorem dX8_minuteOf_38 : decode cX8_minuteOf 38 = .ok (.iadd, 1) := by decide +kernel
theorem dX8_minuteOf_39 : decode cX8_minuteOf 39 = .ok (.iaload, 1) := by decide +kernel
theorem dX8_minuteOf_40 : decode cX8_minuteOf 40 = .ok (.iconst 1, 1) := by decide +kernel
theorem dX8_minuteOf_41 : decode cX8_minuteOf 41 = .ok (.iadd, 1) := by decide +kernel
theorem dX8_minuteOf_42 : decode cX8_minuteOf 42 = .ok (.iconst 0, 1) := by decide +kernel
theorem dX8_minuteOf_43 : decode cX8_minuteOf 43 = .ok (.bipush 99, 2) := by decide +kernel
theorem dX8_minuteOf_45 : decode cX8_minuteOf 45 = .ok (.invokestatic 158, 3) := by decide +kernel
theorem dX8_minuteOf_48 : decode cX8_minuteOf 48 = .ok (.iastore, 1) := by decide +kernel
theorem dX8_minuteOf_49 : decode cX8_minuteOf 49 = .ok (.goto 6, 3) := by decide +kernel
theorem dX8_minuteOf_52 : decode cX8_minuteOf 52 = .ok (.iinc 1 1, 3) := by decide +kernel
theorem dX8_minuteOf_55 : decode cX8_minuteOf 55 = .ok (.iinc 2 1, 3) := by decide +kernel
theorem dX8_minuteOf_58 : decode cX8_minuteOf 58 = .ok (.goto (-54), 3) := by decide +kernel
theorem dX8_minuteOf_61 : decode cX8_minuteOf 61 = .ok (.aload_n 0, 1) := by decide +kernel
theorem dX8_minuteOf_62 : decode cX8_minuteOf 62 = .ok (.dup, 1) := by decide +kernel
theorem dX8_minuteOf_63 : decode cX8_minuteOf 63 = .ok (.getfield 76, 3) := by decide +kernel
theorem dX8_minuteOf_66 : decode cX8_minuteOf 66 = .ok (.iconst 1, 1) := by decide +kernel
theorem dX8_minuteOf_67 : decode cX8_minuteOf 67 = .ok (.iadd, 1) := by decide +kernel
theorem dX8_minuteOf_68 : decode cX8_minuteOf 68 = .ok (.putfield 76, 3) := by decide +kernel
theorem dX8_minuteOf_71 : decode cX8_minuteOf 71 = .ok (.iload_n 1, 1) := by decide +kernel
theorem dX8_minuteOf_72 : decode cX8_minuteOf 72 = .ok (.ireturn, 1) := by decide +kernel
theorem dX8_minute_0 : decode cX8_minute 0 = .ok (.aload_n 0, 1) := by decide +kernel
theorem dX8_minute_1 : decode cX8_minute 1 = .ok (.getfield 76, 3) := by decide +kernel
theorem dX8_minute_4 : decode cX8_minute 4 = .ok (.sipush 999, 3) := by decide +kernel
theorem dX8_minute_7 : decode cX8_minute 7 = .ok (.if_icmp .ne 8, 3) := by decide +kernel
theorem dX8_minute_10 : decode cX8_minute 10 = .ok (.bipush (-3), 2) := by decide +kernel
theorem dX8_minute_12 : decode cX8_minute 12 = .ok (.goto 7, 3) := by decide +kernel
theorem dX8_minute_15 : decode cX8_minute 15 = .ok (.aload_n 0, 1) := by decide +kernel
theorem dX8_minute_16 : decode cX8_minute 16 = .ok (.invokevirtual 188, 3) := by decide +kernel
theorem dX8_minute_19 : decode cX8_minute 19 = .ok (.ireturn, 1) := by decide +kernel
theorem dX8_act_0 : decode cX8_act 0 = .ok (.aload_n 0, 1) := by decide +kernel
theorem dX8_act_1 : decode cX8_act 1 = .ok (.iload_n 1, 1) := by decide +kernel
theorem dX8_act_2 : decode cX8_act 2 = .ok (.invokevirtual 161, 3) := by decide +kernel
theorem dX8_act_5 : decode cX8_act 5 = .ok (.ifCond .ne 6, 3) := by decide +kernel
theorem dX8_act_8 : decode cX8_act 8 = .ok (.bipush (-5), 2) := by decide +kernel
theorem dX8_act_10 : decode cX8_act 10 = .ok (.ireturn, 1) := by decide +kernel
theorem dX8_act_11 : decode cX8_act 11 = .ok (.aload_n 0, 1) := by decide +kernel
theorem dX8_act_12 : decode cX8_act 12 = .ok (.iload_n 1, 1) := by decide +kernel
theorem dX8_act_13 : decode cX8_act 13 = .ok (.invokevirtual 185, 3) := by decide +kernel
theorem dX8_act_16 : decode cX8_act 16 = .ok (.istore_n 2, 1) := by decide +kernel
theorem dX8_act_17 : decode cX8_act 17 = .ok (.iload_n 2, 1) := by decide +kernel
theorem dX8_act_18 : decode cX8_act 18 = .ok (.iconst (-1), 1) := by decide +kernel
theorem dX8_act_19 : decode cX8_act 19 = .ok (.if_icmp .ne 8, 3) := by decide +kernel
theorem dX8_act_22 : decode cX8_act 22 = .ok (.bipush (-3), 2) := by decide +kernel
theorem dX8_act_24 : decode cX8_act 24 = .ok (.goto 4, 3) := by decide +kernel
theorem dX8_act_27 : decode cX8_act 27 = .ok (.iload_n 2, 1) := by decide +kernel
theorem dX8_act_28 : decode cX8_act 28 = .ok (.ireturn, 1) := by decide +kernel
theorem dX8_changes_0 : decode cX8_changes 0 = .ok (.aload_n 0, 1) := by decide +kernel
theorem dX8_changes_1 : decode cX8_changes 1 = .ok (.getfield 16, 3) := by decide +kernel
theorem dX8_changes_4 : decode cX8_changes 4 = .ok (.iconst 5, 1) := by decide +kernel
theorem dX8_changes_5 : decode cX8_changes 5 = .ok (.iload_n 1, 1) := by decide +kernel
theorem dX8_changes_6 : decode cX8_changes 6 = .ok (.imul, 1) := by decide +kernel
theorem dX8_changes_7 : decode cX8_changes 7 = .ok (.iaload, 1) := by decide +kernel
theorem dX8_changes_8 : decode cX8_changes 8 = .ok (.istore_n 3, 1) := by decide +kernel
theorem dX8_changes_9 : decode cX8_changes 9 = .ok (.aload_n 0, 1) := by decide +kernel
theorem dX8_changes_10 : decode cX8_changes 10 = .ok (.getfield 16, 3) := by decide +kernel
theorem dX8_changes_13 : decode cX8_changes 13 = .ok (.iconst 5, 1) := by decide +kernel
theorem dX8_changes_14 : decode cX8_changes 14 = .ok (.iload_n 1, 1) := by decide +kernel
theorem dX8_changes_15 : decode cX8_changes 15 = .ok (.imul, 1) := by decide +kernel
theorem dX8_changes_16 : decode cX8_changes 16 = .ok (.aload_n 0, 1) := by decide +kernel
theorem dX8_changes_17 : decode cX8_changes 17 = .ok (.getfield 16, 3) := by decide +kernel
theorem dX8_changes_20 : decode cX8_changes 20 = .ok (.iconst 5, 1) := by decide +kernel
theorem dX8_changes_21 : decode cX8_changes 21 = .ok (.iload_n 2, 1) := by decide +kernel
theorem dX8_changes_22 : decode cX8_changes 22 = .ok (.imul, 1) := by decide +kernel
theorem dX8_changes_23 : decode cX8_changes 23 = .ok (.iaload, 1) := by decide +kernel
theorem dX8_changes_24 : decode cX8_changes 24 = .ok (.iastore, 1) := by decide +kernel
theorem dX8_changes_25 : decode cX8_changes 25 = .ok (.aload_n 0, 1) := by decide +kernel
theorem dX8_changes_26 : decode cX8_changes 26 = .ok (.getfield 16, 3) := by decide +kernel
theorem dX8_changes_29 : decode cX8_changes 29 = .ok (.iconst 5, 1) := by decide +kernel
theorem dX8_changes_30 : decode cX8_changes 30 = .ok (.iload_n 2, 1) := by decide +kernel
theorem dX8_changes_31 : decode cX8_changes 31 = .ok (.imul, 1) := by decide +kernel
theorem dX8_changes_32 : decode cX8_changes 32 = .ok (.iload_n 3, 1) := by decide +kernel
theorem dX8_changes_33 : decode cX8_changes 33 = .ok (.iastore, 1) := by decide +kernel
theorem dX8_changes_34 : decode cX8_changes 34 = .ok (.return_, 1) := by decide +kernel
theorem dX8_swap_0 : decode cX8_swap 0 = .ok (.aload_n 0, 1) := by decide +kernel
theorem dX8_swap_1 : decode cX8_swap 1 = .ok (.iload_n 1, 1) := by decide +kernel
theorem dX8_swap_2 : decode cX8_swap 2 = .ok (.invokevirtual 161, 3) := by decide +kernel
theorem dX8_swap_5 : decode cX8_swap 5 = .ok (.ifCond .eq 16, 3) := by decide +kernel
theorem dX8_swap_8 : decode cX8_swap 8 = .ok (.aload_n 0, 1) := by decide +kernel
theorem dX8_swap_9 : decode cX8_swap 9 = .ok (.iload_n 2, 1) := by decide +kernel
theorem dX8_swap_10 : decode cX8_swap 10 = .ok (.invokevirtual 161, 3) := by decide +kernel
theorem dX8_swap_13 : decode cX8_swap 13 = .ok (.ifCond .eq 8, 3) := by decide +kernel
theorem dX8_swap_16 : decode cX8_swap 16 = .ok (.iload_n 1, 1) := by decide +kernel
theorem dX8_swap_17 : decode cX8_swap 17 = .ok (.iload_n 2, 1) := by decide +kernel
theorem dX8_swap_18 : decode cX8_swap 18 = .ok (.if_icmp .ne 6, 3) := by decide +kernel
theorem dX8_swap_21 : decode cX8_swap 21 = .ok (.bipush (-5), 2) := by decide +kernel
theorem dX8_swap_23 : decode cX8_swap 23 = .ok (.ireturn, 1) := by decide +kernel
theorem dX8_swap_24 : decode cX8_swap 24 = .ok (.aload_n 0, 1) := by decide +kernel
theorem dX8_swap_25 : decode cX8_swap 25 = .ok (.iload_n 1, 1) := by decide +kernel
theorem dX8_swap_26 : decode cX8_swap 26 = .ok (.iload_n 2, 1) := by decide +kernel
theorem dX8_swap_27 : decode cX8_swap 27 = .ok (.invokevirtual 191, 3) := by decide +kernel
theorem dX8_swap_30 : decode cX8_swap 30 = .ok (.aload_n 0, 1) := by decide +kernel
theorem dX8_swap_31 : decode cX8_swap 31 = .ok (.getfield 16, 3) := by decide +kernel
theorem dX8_swap_34 : decode cX8_swap 34 = .ok (.iconst 5, 1) := by decide +kernel
theorem dX8_swap_35 : decode cX8_swap 35 = .ok (.iload_n 1, 1) := by decide +kernel
theorem dX8_swap_36 : decode cX8_swap 36 = .ok (.imul, 1) := by decide +kernel
theorem dX8_swap_37 : decode cX8_swap 37 = .ok (.iaload, 1) := by decide +kernel
theorem dX8_swap_38 : decode cX8_swap 38 = .ok (.ireturn, 1) := by decide +kernel
theorem dX8_keeps_0 : decode cX8_keeps 0 = .ok (.iconst 0, 1) := by decide +kernel
theorem dX8_keeps_1 : decode cX8_keeps 1 = .ok (.istore_n 1, 1) := by decide +kernel
theorem dX8_keeps_2 : decode cX8_keeps 2 = .ok (.iload_n 1, 1) := by decide +kernel
theorem dX8_keeps_3 : decode cX8_keeps 3 = .ok (.bipush 30, 2) := by decide +kernel
theorem dX8_keeps_5 : decode cX8_keeps 5 = .ok (.if_icmp .ge 21, 3) := by decide +kernel
theorem dX8_keeps_8 : decode cX8_keeps 8 = .ok (.aload_n 0, 1) := by decide +kernel
theorem dX8_keeps_9 : decode cX8_keeps 9 = .ok (.getfield 58, 3) := by decide +kernel
theorem dX8_keeps_12 : decode cX8_keeps 12 = .ok (.iload_n 1, 1) := by decide +kernel
theorem dX8_keeps_13 : decode cX8_keeps 13 = .ok (.aload_n 0, 1) := by decide +kernel
theorem dX8_keeps_14 : decode cX8_keeps 14 = .ok (.getfield 16, 3) := by decide +kernel
theorem dX8_keeps_17 : decode cX8_keeps 17 = .ok (.iload_n 1, 1) := by decide +kernel
theorem dX8_keeps_18 : decode cX8_keeps 18 = .ok (.iaload, 1) := by decide +kernel
theorem dX8_keeps_19 : decode cX8_keeps 19 = .ok (.iastore, 1) := by decide +kernel
theorem dX8_keeps_20 : decode cX8_keeps 20 = .ok (.iinc 1 1, 3) := by decide +kernel
theorem dX8_keeps_23 : decode cX8_keeps 23 = .ok (.goto (-21), 3) := by decide +kernel
theorem dX8_keeps_26 : decode cX8_keeps 26 = .ok (.aload_n 0, 1) := by decide +kernel
theorem dX8_keeps_27 : decode cX8_keeps 27 = .ok (.getfield 58, 3) := by decide +kernel
theorem dX8_keeps_30 : decode cX8_keeps 30 = .ok (.bipush 30, 2) := by decide +kernel
theorem dX8_keeps_32 : decode cX8_keeps 32 = .ok (.aload_n 0, 1) := by decide +kernel
theorem dX8_keeps_33 : decode cX8_keeps 33 = .ok (.getfield 76, 3) := by decide +kernel
theorem dX8_keeps_36 : decode cX8_keeps 36 = .ok (.iastore, 1) := by decide +kernel
theorem dX8_keeps_37 : decode cX8_keeps 37 = .ok (.return_, 1) := by decide +kernel
theorem dX8_lays_0 : decode cX8_lays 0 = .ok (.iconst 0, 1) := by decide +kernel
theorem dX8_lays_1 : decode cX8_lays 1 = .ok (.istore_n 1, 1) := by decide +kernel
theorem dX8_lays_2 : decode cX8_lays 2 = .ok (.iload_n 1, 1) := by decide +kernel
theorem dX8_lays_3 : decode cX8_lays 3 = .ok (.bipush 30, 2) := by decide +kernel
theorem dX8_lays_5 : decode cX8_lays 5 = .ok (.if_icmp .ge 21, 3) := by decide +kernel
theorem dX8_lays_8 : decode cX8_lays 8 = .ok (.aload_n 0, 1) := by decide +kernel
theorem dX8_lays_9 : decode cX8_lays 9 = .ok (.getfield 16, 3) := by decide +kernel
theorem dX8_lays_12 : decode cX8_lays 12 = .ok (.iload_n 1, 1) := by decide +kernel
theorem dX8_lays_13 : decode cX8_lays 13 = .ok (.aload_n 0, 1) := by decide +kernel
theorem dX8_lays_14 : decode cX8_lays 14 = .ok (.getfield 58, 3) := by decide +kernel
theorem dX8_lays_17 : decode cX8_lays 17 = .ok (.iload_n 1, 1) := by decide +kernel
theorem dX8_lays_18 : decode cX8_lays 18 = .ok (.iaload, 1) := by decide +kernel
theorem dX8_lays_19 : decode cX8_lays 19 = .ok (.iastore, 1) := by decide +kernel
theorem dX8_lays_20 : decode cX8_lays 20 = .ok (.iinc 1 1, 3) := by decide +kernel
theorem dX8_lays_23 : decode cX8_lays 23 = .ok (.goto (-21), 3) := by decide +kernel
theorem dX8_lays_26 : decode cX8_lays 26 = .ok (.aload_n 0, 1) := by decide +kernel
theorem dX8_lays_27 : decode cX8_lays 27 = .ok (.aload_n 0, 1) := by decide +kernel
theorem dX8_lays_28 : decode cX8_lays 28 = .ok (.getfield 58, 3) := by decide +kernel
theorem dX8_lays_31 : decode cX8_lays 31 = .ok (.bipush 30, 2) := by decide +kernel
theorem dX8_lays_33 : decode cX8_lays 33 = .ok (.iaload, 1) := by decide +kernel
theorem dX8_lays_34 : decode cX8_lays 34 = .ok (.putfield 76, 3) := by decide +kernel
theorem dX8_lays_37 : decode cX8_lays 37 = .ok (.return_, 1) := by decide +kernel
theorem dX8_passes_0 : decode cX8_passes 0 = .ok (.iconst 0, 1) := by decide +kernel
theorem dX8_passes_1 : decode cX8_passes 1 = .ok (.istore_n 2, 1) := by decide +kernel
theorem dX8_passes_2 : decode cX8_passes 2 = .ok (.iconst 0, 1) := by decide +kernel
theorem dX8_passes_3 : decode cX8_passes 3 = .ok (.istore_n 3, 1) := by decide +kernel
theorem dX8_passes_4 : decode cX8_passes 4 = .ok (.iload_n 3, 1) := by decide +kernel
theorem dX8_passes_5 : decode cX8_passes 5 = .ok (.iload_n 1, 1) := by decide +kernel
theorem dX8_passes_6 : decode cX8_passes 6 = .ok (.if_icmp .ge 16, 3) := by decide +kernel
theorem dX8_passes_9 : decode cX8_passes 9 = .ok (.iload_n 2, 1) := by decide +kernel
theorem dX8_passes_10 : decode cX8_passes 10 = .ok (.aload_n 0, 1) := by decide +kernel
theorem dX8_passes_11 : decode cX8_passes 11 = .ok (.invokevirtual 188, 3) := by decide +kernel
theorem dX8_passes_14 : decode cX8_passes 14 = .ok (.iadd, 1) := by decide +kernel
theorem dX8_passes_15 : decode cX8_passes 15 = .ok (.istore_n 2, 1) := by decide +kernel
theorem dX8_passes_16 : decode cX8_passes 16 = .ok (.iinc 3 1, 3) := by decide +kernel
theorem dX8_passes_19 : decode cX8_passes 19 = .ok (.goto (-15), 3) := by decide +kernel
theorem dX8_passes_22 : decode cX8_passes 22 = .ok (.iload_n 2, 1) := by decide +kernel
theorem dX8_passes_23 : decode cX8_passes 23 = .ok (.ireturn, 1) := by decide +kernel
theorem dX8_run_0 : decode cX8_run 0 = .ok (.iload_n 2, 1) := by decide +kernel
theorem dX8_run_1 : decode cX8_run 1 = .ok (.bipush 10, 2) := by decide +kernel
theorem dX8_run_3 : decode cX8_run 3 = .ok (.irem, 1) := by decide +kernel
theorem dX8_run_4 : decode cX8_run 4 = .ok (.istore_n 3, 1) := by decide +kernel
theorem dX8_run_5 : decode cX8_run 5 = .ok (.iload_n 1, 1) := by decide +kernel
theorem dX8_run_6 : decode cX8_run 6 = .ok (.iconst 0, 1) := by decide +kernel
theorem dX8_run_7 : decode cX8_run 7 = .ok (.bipush 40, 2) := by decide +kernel
theorem dX8_run_9 : decode cX8_run 9 = .ok (.invokestatic 72, 3) := by decide +kernel
theorem dX8_run_12 : decode cX8_run 12 = .ok (.ifCond .eq 31, 3) := by decide +kernel
theorem dX8_run_15 : decode cX8_run 15 = .ok (.iload_n 2, 1) := by decide +kernel
theorem dX8_run_16 : decode cX8_run 16 = .ok (.iconst 0, 1) := by decide +kernel
theorem dX8_run_17 : decode cX8_run 17 = .ok (.iconst 2, 1) := by decide +kernel
theorem dX8_run_18 : decode cX8_run 18 = .ok (.invokestatic 72, 3) := by decide +kernel
theorem dX8_run_21 : decode cX8_run 21 = .ok (.ifCond .ne 25, 3) := by decide +kernel
theorem dX8_run_24 : decode cX8_run 24 = .ok (.iload_n 2, 1) := by decide +kernel
theorem dX8_run_25 : decode cX8_run 25 = .ok (.bipush 10, 2) := by decide +kernel
theorem dX8_run_27 : decode cX8_run 27 = .ok (.bipush 39, 2) := by decide +kernel
theorem dX8_run_29 : decode cX8_run 29 = .ok (.invokestatic 72, 3) := by decide +kernel
theorem dX8_run_32 : decode cX8_run 32 = .ok (.ifCond .eq 11, 3) := by decide +kernel
theorem dX8_run_35 : decode cX8_run 35 = .ok (.aload_n 0, 1) := by decide +kernel
theorem dX8_run_36 : decode cX8_run 36 = .ok (.iload_n 3, 1) := by decide +kernel
theorem dX8_run_37 : decode cX8_run 37 = .ok (.invokevirtual 161, 3) := by decide +kernel
theorem dX8_run_40 : decode cX8_run 40 = .ok (.ifCond .ne 6, 3) := by decide +kernel
theorem dX8_run_43 : decode cX8_run 43 = .ok (.bipush (-2), 2) := by decide +kernel
theorem dX8_run_45 : decode cX8_run 45 = .ok (.ireturn, 1) := by decide +kernel
theorem dX8_run_46 : decode cX8_run 46 = .ok (.aload_n 0, 1) := by decide +kernel
theorem dX8_run_47 : decode cX8_run 47 = .ok (.invokevirtual 195, 3) := by decide +kernel
theorem dX8_run_50 : decode cX8_run 50 = .ok (.aload_n 0, 1) := by decide +kernel
theorem dX8_run_51 : decode cX8_run 51 = .ok (.iload_n 1, 1) := by decide +kernel
theorem dX8_run_52 : decode cX8_run 52 = .ok (.invokevirtual 198, 3) := by decide +kernel
theorem dX8_run_55 : decode cX8_run 55 = .ok (.istore 4, 2) := by decide +kernel
theorem dX8_run_57 : decode cX8_run 57 = .ok (.iload_n 2, 1) := by decide +kernel
theorem dX8_run_58 : decode cX8_run 58 = .ok (.tableswitch 47 0 2 #[26, 35, 38], 26) := by decide +kernel
theorem dX8_run_84 : decode cX8_run 84 = .ok (.aload_n 0, 1) := by decide +kernel
theorem dX8_run_85 : decode cX8_run 85 = .ok (.invokevirtual 79, 3) := by decide +kernel
theorem dX8_run_88 : decode cX8_run 88 = .ok (.istore 4, 2) := by decide +kernel
theorem dX8_run_90 : decode cX8_run 90 = .ok (.goto 47, 3) := by decide +kernel
theorem dX8_run_93 : decode cX8_run 93 = .ok (.goto 44, 3) := by decide +kernel
theorem dX8_run_96 : decode cX8_run 96 = .ok (.aload_n 0, 1) := by decide +kernel
theorem dX8_run_97 : decode cX8_run 97 = .ok (.invokevirtual 182, 3) := by decide +kernel
theorem dX8_run_100 : decode cX8_run 100 = .ok (.istore 4, 2) := by decide +kernel
theorem dX8_run_102 : decode cX8_run 102 = .ok (.goto 35, 3) := by decide +kernel
theorem dX8_run_105 : decode cX8_run 105 = .ok (.aload_n 0, 1) := by decide +kernel
theorem dX8_run_106 : decode cX8_run 106 = .ok (.getfield 16, 3) := by decide +kernel
theorem dX8_run_109 : decode cX8_run 109 = .ok (.iconst 5, 1) := by decide +kernel
theorem dX8_run_110 : decode cX8_run 110 = .ok (.iload_n 3, 1) := by decide +kernel
theorem dX8_run_111 : decode cX8_run 111 = .ok (.imul, 1) := by decide +kernel
theorem dX8_run_112 : decode cX8_run 112 = .ok (.iload_n 2, 1) := by decide +kernel
theorem dX8_run_113 : decode cX8_run 113 = .ok (.bipush 20, 2) := by decide +kernel
theorem dX8_run_115 : decode cX8_run 115 = .ok (.if_icmp .ge 7, 3) := by decide +kernel
theorem dX8_run_118 : decode cX8_run 118 = .ok (.iconst 0, 1) := by decide +kernel
theorem dX8_run_119 : decode cX8_run 119 = .ok (.goto 14, 3) := by decide +kernel
theorem dX8_run_122 : decode cX8_run 122 = .ok (.iload_n 2, 1) := by decide +kernel
theorem dX8_run_123 : decode cX8_run 123 = .ok (.bipush 30, 2) := by decide +kernel
theorem dX8_run_125 : decode cX8_run 125 = .ok (.if_icmp .ge 7, 3) := by decide +kernel
theorem dX8_run_128 : decode cX8_run 128 = .ok (.iconst 3, 1) := by decide +kernel
theorem dX8_run_129 : decode cX8_run 129 = .ok (.goto 4, 3) := by decide +kernel
theorem dX8_run_132 : decode cX8_run 132 = .ok (.iconst 2, 1) := by decide +kernel
theorem dX8_run_133 : decode cX8_run 133 = .ok (.iadd, 1) := by decide +kernel
theorem dX8_run_134 : decode cX8_run 134 = .ok (.iaload, 1) := by decide +kernel
theorem dX8_run_135 : decode cX8_run 135 = .ok (.istore 4, 2) := by decide +kernel
theorem dX8_run_137 : decode cX8_run 137 = .ok (.aload_n 0, 1) := by decide +kernel
theorem dX8_run_138 : decode cX8_run 138 = .ok (.invokevirtual 201, 3) := by decide +kernel
theorem dX8_run_141 : decode cX8_run 141 = .ok (.iload 4, 2) := by decide +kernel
theorem dX8_run_143 : decode cX8_run 143 = .ok (.ireturn, 1) := by decide +kernel
theorem dX8_when_0 : decode cX8_when 0 = .ok (.iload_n 1, 1) := by decide +kernel
theorem dX8_when_1 : decode cX8_when 1 = .ok (.iconst 0, 1) := by decide +kernel
theorem dX8_when_2 : decode cX8_when 2 = .ok (.bipush 7, 2) := by decide +kernel
theorem dX8_when_4 : decode cX8_when 4 = .ok (.invokestatic 72, 3) := by decide +kernel
theorem dX8_when_7 : decode cX8_when 7 = .ok (.ifCond .eq 17, 3) := by decide +kernel
theorem dX8_when_10 : decode cX8_when 10 = .ok (.iload_n 1, 1) := by decide +kernel
theorem dX8_when_11 : decode cX8_when 11 = .ok (.bipush 6, 2) := by decide +kernel
theorem dX8_when_13 : decode cX8_when 13 = .ok (.if_icmp .ge 14, 3) := by decide +kernel
theorem dX8_when_16 : decode cX8_when 16 = .ok (.aload_n 0, 1) := by decide +kernel
theorem dX8_when_17 : decode cX8_when 17 = .ok (.iload_n 1, 1) := by decide +kernel
theorem dX8_when_18 : decode cX8_when 18 = .ok (.invokevirtual 161, 3) := by decide +kernel
theorem dX8_when_21 : decode cX8_when 21 = .ok (.ifCond .ne 6, 3) := by decide +kernel
theorem dX8_when_24 : decode cX8_when 24 = .ok (.bipush (-5), 2) := by decide +kernel
theorem dX8_when_26 : decode cX8_when 26 = .ok (.ireturn, 1) := by decide +kernel
theorem dX8_when_27 : decode cX8_when 27 = .ok (.iconst (-1), 1) := by decide +kernel
theorem dX8_when_28 : decode cX8_when 28 = .ok (.istore_n 2, 1) := by decide +kernel
theorem dX8_when_29 : decode cX8_when 29 = .ok (.aload_n 0, 1) := by decide +kernel
theorem dX8_when_30 : decode cX8_when 30 = .ok (.invokevirtual 195, 3) := by decide +kernel
theorem dX8_when_33 : decode cX8_when 33 = .ok (.iconst 0, 1) := by decide +kernel
theorem dX8_when_34 : decode cX8_when 34 = .ok (.istore_n 3, 1) := by decide +kernel
theorem dX8_when_35 : decode cX8_when 35 = .ok (.iload_n 3, 1) := by decide +kernel
theorem dX8_when_36 : decode cX8_when 36 = .ok (.bipush 60, 2) := by decide +kernel
theorem dX8_when_38 : decode cX8_when 38 = .ok (.if_icmp .gt 99, 3) := by decide +kernel
theorem dX8_when_41 : decode cX8_when 41 = .ok (.iload_n 2, 1) := by decide +kernel
theorem dX8_when_42 : decode cX8_when 42 = .ok (.iconst (-1), 1) := by decide +kernel
theorem dX8_when_43 : decode cX8_when 43 = .ok (.if_icmp .ne 94, 3) := by decide +kernel
theorem dX8_when_46 : decode cX8_when 46 = .ok (.aload_n 0, 1) := by decide +kernel
theorem dX8_when_47 : decode cX8_when 47 = .ok (.invokevirtual 79, 3) := by decide +kernel
theorem dX8_when_50 : decode cX8_when 50 = .ok (.istore 4, 2) := by decide +kernel
theorem dX8_when_52 : decode cX8_when 52 = .ok (.iload_n 1, 1) := by decide +kernel
theorem dX8_when_53 : decode cX8_when 53 = .ok (.bipush 7, 2) := by decide +kernel
theorem dX8_when_55 : decode cX8_when 55 = .ok (.if_icmp .ne 16, 3) := by decide +kernel
theorem dX8_when_58 : decode cX8_when 58 = .ok (.iload 4, 2) := by decide +kernel
theorem dX8_when_60 : decode cX8_when 60 = .ok (.ifCond .ne 7, 3) := by decide +kernel
theorem dX8_when_63 : decode cX8_when 63 = .ok (.iconst 1, 1) := by decide +kernel
theorem dX8_when_64 : decode cX8_when 64 = .ok (.goto 49, 3) := by decide +kernel
theorem dX8_when_67 : decode cX8_when 67 = .ok (.iconst 0, 1) := by decide +kernel
theorem dX8_when_68 : decode cX8_when 68 = .ok (.goto 45, 3) := by decide +kernel
theorem dX8_when_71 : decode cX8_when 71 = .ok (.iload_n 1, 1) := by decide +kernel
theorem dX8_when_72 : decode cX8_when 72 = .ok (.bipush 6, 2) := by decide +kernel
theorem dX8_when_74 : decode cX8_when 74 = .ok (.if_icmp .ne 24, 3) := by decide +kernel
theorem dX8_when_77 : decode cX8_when 77 = .ok (.iload 4, 2) := by decide +kernel
theorem dX8_when_79 : decode cX8_when 79 = .ok (.iconst 1, 1) := by decide +kernel
theorem dX8_when_80 : decode cX8_when 80 = .ok (.aload_n 0, 1) := by decide +kernel
theorem dX8_when_81 : decode cX8_when 81 = .ok (.getfield 69, 3) := by decide +kernel
theorem dX8_when_84 : decode cX8_when 84 = .ok (.ishl, 1) := by decide +kernel
theorem dX8_when_85 : decode cX8_when 85 = .ok (.iconst 1, 1) := by decide +kernel
theorem dX8_when_86 : decode cX8_when 86 = .ok (.isub, 1) := by decide +kernel
theorem dX8_when_87 : decode cX8_when 87 = .ok (.if_icmp .ne 7, 3) := by decide +kernel
theorem dX8_when_90 : decode cX8_when 90 = .ok (.iconst 1, 1) := by decide +kernel
theorem dX8_when_91 : decode cX8_when 91 = .ok (.goto 22, 3) := by decide +kernel
theorem dX8_when_94 : decode cX8_when 94 = .ok (.iconst 0, 1) := by decide +kernel
theorem dX8_when_95 : decode cX8_when 95 = .ok (.goto 18, 3) := by decide +kernel
theorem dX8_when_98 : decode cX8_when 98 = .ok (.iload 4, 2) := by decide +kernel
theorem dX8_when_100 : decode cX8_when 100 = .ok (.iload_n 1, 1) := by decide +kernel
theorem dX8_when_101 : decode cX8_when 101 = .ok (.ishr, 1) := by decide +kernel
theorem dX8_when_102 : decode cX8_when 102 = .ok (.iconst 1, 1) := by decide +kernel
theorem dX8_when_103 : decode cX8_when 103 = .ok (.iand, 1) := by decide +kernel
theorem dX8_when_104 : decode cX8_when 104 = .ok (.iconst 1, 1) := by decide +kernel
theorem dX8_when_105 : decode cX8_when 105 = .ok (.if_icmp .ne 7, 3) := by decide +kernel
theorem dX8_when_108 : decode cX8_when 108 = .ok (.iconst 1, 1) := by decide +kernel
theorem dX8_when_109 : decode cX8_when 109 = .ok (.goto 4, 3) := by decide +kernel
theorem dX8_when_112 : decode cX8_when 112 = .ok (.iconst 0, 1) := by decide +kernel
theorem dX8_when_113 : decode cX8_when 113 = .ok (.istore 5, 2) := by decide +kernel
theorem dX8_when_115 : decode cX8_when 115 = .ok (.iload 5, 2) := by decide +kernel
theorem dX8_when_117 : decode cX8_when 117 = .ok (.ifCond .eq 7, 3) := by decide +kernel
theorem dX8_when_120 : decode cX8_when 120 = .ok (.iload_n 3, 1) := by decide +kernel
theorem dX8_when_121 : decode cX8_when 121 = .ok (.goto 4, 3) := by decide +kernel
theorem dX8_when_124 : decode cX8_when 124 = .ok (.iconst (-1), 1) := by decide +kernel
theorem dX8_when_125 : decode cX8_when 125 = .ok (.istore_n 2, 1) := by decide +kernel
theorem dX8_when_126 : decode cX8_when 126 = .ok (.aload_n 0, 1) := by decide +kernel
theorem dX8_when_127 : decode cX8_when 127 = .ok (.invokevirtual 188, 3) := by decide +kernel
theorem dX8_when_130 : decode cX8_when 130 = .ok (.pop, 1) := by decide +kernel
theorem dX8_when_131 : decode cX8_when 131 = .ok (.iinc 3 1, 3) := by decide +kernel
theorem dX8_when_134 : decode cX8_when 134 = .ok (.goto (-99), 3) := by decide +kernel
theorem dX8_when_137 : decode cX8_when 137 = .ok (.aload_n 0, 1) := by decide +kernel
theorem dX8_when_138 : decode cX8_when 138 = .ok (.invokevirtual 201, 3) := by decide +kernel
theorem dX8_when_141 : decode cX8_when 141 = .ok (.iload_n 2, 1) := by decide +kernel
theorem dX8_when_142 : decode cX8_when 142 = .ok (.ireturn, 1) := by decide +kernel
theorem dX8_stuckBehind_0 : decode cX8_stuckBehind 0 = .ok (.aload_n 0, 1) := by decide +kernel
theorem dX8_stuckBehind_1 : decode cX8_stuckBehind 1 = .ok (.iload_n 1, 1) := by decide +kernel
theorem dX8_stuckBehind_2 : decode cX8_stuckBehind 2 = .ok (.invokevirtual 198, 3) := by decide +kernel
theorem dX8_stuckBehind_5 : decode cX8_stuckBehind 5 = .ok (.pop, 1) := by decide +kernel
theorem dX8_stuckBehind_6 : decode cX8_stuckBehind 6 = .ok (.aload_n 0, 1) := by decide +kernel
theorem dX8_stuckBehind_7 : decode cX8_stuckBehind 7 = .ok (.invokevirtual 79, 3) := by decide +kernel
theorem dX8_stuckBehind_10 : decode cX8_stuckBehind 10 = .ok (.invokestatic 82, 3) := by decide +kernel
theorem dX8_stuckBehind_13 : decode cX8_stuckBehind 13 = .ok (.istore_n 2, 1) := by decide +kernel
theorem dX8_stuckBehind_14 : decode cX8_stuckBehind 14 = .ok (.aload_n 0, 1) := by decide +kernel
theorem dX8_stuckBehind_15 : decode cX8_stuckBehind 15 = .ok (.invokevirtual 201, 3) := by decide +kernel
theorem dX8_stuckBehind_18 : decode cX8_stuckBehind 18 = .ok (.iload_n 2, 1) := by decide +kernel
theorem dX8_stuckBehind_19 : decode cX8_stuckBehind 19 = .ok (.ireturn, 1) := by decide +kernel
theorem dX8_poker_0 : decode cX8_poker 0 = .ok (.iload_n 1, 1) := by decide +kernel
theorem dX8_poker_1 : decode cX8_poker 1 = .ok (.iconst 0, 1) := by decide +kernel
theorem dX8_poker_2 : decode cX8_poker 2 = .ok (.bipush 40, 2) := by decide +kernel
theorem dX8_poker_4 : decode cX8_poker 4 = .ok (.invokestatic 72, 3) := by decide +kernel
theorem dX8_poker_7 : decode cX8_poker 7 = .ok (.ifCond .eq 12, 3) := by decide +kernel
theorem dX8_poker_10 : decode cX8_poker 10 = .ok (.iload_n 2, 1) := by decide +kernel
theorem dX8_poker_11 : decode cX8_poker 11 = .ok (.iconst 0, 1) := by decide +kernel
theorem dX8_poker_12 : decode cX8_poker 12 = .ok (.iconst 1, 1) := by decide +kernel
theorem dX8_poker_13 : decode cX8_poker 13 = .ok (.invokestatic 72, 3) := by decide +kernel
theorem dX8_poker_16 : decode cX8_poker 16 = .ok (.ifCond .ne 6, 3) := by decide +kernel
theorem dX8_poker_19 : decode cX8_poker 19 = .ok (.bipush (-2), 2) := by decide +kernel
theorem dX8_poker_21 : decode cX8_poker 21 = .ok (.ireturn, 1) := by decide +kernel
theorem dX8_poker_22 : decode cX8_poker 22 = .ok (.aload_n 0, 1) := by decide +kernel
theorem dX8_poker_23 : decode cX8_poker 23 = .ok (.invokevirtual 195, 3) := by decide +kernel
theorem dX8_poker_26 : decode cX8_poker 26 = .ok (.iconst (-1), 1) := by decide +kernel
theorem dX8_poker_27 : decode cX8_poker 27 = .ok (.istore_n 3, 1) := by decide +kernel
theorem dX8_poker_28 : decode cX8_poker 28 = .ok (.aload_n 0, 1) := by decide +kernel
theorem dX8_poker_29 : decode cX8_poker 29 = .ok (.iload_n 1, 1) := by decide +kernel
theorem dX8_poker_30 : decode cX8_poker 30 = .ok (.invokevirtual 204, 3) := by decide +kernel
theorem dX8_poker_33 : decode cX8_poker 33 = .ok (.istore 4, 2) := by decide +kernel
theorem dX8_poker_35 : decode cX8_poker 35 = .ok (.iconst 0, 1) := by decide +kernel
theorem dX8_poker_36 : decode cX8_poker 36 = .ok (.istore 5, 2) := by decide +kernel
theorem dX8_poker_38 : decode cX8_poker 38 = .ok (.iload 5, 2) := by decide +kernel
theorem dX8_poker_40 : decode cX8_poker 40 = .ok (.bipush 10, 2) := by decide +kernel
theorem dX8_poker_42 : decode cX8_poker 42 = .ok (.if_icmp .ge 82, 3) := by decide +kernel
theorem dX8_poker_45 : decode cX8_poker 45 = .ok (.iconst 0, 1) := by decide +kernel
theorem dX8_poker_46 : decode cX8_poker 46 = .ok (.istore 6, 2) := by decide +kernel
theorem dX8_poker_48 : decode cX8_poker 48 = .ok (.iload 6, 2) := by decide +kernel
theorem dX8_poker_50 : decode cX8_poker 50 = .ok (.aload_n 0, 1) := by decide +kernel
theorem dX8_poker_51 : decode cX8_poker 51 = .ok (.getfield 69, 3) := by decide +kernel
theorem dX8_poker_54 : decode cX8_poker 54 = .ok (.if_icmp .ge 27, 3) := by decide +kernel
theorem dX8_poker_57 : decode cX8_poker 57 = .ok (.aload_n 0, 1) := by decide +kernel
theorem dX8_poker_58 : decode cX8_poker 58 = .ok (.getfield 16, 3) := by decide +kernel
theorem dX8_poker_61 : decode cX8_poker 61 = .ok (.iconst 5, 1) := by decide +kernel
theorem dX8_poker_62 : decode cX8_poker 62 = .ok (.iload 6, 2) := by decide +kernel
theorem dX8_poker_64 : decode cX8_poker 64 = .ok (.imul, 1) := by decide +kernel
theorem dX8_poker_65 : decode cX8_poker 65 = .ok (.dup2, 1) := by decide +kernel
theorem dX8_poker_66 : decode cX8_poker 66 = .ok (.iaload, 1) := by decide +kernel
theorem dX8_poker_67 : decode cX8_poker 67 = .ok (.iconst 1, 1) := by decide +kernel
theorem dX8_poker_68 : decode cX8_poker 68 = .ok (.iload 5, 2) := by decide +kernel
theorem dX8_poker_70 : decode cX8_poker 70 = .ok (.ishl, 1) := by decide +kernel
theorem dX8_poker_71 : decode cX8_poker 71 = .ok (.iconst (-1), 1) := by decide +kernel
theorem dX8_poker_72 : decode cX8_poker 72 = .ok (.ixor, 1) := by decide +kernel
theorem dX8_poker_73 : decode cX8_poker 73 = .ok (.iand, 1) := by decide +kernel
theorem dX8_poker_74 : decode cX8_poker 74 = .ok (.iastore, 1) := by decide +kernel
theorem dX8_poker_75 : decode cX8_poker 75 = .ok (.iinc 6 1, 3) := by decide +kernel
theorem dX8_poker_78 : decode cX8_poker 78 = .ok (.goto (-30), 3) := by decide +kernel
theorem dX8_poker_81 : decode cX8_poker 81 = .ok (.aload_n 0, 1) := by decide +kernel
theorem dX8_poker_82 : decode cX8_poker 82 = .ok (.iload_n 1, 1) := by decide +kernel
theorem dX8_poker_83 : decode cX8_poker 83 = .ok (.invokevirtual 204, 3) := by decide +kernel
theorem dX8_poker_86 : decode cX8_poker 86 = .ok (.istore 6, 2) := by decide +kernel
theorem dX8_poker_88 : decode cX8_poker 88 = .ok (.iload 6, 2) := by decide +kernel
theorem dX8_poker_90 : decode cX8_poker 90 = .ok (.iload 4, 2) := by decide +kernel
theorem dX8_poker_92 : decode cX8_poker 92 = .ok (.if_icmp .ge 8, 3) := by decide +kernel
theorem dX8_poker_95 : decode cX8_poker 95 = .ok (.iload 5, 2) := by decide +kernel
theorem dX8_poker_97 : decode cX8_poker 97 = .ok (.goto 4, 3) := by decide +kernel
theorem dX8_poker_100 : decode cX8_poker 100 = .ok (.iload_n 3, 1) := by decide +kernel
theorem dX8_poker_101 : decode cX8_poker 101 = .ok (.istore_n 3, 1) := by decide +kernel
theorem dX8_poker_102 : decode cX8_poker 102 = .ok (.iload 6, 2) := by decide +kernel
theorem dX8_poker_104 : decode cX8_poker 104 = .ok (.iload 4, 2) := by decide +kernel
theorem dX8_poker_106 : decode cX8_poker 106 = .ok (.if_icmp .ge 8, 3) := by decide +kernel
theorem dX8_poker_109 : decode cX8_poker 109 = .ok (.iload 6, 2) := by decide +kernel
theorem dX8_poker_111 : decode cX8_poker 111 = .ok (.goto 5, 3) := by decide +kernel
theorem dX8_poker_114 : decode cX8_poker 114 = .ok (.iload 4, 2) := by decide +kernel
theorem dX8_poker_116 : decode cX8_poker 116 = .ok (.istore 4, 2) := by decide +kernel
theorem dX8_poker_118 : decode cX8_poker 118 = .ok (.iinc 5 1, 3) := by decide +kernel
theorem dX8_poker_121 : decode cX8_poker 121 = .ok (.goto (-83), 3) := by decide +kernel
theorem dX8_poker_124 : decode cX8_poker 124 = .ok (.iload_n 2, 1) := by decide +kernel
theorem dX8_poker_125 : decode cX8_poker 125 = .ok (.ifCond .ne 7, 3) := by decide +kernel
theorem dX8_poker_128 : decode cX8_poker 128 = .ok (.iload_n 3, 1) := by decide +kernel
theorem dX8_poker_129 : decode cX8_poker 129 = .ok (.goto 5, 3) := by decide +kernel
theorem dX8_poker_132 : decode cX8_poker 132 = .ok (.iload 4, 2) := by decide +kernel
theorem dX8_poker_134 : decode cX8_poker 134 = .ok (.ireturn, 1) := by decide +kernel
theorem dX8_forgive_0 : decode cX8_forgive 0 = .ok (.aload_n 0, 1) := by decide +kernel
theorem dX8_forgive_1 : decode cX8_forgive 1 = .ok (.iload_n 1, 1) := by decide +kernel
theorem dX8_forgive_2 : decode cX8_forgive 2 = .ok (.invokevirtual 161, 3) := by decide +kernel
theorem dX8_forgive_5 : decode cX8_forgive 5 = .ok (.ifCond .ne 6, 3) := by decide +kernel
theorem dX8_forgive_8 : decode cX8_forgive 8 = .ok (.bipush (-5), 2) := by decide +kernel
theorem dX8_forgive_10 : decode cX8_forgive 10 = .ok (.ireturn, 1) := by decide +kernel
theorem dX8_forgive_11 : decode cX8_forgive 11 = .ok (.iload_n 2, 1) := by decide +kernel
theorem dX8_forgive_12 : decode cX8_forgive 12 = .ok (.iconst 0, 1) := by decide +kernel
theorem dX8_forgive_13 : decode cX8_forgive 13 = .ok (.iconst 1, 1) := by decide +kernel
theorem dX8_forgive_14 : decode cX8_forgive 14 = .ok (.invokestatic 72, 3) := by decide +kernel
theorem dX8_forgive_17 : decode cX8_forgive 17 = .ok (.ifCond .ne 6, 3) := by decide +kernel
theorem dX8_forgive_20 : decode cX8_forgive 20 = .ok (.bipush (-7), 2) := by decide +kernel
theorem dX8_forgive_22 : decode cX8_forgive 22 = .ok (.ireturn, 1) := by decide +kernel
theorem dX8_forgive_23 : decode cX8_forgive 23 = .ok (.aload_n 0, 1) := by decide +kernel
theorem dX8_forgive_24 : decode cX8_forgive 24 = .ok (.getfield 16, 3) := by decide +kernel
theorem dX8_forgive_27 : decode cX8_forgive 27 = .ok (.iconst 5, 1) := by decide +kernel
theorem dX8_forgive_28 : decode cX8_forgive 28 = .ok (.iload_n 1, 1) := by decide +kernel
theorem dX8_forgive_29 : decode cX8_forgive 29 = .ok (.imul, 1) := by decide +kernel
theorem dX8_forgive_30 : decode cX8_forgive 30 = .ok (.iaload, 1) := by decide +kernel
theorem dX8_forgive_31 : decode cX8_forgive 31 = .ok (.istore_n 3, 1) := by decide +kernel
theorem dX8_forgive_32 : decode cX8_forgive 32 = .ok (.iconst (-1), 1) := by decide +kernel
theorem dX8_forgive_33 : decode cX8_forgive 33 = .ok (.istore 4, 2) := by decide +kernel
theorem dX8_forgive_35 : decode cX8_forgive 35 = .ok (.iconst (-1), 1) := by decide +kernel
theorem dX8_forgive_36 : decode cX8_forgive 36 = .ok (.istore 5, 2) := by decide +kernel
theorem dX8_forgive_38 : decode cX8_forgive 38 = .ok (.iconst 0, 1) := by decide +kernel
theorem dX8_forgive_39 : decode cX8_forgive 39 = .ok (.istore 6, 2) := by decide +kernel
theorem dX8_forgive_41 : decode cX8_forgive 41 = .ok (.iload 6, 2) := by decide +kernel
theorem dX8_forgive_43 : decode cX8_forgive 43 = .ok (.sipush 1023, 3) := by decide +kernel
theorem dX8_forgive_46 : decode cX8_forgive 46 = .ok (.if_icmp .gt 94, 3) := by decide +kernel
theorem dX8_forgive_49 : decode cX8_forgive 49 = .ok (.iload 6, 2) := by decide +kernel
theorem dX8_forgive_51 : decode cX8_forgive 51 = .ok (.iload_n 3, 1) := by decide +kernel
theorem dX8_forgive_52 : decode cX8_forgive 52 = .ok (.iconst (-1), 1) := by decide +kernel
theorem dX8_forgive_53 : decode cX8_forgive 53 = .ok (.ixor, 1) := by decide +kernel
theorem dX8_forgive_54 : decode cX8_forgive 54 = .ok (.iand, 1) := by decide +kernel
theorem dX8_forgive_55 : decode cX8_forgive 55 = .ok (.ifCond .ne 79, 3) := by decide +kernel
theorem dX8_forgive_58 : decode cX8_forgive 58 = .ok (.iload 4, 2) := by decide +kernel
theorem dX8_forgive_60 : decode cX8_forgive 60 = .ok (.iconst (-1), 1) := by decide +kernel
theorem dX8_forgive_61 : decode cX8_forgive 61 = .ok (.if_icmp .eq 13, 3) := by decide +kernel
theorem dX8_forgive_64 : decode cX8_forgive 64 = .ok (.iload 6, 2) := by decide +kernel
theorem dX8_forgive_66 : decode cX8_forgive 66 = .ok (.invokestatic 82, 3) := by decide +kernel
theorem dX8_forgive_69 : decode cX8_forgive 69 = .ok (.iload 5, 2) := by decide +kernel
theorem dX8_forgive_71 : decode cX8_forgive 71 = .ok (.if_icmp .ge 63, 3) := by decide +kernel
theorem dX8_forgive_74 : decode cX8_forgive 74 = .ok (.aload_n 0, 1) := by decide +kernel
theorem dX8_forgive_75 : decode cX8_forgive 75 = .ok (.getfield 16, 3) := by decide +kernel
theorem dX8_forgive_78 : decode cX8_forgive 78 = .ok (.iconst 5, 1) := by decide +kernel
theorem dX8_forgive_79 : decode cX8_forgive 79 = .ok (.iload_n 1, 1) := by decide +kernel
theorem dX8_forgive_80 : decode cX8_forgive 80 = .ok (.imul, 1) := by decide +kernel
theorem dX8_forgive_81 : decode cX8_forgive 81 = .ok (.iload_n 3, 1) := by decide +kernel
theorem dX8_forgive_82 : decode cX8_forgive 82 = .ok (.iload 6, 2) := by decide +kernel
theorem dX8_forgive_84 : decode cX8_forgive 84 = .ok (.iconst (-1), 1) := by decide +kernel
theorem dX8_forgive_85 : decode cX8_forgive 85 = .ok (.ixor, 1) := by decide +kernel
theorem dX8_forgive_86 : decode cX8_forgive 86 = .ok (.iand, 1) := by decide +kernel
theorem dX8_forgive_87 : decode cX8_forgive 87 = .ok (.iastore, 1) := by decide +kernel
theorem dX8_forgive_88 : decode cX8_forgive 88 = .ok (.aload_n 0, 1) := by decide +kernel
theorem dX8_forgive_89 : decode cX8_forgive 89 = .ok (.iload_n 1, 1) := by decide +kernel
theorem dX8_forgive_90 : decode cX8_forgive 90 = .ok (.invokevirtual 173, 3) := by decide +kernel
theorem dX8_forgive_93 : decode cX8_forgive 93 = .ok (.ifCond .ne 7, 3) := by decide +kernel
theorem dX8_forgive_96 : decode cX8_forgive 96 = .ok (.iconst 1, 1) := by decide +kernel
theorem dX8_forgive_97 : decode cX8_forgive 97 = .ok (.goto 4, 3) := by decide +kernel
theorem dX8_forgive_100 : decode cX8_forgive 100 = .ok (.iconst 0, 1) := by decide +kernel
theorem dX8_forgive_101 : decode cX8_forgive 101 = .ok (.istore 7, 2) := by decide +kernel
theorem dX8_forgive_103 : decode cX8_forgive 103 = .ok (.iload 7, 2) := by decide +kernel
theorem dX8_forgive_105 : decode cX8_forgive 105 = .ok (.ifCond .eq 8, 3) := by decide +kernel
theorem dX8_forgive_108 : decode cX8_forgive 108 = .ok (.iload 6, 2) := by decide +kernel
theorem dX8_forgive_110 : decode cX8_forgive 110 = .ok (.goto 5, 3) := by decide +kernel
theorem dX8_forgive_113 : decode cX8_forgive 113 = .ok (.iload 4, 2) := by decide +kernel
theorem dX8_forgive_115 : decode cX8_forgive 115 = .ok (.istore 4, 2) := by decide +kernel
theorem dX8_forgive_117 : decode cX8_forgive 117 = .ok (.iload 7, 2) := by decide +kernel
theorem dX8_forgive_119 : decode cX8_forgive 119 = .ok (.ifCond .eq 11, 3) := by decide +kernel
theorem dX8_forgive_122 : decode cX8_forgive 122 = .ok (.iload 6, 2) := by decide +kernel
theorem dX8_forgive_124 : decode cX8_forgive 124 = .ok (.invokestatic 82, 3) := by decide +kernel
theorem dX8_forgive_127 : decode cX8_forgive 127 = .ok (.goto 5, 3) := by decide +kernel
theorem dX8_forgive_130 : decode cX8_forgive 130 = .ok (.iload 5, 2) := by decide +kernel
theorem dX8_forgive_132 : decode cX8_forgive 132 = .ok (.istore 5, 2) := by decide +kernel
theorem dX8_forgive_134 : decode cX8_forgive 134 = .ok (.iinc 6 1, 3) := by decide +kernel
theorem dX8_forgive_137 : decode cX8_forgive 137 = .ok (.goto (-96), 3) := by decide +kernel
theorem dX8_forgive_140 : decode cX8_forgive 140 = .ok (.aload_n 0, 1) := by decide +kernel
theorem dX8_forgive_141 : decode cX8_forgive 141 = .ok (.getfield 16, 3) := by decide +kernel
theorem dX8_forgive_144 : decode cX8_forgive 144 = .ok (.iconst 5, 1) := by decide +kernel
theorem dX8_forgive_145 : decode cX8_forgive 145 = .ok (.iload_n 1, 1) := by decide +kernel
theorem dX8_forgive_146 : decode cX8_forgive 146 = .ok (.imul, 1) := by decide +kernel
theorem dX8_forgive_147 : decode cX8_forgive 147 = .ok (.iload_n 3, 1) := by decide +kernel
theorem dX8_forgive_148 : decode cX8_forgive 148 = .ok (.iastore, 1) := by decide +kernel
theorem dX8_forgive_149 : decode cX8_forgive 149 = .ok (.iload_n 2, 1) := by decide +kernel
theorem dX8_forgive_150 : decode cX8_forgive 150 = .ok (.ifCond .ne 8, 3) := by decide +kernel
theorem dX8_forgive_153 : decode cX8_forgive 153 = .ok (.iload 4, 2) := by decide +kernel
theorem dX8_forgive_155 : decode cX8_forgive 155 = .ok (.goto 5, 3) := by decide +kernel
theorem dX8_forgive_158 : decode cX8_forgive 158 = .ok (.iload 5, 2) := by decide +kernel
theorem dX8_forgive_160 : decode cX8_forgive 160 = .ok (.ireturn, 1) := by decide +kernel
theorem dX8_ateBehind_0 : decode cX8_ateBehind 0 = .ok (.aload_n 0, 1) := by decide +kernel
theorem dX8_ateBehind_1 : decode cX8_ateBehind 1 = .ok (.iload_n 1, 1) := by decide +kernel
theorem dX8_ateBehind_2 : decode cX8_ateBehind 2 = .ok (.invokevirtual 198, 3) := by decide +kernel
theorem dX8_ateBehind_5 : decode cX8_ateBehind 5 = .ok (.pop, 1) := by decide +kernel
theorem dX8_ateBehind_6 : decode cX8_ateBehind 6 = .ok (.aload_n 0, 1) := by decide +kernel
theorem dX8_ateBehind_7 : decode cX8_ateBehind 7 = .ok (.invokevirtual 182, 3) := by decide +kernel
theorem dX8_ateBehind_10 : decode cX8_ateBehind 10 = .ok (.istore_n 2, 1) := by decide +kernel
theorem dX8_ateBehind_11 : decode cX8_ateBehind 11 = .ok (.aload_n 0, 1) := by decide +kernel
theorem dX8_ateBehind_12 : decode cX8_ateBehind 12 = .ok (.invokevirtual 201, 3) := by decide +kernel
theorem dX8_ateBehind_15 : decode cX8_ateBehind 15 = .ok (.iload_n 2, 1) := by decide +kernel
theorem dX8_ateBehind_16 : decode cX8_ateBehind 16 = .ok (.ireturn, 1) := by decide +kernel
theorem dX8_alarm_0 : decode cX8_alarm 0 = .ok (.iload_n 1, 1) := by decide +kernel
theorem dX8_alarm_1 : decode cX8_alarm 1 = .ok (.iconst 0, 1) := by decide +kernel
theorem dX8_alarm_2 : decode cX8_alarm 2 = .ok (.bipush 40, 2) := by decide +kernel
theorem dX8_alarm_4 : decode cX8_alarm 4 = .ok (.invokestatic 72, 3) := by decide +kernel
theorem dX8_alarm_7 : decode cX8_alarm 7 = .ok (.ifCond .eq 12, 3) := by decide +kernel
theorem dX8_alarm_10 : decode cX8_alarm 10 = .ok (.iload_n 2, 1) := by decide +kernel
theorem dX8_alarm_11 : decode cX8_alarm 11 = .ok (.iconst 0, 1) := by decide +kernel
theorem dX8_alarm_12 : decode cX8_alarm 12 = .ok (.iconst 1, 1) := by decide +kernel
theorem dX8_alarm_13 : decode cX8_alarm 13 = .ok (.invokestatic 72, 3) := by decide +kernel
theorem dX8_alarm_16 : decode cX8_alarm 16 = .ok (.ifCond .ne 6, 3) := by decide +kernel
theorem dX8_alarm_19 : decode cX8_alarm 19 = .ok (.bipush (-2), 2) := by decide +kernel
theorem dX8_alarm_21 : decode cX8_alarm 21 = .ok (.ireturn, 1) := by decide +kernel
theorem dX8_alarm_22 : decode cX8_alarm 22 = .ok (.aload_n 0, 1) := by decide +kernel
theorem dX8_alarm_23 : decode cX8_alarm 23 = .ok (.invokevirtual 195, 3) := by decide +kernel
theorem dX8_alarm_26 : decode cX8_alarm 26 = .ok (.iconst (-1), 1) := by decide +kernel
theorem dX8_alarm_27 : decode cX8_alarm 27 = .ok (.istore_n 3, 1) := by decide +kernel
theorem dX8_alarm_28 : decode cX8_alarm 28 = .ok (.aload_n 0, 1) := by decide +kernel
theorem dX8_alarm_29 : decode cX8_alarm 29 = .ok (.iload_n 1, 1) := by decide +kernel
theorem dX8_alarm_30 : decode cX8_alarm 30 = .ok (.invokevirtual 207, 3) := by decide +kernel
theorem dX8_alarm_33 : decode cX8_alarm 33 = .ok (.istore 4, 2) := by decide +kernel
theorem dX8_alarm_35 : decode cX8_alarm 35 = .ok (.iconst 0, 1) := by decide +kernel
theorem dX8_alarm_36 : decode cX8_alarm 36 = .ok (.istore 5, 2) := by decide +kernel
theorem dX8_alarm_38 : decode cX8_alarm 38 = .ok (.iload 5, 2) := by decide +kernel
theorem dX8_alarm_40 : decode cX8_alarm 40 = .ok (.aload_n 0, 1) := by decide +kernel
theorem dX8_alarm_41 : decode cX8_alarm 41 = .ok (.getfield 69, 3) := by decide +kernel
theorem dX8_alarm_44 : decode cX8_alarm 44 = .ok (.if_icmp .ge 72, 3) := by decide +kernel
theorem dX8_alarm_47 : decode cX8_alarm 47 = .ok (.aload_n 0, 1) := by decide +kernel
theorem dX8_alarm_48 : decode cX8_alarm 48 = .ok (.getfield 16, 3) := by decide +kernel
theorem dX8_alarm_51 : decode cX8_alarm 51 = .ok (.iconst 5, 1) := by decide +kernel
theorem dX8_alarm_52 : decode cX8_alarm 52 = .ok (.iload 5, 2) := by decide +kernel
theorem dX8_alarm_54 : decode cX8_alarm 54 = .ok (.imul, 1) := by decide +kernel
theorem dX8_alarm_55 : decode cX8_alarm 55 = .ok (.iconst 4, 1) := by decide +kernel
theorem dX8_alarm_56 : decode cX8_alarm 56 = .ok (.iadd, 1) := by decide +kernel
theorem dX8_alarm_57 : decode cX8_alarm 57 = .ok (.iaload, 1) := by decide +kernel
theorem dX8_alarm_58 : decode cX8_alarm 58 = .ok (.ifCond .ne 52, 3) := by decide +kernel
theorem dX8_alarm_61 : decode cX8_alarm 61 = .ok (.aload_n 0, 1) := by decide +kernel
theorem dX8_alarm_62 : decode cX8_alarm 62 = .ok (.getfield 16, 3) := by decide +kernel
theorem dX8_alarm_65 : decode cX8_alarm 65 = .ok (.iconst 5, 1) := by decide +kernel
theorem dX8_alarm_66 : decode cX8_alarm 66 = .ok (.iload 5, 2) := by decide +kernel
theorem dX8_alarm_68 : decode cX8_alarm 68 = .ok (.imul, 1) := by decide +kernel
theorem dX8_alarm_69 : decode cX8_alarm 69 = .ok (.iconst 4, 1) := by decide +kernel
theorem dX8_alarm_70 : decode cX8_alarm 70 = .ok (.iadd, 1) := by decide +kernel
theorem dX8_alarm_71 : decode cX8_alarm 71 = .ok (.iconst 1, 1) := by decide +kernel
theorem dX8_alarm_72 : decode cX8_alarm 72 = .ok (.iastore, 1) := by decide +kernel
theorem dX8_alarm_73 : decode cX8_alarm 73 = .ok (.aload_n 0, 1) := by decide +kernel
theorem dX8_alarm_74 : decode cX8_alarm 74 = .ok (.iload_n 1, 1) := by decide +kernel
theorem dX8_alarm_75 : decode cX8_alarm 75 = .ok (.invokevirtual 207, 3) := by decide +kernel
theorem dX8_alarm_78 : decode cX8_alarm 78 = .ok (.istore 6, 2) := by decide +kernel
theorem dX8_alarm_80 : decode cX8_alarm 80 = .ok (.iload 6, 2) := by decide +kernel
theorem dX8_alarm_82 : decode cX8_alarm 82 = .ok (.iload 4, 2) := by decide +kernel
theorem dX8_alarm_84 : decode cX8_alarm 84 = .ok (.if_icmp .le 8, 3) := by decide +kernel
theorem dX8_alarm_87 : decode cX8_alarm 87 = .ok (.iload 5, 2) := by decide +kernel
theorem dX8_alarm_89 : decode cX8_alarm 89 = .ok (.goto 4, 3) := by decide +kernel
theorem dX8_alarm_92 : decode cX8_alarm 92 = .ok (.iload_n 3, 1) := by decide +kernel
theorem dX8_alarm_93 : decode cX8_alarm 93 = .ok (.istore_n 3, 1) := by decide +kernel
theorem dX8_alarm_94 : decode cX8_alarm 94 = .ok (.iload 6, 2) := by decide +kernel
theorem dX8_alarm_96 : decode cX8_alarm 96 = .ok (.iload 4, 2) := by decide +kernel
theorem dX8_alarm_98 : decode cX8_alarm 98 = .ok (.if_icmp .le 8, 3) := by decide +kernel
theorem dX8_alarm_101 : decode cX8_alarm 101 = .ok (.iload 6, 2) := by decide +kernel
theorem dX8_alarm_103 : decode cX8_alarm 103 = .ok (.goto 5, 3) := by decide +kernel
theorem dX8_alarm_106 : decode cX8_alarm 106 = .ok (.iload 4, 2) := by decide +kernel
theorem dX8_alarm_108 : decode cX8_alarm 108 = .ok (.istore 4, 2) := by decide +kernel
theorem dX8_alarm_110 : decode cX8_alarm 110 = .ok (.iinc 5 1, 3) := by decide +kernel
theorem dX8_alarm_113 : decode cX8_alarm 113 = .ok (.goto (-75), 3) := by decide +kernel
theorem dX8_alarm_116 : decode cX8_alarm 116 = .ok (.iload_n 2, 1) := by decide +kernel
theorem dX8_alarm_117 : decode cX8_alarm 117 = .ok (.ifCond .ne 7, 3) := by decide +kernel
theorem dX8_alarm_120 : decode cX8_alarm 120 = .ok (.iload_n 3, 1) := by decide +kernel
theorem dX8_alarm_121 : decode cX8_alarm 121 = .ok (.goto 5, 3) := by decide +kernel
theorem dX8_alarm_124 : decode cX8_alarm 124 = .ok (.iload 4, 2) := by decide +kernel
theorem dX8_alarm_126 : decode cX8_alarm 126 = .ok (.ireturn, 1) := by decide +kernel
theorem dX8_change_0 : decode cX8_change 0 = .ok (.iload_n 1, 1) := by decide +kernel
theorem dX8_change_1 : decode cX8_change 1 = .ok (.iconst 0, 1) := by decide +kernel
theorem dX8_change_2 : decode cX8_change 2 = .ok (.bipush 40, 2) := by decide +kernel
theorem dX8_change_4 : decode cX8_change 4 = .ok (.invokestatic 72, 3) := by decide +kernel
theorem dX8_change_7 : decode cX8_change 7 = .ok (.ifCond .eq 12, 3) := by decide +kernel
theorem dX8_change_10 : decode cX8_change 10 = .ok (.iload_n 2, 1) := by decide +kernel
theorem dX8_change_11 : decode cX8_change 11 = .ok (.iconst 0, 1) := by decide +kernel
theorem dX8_change_12 : decode cX8_change 12 = .ok (.iconst 1, 1) := by decide +kernel
theorem dX8_change_13 : decode cX8_change 13 = .ok (.invokestatic 72, 3) := by decide +kernel
theorem dX8_change_16 : decode cX8_change 16 = .ok (.ifCond .ne 6, 3) := by decide +kernel
theorem dX8_change_19 : decode cX8_change 19 = .ok (.bipush (-2), 2) := by decide +kernel
theorem dX8_change_21 : decode cX8_change 21 = .ok (.ireturn, 1) := by decide +kernel
theorem dX8_change_22 : decode cX8_change 22 = .ok (.aload_n 0, 1) := by decide +kernel
theorem dX8_change_23 : decode cX8_change 23 = .ok (.invokevirtual 195, 3) := by decide +kernel
theorem dX8_change_26 : decode cX8_change 26 = .ok (.iconst (-1), 1) := by decide +kernel
theorem dX8_change_27 : decode cX8_change 27 = .ok (.istore_n 3, 1) := by decide +kernel
theorem dX8_change_28 : decode cX8_change 28 = .ok (.aload_n 0, 1) := by decide +kernel
theorem dX8_change_29 : decode cX8_change 29 = .ok (.iload_n 1, 1) := by decide +kernel
theorem dX8_change_30 : decode cX8_change 30 = .ok (.invokevirtual 204, 3) := by decide +kernel
theorem dX8_change_33 : decode cX8_change 33 = .ok (.istore 4, 2) := by decide +kernel
theorem dX8_change_35 : decode cX8_change 35 = .ok (.iconst 0, 1) := by decide +kernel
theorem dX8_change_36 : decode cX8_change 36 = .ok (.istore 5, 2) := by decide +kernel
theorem dX8_change_38 : decode cX8_change 38 = .ok (.iload 5, 2) := by decide +kernel
theorem dX8_change_40 : decode cX8_change 40 = .ok (.aload_n 0, 1) := by decide +kernel
theorem dX8_change_41 : decode cX8_change 41 = .ok (.getfield 69, 3) := by decide +kernel
theorem dX8_change_44 : decode cX8_change 44 = .ok (.if_icmp .ge 81, 3) := by decide +kernel
theorem dX8_change_47 : decode cX8_change 47 = .ok (.iload 5, 2) := by decide +kernel
theorem dX8_change_49 : decode cX8_change 49 = .ok (.iconst 1, 1) := by decide +kernel
theorem dX8_change_50 : decode cX8_change 50 = .ok (.iadd, 1) := by decide +kernel
theorem dX8_change_51 : decode cX8_change 51 = .ok (.istore 6, 2) := by decide +kernel
theorem dX8_change_53 : decode cX8_change 53 = .ok (.iload 6, 2) := by decide +kernel
theorem dX8_change_55 : decode cX8_change 55 = .ok (.aload_n 0, 1) := by decide +kernel
theorem dX8_change_56 : decode cX8_change 56 = .ok (.getfield 69, 3) := by decide +kernel
theorem dX8_change_59 : decode cX8_change 59 = .ok (.if_icmp .ge 60, 3) := by decide +kernel
theorem dX8_change_62 : decode cX8_change 62 = .ok (.aload_n 0, 1) := by decide +kernel
theorem dX8_change_63 : decode cX8_change 63 = .ok (.iload 5, 2) := by decide +kernel
theorem dX8_change_65 : decode cX8_change 65 = .ok (.iload 6, 2) := by decide +kernel
theorem dX8_change_67 : decode cX8_change 67 = .ok (.invokevirtual 191, 3) := by decide +kernel
theorem dX8_change_70 : decode cX8_change 70 = .ok (.aload_n 0, 1) := by decide +kernel
theorem dX8_change_71 : decode cX8_change 71 = .ok (.iload_n 1, 1) := by decide +kernel
theorem dX8_change_72 : decode cX8_change 72 = .ok (.invokevirtual 204, 3) := by decide +kernel
theorem dX8_change_75 : decode cX8_change 75 = .ok (.istore 7, 2) := by decide +kernel
theorem dX8_change_77 : decode cX8_change 77 = .ok (.iload 7, 2) := by decide +kernel
theorem dX8_change_79 : decode cX8_change 79 = .ok (.iload 4, 2) := by decide +kernel
theorem dX8_change_81 : decode cX8_change 81 = .ok (.if_icmp .ge 14, 3) := by decide +kernel
theorem dX8_change_84 : decode cX8_change 84 = .ok (.bipush 10, 2) := by decide +kernel
theorem dX8_change_86 : decode cX8_change 86 = .ok (.iload 5, 2) := by decide +kernel
theorem dX8_change_88 : decode cX8_change 88 = .ok (.imul, 1) := by decide +kernel
theorem dX8_change_89 : decode cX8_change 89 = .ok (.iload 6, 2) := by decide +kernel
theorem dX8_change_91 : decode cX8_change 91 = .ok (.iadd, 1) := by decide +kernel
theorem dX8_change_92 : decode cX8_change 92 = .ok (.goto 4, 3) := by decide +kernel
theorem dX8_change_95 : decode cX8_change 95 = .ok (.iload_n 3, 1) := by decide +kernel
theorem dX8_change_96 : decode cX8_change 96 = .ok (.istore_n 3, 1) := by decide +kernel
theorem dX8_change_97 : decode cX8_change 97 = .ok (.iload 7, 2) := by decide +kernel
theorem dX8_change_99 : decode cX8_change 99 = .ok (.iload 4, 2) := by decide +kernel
theorem dX8_change_101 : decode cX8_change 101 = .ok (.if_icmp .ge 8, 3) := by decide +kernel
theorem dX8_change_104 : decode cX8_change 104 = .ok (.iload 7, 2) := by decide +kernel
theorem dX8_change_106 : decode cX8_change 106 = .ok (.goto 5, 3) := by decide +kernel
theorem dX8_change_109 : decode cX8_change 109 = .ok (.iload 4, 2) := by decide +kernel
theorem dX8_change_111 : decode cX8_change 111 = .ok (.istore 4, 2) := by decide +kernel
theorem dX8_change_113 : decode cX8_change 113 = .ok (.iinc 6 1, 3) := by decide +kernel
theorem dX8_change_116 : decode cX8_change 116 = .ok (.goto (-63), 3) := by decide +kernel
theorem dX8_change_119 : decode cX8_change 119 = .ok (.iinc 5 1, 3) := by decide +kernel
theorem dX8_change_122 : decode cX8_change 122 = .ok (.goto (-84), 3) := by decide +kernel
theorem dX8_change_125 : decode cX8_change 125 = .ok (.iload_n 2, 1) := by decide +kernel
theorem dX8_change_126 : decode cX8_change 126 = .ok (.ifCond .ne 7, 3) := by decide +kernel
theorem dX8_change_129 : decode cX8_change 129 = .ok (.iload_n 3, 1) := by decide +kernel
theorem dX8_change_130 : decode cX8_change 130 = .ok (.goto 5, 3) := by decide +kernel
theorem dX8_change_133 : decode cX8_change 133 = .ok (.iload 4, 2) := by decide +kernel
theorem dX8_change_135 : decode cX8_change 135 = .ok (.ireturn, 1) := by decide +kernel
theorem dX8_bold_0 : decode cX8_bold 0 = .ok (.aload_n 0, 1) := by decide +kernel
theorem dX8_bold_1 : decode cX8_bold 1 = .ok (.iload_n 1, 1) := by decide +kernel
theorem dX8_bold_2 : decode cX8_bold 2 = .ok (.invokevirtual 161, 3) := by decide +kernel
theorem dX8_bold_5 : decode cX8_bold 5 = .ok (.ifCond .ne 6, 3) := by decide +kernel
theorem dX8_bold_8 : decode cX8_bold 8 = .ok (.bipush (-5), 2) := by decide +kernel
theorem dX8_bold_10 : decode cX8_bold 10 = .ok (.ireturn, 1) := by decide +kernel
theorem dX8_bold_11 : decode cX8_bold 11 = .ok (.aload_n 0, 1) := by decide +kernel
theorem dX8_bold_12 : decode cX8_bold 12 = .ok (.getfield 16, 3) := by decide +kernel
theorem dX8_bold_15 : decode cX8_bold 15 = .ok (.iconst 5, 1) := by decide +kernel
theorem dX8_bold_16 : decode cX8_bold 16 = .ok (.iload_n 1, 1) := by decide +kernel
theorem dX8_bold_17 : decode cX8_bold 17 = .ok (.imul, 1) := by decide +kernel
theorem dX8_bold_18 : decode cX8_bold 18 = .ok (.iconst 1, 1) := by decide +kernel
theorem dX8_bold_19 : decode cX8_bold 19 = .ok (.iadd, 1) := by decide +kernel
theorem dX8_bold_20 : decode cX8_bold 20 = .ok (.iaload, 1) := by decide +kernel
theorem dX8_bold_21 : decode cX8_bold 21 = .ok (.istore_n 2, 1) := by decide +kernel
theorem dX8_bold_22 : decode cX8_bold 22 = .ok (.iconst (-1), 1) := by decide +kernel
theorem dX8_bold_23 : decode cX8_bold 23 = .ok (.istore_n 3, 1) := by decide +kernel
theorem dX8_bold_24 : decode cX8_bold 24 = .ok (.bipush 99, 2) := by decide +kernel
theorem dX8_bold_26 : decode cX8_bold 26 = .ok (.istore 4, 2) := by decide +kernel
theorem dX8_bold_28 : decode cX8_bold 28 = .ok (.iload 4, 2) := by decide +kernel
theorem dX8_bold_30 : decode cX8_bold 30 = .ok (.ifCond .lt 41, 3) := by decide +kernel
theorem dX8_bold_33 : decode cX8_bold 33 = .ok (.iload_n 3, 1) := by decide +kernel
theorem dX8_bold_34 : decode cX8_bold 34 = .ok (.iconst (-1), 1) := by decide +kernel
theorem dX8_bold_35 : decode cX8_bold 35 = .ok (.if_icmp .ne 36, 3) := by decide +kernel
theorem dX8_bold_38 : decode cX8_bold 38 = .ok (.aload_n 0, 1) := by decide +kernel
theorem dX8_bold_39 : decode cX8_bold 39 = .ok (.getfield 16, 3) := by decide +kernel
theorem dX8_bold_42 : decode cX8_bold 42 = .ok (.iconst 5, 1) := by decide +kernel
theorem dX8_bold_43 : decode cX8_bold 43 = .ok (.iload_n 1, 1) := by decide +kernel
theorem dX8_bold_44 : decode cX8_bold 44 = .ok (.imul, 1) := by decide +kernel
theorem dX8_bold_45 : decode cX8_bold 45 = .ok (.iconst 1, 1) := by decide +kernel
theorem dX8_bold_46 : decode cX8_bold 46 = .ok (.iadd, 1) := by decide +kernel
theorem dX8_bold_47 : decode cX8_bold 47 = .ok (.iload 4, 2) := by decide +kernel
theorem dX8_bold_49 : decode cX8_bold 49 = .ok (.iastore, 1) := by decide +kernel
theorem dX8_bold_50 : decode cX8_bold 50 = .ok (.aload_n 0, 1) := by decide +kernel
theorem dX8_bold_51 : decode cX8_bold 51 = .ok (.iload_n 1, 1) := by decide +kernel
theorem dX8_bold_52 : decode cX8_bold 52 = .ok (.invokevirtual 173, 3) := by decide +kernel
theorem dX8_bold_55 : decode cX8_bold 55 = .ok (.ifCond .eq 7, 3) := by decide +kernel
theorem dX8_bold_58 : decode cX8_bold 58 = .ok (.iconst (-1), 1) := by decide +kernel
theorem dX8_bold_59 : decode cX8_bold 59 = .ok (.goto 5, 3) := by decide +kernel
theorem dX8_bold_62 : decode cX8_bold 62 = .ok (.iload 4, 2) := by decide +kernel
theorem dX8_bold_64 : decode cX8_bold 64 = .ok (.istore_n 3, 1) := by decide +kernel
theorem dX8_bold_65 : decode cX8_bold 65 = .ok (.iinc 4 (-1), 3) := by decide +kernel
theorem dX8_bold_68 : decode cX8_bold 68 = .ok (.goto (-40), 3) := by decide +kernel
theorem dX8_bold_71 : decode cX8_bold 71 = .ok (.aload_n 0, 1) := by decide +kernel
theorem dX8_bold_72 : decode cX8_bold 72 = .ok (.getfield 16, 3) := by decide +kernel
theorem dX8_bold_75 : decode cX8_bold 75 = .ok (.iconst 5, 1) := by decide +kernel
theorem dX8_bold_76 : decode cX8_bold 76 = .ok (.iload_n 1, 1) := by decide +kernel
theorem dX8_bold_77 : decode cX8_bold 77 = .ok (.imul, 1) := by decide +kernel
theorem dX8_bold_78 : decode cX8_bold 78 = .ok (.iconst 1, 1) := by decide +kernel
theorem dX8_bold_79 : decode cX8_bold 79 = .ok (.iadd, 1) := by decide +kernel
theorem dX8_bold_80 : decode cX8_bold 80 = .ok (.iload_n 2, 1) := by decide +kernel
theorem dX8_bold_81 : decode cX8_bold 81 = .ok (.iastore, 1) := by decide +kernel
theorem dX8_bold_82 : decode cX8_bold 82 = .ok (.iload_n 3, 1) := by decide +kernel
theorem dX8_bold_83 : decode cX8_bold 83 = .ok (.ireturn, 1) := by decide +kernel
theorem dX8_lowest_0 : decode cX8_lowest 0 = .ok (.lload_n 0, 1) := by decide +kernel
theorem dX8_lowest_1 : decode cX8_lowest 1 = .ok (.lconst 0, 1) := by decide +kernel
theorem dX8_lowest_2 : decode cX8_lowest 2 = .ok (.lcmp, 1) := by decide +kernel
theorem dX8_lowest_3 : decode cX8_lowest 3 = .ok (.ifCond .ne 7, 3) := by decide +kernel
theorem dX8_lowest_6 : decode cX8_lowest 6 = .ok (.iload 4, 2) := by decide +kernel
theorem dX8_lowest_8 : decode cX8_lowest 8 = .ok (.i2l, 1) := by decide +kernel
theorem dX8_lowest_9 : decode cX8_lowest 9 = .ok (.lreturn, 1) := by decide +kernel
theorem dX8_lowest_10 : decode cX8_lowest 10 = .ok (.lload_n 0, 1) := by decide +kernel
theorem dX8_lowest_11 : decode cX8_lowest 11 = .ok (.lstore 5, 2) := by decide +kernel
theorem dX8_lowest_13 : decode cX8_lowest 13 = .ok (.lload_n 2, 1) := by decide +kernel
theorem dX8_lowest_14 : decode cX8_lowest 14 = .ok (.lstore 7, 2) := by decide +kernel
theorem dX8_lowest_16 : decode cX8_lowest 16 = .ok (.lload 7, 2) := by decide +kernel
theorem dX8_lowest_18 : decode cX8_lowest 18 = .ok (.lconst 0, 1) := by decide +kernel
theorem dX8_lowest_19 : decode cX8_lowest 19 = .ok (.lcmp, 1) := by decide +kernel
theorem dX8_lowest_20 : decode cX8_lowest 20 = .ok (.ifCond .eq 21, 3) := by decide +kernel
theorem dX8_lowest_23 : decode cX8_lowest 23 = .ok (.lload 5, 2) := by decide +kernel
theorem dX8_lowest_25 : decode cX8_lowest 25 = .ok (.lload 7, 2) := by decide +kernel
theorem dX8_lowest_27 : decode cX8_lowest 27 = .ok (.lrem, 1) := by decide +kernel
theorem dX8_lowest_28 : decode cX8_lowest 28 = .ok (.lstore 9, 2) := by decide +kernel
theorem dX8_lowest_30 : decode cX8_lowest 30 = .ok (.lload 7, 2) := by decide +kernel
theorem dX8_lowest_32 : decode cX8_lowest 32 = .ok (.lstore 5, 2) := by decide +kernel
theorem dX8_lowest_34 : decode cX8_lowest 34 = .ok (.lload 9, 2) := by decide +kernel
theorem dX8_lowest_36 : decode cX8_lowest 36 = .ok (.lstore 7, 2) := by decide +kernel
theorem dX8_lowest_38 : decode cX8_lowest 38 = .ok (.goto (-22), 3) := by decide +kernel
theorem dX8_lowest_41 : decode cX8_lowest 41 = .ok (.iload 4, 2) := by decide +kernel
theorem dX8_lowest_43 : decode cX8_lowest 43 = .ok (.ifCond .ne 7, 3) := by decide +kernel
theorem dX8_lowest_46 : decode cX8_lowest 46 = .ok (.lload_n 0, 1) := by decide +kernel
theorem dX8_lowest_47 : decode cX8_lowest 47 = .ok (.goto 4, 3) := by decide +kernel
theorem dX8_lowest_50 : decode cX8_lowest 50 = .ok (.lload_n 2, 1) := by decide +kernel
theorem dX8_lowest_51 : decode cX8_lowest 51 = .ok (.lload 5, 2) := by decide +kernel
theorem dX8_lowest_53 : decode cX8_lowest 53 = .ok (.ldiv, 1) := by decide +kernel
theorem dX8_lowest_54 : decode cX8_lowest 54 = .ok (.lreturn, 1) := by decide +kernel
theorem dX8_mean_0 : decode cX8_mean 0 = .ok (.iconst 0, 1) := by decide +kernel
theorem dX8_mean_1 : decode cX8_mean 1 = .ok (.istore_n 2, 1) := by decide +kernel
theorem dX8_mean_2 : decode cX8_mean 2 = .ok (.iconst 0, 1) := by decide +kernel
theorem dX8_mean_3 : decode cX8_mean 3 = .ok (.istore_n 3, 1) := by decide +kernel
theorem dX8_mean_4 : decode cX8_mean 4 = .ok (.iload_n 3, 1) := by decide +kernel
theorem dX8_mean_5 : decode cX8_mean 5 = .ok (.aload_n 0, 1) := by decide +kernel
theorem dX8_mean_6 : decode cX8_mean 6 = .ok (.getfield 69, 3) := by decide +kernel
theorem dX8_mean_9 : decode cX8_mean 9 = .ok (.if_icmp .ge 22, 3) := by decide +kernel
theorem dX8_mean_12 : decode cX8_mean 12 = .ok (.iload_n 2, 1) := by decide +kernel
theorem dX8_mean_13 : decode cX8_mean 13 = .ok (.aload_n 0, 1) := by decide +kernel
theorem dX8_mean_14 : decode cX8_mean 14 = .ok (.getfield 16, 3) := by decide +kernel
theorem dX8_mean_17 : decode cX8_mean 17 = .ok (.iconst 5, 1) := by decide +kernel
theorem dX8_mean_18 : decode cX8_mean 18 = .ok (.iload_n 3, 1) := by decide +kernel
theorem dX8_mean_19 : decode cX8_mean 19 = .ok (.imul, 1) := by decide +kernel
theorem dX8_mean_20 : decode cX8_mean 20 = .ok (.iconst 2, 1) := by decide +kernel
theorem dX8_mean_21 : decode cX8_mean 21 = .ok (.iadd, 1) := by decide +kernel
theorem dX8_mean_22 : decode cX8_mean 22 = .ok (.iaload, 1) := by decide +kernel
theorem dX8_mean_23 : decode cX8_mean 23 = .ok (.iadd, 1) := by decide +kernel
theorem dX8_mean_24 : decode cX8_mean 24 = .ok (.istore_n 2, 1) := by decide +kernel
theorem dX8_mean_25 : decode cX8_mean 25 = .ok (.iinc 3 1, 3) := by decide +kernel
theorem dX8_mean_28 : decode cX8_mean 28 = .ok (.goto (-24), 3) := by decide +kernel
theorem dX8_mean_31 : decode cX8_mean 31 = .ok (.iload_n 1, 1) := by decide +kernel
theorem dX8_mean_32 : decode cX8_mean 32 = .ok (.iconst 0, 1) := by decide +kernel
theorem dX8_mean_33 : decode cX8_mean 33 = .ok (.iconst 1, 1) := by decide +kernel
theorem dX8_mean_34 : decode cX8_mean 34 = .ok (.invokestatic 72, 3) := by decide +kernel
theorem dX8_mean_37 : decode cX8_mean 37 = .ok (.ifCond .eq 24, 3) := by decide +kernel
theorem dX8_mean_40 : decode cX8_mean 40 = .ok (.aload_n 0, 1) := by decide +kernel
theorem dX8_mean_41 : decode cX8_mean 41 = .ok (.getfield 69, 3) := by decide +kernel
theorem dX8_mean_44 : decode cX8_mean 44 = .ok (.ifCond .le 17, 3) := by decide +kernel
theorem dX8_mean_47 : decode cX8_mean 47 = .ok (.iload_n 2, 1) := by decide +kernel
theorem dX8_mean_48 : decode cX8_mean 48 = .ok (.i2l, 1) := by decide +kernel
theorem dX8_mean_49 : decode cX8_mean 49 = .ok (.aload_n 0, 1) := by decide +kernel
theorem dX8_mean_50 : decode cX8_mean 50 = .ok (.getfield 69, 3) := by decide +kernel
theorem dX8_mean_53 : decode cX8_mean 53 = .ok (.i2l, 1) := by decide +kernel
theorem dX8_mean_54 : decode cX8_mean 54 = .ok (.iload_n 1, 1) := by decide +kernel
theorem dX8_mean_55 : decode cX8_mean 55 = .ok (.invokestatic 210, 3) := by decide +kernel
theorem dX8_mean_58 : decode cX8_mean 58 = .ok (.goto 6, 3) := by decide +kernel
theorem dX8_mean_61 : decode cX8_mean 61 = .ok (.ldc2_w 214, 3) := by decide +kernel
theorem dX8_mean_64 : decode cX8_mean 64 = .ok (.lreturn, 1) := by decide +kernel
theorem dX8_sheetWrong_0 : decode cX8_sheetWrong 0 = .ok (.iload_n 1, 1) := by decide +kernel
theorem dX8_sheetWrong_1 : decode cX8_sheetWrong 1 = .ok (.iconst 0, 1) := by decide +kernel
theorem dX8_sheetWrong_2 : decode cX8_sheetWrong 2 = .ok (.iconst 3, 1) := by decide +kernel
theorem dX8_sheetWrong_3 : decode cX8_sheetWrong 3 = .ok (.invokestatic 72, 3) := by decide +kernel
theorem dX8_sheetWrong_6 : decode cX8_sheetWrong 6 = .ok (.ifCond .ne 6, 3) := by decide +kernel
theorem dX8_sheetWrong_9 : decode cX8_sheetWrong 9 = .ok (.bipush (-2), 2) := by decide +kernel
theorem dX8_sheetWrong_11 : decode cX8_sheetWrong 11 = .ok (.ireturn, 1) := by decide +kernel
theorem dX8_sheetWrong_12 : decode cX8_sheetWrong 12 = .ok (.aload_n 0, 1) := by decide +kernel
theorem dX8_sheetWrong_13 : decode cX8_sheetWrong 13 = .ok (.getfield 34, 3) := by decide +kernel
theorem dX8_sheetWrong_16 : decode cX8_sheetWrong 16 = .ok (.iload_n 1, 1) := by decide +kernel
theorem dX8_sheetWrong_17 : decode cX8_sheetWrong 17 = .ok (.iaload, 1) := by decide +kernel
theorem dX8_sheetWrong_18 : decode cX8_sheetWrong 18 = .ok (.iconst (-1), 1) := by decide +kernel
theorem dX8_sheetWrong_19 : decode cX8_sheetWrong 19 = .ok (.if_icmp .ne 6, 3) := by decide +kernel
theorem dX8_sheetWrong_22 : decode cX8_sheetWrong 22 = .ok (.bipush (-11), 2) := by decide +kernel
theorem dX8_sheetWrong_24 : decode cX8_sheetWrong 24 = .ok (.ireturn, 1) := by decide +kernel
theorem dX8_sheetWrong_25 : decode cX8_sheetWrong 25 = .ok (.aload_n 0, 1) := by decide +kernel
theorem dX8_sheetWrong_26 : decode cX8_sheetWrong 26 = .ok (.getfield 37, 3) := by decide +kernel
theorem dX8_sheetWrong_29 : decode cX8_sheetWrong 29 = .ok (.iload_n 1, 1) := by decide +kernel
theorem dX8_sheetWrong_30 : decode cX8_sheetWrong 30 = .ok (.iaload, 1) := by decide +kernel
theorem dX8_sheetWrong_31 : decode cX8_sheetWrong 31 = .ok (.bipush 20, 2) := by decide +kernel
theorem dX8_sheetWrong_33 : decode cX8_sheetWrong 33 = .ok (.if_icmp .le 8, 3) := by decide +kernel
theorem dX8_sheetWrong_36 : decode cX8_sheetWrong 36 = .ok (.bipush (-2), 2) := by decide +kernel
theorem dX8_sheetWrong_38 : decode cX8_sheetWrong 38 = .ok (.goto 4, 3) := by decide +kernel
theorem dX8_sheetWrong_41 : decode cX8_sheetWrong 41 = .ok (.iconst 0, 1) := by decide +kernel
theorem dX8_sheetWrong_42 : decode cX8_sheetWrong 42 = .ok (.ireturn, 1) := by decide +kernel
theorem dX8_unlike_0 : decode cX8_unlike 0 = .ok (.iconst (-1), 1) := by decide +kernel
theorem dX8_unlike_1 : decode cX8_unlike 1 = .ok (.istore_n 2, 1) := by decide +kernel
theorem dX8_unlike_2 : decode cX8_unlike 2 = .ok (.aload_n 0, 1) := by decide +kernel
theorem dX8_unlike_3 : decode cX8_unlike 3 = .ok (.invokevirtual 195, 3) := by decide +kernel
theorem dX8_unlike_6 : decode cX8_unlike 6 = .ok (.iconst 0, 1) := by decide +kernel
theorem dX8_unlike_7 : decode cX8_unlike 7 = .ok (.istore_n 3, 1) := by decide +kernel
theorem dX8_unlike_8 : decode cX8_unlike 8 = .ok (.iload_n 3, 1) := by decide +kernel
theorem dX8_unlike_9 : decode cX8_unlike 9 = .ok (.aload_n 0, 1) := by decide +kernel
theorem dX8_unlike_10 : decode cX8_unlike 10 = .ok (.getfield 37, 3) := by decide +kernel
theorem dX8_unlike_13 : decode cX8_unlike 13 = .ok (.iload_n 1, 1) := by decide +kernel
theorem dX8_unlike_14 : decode cX8_unlike 14 = .ok (.iaload, 1) := by decide +kernel
theorem dX8_unlike_15 : decode cX8_unlike 15 = .ok (.if_icmp .ge 38, 3) := by decide +kernel
theorem dX8_unlike_18 : decode cX8_unlike 18 = .ok (.iload_n 2, 1) := by decide +kernel
theorem dX8_unlike_19 : decode cX8_unlike 19 = .ok (.iconst (-1), 1) := by decide +kernel
theorem dX8_unlike_20 : decode cX8_unlike 20 = .ok (.if_icmp .ne 33, 3) := by decide +kernel
theorem dX8_unlike_23 : decode cX8_unlike 23 = .ok (.aload_n 0, 1) := by decide +kernel
theorem dX8_unlike_24 : decode cX8_unlike 24 = .ok (.getfield 40, 3) := by decide +kernel
theorem dX8_unlike_27 : decode cX8_unlike 27 = .ok (.bipush 40, 2) := by decide +kernel
theorem dX8_unlike_29 : decode cX8_unlike 29 = .ok (.iload_n 1, 1) := by decide +kernel
theorem dX8_unlike_30 : decode cX8_unlike 30 = .ok (.imul, 1) := by decide +kernel
theorem dX8_unlike_31 : decode cX8_unlike 31 = .ok (.iload_n 3, 1) := by decide +kernel
theorem dX8_unlike_32 : decode cX8_unlike 32 = .ok (.iadd, 1) := by decide +kernel
theorem dX8_unlike_33 : decode cX8_unlike 33 = .ok (.iaload, 1) := by decide +kernel
theorem dX8_unlike_34 : decode cX8_unlike 34 = .ok (.aload_n 0, 1) := by decide +kernel
theorem dX8_unlike_35 : decode cX8_unlike 35 = .ok (.invokevirtual 188, 3) := by decide +kernel
theorem dX8_unlike_38 : decode cX8_unlike 38 = .ok (.if_icmp .ne 7, 3) := by decide +kernel
theorem dX8_unlike_41 : decode cX8_unlike 41 = .ok (.iconst (-1), 1) := by decide +kernel
theorem dX8_unlike_42 : decode cX8_unlike 42 = .ok (.goto 4, 3) := by decide +kernel
theorem dX8_unlike_45 : decode cX8_unlike 45 = .ok (.iload_n 3, 1) := by decide +kernel
theorem dX8_unlike_46 : decode cX8_unlike 46 = .ok (.istore_n 2, 1) := by decide +kernel
theorem dX8_unlike_47 : decode cX8_unlike 47 = .ok (.iinc 3 1, 3) := by decide +kernel
theorem dX8_unlike_50 : decode cX8_unlike 50 = .ok (.goto (-42), 3) := by decide +kernel
theorem dX8_unlike_53 : decode cX8_unlike 53 = .ok (.aload_n 0, 1) := by decide +kernel
theorem dX8_unlike_54 : decode cX8_unlike 54 = .ok (.invokevirtual 201, 3) := by decide +kernel
theorem dX8_unlike_57 : decode cX8_unlike 57 = .ok (.iload_n 2, 1) := by decide +kernel
theorem dX8_unlike_58 : decode cX8_unlike 58 = .ok (.ireturn, 1) := by decide +kernel
theorem dX8_judge_0 : decode cX8_judge 0 = .ok (.aload_n 0, 1) := by decide +kernel
theorem dX8_judge_1 : decode cX8_judge 1 = .ok (.iload_n 1, 1) := by decide +kernel
theorem dX8_judge_2 : decode cX8_judge 2 = .ok (.invokevirtual 216, 3) := by decide +kernel
theorem dX8_judge_5 : decode cX8_judge 5 = .ok (.istore_n 2, 1) := by decide +kernel
theorem dX8_judge_6 : decode cX8_judge 6 = .ok (.iload_n 2, 1) := by decide +kernel
theorem dX8_judge_7 : decode cX8_judge 7 = .ok (.ifCond .ne 11, 3) := by decide +kernel
theorem dX8_judge_10 : decode cX8_judge 10 = .ok (.aload_n 0, 1) := by decide +kernel
theorem dX8_judge_11 : decode cX8_judge 11 = .ok (.iload_n 1, 1) := by decide +kernel
theorem dX8_judge_12 : decode cX8_judge 12 = .ok (.invokevirtual 219, 3) := by decide +kernel
theorem dX8_judge_15 : decode cX8_judge 15 = .ok (.goto 4, 3) := by decide +kernel
theorem dX8_judge_18 : decode cX8_judge 18 = .ok (.iload_n 2, 1) := by decide +kernel
theorem dX8_judge_19 : decode cX8_judge 19 = .ok (.ireturn, 1) := by decide +kernel
theorem dX8_kinds_0 : decode cX8_kinds 0 = .ok (.aload_n 0, 1) := by decide +kernel
theorem dX8_kinds_1 : decode cX8_kinds 1 = .ok (.iload_n 1, 1) := by decide +kernel
theorem dX8_kinds_2 : decode cX8_kinds 2 = .ok (.invokevirtual 216, 3) := by decide +kernel
theorem dX8_kinds_5 : decode cX8_kinds 5 = .ok (.istore 4, 2) := by decide +kernel
theorem dX8_kinds_7 : decode cX8_kinds 7 = .ok (.iload 4, 2) := by decide +kernel
theorem dX8_kinds_9 : decode cX8_kinds 9 = .ok (.ifCond .eq 6, 3) := by decide +kernel
theorem dX8_kinds_12 : decode cX8_kinds 12 = .ok (.iload 4, 2) := by decide +kernel
theorem dX8_kinds_14 : decode cX8_kinds 14 = .ok (.ireturn, 1) := by decide +kernel
theorem dX8_kinds_15 : decode cX8_kinds 15 = .ok (.aload_n 0, 1) := by decide +kernel
theorem dX8_kinds_16 : decode cX8_kinds 16 = .ok (.iload_n 2, 1) := by decide +kernel
theorem dX8_kinds_17 : decode cX8_kinds 17 = .ok (.invokevirtual 161, 3) := by decide +kernel
theorem dX8_kinds_20 : decode cX8_kinds 20 = .ok (.ifCond .ne 6, 3) := by decide +kernel
theorem dX8_kinds_23 : decode cX8_kinds 23 = .ok (.bipush (-5), 2) := by decide +kernel
theorem dX8_kinds_25 : decode cX8_kinds 25 = .ok (.ireturn, 1) := by decide +kernel
theorem dX8_kinds_26 : decode cX8_kinds 26 = .ok (.iload_n 3, 1) := by decide +kernel
theorem dX8_kinds_27 : decode cX8_kinds 27 = .ok (.iconst 0, 1) := by decide +kernel
theorem dX8_kinds_28 : decode cX8_kinds 28 = .ok (.iconst 1, 1) := by decide +kernel
theorem dX8_kinds_29 : decode cX8_kinds 29 = .ok (.invokestatic 72, 3) := by decide +kernel
theorem dX8_kinds_32 : decode cX8_kinds 32 = .ok (.ifCond .ne 6, 3) := by decide +kernel
theorem dX8_kinds_35 : decode cX8_kinds 35 = .ok (.bipush (-7), 2) := by decide +kernel
theorem dX8_kinds_37 : decode cX8_kinds 37 = .ok (.ireturn, 1) := by decide +kernel
theorem dX8_kinds_38 : decode cX8_kinds 38 = .ok (.aload_n 0, 1) := by decide +kernel
theorem dX8_kinds_39 : decode cX8_kinds 39 = .ok (.getfield 7, 3) := by decide +kernel
theorem dX8_kinds_42 : decode cX8_kinds 42 = .ok (.iload_n 2, 1) := by decide +kernel
theorem dX8_kinds_43 : decode cX8_kinds 43 = .ok (.iaload, 1) := by decide +kernel
theorem dX8_kinds_44 : decode cX8_kinds 44 = .ok (.istore 5, 2) := by decide +kernel
theorem dX8_kinds_46 : decode cX8_kinds 46 = .ok (.aload_n 0, 1) := by decide +kernel
theorem dX8_kinds_47 : decode cX8_kinds 47 = .ok (.getfield 13, 3) := by decide +kernel
theorem dX8_kinds_50 : decode cX8_kinds 50 = .ok (.iload_n 2, 1) := by decide +kernel
theorem dX8_kinds_51 : decode cX8_kinds 51 = .ok (.iaload, 1) := by decide +kernel
theorem dX8_kinds_52 : decode cX8_kinds 52 = .ok (.istore 6, 2) := by decide +kernel
theorem dX8_kinds_54 : decode cX8_kinds 54 = .ok (.iconst 0, 1) := by decide +kernel
theorem dX8_kinds_55 : decode cX8_kinds 55 = .ok (.istore 7, 2) := by decide +kernel
theorem dX8_kinds_57 : decode cX8_kinds 57 = .ok (.iconst 0, 1) := by decide +kernel
theorem dX8_kinds_58 : decode cX8_kinds 58 = .ok (.istore 8, 2) := by decide +kernel
theorem dX8_kinds_60 : decode cX8_kinds 60 = .ok (.iload 8, 2) := by decide +kernel
theorem dX8_kinds_62 : decode cX8_kinds 62 = .ok (.iload_n 3, 1) := by decide +kernel
theorem dX8_kinds_63 : decode cX8_kinds 63 = .ok (.ifCond .ne 8, 3) := by decide +kernel
theorem dX8_kinds_66 : decode cX8_kinds 66 = .ok (.bipush 6, 2) := by decide +kernel
theorem dX8_kinds_68 : decode cX8_kinds 68 = .ok (.goto 5, 3) := by decide +kernel
theorem dX8_kinds_71 : decode cX8_kinds 71 = .ok (.bipush 10, 2) := by decide +kernel
theorem dX8_kinds_73 : decode cX8_kinds 73 = .ok (.if_icmp .ge 66, 3) := by decide +kernel
theorem dX8_kinds_76 : decode cX8_kinds 76 = .ok (.aload_n 0, 1) := by decide +kernel
theorem dX8_kinds_77 : decode cX8_kinds 77 = .ok (.getfield 7, 3) := by decide +kernel
theorem dX8_kinds_80 : decode cX8_kinds 80 = .ok (.iload_n 2, 1) := by decide +kernel
theorem dX8_kinds_81 : decode cX8_kinds 81 = .ok (.iload_n 3, 1) := by decide +kernel
theorem dX8_kinds_82 : decode cX8_kinds 82 = .ok (.ifCond .ne 8, 3) := by decide +kernel
theorem dX8_kinds_85 : decode cX8_kinds 85 = .ok (.iload 8, 2) := by decide +kernel
theorem dX8_kinds_87 : decode cX8_kinds 87 = .ok (.goto 5, 3) := by decide +kernel
theorem dX8_kinds_90 : decode cX8_kinds 90 = .ok (.iload 5, 2) := by decide +kernel
theorem dX8_kinds_92 : decode cX8_kinds 92 = .ok (.iastore, 1) := by decide +kernel
theorem dX8_kinds_93 : decode cX8_kinds 93 = .ok (.aload_n 0, 1) := by decide +kernel
theorem dX8_kinds_94 : decode cX8_kinds 94 = .ok (.getfield 13, 3) := by decide +kernel
theorem dX8_kinds_97 : decode cX8_kinds 97 = .ok (.iload_n 2, 1) := by decide +kernel
theorem dX8_kinds_98 : decode cX8_kinds 98 = .ok (.iload_n 3, 1) := by decide +kernel
theorem dX8_kinds_99 : decode cX8_kinds 99 = .ok (.iconst 1, 1) := by decide +kernel
theorem dX8_kinds_100 : decode cX8_kinds 100 = .ok (.if_icmp .ne 8, 3) := by decide +kernel
theorem dX8_kinds_103 : decode cX8_kinds 103 = .ok (.iload 8, 2) := by decide +kernel
theorem dX8_kinds_105 : decode cX8_kinds 105 = .ok (.goto 5, 3) := by decide +kernel
theorem dX8_kinds_108 : decode cX8_kinds 108 = .ok (.iload 6, 2) := by decide +kernel
theorem dX8_kinds_110 : decode cX8_kinds 110 = .ok (.iastore, 1) := by decide +kernel
theorem dX8_kinds_111 : decode cX8_kinds 111 = .ok (.iload 7, 2) := by decide +kernel
theorem dX8_kinds_113 : decode cX8_kinds 113 = .ok (.aload_n 0, 1) := by decide +kernel
theorem dX8_kinds_114 : decode cX8_kinds 114 = .ok (.iload_n 1, 1) := by decide +kernel
theorem dX8_kinds_115 : decode cX8_kinds 115 = .ok (.invokevirtual 219, 3) := by decide +kernel
theorem dX8_kinds_118 : decode cX8_kinds 118 = .ok (.iconst (-1), 1) := by decide +kernel
theorem dX8_kinds_119 : decode cX8_kinds 119 = .ok (.if_icmp .ne 10, 3) := by decide +kernel
theorem dX8_kinds_122 : decode cX8_kinds 122 = .ok (.iconst 1, 1) := by decide +kernel
theorem dX8_kinds_123 : decode cX8_kinds 123 = .ok (.iload 8, 2) := by decide +kernel
theorem dX8_kinds_125 : decode cX8_kinds 125 = .ok (.ishl, 1) := by decide +kernel
theorem dX8_kinds_126 : decode cX8_kinds 126 = .ok (.goto 4, 3) := by decide +kernel
theorem dX8_kinds_129 : decode cX8_kinds 129 = .ok (.iconst 0, 1) := by decide +kernel
theorem dX8_kinds_130 : decode cX8_kinds 130 = .ok (.ior, 1) := by decide +kernel
theorem dX8_kinds_131 : decode cX8_kinds 131 = .ok (.istore 7, 2) := by decide +kernel
theorem dX8_kinds_133 : decode cX8_kinds 133 = .ok (.iinc 8 1, 3) := by decide +kernel
theorem dX8_kinds_136 : decode cX8_kinds 136 = .ok (.goto (-76), 3) := by decide +kernel
theorem dX8_kinds_139 : decode cX8_kinds 139 = .ok (.aload_n 0, 1) := by decide +kernel
theorem dX8_kinds_140 : decode cX8_kinds 140 = .ok (.getfield 7, 3) := by decide +kernel
theorem dX8_kinds_143 : decode cX8_kinds 143 = .ok (.iload_n 2, 1) := by decide +kernel
theorem dX8_kinds_144 : decode cX8_kinds 144 = .ok (.iload 5, 2) := by decide +kernel
theorem dX8_kinds_146 : decode cX8_kinds 146 = .ok (.iastore, 1) := by decide +kernel
theorem dX8_kinds_147 : decode cX8_kinds 147 = .ok (.aload_n 0, 1) := by decide +kernel
theorem dX8_kinds_148 : decode cX8_kinds 148 = .ok (.getfield 13, 3) := by decide +kernel
theorem dX8_kinds_151 : decode cX8_kinds 151 = .ok (.iload_n 2, 1) := by decide +kernel
theorem dX8_kinds_152 : decode cX8_kinds 152 = .ok (.iload 6, 2) := by decide +kernel
theorem dX8_kinds_154 : decode cX8_kinds 154 = .ok (.iastore, 1) := by decide +kernel
theorem dX8_kinds_155 : decode cX8_kinds 155 = .ok (.iload 7, 2) := by decide +kernel
theorem dX8_kinds_157 : decode cX8_kinds 157 = .ok (.ireturn, 1) := by decide +kernel
theorem dX8_turned_0 : decode cX8_turned 0 = .ok (.aload_n 0, 1) := by decide +kernel
theorem dX8_turned_1 : decode cX8_turned 1 = .ok (.iload_n 1, 1) := by decide +kernel
theorem dX8_turned_2 : decode cX8_turned 2 = .ok (.invokevirtual 216, 3) := by decide +kernel
theorem dX8_turned_5 : decode cX8_turned 5 = .ok (.istore_n 3, 1) := by decide +kernel
theorem dX8_turned_6 : decode cX8_turned 6 = .ok (.iload_n 3, 1) := by decide +kernel
theorem dX8_turned_7 : decode cX8_turned 7 = .ok (.ifCond .eq 5, 3) := by decide +kernel
theorem dX8_turned_10 : decode cX8_turned 10 = .ok (.iload_n 3, 1) := by decide +kernel
theorem dX8_turned_11 : decode cX8_turned 11 = .ok (.ireturn, 1) := by decide +kernel
theorem dX8_turned_12 : decode cX8_turned 12 = .ok (.aload_n 0, 1) := by decide +kernel
theorem dX8_turned_13 : decode cX8_turned 13 = .ok (.iload_n 2, 1) := by decide +kernel
theorem dX8_turned_14 : decode cX8_turned 14 = .ok (.invokevirtual 161, 3) := by decide +kernel
theorem dX8_turned_17 : decode cX8_turned 17 = .ok (.ifCond .ne 6, 3) := by decide +kernel
theorem dX8_turned_20 : decode cX8_turned 20 = .ok (.bipush (-5), 2) := by decide +kernel
theorem dX8_turned_22 : decode cX8_turned 22 = .ok (.ireturn, 1) := by decide +kernel
theorem dX8_turned_23 : decode cX8_turned 23 = .ok (.iconst 0, 1) := by decide +kernel
theorem dX8_turned_24 : decode cX8_turned 24 = .ok (.istore 4, 2) := by decide +kernel
theorem dX8_turned_26 : decode cX8_turned 26 = .ok (.iconst 0, 1) := by decide +kernel
theorem dX8_turned_27 : decode cX8_turned 27 = .ok (.istore 5, 2) := by decide +kernel
theorem dX8_turned_29 : decode cX8_turned 29 = .ok (.iload 5, 2) := by decide +kernel
theorem dX8_turned_31 : decode cX8_turned 31 = .ok (.bipush 10, 2) := by decide +kernel
theorem dX8_turned_33 : decode cX8_turned 33 = .ok (.if_icmp .ge 61, 3) := by decide +kernel
theorem dX8_turned_36 : decode cX8_turned 36 = .ok (.aload_n 0, 1) := by decide +kernel
theorem dX8_turned_37 : decode cX8_turned 37 = .ok (.getfield 16, 3) := by decide +kernel
theorem dX8_turned_40 : decode cX8_turned 40 = .ok (.iconst 5, 1) := by decide +kernel
theorem dX8_turned_41 : decode cX8_turned 41 = .ok (.iload_n 2, 1) := by decide +kernel
theorem dX8_turned_42 : decode cX8_turned 42 = .ok (.imul, 1) := by decide +kernel
theorem dX8_turned_43 : decode cX8_turned 43 = .ok (.dup2, 1) := by decide +kernel
theorem dX8_turned_44 : decode cX8_turned 44 = .ok (.iaload, 1) := by decide +kernel
theorem dX8_turned_45 : decode cX8_turned 45 = .ok (.iconst 1, 1) := by decide +kernel
theorem dX8_turned_46 : decode cX8_turned 46 = .ok (.iload 5, 2) := by decide +kernel
theorem dX8_turned_48 : decode cX8_turned 48 = .ok (.ishl, 1) := by decide +kernel
theorem dX8_turned_49 : decode cX8_turned 49 = .ok (.ixor, 1) := by decide +kernel
theorem dX8_turned_50 : decode cX8_turned 50 = .ok (.iastore, 1) := by decide +kernel
theorem dX8_turned_51 : decode cX8_turned 51 = .ok (.iload 4, 2) := by decide +kernel
theorem dX8_turned_53 : decode cX8_turned 53 = .ok (.aload_n 0, 1) := by decide +kernel
theorem dX8_turned_54 : decode cX8_turned 54 = .ok (.iload_n 1, 1) := by decide +kernel
theorem dX8_turned_55 : decode cX8_turned 55 = .ok (.invokevirtual 219, 3) := by decide +kernel
theorem dX8_turned_58 : decode cX8_turned 58 = .ok (.iconst (-1), 1) := by decide +kernel
theorem dX8_turned_59 : decode cX8_turned 59 = .ok (.if_icmp .ne 10, 3) := by decide +kernel
theorem dX8_turned_62 : decode cX8_turned 62 = .ok (.iconst 1, 1) := by decide +kernel
theorem dX8_turned_63 : decode cX8_turned 63 = .ok (.iload 5, 2) := by decide +kernel
theorem dX8_turned_65 : decode cX8_turned 65 = .ok (.ishl, 1) := by decide +kernel
theorem dX8_turned_66 : decode cX8_turned 66 = .ok (.goto 4, 3) := by decide +kernel
theorem dX8_turned_69 : decode cX8_turned 69 = .ok (.iconst 0, 1) := by decide +kernel
theorem dX8_turned_70 : decode cX8_turned 70 = .ok (.ior, 1) := by decide +kernel
theorem dX8_turned_71 : decode cX8_turned 71 = .ok (.istore 4, 2) := by decide +kernel
theorem dX8_turned_73 : decode cX8_turned 73 = .ok (.aload_n 0, 1) := by decide +kernel
theorem dX8_turned_74 : decode cX8_turned 74 = .ok (.getfield 16, 3) := by decide +kernel
theorem dX8_turned_77 : decode cX8_turned 77 = .ok (.iconst 5, 1) := by decide +kernel
theorem dX8_turned_78 : decode cX8_turned 78 = .ok (.iload_n 2, 1) := by decide +kernel
theorem dX8_turned_79 : decode cX8_turned 79 = .ok (.imul, 1) := by decide +kernel
theorem dX8_turned_80 : decode cX8_turned 80 = .ok (.dup2, 1) := by decide +kernel
theorem dX8_turned_81 : decode cX8_turned 81 = .ok (.iaload, 1) := by decide +kernel
theorem dX8_turned_82 : decode cX8_turned 82 = .ok (.iconst 1, 1) := by decide +kernel
theorem dX8_turned_83 : decode cX8_turned 83 = .ok (.iload 5, 2) := by decide +kernel
theorem dX8_turned_85 : decode cX8_turned 85 = .ok (.ishl, 1) := by decide +kernel
theorem dX8_turned_86 : decode cX8_turned 86 = .ok (.ixor, 1) := by decide +kernel
theorem dX8_turned_87 : decode cX8_turned 87 = .ok (.iastore, 1) := by decide +kernel
theorem dX8_turned_88 : decode cX8_turned 88 = .ok (.iinc 5 1, 3) := by decide +kernel
theorem dX8_turned_91 : decode cX8_turned 91 = .ok (.goto (-62), 3) := by decide +kernel
theorem dX8_turned_94 : decode cX8_turned 94 = .ok (.iload 4, 2) := by decide +kernel
theorem dX8_turned_96 : decode cX8_turned 96 = .ok (.ireturn, 1) := by decide +kernel
theorem dX8_states_0 : decode cX8_states 0 = .ok (.aload_n 0, 1) := by decide +kernel
theorem dX8_states_1 : decode cX8_states 1 = .ok (.iload_n 1, 1) := by decide +kernel
theorem dX8_states_2 : decode cX8_states 2 = .ok (.invokevirtual 216, 3) := by decide +kernel
theorem dX8_states_5 : decode cX8_states 5 = .ok (.istore 5, 2) := by decide +kernel
theorem dX8_states_7 : decode cX8_states 7 = .ok (.iload 5, 2) := by decide +kernel
theorem dX8_states_9 : decode cX8_states 9 = .ok (.ifCond .eq 6, 3) := by decide +kernel
theorem dX8_states_12 : decode cX8_states 12 = .ok (.iload 5, 2) := by decide +kernel
theorem dX8_states_14 : decode cX8_states 14 = .ok (.ireturn, 1) := by decide +kernel
theorem dX8_states_15 : decode cX8_states 15 = .ok (.aload_n 0, 1) := by decide +kernel
theorem dX8_states_16 : decode cX8_states 16 = .ok (.iload_n 2, 1) := by decide +kernel
theorem dX8_states_17 : decode cX8_states 17 = .ok (.invokevirtual 161, 3) := by decide +kernel
theorem dX8_states_20 : decode cX8_states 20 = .ok (.ifCond .ne 6, 3) := by decide +kernel
theorem dX8_states_23 : decode cX8_states 23 = .ok (.bipush (-5), 2) := by decide +kernel
theorem dX8_states_25 : decode cX8_states 25 = .ok (.ireturn, 1) := by decide +kernel
theorem dX8_states_26 : decode cX8_states 26 = .ok (.iload_n 3, 1) := by decide +kernel
theorem dX8_states_27 : decode cX8_states 27 = .ok (.iconst 1, 1) := by decide +kernel
theorem dX8_states_28 : decode cX8_states 28 = .ok (.iconst 2, 1) := by decide +kernel
theorem dX8_states_29 : decode cX8_states 29 = .ok (.invokestatic 72, 3) := by decide +kernel
theorem dX8_states_32 : decode cX8_states 32 = .ok (.ifCond .eq 13, 3) := by decide +kernel
theorem dX8_states_35 : decode cX8_states 35 = .ok (.iload 4, 2) := by decide +kernel
theorem dX8_states_37 : decode cX8_states 37 = .ok (.iconst 0, 1) := by decide +kernel
theorem dX8_states_38 : decode cX8_states 38 = .ok (.iconst 1, 1) := by decide +kernel
theorem dX8_states_39 : decode cX8_states 39 = .ok (.invokestatic 72, 3) := by decide +kernel
theorem dX8_states_42 : decode cX8_states 42 = .ok (.ifCond .ne 6, 3) := by decide +kernel
theorem dX8_states_45 : decode cX8_states 45 = .ok (.bipush (-7), 2) := by decide +kernel
theorem dX8_states_47 : decode cX8_states 47 = .ok (.ireturn, 1) := by decide +kernel
theorem dX8_states_48 : decode cX8_states 48 = .ok (.aload_n 0, 1) := by decide +kernel
theorem dX8_states_49 : decode cX8_states 49 = .ok (.getfield 16, 3) := by decide +kernel
theorem dX8_states_52 : decode cX8_states 52 = .ok (.iconst 5, 1) := by decide +kernel
theorem dX8_states_53 : decode cX8_states 53 = .ok (.iload_n 2, 1) := by decide +kernel
theorem dX8_states_54 : decode cX8_states 54 = .ok (.imul, 1) := by decide +kernel
theorem dX8_states_55 : decode cX8_states 55 = .ok (.iload_n 3, 1) := by decide +kernel
theorem dX8_states_56 : decode cX8_states 56 = .ok (.iadd, 1) := by decide +kernel
theorem dX8_states_57 : decode cX8_states 57 = .ok (.iaload, 1) := by decide +kernel
theorem dX8_states_58 : decode cX8_states 58 = .ok (.istore 6, 2) := by decide +kernel
theorem dX8_states_60 : decode cX8_states 60 = .ok (.iconst 0, 1) := by decide +kernel
theorem dX8_states_61 : decode cX8_states 61 = .ok (.istore 7, 2) := by decide +kernel
theorem dX8_states_63 : decode cX8_states 63 = .ok (.iconst (-1), 1) := by decide +kernel
theorem dX8_states_64 : decode cX8_states 64 = .ok (.istore 8, 2) := by decide +kernel
theorem dX8_states_66 : decode cX8_states 66 = .ok (.iconst 0, 1) := by decide +kernel
theorem dX8_states_67 : decode cX8_states 67 = .ok (.istore 9, 2) := by decide +kernel
theorem dX8_states_69 : decode cX8_states 69 = .ok (.iload 9, 2) := by decide +kernel
theorem dX8_states_71 : decode cX8_states 71 = .ok (.bipush 99, 2) := by decide +kernel
theorem dX8_states_73 : decode cX8_states 73 = .ok (.if_icmp .gt 72, 3) := by decide +kernel
theorem dX8_states_76 : decode cX8_states 76 = .ok (.aload_n 0, 1) := by decide +kernel
theorem dX8_states_77 : decode cX8_states 77 = .ok (.getfield 16, 3) := by decide +kernel
theorem dX8_states_80 : decode cX8_states 80 = .ok (.iconst 5, 1) := by decide +kernel
theorem dX8_states_81 : decode cX8_states 81 = .ok (.iload_n 2, 1) := by decide +kernel
theorem dX8_states_82 : decode cX8_states 82 = .ok (.imul, 1) := by decide +kernel
theorem dX8_states_83 : decode cX8_states 83 = .ok (.iload_n 3, 1) := by decide +kernel
theorem dX8_states_84 : decode cX8_states 84 = .ok (.iadd, 1) := by decide +kernel
theorem dX8_states_85 : decode cX8_states 85 = .ok (.iload 9, 2) := by decide +kernel
theorem dX8_states_87 : decode cX8_states 87 = .ok (.iastore, 1) := by decide +kernel
theorem dX8_states_88 : decode cX8_states 88 = .ok (.aload_n 0, 1) := by decide +kernel
theorem dX8_states_89 : decode cX8_states 89 = .ok (.iload_n 1, 1) := by decide +kernel
theorem dX8_states_90 : decode cX8_states 90 = .ok (.invokevirtual 219, 3) := by decide +kernel
theorem dX8_states_93 : decode cX8_states 93 = .ok (.iconst (-1), 1) := by decide +kernel
theorem dX8_states_94 : decode cX8_states 94 = .ok (.if_icmp .ne 7, 3) := by decide +kernel
theorem dX8_states_97 : decode cX8_states 97 = .ok (.iconst 1, 1) := by decide +kernel
theorem dX8_states_98 : decode cX8_states 98 = .ok (.goto 4, 3) := by decide +kernel
theorem dX8_states_101 : decode cX8_states 101 = .ok (.iconst 0, 1) := by decide +kernel
theorem dX8_states_102 : decode cX8_states 102 = .ok (.istore 10, 2) := by decide +kernel
theorem dX8_states_104 : decode cX8_states 104 = .ok (.iload 7, 2) := by decide +kernel
theorem dX8_states_106 : decode cX8_states 106 = .ok (.iload 10, 2) := by decide +kernel
theorem dX8_states_108 : decode cX8_states 108 = .ok (.ifCond .eq 7, 3) := by decide +kernel
theorem dX8_states_111 : decode cX8_states 111 = .ok (.iconst 1, 1) := by decide +kernel
theorem dX8_states_112 : decode cX8_states 112 = .ok (.goto 4, 3) := by decide +kernel
theorem dX8_states_115 : decode cX8_states 115 = .ok (.iconst 0, 1) := by decide +kernel
theorem dX8_states_116 : decode cX8_states 116 = .ok (.iadd, 1) := by decide +kernel
theorem dX8_states_117 : decode cX8_states 117 = .ok (.istore 7, 2) := by decide +kernel
theorem dX8_states_119 : decode cX8_states 119 = .ok (.iload 10, 2) := by decide +kernel
theorem dX8_states_121 : decode cX8_states 121 = .ok (.ifCond .eq 14, 3) := by decide +kernel
theorem dX8_states_124 : decode cX8_states 124 = .ok (.iload 8, 2) := by decide +kernel
theorem dX8_states_126 : decode cX8_states 126 = .ok (.iconst (-1), 1) := by decide +kernel
theorem dX8_states_127 : decode cX8_states 127 = .ok (.if_icmp .ne 8, 3) := by decide +kernel
theorem dX8_states_130 : decode cX8_states 130 = .ok (.iload 9, 2) := by decide +kernel
theorem dX8_states_132 : decode cX8_states 132 = .ok (.goto 5, 3) := by decide +kernel
theorem dX8_states_135 : decode cX8_states 135 = .ok (.iload 8, 2) := by decide +kernel
theorem dX8_states_137 : decode cX8_states 137 = .ok (.istore 8, 2) := by decide +kernel
theorem dX8_states_139 : decode cX8_states 139 = .ok (.iinc 9 1, 3) := by decide +kernel
theorem dX8_states_142 : decode cX8_states 142 = .ok (.goto (-73), 3) := by decide +kernel
theorem dX8_states_145 : decode cX8_states 145 = .ok (.aload_n 0, 1) := by decide +kernel
theorem dX8_states_146 : decode cX8_states 146 = .ok (.getfield 16, 3) := by decide +kernel
theorem dX8_states_149 : decode cX8_states 149 = .ok (.iconst 5, 1) := by decide +kernel
theorem dX8_states_150 : decode cX8_states 150 = .ok (.iload_n 2, 1) := by decide +kernel
theorem dX8_states_151 : decode cX8_states 151 = .ok (.imul, 1) := by decide +kernel
theorem dX8_states_152 : decode cX8_states 152 = .ok (.iload_n 3, 1) := by decide +kernel
theorem dX8_states_153 : decode cX8_states 153 = .ok (.iadd, 1) := by decide +kernel
theorem dX8_states_154 : decode cX8_states 154 = .ok (.iload 6, 2) := by decide +kernel
theorem dX8_states_156 : decode cX8_states 156 = .ok (.iastore, 1) := by decide +kernel
theorem dX8_states_157 : decode cX8_states 157 = .ok (.iload 4, 2) := by decide +kernel
theorem dX8_states_159 : decode cX8_states 159 = .ok (.ifCond .ne 8, 3) := by decide +kernel
theorem dX8_states_162 : decode cX8_states 162 = .ok (.iload 7, 2) := by decide +kernel
theorem dX8_states_164 : decode cX8_states 164 = .ok (.goto 5, 3) := by decide +kernel
theorem dX8_states_167 : decode cX8_states 167 = .ok (.iload 8, 2) := by decide +kernel
theorem dX8_states_169 : decode cX8_states 169 = .ok (.ireturn, 1) := by decide +kernel
theorem dX8_feared_0 : decode cX8_feared 0 = .ok (.aload_n 0, 1) := by decide +kernel
theorem dX8_feared_1 : decode cX8_feared 1 = .ok (.iload_n 1, 1) := by decide +kernel
theorem dX8_feared_2 : decode cX8_feared 2 = .ok (.invokevirtual 216, 3) := by decide +kernel
theorem dX8_feared_5 : decode cX8_feared 5 = .ok (.istore_n 2, 1) := by decide +kernel
theorem dX8_feared_6 : decode cX8_feared 6 = .ok (.iload_n 2, 1) := by decide +kernel
theorem dX8_feared_7 : decode cX8_feared 7 = .ok (.ifCond .eq 5, 3) := by decide +kernel
theorem dX8_feared_10 : decode cX8_feared 10 = .ok (.iload_n 2, 1) := by decide +kernel
theorem dX8_feared_11 : decode cX8_feared 11 = .ok (.ireturn, 1) := by decide +kernel
theorem dX8_feared_12 : decode cX8_feared 12 = .ok (.iconst 0, 1) := by decide +kernel
theorem dX8_feared_13 : decode cX8_feared 13 = .ok (.istore_n 3, 1) := by decide +kernel
theorem dX8_feared_14 : decode cX8_feared 14 = .ok (.iconst 0, 1) := by decide +kernel
theorem dX8_feared_15 : decode cX8_feared 15 = .ok (.istore 4, 2) := by decide +kernel
theorem dX8_feared_17 : decode cX8_feared 17 = .ok (.iload 4, 2) := by decide +kernel
theorem dX8_feared_19 : decode cX8_feared 19 = .ok (.aload_n 0, 1) := by decide +kernel
theorem dX8_feared_20 : decode cX8_feared 20 = .ok (.getfield 69, 3) := by decide +kernel
theorem dX8_feared_23 : decode cX8_feared 23 = .ok (.if_icmp .ge 77, 3) := by decide +kernel
theorem dX8_feared_26 : decode cX8_feared 26 = .ok (.aload_n 0, 1) := by decide +kernel
theorem dX8_feared_27 : decode cX8_feared 27 = .ok (.getfield 16, 3) := by decide +kernel
theorem dX8_feared_30 : decode cX8_feared 30 = .ok (.iconst 5, 1) := by decide +kernel
theorem dX8_feared_31 : decode cX8_feared 31 = .ok (.iload 4, 2) := by decide +kernel
theorem dX8_feared_33 : decode cX8_feared 33 = .ok (.imul, 1) := by decide +kernel
theorem dX8_feared_34 : decode cX8_feared 34 = .ok (.iconst 4, 1) := by decide +kernel
theorem dX8_feared_35 : decode cX8_feared 35 = .ok (.iadd, 1) := by decide +kernel
theorem dX8_feared_36 : decode cX8_feared 36 = .ok (.iconst 1, 1) := by decide +kernel
theorem dX8_feared_37 : decode cX8_feared 37 = .ok (.aload_n 0, 1) := by decide +kernel
theorem dX8_feared_38 : decode cX8_feared 38 = .ok (.getfield 16, 3) := by decide +kernel
theorem dX8_feared_41 : decode cX8_feared 41 = .ok (.iconst 5, 1) := by decide +kernel
theorem dX8_feared_42 : decode cX8_feared 42 = .ok (.iload 4, 2) := by decide +kernel
theorem dX8_feared_44 : decode cX8_feared 44 = .ok (.imul, 1) := by decide +kernel
theorem dX8_feared_45 : decode cX8_feared 45 = .ok (.iconst 4, 1) := by decide +kernel
theorem dX8_feared_46 : decode cX8_feared 46 = .ok (.iadd, 1) := by decide +kernel
theorem dX8_feared_47 : decode cX8_feared 47 = .ok (.iaload, 1) := by decide +kernel
theorem dX8_feared_48 : decode cX8_feared 48 = .ok (.isub, 1) := by decide +kernel
theorem dX8_feared_49 : decode cX8_feared 49 = .ok (.iastore, 1) := by decide +kernel
theorem dX8_feared_50 : decode cX8_feared 50 = .ok (.iload_n 3, 1) := by decide +kernel
theorem dX8_feared_51 : decode cX8_feared 51 = .ok (.aload_n 0, 1) := by decide +kernel
theorem dX8_feared_52 : decode cX8_feared 52 = .ok (.iload_n 1, 1) := by decide +kernel
theorem dX8_feared_53 : decode cX8_feared 53 = .ok (.invokevirtual 219, 3) := by decide +kernel
theorem dX8_feared_56 : decode cX8_feared 56 = .ok (.iconst (-1), 1) := by decide +kernel
theorem dX8_feared_57 : decode cX8_feared 57 = .ok (.if_icmp .ne 10, 3) := by decide +kernel
theorem dX8_feared_60 : decode cX8_feared 60 = .ok (.iconst 1, 1) := by decide +kernel
theorem dX8_feared_61 : decode cX8_feared 61 = .ok (.iload 4, 2) := by decide +kernel
theorem dX8_feared_63 : decode cX8_feared 63 = .ok (.ishl, 1) := by decide +kernel
theorem dX8_feared_64 : decode cX8_feared 64 = .ok (.goto 4, 3) := by decide +kernel
theorem dX8_feared_67 : decode cX8_feared 67 = .ok (.iconst 0, 1) := by decide +kernel
theorem dX8_feared_68 : decode cX8_feared 68 = .ok (.ior, 1) := by decide +kernel
theorem dX8_feared_69 : decode cX8_feared 69 = .ok (.istore_n 3, 1) := by decide +kernel
theorem dX8_feared_70 : decode cX8_feared 70 = .ok (.aload_n 0, 1) := by decide +kernel
theorem dX8_feared_71 : decode cX8_feared 71 = .ok (.getfield 16, 3) := by decide +kernel
theorem dX8_feared_74 : decode cX8_feared 74 = .ok (.iconst 5, 1) := by decide +kernel
theorem dX8_feared_75 : decode cX8_feared 75 = .ok (.iload 4, 2) := by decide +kernel
theorem dX8_feared_77 : decode cX8_feared 77 = .ok (.imul, 1) := by decide +kernel
theorem dX8_feared_78 : decode cX8_feared 78 = .ok (.iconst 4, 1) := by decide +kernel
theorem dX8_feared_79 : decode cX8_feared 79 = .ok (.iadd, 1) := by decide +kernel
theorem dX8_feared_80 : decode cX8_feared 80 = .ok (.iconst 1, 1) := by decide +kernel
theorem dX8_feared_81 : decode cX8_feared 81 = .ok (.aload_n 0, 1) := by decide +kernel
theorem dX8_feared_82 : decode cX8_feared 82 = .ok (.getfield 16, 3) := by decide +kernel
theorem dX8_feared_85 : decode cX8_feared 85 = .ok (.iconst 5, 1) := by decide +kernel
theorem dX8_feared_86 : decode cX8_feared 86 = .ok (.iload 4, 2) := by decide +kernel
theorem dX8_feared_88 : decode cX8_feared 88 = .ok (.imul, 1) := by decide +kernel
theorem dX8_feared_89 : decode cX8_feared 89 = .ok (.iconst 4, 1) := by decide +kernel
theorem dX8_feared_90 : decode cX8_feared 90 = .ok (.iadd, 1) := by decide +kernel
theorem dX8_feared_91 : decode cX8_feared 91 = .ok (.iaload, 1) := by decide +kernel
theorem dX8_feared_92 : decode cX8_feared 92 = .ok (.isub, 1) := by decide +kernel
theorem dX8_feared_93 : decode cX8_feared 93 = .ok (.iastore, 1) := by decide +kernel
theorem dX8_feared_94 : decode cX8_feared 94 = .ok (.iinc 4 1, 3) := by decide +kernel
theorem dX8_feared_97 : decode cX8_feared 97 = .ok (.goto (-80), 3) := by decide +kernel
theorem dX8_feared_100 : decode cX8_feared 100 = .ok (.iload_n 3, 1) := by decide +kernel
theorem dX8_feared_101 : decode cX8_feared 101 = .ok (.ireturn, 1) := by decide +kernel
theorem dX8_laws_0 : decode cX8_laws 0 = .ok (.aload_n 0, 1) := by decide +kernel
theorem dX8_laws_1 : decode cX8_laws 1 = .ok (.iload_n 1, 1) := by decide +kernel
theorem dX8_laws_2 : decode cX8_laws 2 = .ok (.invokevirtual 216, 3) := by decide +kernel
theorem dX8_laws_5 : decode cX8_laws 5 = .ok (.istore_n 2, 1) := by decide +kernel
theorem dX8_laws_6 : decode cX8_laws 6 = .ok (.iload_n 2, 1) := by decide +kernel
theorem dX8_laws_7 : decode cX8_laws 7 = .ok (.ifCond .eq 5, 3) := by decide +kernel
theorem dX8_laws_10 : decode cX8_laws 10 = .ok (.iload_n 2, 1) := by decide +kernel
theorem dX8_laws_11 : decode cX8_laws 11 = .ok (.ireturn, 1) := by decide +kernel
theorem dX8_laws_12 : decode cX8_laws 12 = .ok (.aload_n 0, 1) := by decide +kernel
theorem dX8_laws_13 : decode cX8_laws 13 = .ok (.getfield 89, 3) := by decide +kernel
theorem dX8_laws_16 : decode cX8_laws 16 = .ok (.istore_n 3, 1) := by decide +kernel
theorem dX8_laws_17 : decode cX8_laws 17 = .ok (.iconst 0, 1) := by decide +kernel
theorem dX8_laws_18 : decode cX8_laws 18 = .ok (.istore 4, 2) := by decide +kernel
theorem dX8_laws_20 : decode cX8_laws 20 = .ok (.iconst 0, 1) := by decide +kernel
theorem dX8_laws_21 : decode cX8_laws 21 = .ok (.istore 5, 2) := by decide +kernel
theorem dX8_laws_23 : decode cX8_laws 23 = .ok (.iload 5, 2) := by decide +kernel
theorem dX8_laws_25 : decode cX8_laws 25 = .ok (.aload_n 0, 1) := by decide +kernel
theorem dX8_laws_26 : decode cX8_laws 26 = .ok (.getfield 86, 3) := by decide +kernel
theorem dX8_laws_29 : decode cX8_laws 29 = .ok (.if_icmp .ge 37, 3) := by decide +kernel
theorem dX8_laws_32 : decode cX8_laws 32 = .ok (.aload_n 0, 1) := by decide +kernel
theorem dX8_laws_33 : decode cX8_laws 33 = .ok (.iload 5, 2) := by decide +kernel
theorem dX8_laws_35 : decode cX8_laws 35 = .ok (.putfield 89, 3) := by decide +kernel
theorem dX8_laws_38 : decode cX8_laws 38 = .ok (.iload 4, 2) := by decide +kernel
theorem dX8_laws_40 : decode cX8_laws 40 = .ok (.aload_n 0, 1) := by decide +kernel
theorem dX8_laws_41 : decode cX8_laws 41 = .ok (.iload_n 1, 1) := by decide +kernel
theorem dX8_laws_42 : decode cX8_laws 42 = .ok (.invokevirtual 219, 3) := by decide +kernel
theorem dX8_laws_45 : decode cX8_laws 45 = .ok (.iconst (-1), 1) := by decide +kernel
theorem dX8_laws_46 : decode cX8_laws 46 = .ok (.if_icmp .ne 10, 3) := by decide +kernel
theorem dX8_laws_49 : decode cX8_laws 49 = .ok (.iconst 1, 1) := by decide +kernel
theorem dX8_laws_50 : decode cX8_laws 50 = .ok (.iload 5, 2) := by decide +kernel
theorem dX8_laws_52 : decode cX8_laws 52 = .ok (.ishl, 1) := by decide +kernel
theorem dX8_laws_53 : decode cX8_laws 53 = .ok (.goto 4, 3) := by decide +kernel
theorem dX8_laws_56 : decode cX8_laws 56 = .ok (.iconst 0, 1) := by decide +kernel
theorem dX8_laws_57 : decode cX8_laws 57 = .ok (.ior, 1) := by decide +kernel
theorem dX8_laws_58 : decode cX8_laws 58 = .ok (.istore 4, 2) := by decide +kernel
theorem dX8_laws_60 : decode cX8_laws 60 = .ok (.iinc 5 1, 3) := by decide +kernel
theorem dX8_laws_63 : decode cX8_laws 63 = .ok (.goto (-40), 3) := by decide +kernel
theorem dX8_laws_66 : decode cX8_laws 66 = .ok (.aload_n 0, 1) := by decide +kernel
theorem dX8_laws_67 : decode cX8_laws 67 = .ok (.iload_n 3, 1) := by decide +kernel
theorem dX8_laws_68 : decode cX8_laws 68 = .ok (.putfield 89, 3) := by decide +kernel
theorem dX8_laws_71 : decode cX8_laws 71 = .ok (.iload 4, 2) := by decide +kernel
theorem dX8_laws_73 : decode cX8_laws 73 = .ok (.ireturn, 1) := by decide +kernel
theorem dX8_film_0 : decode cX8_film 0 = .ok (.iload_n 1, 1) := by decide +kernel
theorem dX8_film_1 : decode cX8_film 1 = .ok (.iconst 0, 1) := by decide +kernel
theorem dX8_film_2 : decode cX8_film 2 = .ok (.iconst 3, 1) := by decide +kernel
theorem dX8_film_3 : decode cX8_film 3 = .ok (.invokestatic 72, 3) := by decide +kernel
theorem dX8_film_6 : decode cX8_film 6 = .ok (.ifCond .ne 6, 3) := by decide +kernel
theorem dX8_film_9 : decode cX8_film 9 = .ok (.bipush (-2), 2) := by decide +kernel
theorem dX8_film_11 : decode cX8_film 11 = .ok (.ireturn, 1) := by decide +kernel
theorem dX8_film_12 : decode cX8_film 12 = .ok (.iload_n 2, 1) := by decide +kernel
theorem dX8_film_13 : decode cX8_film 13 = .ok (.iconst 0, 1) := by decide +kernel
theorem dX8_film_14 : decode cX8_film 14 = .ok (.bipush 20, 2) := by decide +kernel
theorem dX8_film_16 : decode cX8_film 16 = .ok (.invokestatic 72, 3) := by decide +kernel
theorem dX8_film_19 : decode cX8_film 19 = .ok (.ifCond .ne 6, 3) := by decide +kernel
theorem dX8_film_22 : decode cX8_film 22 = .ok (.bipush (-7), 2) := by decide +kernel
theorem dX8_film_24 : decode cX8_film 24 = .ok (.ireturn, 1) := by decide +kernel
theorem dX8_film_25 : decode cX8_film 25 = .ok (.aload_n 0, 1) := by decide +kernel
theorem dX8_film_26 : decode cX8_film 26 = .ok (.getfield 34, 3) := by decide +kernel
theorem dX8_film_29 : decode cX8_film 29 = .ok (.iload_n 1, 1) := by decide +kernel
theorem dX8_film_30 : decode cX8_film 30 = .ok (.iconst 0, 1) := by decide +kernel
theorem dX8_film_31 : decode cX8_film 31 = .ok (.iastore, 1) := by decide +kernel
theorem dX8_film_32 : decode cX8_film 32 = .ok (.aload_n 0, 1) := by decide +kernel
theorem dX8_film_33 : decode cX8_film 33 = .ok (.getfield 37, 3) := by decide +kernel
theorem dX8_film_36 : decode cX8_film 36 = .ok (.iload_n 1, 1) := by decide +kernel
theorem dX8_film_37 : decode cX8_film 37 = .ok (.iload_n 2, 1) := by decide +kernel
theorem dX8_film_38 : decode cX8_film 38 = .ok (.iastore, 1) := by decide +kernel
theorem dX8_film_39 : decode cX8_film 39 = .ok (.aload_n 0, 1) := by decide +kernel
theorem dX8_film_40 : decode cX8_film 40 = .ok (.invokevirtual 195, 3) := by decide +kernel
theorem dX8_film_43 : decode cX8_film 43 = .ok (.iconst 0, 1) := by decide +kernel
theorem dX8_film_44 : decode cX8_film 44 = .ok (.istore_n 3, 1) := by decide +kernel
theorem dX8_film_45 : decode cX8_film 45 = .ok (.iload_n 3, 1) := by decide +kernel
theorem dX8_film_46 : decode cX8_film 46 = .ok (.bipush 40, 2) := by decide +kernel
theorem dX8_film_48 : decode cX8_film 48 = .ok (.if_icmp .ge 33, 3) := by decide +kernel
theorem dX8_film_51 : decode cX8_film 51 = .ok (.aload_n 0, 1) := by decide +kernel
theorem dX8_film_52 : decode cX8_film 52 = .ok (.getfield 40, 3) := by decide +kernel
theorem dX8_film_55 : decode cX8_film 55 = .ok (.bipush 40, 2) := by decide +kernel
theorem dX8_film_57 : decode cX8_film 57 = .ok (.iload_n 1, 1) := by decide +kernel
theorem dX8_film_58 : decode cX8_film 58 = .ok (.imul, 1) := by decide +kernel
theorem dX8_film_59 : decode cX8_film 59 = .ok (.iload_n 3, 1) := by decide +kernel
theorem dX8_film_60 : decode cX8_film 60 = .ok (.iadd, 1) := by decide +kernel
theorem dX8_film_61 : decode cX8_film 61 = .ok (.iload_n 3, 1) := by decide +kernel
theorem dX8_film_62 : decode cX8_film 62 = .ok (.iload_n 2, 1) := by decide +kernel
theorem dX8_film_63 : decode cX8_film 63 = .ok (.if_icmp .ge 10, 3) := by decide +kernel
theorem dX8_film_66 : decode cX8_film 66 = .ok (.aload_n 0, 1) := by decide +kernel
theorem dX8_film_67 : decode cX8_film 67 = .ok (.invokevirtual 188, 3) := by decide +kernel
theorem dX8_film_70 : decode cX8_film 70 = .ok (.goto 4, 3) := by decide +kernel
theorem dX8_film_73 : decode cX8_film 73 = .ok (.iconst 0, 1) := by decide +kernel
theorem dX8_film_74 : decode cX8_film 74 = .ok (.iastore, 1) := by decide +kernel
theorem dX8_film_75 : decode cX8_film 75 = .ok (.iinc 3 1, 3) := by decide +kernel
theorem dX8_film_78 : decode cX8_film 78 = .ok (.goto (-33), 3) := by decide +kernel
theorem dX8_film_81 : decode cX8_film 81 = .ok (.aload_n 0, 1) := by decide +kernel
theorem dX8_film_82 : decode cX8_film 82 = .ok (.invokevirtual 201, 3) := by decide +kernel
theorem dX8_film_85 : decode cX8_film 85 = .ok (.iload_n 2, 1) := by decide +kernel
theorem dX8_film_86 : decode cX8_film 86 = .ok (.ireturn, 1) := by decide +kernel
theorem dX8_dinners_0 : decode cX8_dinners 0 = .ok (.iload_n 1, 1) := by decide +kernel
theorem dX8_dinners_1 : decode cX8_dinners 1 = .ok (.i2l, 1) := by decide +kernel
theorem dX8_dinners_2 : decode cX8_dinners 2 = .ok (.lconst 1, 1) := by decide +kernel
theorem dX8_dinners_3 : decode cX8_dinners 3 = .ok (.ladd, 1) := by decide +kernel
theorem dX8_dinners_4 : decode cX8_dinners 4 = .ok (.lstore_n 2, 1) := by decide +kernel
theorem dX8_dinners_5 : decode cX8_dinners 5 = .ok (.iconst 0, 1) := by decide +kernel
theorem dX8_dinners_6 : decode cX8_dinners 6 = .ok (.istore 4, 2) := by decide +kernel
theorem dX8_dinners_8 : decode cX8_dinners 8 = .ok (.aload_n 0, 1) := by decide +kernel
theorem dX8_dinners_9 : decode cX8_dinners 9 = .ok (.invokevirtual 195, 3) := by decide +kernel
theorem dX8_dinners_12 : decode cX8_dinners 12 = .ok (.iconst 0, 1) := by decide +kernel
theorem dX8_dinners_13 : decode cX8_dinners 13 = .ok (.istore 5, 2) := by decide +kernel
theorem dX8_dinners_15 : decode cX8_dinners 15 = .ok (.iload 5, 2) := by decide +kernel
theorem dX8_dinners_17 : decode cX8_dinners 17 = .ok (.bipush 12, 2) := by decide +kernel
theorem dX8_dinners_19 : decode cX8_dinners 19 = .ok (.if_icmp .ge 75, 3) := by decide +kernel
theorem dX8_dinners_22 : decode cX8_dinners 22 = .ok (.lload_n 2, 1) := by decide +kernel
theorem dX8_dinners_23 : decode cX8_dinners 23 = .ok (.ldc2_w 222, 3) := by decide +kernel
theorem dX8_dinners_26 : decode cX8_dinners 26 = .ok (.lmul, 1) := by decide +kernel
theorem dX8_dinners_27 : decode cX8_dinners 27 = .ok (.ldc2_w 224, 3) := by decide +kernel
theorem dX8_dinners_30 : decode cX8_dinners 30 = .ok (.lrem, 1) := by decide +kernel
theorem dX8_dinners_31 : decode cX8_dinners 31 = .ok (.lstore_n 2, 1) := by decide +kernel
theorem dX8_dinners_32 : decode cX8_dinners 32 = .ok (.lload_n 2, 1) := by decide +kernel
theorem dX8_dinners_33 : decode cX8_dinners 33 = .ok (.ldc2_w 226, 3) := by decide +kernel
theorem dX8_dinners_36 : decode cX8_dinners 36 = .ok (.lrem, 1) := by decide +kernel
theorem dX8_dinners_37 : decode cX8_dinners 37 = .ok (.l2i, 1) := by decide +kernel
theorem dX8_dinners_38 : decode cX8_dinners 38 = .ok (.istore 6, 2) := by decide +kernel
theorem dX8_dinners_40 : decode cX8_dinners 40 = .ok (.lload_n 2, 1) := by decide +kernel
theorem dX8_dinners_41 : decode cX8_dinners 41 = .ok (.ldc2_w 222, 3) := by decide +kernel
theorem dX8_dinners_44 : decode cX8_dinners 44 = .ok (.lmul, 1) := by decide +kernel
theorem dX8_dinners_45 : decode cX8_dinners 45 = .ok (.ldc2_w 224, 3) := by decide +kernel
theorem dX8_dinners_48 : decode cX8_dinners 48 = .ok (.lrem, 1) := by decide +kernel
theorem dX8_dinners_49 : decode cX8_dinners 49 = .ok (.lstore_n 2, 1) := by decide +kernel
theorem dX8_dinners_50 : decode cX8_dinners 50 = .ok (.iload 6, 2) := by decide +kernel
theorem dX8_dinners_52 : decode cX8_dinners 52 = .ok (.aload_n 0, 1) := by decide +kernel
theorem dX8_dinners_53 : decode cX8_dinners 53 = .ok (.getfield 69, 3) := by decide +kernel
theorem dX8_dinners_56 : decode cX8_dinners 56 = .ok (.if_icmp .ge 23, 3) := by decide +kernel
theorem dX8_dinners_59 : decode cX8_dinners 59 = .ok (.aload_n 0, 1) := by decide +kernel
theorem dX8_dinners_60 : decode cX8_dinners 60 = .ok (.getfield 16, 3) := by decide +kernel
theorem dX8_dinners_63 : decode cX8_dinners 63 = .ok (.iconst 5, 1) := by decide +kernel
theorem dX8_dinners_64 : decode cX8_dinners 64 = .ok (.iload 6, 2) := by decide +kernel
theorem dX8_dinners_66 : decode cX8_dinners 66 = .ok (.imul, 1) := by decide +kernel
theorem dX8_dinners_67 : decode cX8_dinners 67 = .ok (.dup2, 1) := by decide +kernel
theorem dX8_dinners_68 : decode cX8_dinners 68 = .ok (.iaload, 1) := by decide +kernel
theorem dX8_dinners_69 : decode cX8_dinners 69 = .ok (.iconst 1, 1) := by decide +kernel
theorem dX8_dinners_70 : decode cX8_dinners 70 = .ok (.lload_n 2, 1) := by decide +kernel
theorem dX8_dinners_71 : decode cX8_dinners 71 = .ok (.ldc2_w 228, 3) := by decide +kernel
theorem dX8_dinners_74 : decode cX8_dinners 74 = .ok (.lrem, 1) := by decide +kernel
theorem dX8_dinners_75 : decode cX8_dinners 75 = .ok (.l2i, 1) := by decide +kernel
theorem dX8_dinners_76 : decode cX8_dinners 76 = .ok (.ishl, 1) := by decide +kernel
theorem dX8_dinners_77 : decode cX8_dinners 77 = .ok (.ixor, 1) := by decide +kernel
theorem dX8_dinners_78 : decode cX8_dinners 78 = .ok (.iastore, 1) := by decide +kernel
theorem dX8_dinners_79 : decode cX8_dinners 79 = .ok (.iload 4, 2) := by decide +kernel
theorem dX8_dinners_81 : decode cX8_dinners 81 = .ok (.aload_n 0, 1) := by decide +kernel
theorem dX8_dinners_82 : decode cX8_dinners 82 = .ok (.invokevirtual 188, 3) := by decide +kernel
theorem dX8_dinners_85 : decode cX8_dinners 85 = .ok (.iadd, 1) := by decide +kernel
theorem dX8_dinners_86 : decode cX8_dinners 86 = .ok (.istore 4, 2) := by decide +kernel
theorem dX8_dinners_88 : decode cX8_dinners 88 = .ok (.iinc 5 1, 3) := by decide +kernel
theorem dX8_dinners_91 : decode cX8_dinners 91 = .ok (.goto (-76), 3) := by decide +kernel
theorem dX8_dinners_94 : decode cX8_dinners 94 = .ok (.aload_n 0, 1) := by decide +kernel
theorem dX8_dinners_95 : decode cX8_dinners 95 = .ok (.aload_n 0, 1) := by decide +kernel
theorem dX8_dinners_96 : decode cX8_dinners 96 = .ok (.invokevirtual 79, 3) := by decide +kernel
theorem dX8_dinners_99 : decode cX8_dinners 99 = .ok (.putfield 230, 3) := by decide +kernel
theorem dX8_dinners_102 : decode cX8_dinners 102 = .ok (.aload_n 0, 1) := by decide +kernel
theorem dX8_dinners_103 : decode cX8_dinners 103 = .ok (.invokevirtual 201, 3) := by decide +kernel
theorem dX8_dinners_106 : decode cX8_dinners 106 = .ok (.iload 4, 2) := by decide +kernel
theorem dX8_dinners_108 : decode cX8_dinners 108 = .ok (.ireturn, 1) := by decide +kernel
theorem dX8_drawn_0 : decode cX8_drawn 0 = .ok (.iload_n 1, 1) := by decide +kernel
theorem dX8_drawn_1 : decode cX8_drawn 1 = .ok (.iconst 0, 1) := by decide +kernel
theorem dX8_drawn_2 : decode cX8_drawn 2 = .ok (.ldc 233, 2) := by decide +kernel
theorem dX8_drawn_4 : decode cX8_drawn 4 = .ok (.invokestatic 72, 3) := by decide +kernel
theorem dX8_drawn_7 : decode cX8_drawn 7 = .ok (.ifCond .eq 12, 3) := by decide +kernel
theorem dX8_drawn_10 : decode cX8_drawn 10 = .ok (.iload_n 2, 1) := by decide +kernel
theorem dX8_drawn_11 : decode cX8_drawn 11 = .ok (.iconst 0, 1) := by decide +kernel
theorem dX8_drawn_12 : decode cX8_drawn 12 = .ok (.iconst 1, 1) := by decide +kernel
theorem dX8_drawn_13 : decode cX8_drawn 13 = .ok (.invokestatic 72, 3) := by decide +kernel
theorem dX8_drawn_16 : decode cX8_drawn 16 = .ok (.ifCond .ne 6, 3) := by decide +kernel
theorem dX8_drawn_19 : decode cX8_drawn 19 = .ok (.bipush (-2), 2) := by decide +kernel
theorem dX8_drawn_21 : decode cX8_drawn 21 = .ok (.ireturn, 1) := by decide +kernel
theorem dX8_drawn_22 : decode cX8_drawn 22 = .ok (.aload_n 0, 1) := by decide +kernel
theorem dX8_drawn_23 : decode cX8_drawn 23 = .ok (.iload_n 1, 1) := by decide +kernel
theorem dX8_drawn_24 : decode cX8_drawn 24 = .ok (.invokevirtual 234, 3) := by decide +kernel
theorem dX8_drawn_27 : decode cX8_drawn 27 = .ok (.istore_n 3, 1) := by decide +kernel
theorem dX8_drawn_28 : decode cX8_drawn 28 = .ok (.iload_n 2, 1) := by decide +kernel
theorem dX8_drawn_29 : decode cX8_drawn 29 = .ok (.ifCond .ne 7, 3) := by decide +kernel
theorem dX8_drawn_32 : decode cX8_drawn 32 = .ok (.iload_n 3, 1) := by decide +kernel
theorem dX8_drawn_33 : decode cX8_drawn 33 = .ok (.goto 7, 3) := by decide +kernel
theorem dX8_drawn_36 : decode cX8_drawn 36 = .ok (.aload_n 0, 1) := by decide +kernel
theorem dX8_drawn_37 : decode cX8_drawn 37 = .ok (.getfield 230, 3) := by decide +kernel
theorem dX8_drawn_40 : decode cX8_drawn 40 = .ok (.ireturn, 1) := by decide +kernel
theorem dX8_odds_0 : decode cX8_odds 0 = .ok (.iload_n 1, 1) := by decide +kernel
theorem dX8_odds_1 : decode cX8_odds 1 = .ok (.iconst 0, 1) := by decide +kernel
theorem dX8_odds_2 : decode cX8_odds 2 = .ok (.ldc 233, 2) := by decide +kernel
theorem dX8_odds_4 : decode cX8_odds 4 = .ok (.invokestatic 72, 3) := by decide +kernel
theorem dX8_odds_7 : decode cX8_odds 7 = .ok (.ifCond .eq 33, 3) := by decide +kernel
theorem dX8_odds_10 : decode cX8_odds 10 = .ok (.iload_n 2, 1) := by decide +kernel
theorem dX8_odds_11 : decode cX8_odds 11 = .ok (.iconst 1, 1) := by decide +kernel
theorem dX8_odds_12 : decode cX8_odds 12 = .ok (.bipush 40, 2) := by decide +kernel
theorem dX8_odds_14 : decode cX8_odds 14 = .ok (.invokestatic 72, 3) := by decide +kernel
theorem dX8_odds_17 : decode cX8_odds 17 = .ok (.ifCond .eq 23, 3) := by decide +kernel
theorem dX8_odds_20 : decode cX8_odds 20 = .ok (.iload_n 3, 1) := by decide +kernel
theorem dX8_odds_21 : decode cX8_odds 21 = .ok (.iconst 0, 1) := by decide +kernel
theorem dX8_odds_22 : decode cX8_odds 22 = .ok (.bipush 72, 2) := by decide +kernel
theorem dX8_odds_24 : decode cX8_odds 24 = .ok (.invokestatic 72, 3) := by decide +kernel
theorem dX8_odds_27 : decode cX8_odds 27 = .ok (.ifCond .eq 13, 3) := by decide +kernel
theorem dX8_odds_30 : decode cX8_odds 30 = .ok (.iload 4, 2) := by decide +kernel
theorem dX8_odds_32 : decode cX8_odds 32 = .ok (.iconst 0, 1) := by decide +kernel
theorem dX8_odds_33 : decode cX8_odds 33 = .ok (.iconst 1, 1) := by decide +kernel
theorem dX8_odds_34 : decode cX8_odds 34 = .ok (.invokestatic 72, 3) := by decide +kernel
theorem dX8_odds_37 : decode cX8_odds 37 = .ok (.ifCond .ne 7, 3) := by decide +kernel
theorem dX8_odds_40 : decode cX8_odds 40 = .ok (.ldc2_w 214, 3) := by decide +kernel
theorem dX8_odds_43 : decode cX8_odds 43 = .ok (.lreturn, 1) := by decide +kernel
theorem dX8_odds_44 : decode cX8_odds 44 = .ok (.lconst 0, 1) := by decide +kernel
theorem dX8_odds_45 : decode cX8_odds 45 = .ok (.lstore 5, 2) := by decide +kernel
theorem dX8_odds_47 : decode cX8_odds 47 = .ok (.iconst 0, 1) := by decide +kernel
theorem dX8_odds_48 : decode cX8_odds 48 = .ok (.istore 7, 2) := by decide +kernel
theorem dX8_odds_50 : decode cX8_odds 50 = .ok (.iload 7, 2) := by decide +kernel
theorem dX8_odds_52 : decode cX8_odds 52 = .ok (.iload_n 2, 1) := by decide +kernel
theorem dX8_odds_53 : decode cX8_odds 53 = .ok (.if_icmp .ge 31, 3) := by decide +kernel
theorem dX8_odds_56 : decode cX8_odds 56 = .ok (.lload 5, 2) := by decide +kernel
theorem dX8_odds_58 : decode cX8_odds 58 = .ok (.aload_n 0, 1) := by decide +kernel
theorem dX8_odds_59 : decode cX8_odds 59 = .ok (.iload_n 1, 1) := by decide +kernel
theorem dX8_odds_60 : decode cX8_odds 60 = .ok (.iload 7, 2) := by decide +kernel
theorem dX8_odds_62 : decode cX8_odds 62 = .ok (.iadd, 1) := by decide +kernel
theorem dX8_odds_63 : decode cX8_odds 63 = .ok (.invokevirtual 234, 3) := by decide +kernel
theorem dX8_odds_66 : decode cX8_odds 66 = .ok (.iload_n 3, 1) := by decide +kernel
theorem dX8_odds_67 : decode cX8_odds 67 = .ok (.if_icmp .lt 7, 3) := by decide +kernel
theorem dX8_odds_70 : decode cX8_odds 70 = .ok (.lconst 1, 1) := by decide +kernel
theorem dX8_odds_71 : decode cX8_odds 71 = .ok (.goto 4, 3) := by decide +kernel
theorem dX8_odds_74 : decode cX8_odds 74 = .ok (.lconst 0, 1) := by decide +kernel
theorem dX8_odds_75 : decode cX8_odds 75 = .ok (.ladd, 1) := by decide +kernel
theorem dX8_odds_76 : decode cX8_odds 76 = .ok (.lstore 5, 2) := by decide +kernel
theorem dX8_odds_78 : decode cX8_odds 78 = .ok (.iinc 7 1, 3) := by decide +kernel
theorem dX8_odds_81 : decode cX8_odds 81 = .ok (.goto (-31), 3) := by decide +kernel
theorem dX8_odds_84 : decode cX8_odds 84 = .ok (.lload 5, 2) := by decide +kernel
theorem dX8_odds_86 : decode cX8_odds 86 = .ok (.iload_n 2, 1) := by decide +kernel
theorem dX8_odds_87 : decode cX8_odds 87 = .ok (.i2l, 1) := by decide +kernel
theorem dX8_odds_88 : decode cX8_odds 88 = .ok (.iload 4, 2) := by decide +kernel
theorem dX8_odds_90 : decode cX8_odds 90 = .ok (.invokestatic 210, 3) := by decide +kernel
theorem dX8_odds_93 : decode cX8_odds 93 = .ok (.lreturn, 1) := by decide +kernel
theorem dX8_image_0 : decode cX8_image 0 = .ok (.aload_n 0, 1) := by decide +kernel
theorem dX8_image_1 : decode cX8_image 1 = .ok (.iconst 1, 1) := by decide +kernel
theorem dX8_image_2 : decode cX8_image 2 = .ok (.putfield 237, 3) := by decide +kernel
theorem dX8_image_5 : decode cX8_image 5 = .ok (.iconst 0, 1) := by decide +kernel
theorem dX8_image_6 : decode cX8_image 6 = .ok (.istore_n 1, 1) := by decide +kernel
theorem dX8_image_7 : decode cX8_image 7 = .ok (.iload_n 1, 1) := by decide +kernel
theorem dX8_image_8 : decode cX8_image 8 = .ok (.bipush 30, 2) := by decide +kernel
theorem dX8_image_10 : decode cX8_image 10 = .ok (.if_icmp .ge 21, 3) := by decide +kernel
theorem dX8_image_13 : decode cX8_image 13 = .ok (.aload_n 0, 1) := by decide +kernel
theorem dX8_image_14 : decode cX8_image 14 = .ok (.getfield 28, 3) := by decide +kernel
theorem dX8_image_17 : decode cX8_image 17 = .ok (.iload_n 1, 1) := by decide +kernel
theorem dX8_image_18 : decode cX8_image 18 = .ok (.aload_n 0, 1) := by decide +kernel
theorem dX8_image_19 : decode cX8_image 19 = .ok (.getfield 16, 3) := by decide +kernel
theorem dX8_image_22 : decode cX8_image 22 = .ok (.iload_n 1, 1) := by decide +kernel
theorem dX8_image_23 : decode cX8_image 23 = .ok (.iaload, 1) := by decide +kernel
theorem dX8_image_24 : decode cX8_image 24 = .ok (.iastore, 1) := by decide +kernel
theorem dX8_image_25 : decode cX8_image 25 = .ok (.iinc 1 1, 3) := by decide +kernel
theorem dX8_image_28 : decode cX8_image 28 = .ok (.goto (-21), 3) := by decide +kernel
theorem dX8_image_31 : decode cX8_image 31 = .ok (.aload_n 0, 1) := by decide +kernel
theorem dX8_image_32 : decode cX8_image 32 = .ok (.getfield 31, 3) := by decide +kernel
theorem dX8_image_35 : decode cX8_image 35 = .ok (.iconst 0, 1) := by decide +kernel
theorem dX8_image_36 : decode cX8_image 36 = .ok (.aload_n 0, 1) := by decide +kernel
theorem dX8_image_37 : decode cX8_image 37 = .ok (.getfield 69, 3) := by decide +kernel
theorem dX8_image_40 : decode cX8_image 40 = .ok (.iastore, 1) := by decide +kernel
theorem dX8_image_41 : decode cX8_image 41 = .ok (.aload_n 0, 1) := by decide +kernel
theorem dX8_image_42 : decode cX8_image 42 = .ok (.getfield 31, 3) := by decide +kernel
theorem dX8_image_45 : decode cX8_image 45 = .ok (.iconst 1, 1) := by decide +kernel
theorem dX8_image_46 : decode cX8_image 46 = .ok (.aload_n 0, 1) := by decide +kernel
theorem dX8_image_47 : decode cX8_image 47 = .ok (.getfield 76, 3) := by decide +kernel
theorem dX8_image_50 : decode cX8_image 50 = .ok (.iastore, 1) := by decide +kernel
theorem dX8_image_51 : decode cX8_image 51 = .ok (.aload_n 0, 1) := by decide +kernel
theorem dX8_image_52 : decode cX8_image 52 = .ok (.getfield 31, 3) := by decide +kernel
theorem dX8_image_55 : decode cX8_image 55 = .ok (.iconst 2, 1) := by decide +kernel
theorem dX8_image_56 : decode cX8_image 56 = .ok (.aload_n 0, 1) := by decide +kernel
theorem dX8_image_57 : decode cX8_image 57 = .ok (.getfield 89, 3) := by decide +kernel
theorem dX8_image_60 : decode cX8_image 60 = .ok (.iastore, 1) := by decide +kernel
theorem dX8_image_61 : decode cX8_image 61 = .ok (.aload_n 0, 1) := by decide +kernel
theorem dX8_image_62 : decode cX8_image 62 = .ok (.getfield 69, 3) := by decide +kernel
theorem dX8_image_65 : decode cX8_image 65 = .ok (.ireturn, 1) := by decide +kernel
theorem dX8_back_0 : decode cX8_back 0 = .ok (.aload_n 0, 1) := by decide +kernel
theorem dX8_back_1 : decode cX8_back 1 = .ok (.getfield 237, 3) := by decide +kernel
theorem dX8_back_4 : decode cX8_back 4 = .ok (.ifCond .ne 6, 3) := by decide +kernel
theorem dX8_back_7 : decode cX8_back 7 = .ok (.bipush (-3), 2) := by decide +kernel
theorem dX8_back_9 : decode cX8_back 9 = .ok (.ireturn, 1) := by decide +kernel
theorem dX8_back_10 : decode cX8_back 10 = .ok (.iconst 0, 1) := by decide +kernel
theorem dX8_back_11 : decode cX8_back 11 = .ok (.istore_n 1, 1) := by decide +kernel
theorem dX8_back_12 : decode cX8_back 12 = .ok (.iload_n 1, 1) := by decide +kernel
theorem dX8_back_13 : decode cX8_back 13 = .ok (.bipush 30, 2) := by decide +kernel
theorem dX8_back_15 : decode cX8_back 15 = .ok (.if_icmp .ge 21, 3) := by decide +kernel
theorem dX8_back_18 : decode cX8_back 18 = .ok (.aload_n 0, 1) := by decide +kernel
theorem dX8_back_19 : decode cX8_back 19 = .ok (.getfield 16, 3) := by decide +kernel
theorem dX8_back_22 : decode cX8_back 22 = .ok (.iload_n 1, 1) := by decide +kernel
theorem dX8_back_23 : decode cX8_back 23 = .ok (.aload_n 0, 1) := by decide +kernel
theorem dX8_back_24 : decode cX8_back 24 = .ok (.getfield 28, 3) := by decide +kernel
theorem dX8_back_27 : decode cX8_back 27 = .ok (.iload_n 1, 1) := by decide +kernel
theorem dX8_back_28 : decode cX8_back 28 = .ok (.iaload, 1) := by decide +kernel
theorem dX8_back_29 : decode cX8_back 29 = .ok (.iastore, 1) := by decide +kernel
theorem dX8_back_30 : decode cX8_back 30 = .ok (.iinc 1 1, 3) := by decide +kernel
theorem dX8_back_33 : decode cX8_back 33 = .ok (.goto (-21), 3) := by decide +kernel
theorem dX8_back_36 : decode cX8_back 36 = .ok (.aload_n 0, 1) := by decide +kernel
theorem dX8_back_37 : decode cX8_back 37 = .ok (.aload_n 0, 1) := by decide +kernel
theorem dX8_back_38 : decode cX8_back 38 = .ok (.getfield 31, 3) := by decide +kernel
theorem dX8_back_41 : decode cX8_back 41 = .ok (.iconst 0, 1) := by decide +kernel
theorem dX8_back_42 : decode cX8_back 42 = .ok (.iaload, 1) := by decide +kernel
theorem dX8_back_43 : decode cX8_back 43 = .ok (.putfield 69, 3) := by decide +kernel
theorem dX8_back_46 : decode cX8_back 46 = .ok (.aload_n 0, 1) := by decide +kernel
theorem dX8_back_47 : decode cX8_back 47 = .ok (.aload_n 0, 1) := by decide +kernel
theorem dX8_back_48 : decode cX8_back 48 = .ok (.getfield 31, 3) := by decide +kernel
theorem dX8_back_51 : decode cX8_back 51 = .ok (.iconst 1, 1) := by decide +kernel
theorem dX8_back_52 : decode cX8_back 52 = .ok (.iaload, 1) := by decide +kernel
theorem dX8_back_53 : decode cX8_back 53 = .ok (.putfield 76, 3) := by decide +kernel
theorem dX8_back_56 : decode cX8_back 56 = .ok (.aload_n 0, 1) := by decide +kernel
theorem dX8_back_57 : decode cX8_back 57 = .ok (.aload_n 0, 1) := by decide +kernel
theorem dX8_back_58 : decode cX8_back 58 = .ok (.getfield 31, 3) := by decide +kernel
theorem dX8_back_61 : decode cX8_back 61 = .ok (.iconst 2, 1) := by decide +kernel
theorem dX8_back_62 : decode cX8_back 62 = .ok (.iaload, 1) := by decide +kernel
theorem dX8_back_63 : decode cX8_back 63 = .ok (.putfield 89, 3) := by decide +kernel
theorem dX8_back_66 : decode cX8_back 66 = .ok (.aload_n 0, 1) := by decide +kernel
theorem dX8_back_67 : decode cX8_back 67 = .ok (.getfield 69, 3) := by decide +kernel
theorem dX8_back_70 : decode cX8_back 70 = .ok (.ireturn, 1) := by decide +kernel
theorem dX8_sheet_0 : decode cX8_sheet 0 = .ok (.iload_n 1, 1) := by decide +kernel
theorem dX8_sheet_1 : decode cX8_sheet 1 = .ok (.iconst 0, 1) := by decide +kernel
theorem dX8_sheet_2 : decode cX8_sheet 2 = .ok (.iconst 3, 1) := by decide +kernel
theorem dX8_sheet_3 : decode cX8_sheet 3 = .ok (.invokestatic 72, 3) := by decide +kernel
theorem dX8_sheet_6 : decode cX8_sheet 6 = .ok (.ifCond .eq 23, 3) := by decide +kernel
theorem dX8_sheet_9 : decode cX8_sheet 9 = .ok (.iload_n 2, 1) := by decide +kernel
theorem dX8_sheet_10 : decode cX8_sheet 10 = .ok (.iconst (-1), 1) := by decide +kernel
theorem dX8_sheet_11 : decode cX8_sheet 11 = .ok (.iconst 2, 1) := by decide +kernel
theorem dX8_sheet_12 : decode cX8_sheet 12 = .ok (.invokestatic 72, 3) := by decide +kernel
theorem dX8_sheet_15 : decode cX8_sheet 15 = .ok (.ifCond .eq 14, 3) := by decide +kernel
theorem dX8_sheet_18 : decode cX8_sheet 18 = .ok (.iload_n 2, 1) := by decide +kernel
theorem dX8_sheet_19 : decode cX8_sheet 19 = .ok (.iconst (-1), 1) := by decide +kernel
theorem dX8_sheet_20 : decode cX8_sheet 20 = .ok (.if_icmp .eq 12, 3) := by decide +kernel
theorem dX8_sheet_23 : decode cX8_sheet 23 = .ok (.iload_n 3, 1) := by decide +kernel
theorem dX8_sheet_24 : decode cX8_sheet 24 = .ok (.bipush 40, 2) := by decide +kernel
theorem dX8_sheet_26 : decode cX8_sheet 26 = .ok (.if_icmp .le 6, 3) := by decide +kernel
theorem dX8_sheet_29 : decode cX8_sheet 29 = .ok (.bipush (-2), 2) := by decide +kernel
theorem dX8_sheet_31 : decode cX8_sheet 31 = .ok (.ireturn, 1) := by decide +kernel
theorem dX8_sheet_32 : decode cX8_sheet 32 = .ok (.iload_n 2, 1) := by decide +kernel
theorem dX8_sheet_33 : decode cX8_sheet 33 = .ok (.iconst (-1), 1) := by decide +kernel
theorem dX8_sheet_34 : decode cX8_sheet 34 = .ok (.if_icmp .eq 10, 3) := by decide +kernel
theorem dX8_sheet_37 : decode cX8_sheet 37 = .ok (.iload_n 3, 1) := by decide +kernel
theorem dX8_sheet_38 : decode cX8_sheet 38 = .ok (.ifCond .ge 6, 3) := by decide +kernel
theorem dX8_sheet_41 : decode cX8_sheet 41 = .ok (.bipush (-14), 2) := by decide +kernel
theorem dX8_sheet_43 : decode cX8_sheet 43 = .ok (.ireturn, 1) := by decide +kernel
theorem dX8_sheet_44 : decode cX8_sheet 44 = .ok (.aload_n 0, 1) := by decide +kernel
theorem dX8_sheet_45 : decode cX8_sheet 45 = .ok (.getfield 34, 3) := by decide +kernel
theorem dX8_sheet_48 : decode cX8_sheet 48 = .ok (.iload_n 1, 1) := by decide +kernel
theorem dX8_sheet_49 : decode cX8_sheet 49 = .ok (.iload_n 2, 1) := by decide +kernel
theorem dX8_sheet_50 : decode cX8_sheet 50 = .ok (.iastore, 1) := by decide +kernel
theorem dX8_sheet_51 : decode cX8_sheet 51 = .ok (.aload_n 0, 1) := by decide +kernel
theorem dX8_sheet_52 : decode cX8_sheet 52 = .ok (.getfield 37, 3) := by decide +kernel
theorem dX8_sheet_55 : decode cX8_sheet 55 = .ok (.iload_n 1, 1) := by decide +kernel
theorem dX8_sheet_56 : decode cX8_sheet 56 = .ok (.iload_n 2, 1) := by decide +kernel
theorem dX8_sheet_57 : decode cX8_sheet 57 = .ok (.iconst (-1), 1) := by decide +kernel
theorem dX8_sheet_58 : decode cX8_sheet 58 = .ok (.if_icmp .ne 7, 3) := by decide +kernel
theorem dX8_sheet_61 : decode cX8_sheet 61 = .ok (.iconst 0, 1) := by decide +kernel
theorem dX8_sheet_62 : decode cX8_sheet 62 = .ok (.goto 4, 3) := by decide +kernel
theorem dX8_sheet_65 : decode cX8_sheet 65 = .ok (.iload_n 3, 1) := by decide +kernel
theorem dX8_sheet_66 : decode cX8_sheet 66 = .ok (.iastore, 1) := by decide +kernel
theorem dX8_sheet_67 : decode cX8_sheet 67 = .ok (.iconst 0, 1) := by decide +kernel
theorem dX8_sheet_68 : decode cX8_sheet 68 = .ok (.istore 4, 2) := by decide +kernel
theorem dX8_sheet_70 : decode cX8_sheet 70 = .ok (.iload 4, 2) := by decide +kernel
theorem dX8_sheet_72 : decode cX8_sheet 72 = .ok (.bipush 40, 2) := by decide +kernel
theorem dX8_sheet_74 : decode cX8_sheet 74 = .ok (.if_icmp .ge 22, 3) := by decide +kernel
theorem dX8_sheet_77 : decode cX8_sheet 77 = .ok (.aload_n 0, 1) := by decide +kernel
theorem dX8_sheet_78 : decode cX8_sheet 78 = .ok (.getfield 40, 3) := by decide +kernel
theorem dX8_sheet_81 : decode cX8_sheet 81 = .ok (.bipush 40, 2) := by decide +kernel
theorem dX8_sheet_83 : decode cX8_sheet 83 = .ok (.iload_n 1, 1) := by decide +kernel
theorem dX8_sheet_84 : decode cX8_sheet 84 = .ok (.imul, 1) := by decide +kernel
theorem dX8_sheet_85 : decode cX8_sheet 85 = .ok (.iload 4, 2) := by decide +kernel
theorem dX8_sheet_87 : decode cX8_sheet 87 = .ok (.iadd, 1) := by decide +kernel
theorem dX8_sheet_88 : decode cX8_sheet 88 = .ok (.iconst 0, 1) := by decide +kernel
theorem dX8_sheet_89 : decode cX8_sheet 89 = .ok (.iastore, 1) := by decide +kernel
theorem dX8_sheet_90 : decode cX8_sheet 90 = .ok (.iinc 4 1, 3) := by decide +kernel
theorem dX8_sheet_93 : decode cX8_sheet 93 = .ok (.goto (-23), 3) := by decide +kernel
theorem dX8_sheet_96 : decode cX8_sheet 96 = .ok (.iconst 1, 1) := by decide +kernel
theorem dX8_sheet_97 : decode cX8_sheet 97 = .ok (.ireturn, 1) := by decide +kernel
theorem dX8_cell_0 : decode cX8_cell 0 = .ok (.iload_n 1, 1) := by decide +kernel
theorem dX8_cell_1 : decode cX8_cell 1 = .ok (.iconst 0, 1) := by decide +kernel
theorem dX8_cell_2 : decode cX8_cell 2 = .ok (.iconst 3, 1) := by decide +kernel
theorem dX8_cell_3 : decode cX8_cell 3 = .ok (.invokestatic 72, 3) := by decide +kernel
theorem dX8_cell_6 : decode cX8_cell 6 = .ok (.ifCond .ne 6, 3) := by decide +kernel
theorem dX8_cell_9 : decode cX8_cell 9 = .ok (.bipush (-2), 2) := by decide +kernel
theorem dX8_cell_11 : decode cX8_cell 11 = .ok (.ireturn, 1) := by decide +kernel
theorem dX8_cell_12 : decode cX8_cell 12 = .ok (.aload_n 0, 1) := by decide +kernel
theorem dX8_cell_13 : decode cX8_cell 13 = .ok (.getfield 34, 3) := by decide +kernel
theorem dX8_cell_16 : decode cX8_cell 16 = .ok (.iload_n 1, 1) := by decide +kernel
theorem dX8_cell_17 : decode cX8_cell 17 = .ok (.iaload, 1) := by decide +kernel
theorem dX8_cell_18 : decode cX8_cell 18 = .ok (.iconst (-1), 1) := by decide +kernel
theorem dX8_cell_19 : decode cX8_cell 19 = .ok (.if_icmp .ne 6, 3) := by decide +kernel
theorem dX8_cell_22 : decode cX8_cell 22 = .ok (.bipush (-11), 2) := by decide +kernel
theorem dX8_cell_24 : decode cX8_cell 24 = .ok (.ireturn, 1) := by decide +kernel
theorem dX8_cell_25 : decode cX8_cell 25 = .ok (.iload_n 2, 1) := by decide +kernel
theorem dX8_cell_26 : decode cX8_cell 26 = .ok (.iconst 0, 1) := by decide +kernel
theorem dX8_cell_27 : decode cX8_cell 27 = .ok (.aload_n 0, 1) := by decide +kernel
theorem dX8_cell_28 : decode cX8_cell 28 = .ok (.getfield 37, 3) := by decide +kernel
theorem dX8_cell_31 : decode cX8_cell 31 = .ok (.iload_n 1, 1) := by decide +kernel
theorem dX8_cell_32 : decode cX8_cell 32 = .ok (.iaload, 1) := by decide +kernel
theorem dX8_cell_33 : decode cX8_cell 33 = .ok (.iconst 1, 1) := by decide +kernel
theorem dX8_cell_34 : decode cX8_cell 34 = .ok (.isub, 1) := by decide +kernel
theorem dX8_cell_35 : decode cX8_cell 35 = .ok (.invokestatic 72, 3) := by decide +kernel
theorem dX8_cell_38 : decode cX8_cell 38 = .ok (.ifCond .ne 6, 3) := by decide +kernel
theorem dX8_cell_41 : decode cX8_cell 41 = .ok (.bipush (-12), 2) := by decide +kernel
theorem dX8_cell_43 : decode cX8_cell 43 = .ok (.ireturn, 1) := by decide +kernel
theorem dX8_cell_44 : decode cX8_cell 44 = .ok (.aload_n 0, 1) := by decide +kernel
theorem dX8_cell_45 : decode cX8_cell 45 = .ok (.getfield 40, 3) := by decide +kernel
theorem dX8_cell_48 : decode cX8_cell 48 = .ok (.bipush 40, 2) := by decide +kernel
theorem dX8_cell_50 : decode cX8_cell 50 = .ok (.iload_n 1, 1) := by decide +kernel
theorem dX8_cell_51 : decode cX8_cell 51 = .ok (.imul, 1) := by decide +kernel
theorem dX8_cell_52 : decode cX8_cell 52 = .ok (.iload_n 2, 1) := by decide +kernel
theorem dX8_cell_53 : decode cX8_cell 53 = .ok (.iadd, 1) := by decide +kernel
theorem dX8_cell_54 : decode cX8_cell 54 = .ok (.aload_n 0, 1) := by decide +kernel
theorem dX8_cell_55 : decode cX8_cell 55 = .ok (.getfield 34, 3) := by decide +kernel
theorem dX8_cell_58 : decode cX8_cell 58 = .ok (.iload_n 1, 1) := by decide +kernel
theorem dX8_cell_59 : decode cX8_cell 59 = .ok (.iaload, 1) := by decide +kernel
theorem dX8_cell_60 : decode cX8_cell 60 = .ok (.ifCond .ne 8, 3) := by decide +kernel
theorem dX8_cell_63 : decode cX8_cell 63 = .ok (.iload_n 3, 1) := by decide +kernel
theorem dX8_cell_64 : decode cX8_cell 64 = .ok (.i2b, 1) := by decide +kernel
theorem dX8_cell_65 : decode cX8_cell 65 = .ok (.goto 19, 3) := by decide +kernel
theorem dX8_cell_68 : decode cX8_cell 68 = .ok (.aload_n 0, 1) := by decide +kernel
theorem dX8_cell_69 : decode cX8_cell 69 = .ok (.getfield 34, 3) := by decide +kernel
theorem dX8_cell_72 : decode cX8_cell 72 = .ok (.iload_n 1, 1) := by decide +kernel
theorem dX8_cell_73 : decode cX8_cell 73 = .ok (.iaload, 1) := by decide +kernel
theorem dX8_cell_74 : decode cX8_cell 74 = .ok (.iconst 1, 1) := by decide +kernel
theorem dX8_cell_75 : decode cX8_cell 75 = .ok (.if_icmp .ne 8, 3) := by decide +kernel
theorem dX8_cell_78 : decode cX8_cell 78 = .ok (.iload_n 3, 1) := by decide +kernel
theorem dX8_cell_79 : decode cX8_cell 79 = .ok (.i2s, 1) := by decide +kernel
theorem dX8_cell_80 : decode cX8_cell 80 = .ok (.goto 4, 3) := by decide +kernel
theorem dX8_cell_83 : decode cX8_cell 83 = .ok (.iload_n 3, 1) := by decide +kernel
theorem dX8_cell_84 : decode cX8_cell 84 = .ok (.iastore, 1) := by decide +kernel
theorem dX8_cell_85 : decode cX8_cell 85 = .ok (.iconst 1, 1) := by decide +kernel
theorem dX8_cell_86 : decode cX8_cell 86 = .ok (.ireturn, 1) := by decide +kernel
theorem dX8_copy_0 : decode cX8_copy 0 = .ok (.iload_n 1, 1) := by decide +kernel
theorem dX8_copy_1 : decode cX8_copy 1 = .ok (.iconst 0, 1) := by decide +kernel
theorem dX8_copy_2 : decode cX8_copy 2 = .ok (.iconst 3, 1) := by decide +kernel
theorem dX8_copy_3 : decode cX8_copy 3 = .ok (.invokestatic 72, 3) := by decide +kernel
theorem dX8_copy_6 : decode cX8_copy 6 = .ok (.ifCond .eq 12, 3) := by decide +kernel
theorem dX8_copy_9 : decode cX8_copy 9 = .ok (.iload_n 3, 1) := by decide +kernel
theorem dX8_copy_10 : decode cX8_copy 10 = .ok (.iconst 0, 1) := by decide +kernel
theorem dX8_copy_11 : decode cX8_copy 11 = .ok (.iconst 3, 1) := by decide +kernel
theorem dX8_copy_12 : decode cX8_copy 12 = .ok (.invokestatic 72, 3) := by decide +kernel
theorem dX8_copy_15 : decode cX8_copy 15 = .ok (.ifCond .ne 6, 3) := by decide +kernel
theorem dX8_copy_18 : decode cX8_copy 18 = .ok (.bipush (-2), 2) := by decide +kernel
theorem dX8_copy_20 : decode cX8_copy 20 = .ok (.ireturn, 1) := by decide +kernel
theorem dX8_copy_21 : decode cX8_copy 21 = .ok (.aload_n 0, 1) := by decide +kernel
theorem dX8_copy_22 : decode cX8_copy 22 = .ok (.getfield 34, 3) := by decide +kernel
theorem dX8_copy_25 : decode cX8_copy 25 = .ok (.iload_n 1, 1) := by decide +kernel
theorem dX8_copy_26 : decode cX8_copy 26 = .ok (.iaload, 1) := by decide +kernel
theorem dX8_copy_27 : decode cX8_copy 27 = .ok (.iconst (-1), 1) := by decide +kernel
theorem dX8_copy_28 : decode cX8_copy 28 = .ok (.if_icmp .eq 13, 3) := by decide +kernel
theorem dX8_copy_31 : decode cX8_copy 31 = .ok (.aload_n 0, 1) := by decide +kernel
theorem dX8_copy_32 : decode cX8_copy 32 = .ok (.getfield 34, 3) := by decide +kernel
theorem dX8_copy_35 : decode cX8_copy 35 = .ok (.iload_n 3, 1) := by decide +kernel
theorem dX8_copy_36 : decode cX8_copy 36 = .ok (.iaload, 1) := by decide +kernel
theorem dX8_copy_37 : decode cX8_copy 37 = .ok (.iconst (-1), 1) := by decide +kernel
theorem dX8_copy_38 : decode cX8_copy 38 = .ok (.if_icmp .ne 6, 3) := by decide +kernel
theorem dX8_copy_41 : decode cX8_copy 41 = .ok (.bipush (-11), 2) := by decide +kernel
theorem dX8_copy_43 : decode cX8_copy 43 = .ok (.ireturn, 1) := by decide +kernel
theorem dX8_copy_44 : decode cX8_copy 44 = .ok (.aload_n 0, 1) := by decide +kernel
theorem dX8_copy_45 : decode cX8_copy 45 = .ok (.getfield 34, 3) := by decide +kernel
theorem dX8_copy_48 : decode cX8_copy 48 = .ok (.iload_n 1, 1) := by decide +kernel
theorem dX8_copy_49 : decode cX8_copy 49 = .ok (.iaload, 1) := by decide +kernel
theorem dX8_copy_50 : decode cX8_copy 50 = .ok (.aload_n 0, 1) := by decide +kernel
theorem dX8_copy_51 : decode cX8_copy 51 = .ok (.getfield 34, 3) := by decide +kernel
theorem dX8_copy_54 : decode cX8_copy 54 = .ok (.iload_n 3, 1) := by decide +kernel
theorem dX8_copy_55 : decode cX8_copy 55 = .ok (.iaload, 1) := by decide +kernel
theorem dX8_copy_56 : decode cX8_copy 56 = .ok (.if_icmp .eq 6, 3) := by decide +kernel
theorem dX8_copy_59 : decode cX8_copy 59 = .ok (.bipush (-13), 2) := by decide +kernel
theorem dX8_copy_61 : decode cX8_copy 61 = .ok (.ireturn, 1) := by decide +kernel
theorem dX8_copy_62 : decode cX8_copy 62 = .ok (.iload 5, 2) := by decide +kernel
theorem dX8_copy_64 : decode cX8_copy 64 = .ok (.ifCond .lt 60, 3) := by decide +kernel
theorem dX8_copy_67 : decode cX8_copy 67 = .ok (.iload_n 2, 1) := by decide +kernel
theorem dX8_copy_68 : decode cX8_copy 68 = .ok (.ifCond .lt 56, 3) := by decide +kernel
theorem dX8_copy_71 : decode cX8_copy 71 = .ok (.iload 4, 2) := by decide +kernel
theorem dX8_copy_73 : decode cX8_copy 73 = .ok (.ifCond .lt 51, 3) := by decide +kernel
theorem dX8_copy_76 : decode cX8_copy 76 = .ok (.iload_n 2, 1) := by decide +kernel
theorem dX8_copy_77 : decode cX8_copy 77 = .ok (.aload_n 0, 1) := by decide +kernel
theorem dX8_copy_78 : decode cX8_copy 78 = .ok (.getfield 37, 3) := by decide +kernel
theorem dX8_copy_81 : decode cX8_copy 81 = .ok (.iload_n 1, 1) := by decide +kernel
theorem dX8_copy_82 : decode cX8_copy 82 = .ok (.iaload, 1) := by decide +kernel
theorem dX8_copy_83 : decode cX8_copy 83 = .ok (.if_icmp .gt 41, 3) := by decide +kernel
theorem dX8_copy_86 : decode cX8_copy 86 = .ok (.iload 4, 2) := by decide +kernel
theorem dX8_copy_88 : decode cX8_copy 88 = .ok (.aload_n 0, 1) := by decide +kernel
theorem dX8_copy_89 : decode cX8_copy 89 = .ok (.getfield 37, 3) := by decide +kernel
theorem dX8_copy_92 : decode cX8_copy 92 = .ok (.iload_n 3, 1) := by decide +kernel
theorem dX8_copy_93 : decode cX8_copy 93 = .ok (.iaload, 1) := by decide +kernel
theorem dX8_copy_94 : decode cX8_copy 94 = .ok (.if_icmp .gt 30, 3) := by decide +kernel
theorem dX8_copy_97 : decode cX8_copy 97 = .ok (.iload 5, 2) := by decide +kernel
theorem dX8_copy_99 : decode cX8_copy 99 = .ok (.aload_n 0, 1) := by decide +kernel
theorem dX8_copy_100 : decode cX8_copy 100 = .ok (.getfield 37, 3) := by decide +kernel
theorem dX8_copy_103 : decode cX8_copy 103 = .ok (.iload_n 1, 1) := by decide +kernel
theorem dX8_copy_104 : decode cX8_copy 104 = .ok (.iaload, 1) := by decide +kernel
theorem dX8_copy_105 : decode cX8_copy 105 = .ok (.iload_n 2, 1) := by decide +kernel
theorem dX8_copy_106 : decode cX8_copy 106 = .ok (.isub, 1) := by decide +kernel
theorem dX8_copy_107 : decode cX8_copy 107 = .ok (.if_icmp .gt 17, 3) := by decide +kernel
theorem dX8_copy_110 : decode cX8_copy 110 = .ok (.iload 5, 2) := by decide +kernel
theorem dX8_copy_112 : decode cX8_copy 112 = .ok (.aload_n 0, 1) := by decide +kernel
theorem dX8_copy_113 : decode cX8_copy 113 = .ok (.getfield 37, 3) := by decide +kernel
theorem dX8_copy_116 : decode cX8_copy 116 = .ok (.iload_n 3, 1) := by decide +kernel
theorem dX8_copy_117 : decode cX8_copy 117 = .ok (.iaload, 1) := by decide +kernel
theorem dX8_copy_118 : decode cX8_copy 118 = .ok (.iload 4, 2) := by decide +kernel
theorem dX8_copy_120 : decode cX8_copy 120 = .ok (.isub, 1) := by decide +kernel
theorem dX8_copy_121 : decode cX8_copy 121 = .ok (.if_icmp .le 6, 3) := by decide +kernel
theorem dX8_copy_124 : decode cX8_copy 124 = .ok (.bipush (-12), 2) := by decide +kernel
theorem dX8_copy_126 : decode cX8_copy 126 = .ok (.ireturn, 1) := by decide +kernel
theorem dX8_copy_127 : decode cX8_copy 127 = .ok (.bipush 40, 2) := by decide +kernel
theorem dX8_copy_129 : decode cX8_copy 129 = .ok (.iload_n 1, 1) := by decide +kernel
theorem dX8_copy_130 : decode cX8_copy 130 = .ok (.imul, 1) := by decide +kernel
theorem dX8_copy_131 : decode cX8_copy 131 = .ok (.iload_n 2, 1) := by decide +kernel
theorem dX8_copy_132 : decode cX8_copy 132 = .ok (.iadd, 1) := by decide +kernel
theorem dX8_copy_133 : decode cX8_copy 133 = .ok (.istore 6, 2) := by decide +kernel
theorem dX8_copy_135 : decode cX8_copy 135 = .ok (.bipush 40, 2) := by decide +kernel
theorem dX8_copy_137 : decode cX8_copy 137 = .ok (.iload_n 3, 1) := by decide +kernel
theorem dX8_copy_138 : decode cX8_copy 138 = .ok (.imul, 1) := by decide +kernel
theorem dX8_copy_139 : decode cX8_copy 139 = .ok (.iload 4, 2) := by decide +kernel
theorem dX8_copy_141 : decode cX8_copy 141 = .ok (.iadd, 1) := by decide +kernel
theorem dX8_copy_142 : decode cX8_copy 142 = .ok (.istore 7, 2) := by decide +kernel
theorem dX8_copy_144 : decode cX8_copy 144 = .ok (.iconst 0, 1) := by decide +kernel
theorem dX8_copy_145 : decode cX8_copy 145 = .ok (.istore 8, 2) := by decide +kernel
theorem dX8_copy_147 : decode cX8_copy 147 = .ok (.iload 8, 2) := by decide +kernel
theorem dX8_copy_149 : decode cX8_copy 149 = .ok (.iload 5, 2) := by decide +kernel
theorem dX8_copy_151 : decode cX8_copy 151 = .ok (.if_icmp .ge 50, 3) := by decide +kernel
theorem dX8_copy_154 : decode cX8_copy 154 = .ok (.iload 6, 2) := by decide +kernel
theorem dX8_copy_156 : decode cX8_copy 156 = .ok (.iload 7, 2) := by decide +kernel
theorem dX8_copy_158 : decode cX8_copy 158 = .ok (.if_icmp .ge 13, 3) := by decide +kernel
theorem dX8_copy_161 : decode cX8_copy 161 = .ok (.iload 5, 2) := by decide +kernel
theorem dX8_copy_163 : decode cX8_copy 163 = .ok (.iconst 1, 1) := by decide +kernel
theorem dX8_copy_164 : decode cX8_copy 164 = .ok (.isub, 1) := by decide +kernel
theorem dX8_copy_165 : decode cX8_copy 165 = .ok (.iload 8, 2) := by decide +kernel
theorem dX8_copy_167 : decode cX8_copy 167 = .ok (.isub, 1) := by decide +kernel
theorem dX8_copy_168 : decode cX8_copy 168 = .ok (.goto 5, 3) := by decide +kernel
theorem dX8_copy_171 : decode cX8_copy 171 = .ok (.iload 8, 2) := by decide +kernel
theorem dX8_copy_173 : decode cX8_copy 173 = .ok (.istore 9, 2) := by decide +kernel
theorem dX8_copy_175 : decode cX8_copy 175 = .ok (.aload_n 0, 1) := by decide +kernel
theorem dX8_copy_176 : decode cX8_copy 176 = .ok (.getfield 40, 3) := by decide +kernel
theorem dX8_copy_179 : decode cX8_copy 179 = .ok (.iload 7, 2) := by decide +kernel
theorem dX8_copy_181 : decode cX8_copy 181 = .ok (.iload 9, 2) := by decide +kernel
theorem dX8_copy_183 : decode cX8_copy 183 = .ok (.iadd, 1) := by decide +kernel
theorem dX8_copy_184 : decode cX8_copy 184 = .ok (.aload_n 0, 1) := by decide +kernel
theorem dX8_copy_185 : decode cX8_copy 185 = .ok (.getfield 40, 3) := by decide +kernel
theorem dX8_copy_188 : decode cX8_copy 188 = .ok (.iload 6, 2) := by decide +kernel
theorem dX8_copy_190 : decode cX8_copy 190 = .ok (.iload 9, 2) := by decide +kernel
theorem dX8_copy_192 : decode cX8_copy 192 = .ok (.iadd, 1) := by decide +kernel
theorem dX8_copy_193 : decode cX8_copy 193 = .ok (.iaload, 1) := by decide +kernel
theorem dX8_copy_194 : decode cX8_copy 194 = .ok (.iastore, 1) := by decide +kernel
theorem dX8_copy_195 : decode cX8_copy 195 = .ok (.iinc 8 1, 3) := by decide +kernel
theorem dX8_copy_198 : decode cX8_copy 198 = .ok (.goto (-51), 3) := by decide +kernel
theorem dX8_copy_201 : decode cX8_copy 201 = .ok (.iload 5, 2) := by decide +kernel
theorem dX8_copy_203 : decode cX8_copy 203 = .ok (.ireturn, 1) := by decide +kernel
theorem dX8_guestsBy_0 : decode cX8_guestsBy 0 = .ok (.iload_n 1, 1) := by decide +kernel
theorem dX8_guestsBy_1 : decode cX8_guestsBy 1 = .ok (.iconst 0, 1) := by decide +kernel
theorem dX8_guestsBy_2 : decode cX8_guestsBy 2 = .ok (.iconst 3, 1) := by decide +kernel
theorem dX8_guestsBy_3 : decode cX8_guestsBy 3 = .ok (.invokestatic 72, 3) := by decide +kernel
theorem dX8_guestsBy_6 : decode cX8_guestsBy 6 = .ok (.ifCond .eq 23, 3) := by decide +kernel
theorem dX8_guestsBy_9 : decode cX8_guestsBy 9 = .ok (.iload_n 2, 1) := by decide +kernel
theorem dX8_guestsBy_10 : decode cX8_guestsBy 10 = .ok (.iconst 0, 1) := by decide +kernel
theorem dX8_guestsBy_11 : decode cX8_guestsBy 11 = .ok (.iconst 2, 1) := by decide +kernel
theorem dX8_guestsBy_12 : decode cX8_guestsBy 12 = .ok (.invokestatic 72, 3) := by decide +kernel
theorem dX8_guestsBy_15 : decode cX8_guestsBy 15 = .ok (.ifCond .eq 14, 3) := by decide +kernel
theorem dX8_guestsBy_18 : decode cX8_guestsBy 18 = .ok (.iload 4, 2) := by decide +kernel
theorem dX8_guestsBy_20 : decode cX8_guestsBy 20 = .ok (.iconst 0, 1) := by decide +kernel
theorem dX8_guestsBy_21 : decode cX8_guestsBy 21 = .ok (.bipush 6, 2) := by decide +kernel
theorem dX8_guestsBy_23 : decode cX8_guestsBy 23 = .ok (.invokestatic 72, 3) := by decide +kernel
theorem dX8_guestsBy_26 : decode cX8_guestsBy 26 = .ok (.ifCond .ne 6, 3) := by decide +kernel
theorem dX8_guestsBy_29 : decode cX8_guestsBy 29 = .ok (.bipush (-2), 2) := by decide +kernel
theorem dX8_guestsBy_31 : decode cX8_guestsBy 31 = .ok (.ireturn, 1) := by decide +kernel
theorem dX8_guestsBy_32 : decode cX8_guestsBy 32 = .ok (.aload_n 0, 1) := by decide +kernel
theorem dX8_guestsBy_33 : decode cX8_guestsBy 33 = .ok (.getfield 34, 3) := by decide +kernel
theorem dX8_guestsBy_36 : decode cX8_guestsBy 36 = .ok (.iload_n 1, 1) := by decide +kernel
theorem dX8_guestsBy_37 : decode cX8_guestsBy 37 = .ok (.iaload, 1) := by decide +kernel
theorem dX8_guestsBy_38 : decode cX8_guestsBy 38 = .ok (.iconst (-1), 1) := by decide +kernel
theorem dX8_guestsBy_39 : decode cX8_guestsBy 39 = .ok (.if_icmp .ne 6, 3) := by decide +kernel
theorem dX8_guestsBy_42 : decode cX8_guestsBy 42 = .ok (.bipush (-11), 2) := by decide +kernel
theorem dX8_guestsBy_44 : decode cX8_guestsBy 44 = .ok (.ireturn, 1) := by decide +kernel
theorem dX8_guestsBy_45 : decode cX8_guestsBy 45 = .ok (.aload_n 0, 1) := by decide +kernel
theorem dX8_guestsBy_46 : decode cX8_guestsBy 46 = .ok (.getfield 34, 3) := by decide +kernel
theorem dX8_guestsBy_49 : decode cX8_guestsBy 49 = .ok (.iload_n 1, 1) := by decide +kernel
theorem dX8_guestsBy_50 : decode cX8_guestsBy 50 = .ok (.iaload, 1) := by decide +kernel
theorem dX8_guestsBy_51 : decode cX8_guestsBy 51 = .ok (.iload_n 2, 1) := by decide +kernel
theorem dX8_guestsBy_52 : decode cX8_guestsBy 52 = .ok (.if_icmp .eq 6, 3) := by decide +kernel
theorem dX8_guestsBy_55 : decode cX8_guestsBy 55 = .ok (.bipush (-13), 2) := by decide +kernel
theorem dX8_guestsBy_57 : decode cX8_guestsBy 57 = .ok (.ireturn, 1) := by decide +kernel
theorem dX8_guestsBy_58 : decode cX8_guestsBy 58 = .ok (.iconst 0, 1) := by decide +kernel
theorem dX8_guestsBy_59 : decode cX8_guestsBy 59 = .ok (.istore 5, 2) := by decide +kernel
theorem dX8_guestsBy_61 : decode cX8_guestsBy 61 = .ok (.iconst 0, 1) := by decide +kernel
theorem dX8_guestsBy_62 : decode cX8_guestsBy 62 = .ok (.istore 6, 2) := by decide +kernel
theorem dX8_guestsBy_64 : decode cX8_guestsBy 64 = .ok (.iload 6, 2) := by decide +kernel
theorem dX8_guestsBy_66 : decode cX8_guestsBy 66 = .ok (.iload 4, 2) := by decide +kernel
theorem dX8_guestsBy_68 : decode cX8_guestsBy 68 = .ok (.if_icmp .ge 94, 3) := by decide +kernel
theorem dX8_guestsBy_71 : decode cX8_guestsBy 71 = .ok (.iload_n 3, 1) := by decide +kernel
theorem dX8_guestsBy_72 : decode cX8_guestsBy 72 = .ok (.iconst 3, 1) := by decide +kernel
theorem dX8_guestsBy_73 : decode cX8_guestsBy 73 = .ok (.iload 6, 2) := by decide +kernel
theorem dX8_guestsBy_75 : decode cX8_guestsBy 75 = .ok (.imul, 1) := by decide +kernel
theorem dX8_guestsBy_76 : decode cX8_guestsBy 76 = .ok (.iadd, 1) := by decide +kernel
theorem dX8_guestsBy_77 : decode cX8_guestsBy 77 = .ok (.istore 7, 2) := by decide +kernel
theorem dX8_guestsBy_79 : decode cX8_guestsBy 79 = .ok (.iload_n 3, 1) := by decide +kernel
theorem dX8_guestsBy_80 : decode cX8_guestsBy 80 = .ok (.ifCond .lt 22, 3) := by decide +kernel
theorem dX8_guestsBy_83 : decode cX8_guestsBy 83 = .ok (.iload 7, 2) := by decide +kernel
theorem dX8_guestsBy_85 : decode cX8_guestsBy 85 = .ok (.iload_n 3, 1) := by decide +kernel
theorem dX8_guestsBy_86 : decode cX8_guestsBy 86 = .ok (.if_icmp .lt 16, 3) := by decide +kernel
theorem dX8_guestsBy_89 : decode cX8_guestsBy 89 = .ok (.iload 7, 2) := by decide +kernel
theorem dX8_guestsBy_91 : decode cX8_guestsBy 91 = .ok (.aload_n 0, 1) := by decide +kernel
theorem dX8_guestsBy_92 : decode cX8_guestsBy 92 = .ok (.getfield 37, 3) := by decide +kernel
theorem dX8_guestsBy_95 : decode cX8_guestsBy 95 = .ok (.iload_n 1, 1) := by decide +kernel
theorem dX8_guestsBy_96 : decode cX8_guestsBy 96 = .ok (.iaload, 1) := by decide +kernel
theorem dX8_guestsBy_97 : decode cX8_guestsBy 97 = .ok (.iconst 3, 1) := by decide +kernel
theorem dX8_guestsBy_98 : decode cX8_guestsBy 98 = .ok (.isub, 1) := by decide +kernel
theorem dX8_guestsBy_99 : decode cX8_guestsBy 99 = .ok (.if_icmp .le 6, 3) := by decide +kernel
theorem dX8_guestsBy_102 : decode cX8_guestsBy 102 = .ok (.bipush (-12), 2) := by decide +kernel
theorem dX8_guestsBy_104 : decode cX8_guestsBy 104 = .ok (.ireturn, 1) := by decide +kernel
theorem dX8_guestsBy_105 : decode cX8_guestsBy 105 = .ok (.bipush 40, 2) := by decide +kernel
theorem dX8_guestsBy_107 : decode cX8_guestsBy 107 = .ok (.iload_n 1, 1) := by decide +kernel
theorem dX8_guestsBy_108 : decode cX8_guestsBy 108 = .ok (.imul, 1) := by decide +kernel
theorem dX8_guestsBy_109 : decode cX8_guestsBy 109 = .ok (.iload 7, 2) := by decide +kernel
theorem dX8_guestsBy_111 : decode cX8_guestsBy 111 = .ok (.iadd, 1) := by decide +kernel
theorem dX8_guestsBy_112 : decode cX8_guestsBy 112 = .ok (.istore 8, 2) := by decide +kernel
theorem dX8_guestsBy_114 : decode cX8_guestsBy 114 = .ok (.iload 5, 2) := by decide +kernel
theorem dX8_guestsBy_116 : decode cX8_guestsBy 116 = .ok (.aload_n 0, 1) := by decide +kernel
theorem dX8_guestsBy_117 : decode cX8_guestsBy 117 = .ok (.aload_n 0, 1) := by decide +kernel
theorem dX8_guestsBy_118 : decode cX8_guestsBy 118 = .ok (.getfield 40, 3) := by decide +kernel
theorem dX8_guestsBy_121 : decode cX8_guestsBy 121 = .ok (.iload 8, 2) := by decide +kernel
theorem dX8_guestsBy_123 : decode cX8_guestsBy 123 = .ok (.iaload, 1) := by decide +kernel
theorem dX8_guestsBy_124 : decode cX8_guestsBy 124 = .ok (.aload_n 0, 1) := by decide +kernel
theorem dX8_guestsBy_125 : decode cX8_guestsBy 125 = .ok (.getfield 40, 3) := by decide +kernel
theorem dX8_guestsBy_128 : decode cX8_guestsBy 128 = .ok (.iload 8, 2) := by decide +kernel
theorem dX8_guestsBy_130 : decode cX8_guestsBy 130 = .ok (.iconst 1, 1) := by decide +kernel
theorem dX8_guestsBy_131 : decode cX8_guestsBy 131 = .ok (.iadd, 1) := by decide +kernel
theorem dX8_guestsBy_132 : decode cX8_guestsBy 132 = .ok (.iaload, 1) := by decide +kernel
theorem dX8_guestsBy_133 : decode cX8_guestsBy 133 = .ok (.aload_n 0, 1) := by decide +kernel
theorem dX8_guestsBy_134 : decode cX8_guestsBy 134 = .ok (.getfield 40, 3) := by decide +kernel
theorem dX8_guestsBy_137 : decode cX8_guestsBy 137 = .ok (.iload 8, 2) := by decide +kernel
theorem dX8_guestsBy_139 : decode cX8_guestsBy 139 = .ok (.iconst 2, 1) := by decide +kernel
theorem dX8_guestsBy_140 : decode cX8_guestsBy 140 = .ok (.iadd, 1) := by decide +kernel
theorem dX8_guestsBy_141 : decode cX8_guestsBy 141 = .ok (.iaload, 1) := by decide +kernel
theorem dX8_guestsBy_142 : decode cX8_guestsBy 142 = .ok (.invokevirtual 241, 3) := by decide +kernel
theorem dX8_guestsBy_145 : decode cX8_guestsBy 145 = .ok (.ifCond .lt 7, 3) := by decide +kernel
theorem dX8_guestsBy_148 : decode cX8_guestsBy 148 = .ok (.iconst 1, 1) := by decide +kernel
theorem dX8_guestsBy_149 : decode cX8_guestsBy 149 = .ok (.goto 4, 3) := by decide +kernel
theorem dX8_guestsBy_152 : decode cX8_guestsBy 152 = .ok (.iconst 0, 1) := by decide +kernel
theorem dX8_guestsBy_153 : decode cX8_guestsBy 153 = .ok (.iadd, 1) := by decide +kernel
theorem dX8_guestsBy_154 : decode cX8_guestsBy 154 = .ok (.istore 5, 2) := by decide +kernel
theorem dX8_guestsBy_156 : decode cX8_guestsBy 156 = .ok (.iinc 6 1, 3) := by decide +kernel
theorem dX8_guestsBy_159 : decode cX8_guestsBy 159 = .ok (.goto (-95), 3) := by decide +kernel
theorem dX8_guestsBy_162 : decode cX8_guestsBy 162 = .ok (.iload 5, 2) := by decide +kernel
theorem dX8_guestsBy_164 : decode cX8_guestsBy 164 = .ok (.ireturn, 1) := by decide +kernel
theorem dX8_isUnder_0 : decode cX8_isUnder 0 = .ok (.iload_n 1, 1) := by decide +kernel
theorem dX8_isUnder_1 : decode cX8_isUnder 1 = .ok (.ifCond .eq 28, 3) := by decide +kernel
theorem dX8_isUnder_4 : decode cX8_isUnder 4 = .ok (.iload_n 0, 1) := by decide +kernel
theorem dX8_isUnder_5 : decode cX8_isUnder 5 = .ok (.iload_n 1, 1) := by decide +kernel
theorem dX8_isUnder_6 : decode cX8_isUnder 6 = .ok (.if_icmp .eq 23, 3) := by decide +kernel
theorem dX8_isUnder_9 : decode cX8_isUnder 9 = .ok (.iload_n 1, 1) := by decide +kernel
theorem dX8_isUnder_10 : decode cX8_isUnder 10 = .ok (.iconst 1, 1) := by decide +kernel
theorem dX8_isUnder_11 : decode cX8_isUnder 11 = .ok (.if_icmp .ne 8, 3) := by decide +kernel
theorem dX8_isUnder_14 : decode cX8_isUnder 14 = .ok (.iload_n 0, 1) := by decide +kernel
theorem dX8_isUnder_15 : decode cX8_isUnder 15 = .ok (.iconst 3, 1) := by decide +kernel
theorem dX8_isUnder_16 : decode cX8_isUnder 16 = .ok (.if_icmp .eq 13, 3) := by decide +kernel
theorem dX8_isUnder_19 : decode cX8_isUnder 19 = .ok (.iload_n 1, 1) := by decide +kernel
theorem dX8_isUnder_20 : decode cX8_isUnder 20 = .ok (.iconst 2, 1) := by decide +kernel
theorem dX8_isUnder_21 : decode cX8_isUnder 21 = .ok (.if_icmp .ne 12, 3) := by decide +kernel
theorem dX8_isUnder_24 : decode cX8_isUnder 24 = .ok (.iload_n 0, 1) := by decide +kernel
theorem dX8_isUnder_25 : decode cX8_isUnder 25 = .ok (.iconst 4, 1) := by decide +kernel
theorem dX8_isUnder_26 : decode cX8_isUnder 26 = .ok (.if_icmp .ne 7, 3) := by decide +kernel
theorem dX8_isUnder_29 : decode cX8_isUnder 29 = .ok (.iconst 1, 1) := by decide +kernel
theorem dX8_isUnder_30 : decode cX8_isUnder 30 = .ok (.goto 4, 3) := by decide +kernel
theorem dX8_isUnder_33 : decode cX8_isUnder 33 = .ok (.iconst 0, 1) := by decide +kernel
theorem dX8_isUnder_34 : decode cX8_isUnder 34 = .ok (.ireturn, 1) := by decide +kernel
theorem dX8_taken_0 : decode cX8_taken 0 = .ok (.iload_n 2, 1) := by decide +kernel
theorem dX8_taken_1 : decode cX8_taken 1 = .ok (.iconst 0, 1) := by decide +kernel
theorem dX8_taken_2 : decode cX8_taken 2 = .ok (.bipush 6, 2) := by decide +kernel
theorem dX8_taken_4 : decode cX8_taken 4 = .ok (.invokestatic 72, 3) := by decide +kernel
theorem dX8_taken_7 : decode cX8_taken 7 = .ok (.ifCond .ne 6, 3) := by decide +kernel
theorem dX8_taken_10 : decode cX8_taken 10 = .ok (.bipush (-2), 2) := by decide +kernel
theorem dX8_taken_12 : decode cX8_taken 12 = .ok (.ireturn, 1) := by decide +kernel
theorem dX8_taken_13 : decode cX8_taken 13 = .ok (.iload_n 1, 1) := by decide +kernel
theorem dX8_taken_14 : decode cX8_taken 14 = .ok (.iconst 0, 1) := by decide +kernel
theorem dX8_taken_15 : decode cX8_taken 15 = .ok (.bipush 11, 2) := by decide +kernel
theorem dX8_taken_17 : decode cX8_taken 17 = .ok (.invokestatic 72, 3) := by decide +kernel
theorem dX8_taken_20 : decode cX8_taken 20 = .ok (.ifCond .ne 6, 3) := by decide +kernel
theorem dX8_taken_23 : decode cX8_taken 23 = .ok (.bipush (-12), 2) := by decide +kernel
theorem dX8_taken_25 : decode cX8_taken 25 = .ok (.ireturn, 1) := by decide +kernel
theorem dX8_taken_26 : decode cX8_taken 26 = .ok (.iload_n 1, 1) := by decide +kernel
theorem dX8_taken_27 : decode cX8_taken 27 = .ok (.bipush 6, 2) := by decide +kernel
theorem dX8_taken_29 : decode cX8_taken 29 = .ok (.irem, 1) := by decide +kernel
theorem dX8_taken_30 : decode cX8_taken 30 = .ok (.aload_n 0, 1) := by decide +kernel
theorem dX8_taken_31 : decode cX8_taken 31 = .ok (.getfield 69, 3) := by decide +kernel
theorem dX8_taken_34 : decode cX8_taken 34 = .ok (.if_icmp .lt 6, 3) := by decide +kernel
theorem dX8_taken_37 : decode cX8_taken 37 = .ok (.bipush (-11), 2) := by decide +kernel
theorem dX8_taken_39 : decode cX8_taken 39 = .ok (.ireturn, 1) := by decide +kernel
theorem dX8_taken_40 : decode cX8_taken 40 = .ok (.iload_n 1, 1) := by decide +kernel
theorem dX8_taken_41 : decode cX8_taken 41 = .ok (.bipush 6, 2) := by decide +kernel
theorem dX8_taken_43 : decode cX8_taken 43 = .ok (.if_icmp .lt 28, 3) := by decide +kernel
theorem dX8_taken_46 : decode cX8_taken 46 = .ok (.iload_n 2, 1) := by decide +kernel
theorem dX8_taken_47 : decode cX8_taken 47 = .ok (.bipush 6, 2) := by decide +kernel
theorem dX8_taken_49 : decode cX8_taken 49 = .ok (.if_icmp .ne 19, 3) := by decide +kernel
theorem dX8_taken_52 : decode cX8_taken 52 = .ok (.aload_n 0, 1) := by decide +kernel
theorem dX8_taken_53 : decode cX8_taken 53 = .ok (.getfield 16, 3) := by decide +kernel
theorem dX8_taken_56 : decode cX8_taken 56 = .ok (.iconst 5, 1) := by decide +kernel
theorem dX8_taken_57 : decode cX8_taken 57 = .ok (.iload_n 1, 1) := by decide +kernel
theorem dX8_taken_58 : decode cX8_taken 58 = .ok (.bipush 6, 2) := by decide +kernel
theorem dX8_taken_60 : decode cX8_taken 60 = .ok (.isub, 1) := by decide +kernel
theorem dX8_taken_61 : decode cX8_taken 61 = .ok (.imul, 1) := by decide +kernel
theorem dX8_taken_62 : decode cX8_taken 62 = .ok (.iconst 4, 1) := by decide +kernel
theorem dX8_taken_63 : decode cX8_taken 63 = .ok (.iadd, 1) := by decide +kernel
theorem dX8_taken_64 : decode cX8_taken 64 = .ok (.iaload, 1) := by decide +kernel
theorem dX8_taken_65 : decode cX8_taken 65 = .ok (.goto 5, 3) := by decide +kernel
theorem dX8_taken_68 : decode cX8_taken 68 = .ok (.bipush (-13), 2) := by decide +kernel
theorem dX8_taken_70 : decode cX8_taken 70 = .ok (.ireturn, 1) := by decide +kernel
theorem dX8_taken_71 : decode cX8_taken 71 = .ok (.iload_n 2, 1) := by decide +kernel
theorem dX8_taken_72 : decode cX8_taken 72 = .ok (.bipush 6, 2) := by decide +kernel
theorem dX8_taken_74 : decode cX8_taken 74 = .ok (.if_icmp .ge 20, 3) := by decide +kernel
theorem dX8_taken_77 : decode cX8_taken 77 = .ok (.aload_n 0, 1) := by decide +kernel
theorem dX8_taken_78 : decode cX8_taken 78 = .ok (.getfield 7, 3) := by decide +kernel
theorem dX8_taken_81 : decode cX8_taken 81 = .ok (.iload_n 1, 1) := by decide +kernel
theorem dX8_taken_82 : decode cX8_taken 82 = .ok (.iaload, 1) := by decide +kernel
theorem dX8_taken_83 : decode cX8_taken 83 = .ok (.iload_n 2, 1) := by decide +kernel
theorem dX8_taken_84 : decode cX8_taken 84 = .ok (.invokestatic 244, 3) := by decide +kernel
theorem dX8_taken_87 : decode cX8_taken 87 = .ok (.ifCond .eq 7, 3) := by decide +kernel
theorem dX8_taken_90 : decode cX8_taken 90 = .ok (.iload_n 1, 1) := by decide +kernel
theorem dX8_taken_91 : decode cX8_taken 91 = .ok (.goto 5, 3) := by decide +kernel
theorem dX8_taken_94 : decode cX8_taken 94 = .ok (.bipush (-13), 2) := by decide +kernel
theorem dX8_taken_96 : decode cX8_taken 96 = .ok (.ireturn, 1) := by decide +kernel
