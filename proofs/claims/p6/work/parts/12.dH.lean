theorem dX8_init_0 : decode cX8_init 0 = .ok (.aload_n 0, 1) := by decide +kernel
theorem dX8_init_1 : decode cX8_init 1 = .ok (.invokespecial 1, 3) := by decide +kernel
theorem dX8_init_4 : decode cX8_init 4 = .ok (.aload_n 0, 1) := by decide +kernel
theorem dX8_init_5 : decode cX8_init 5 = .ok (.sipush 700, 3) := by decide +kernel
theorem dX8_init_8 : decode cX8_init 8 = .ok (.newarray .int, 2) := by decide +kernel
theorem dX8_init_10 : decode cX8_init 10 = .ok (.putfield 7, 3) := by decide +kernel
theorem dX8_init_13 : decode cX8_init 13 = .ok (.aload_n 0, 1) := by decide +kernel
theorem dX8_init_14 : decode cX8_init 14 = .ok (.sipush 153, 3) := by decide +kernel
theorem dX8_init_17 : decode cX8_init 17 = .ok (.newarray .int, 2) := by decide +kernel
theorem dX8_init_19 : decode cX8_init 19 = .ok (.dup, 1) := by decide +kernel
theorem dX8_init_20 : decode cX8_init 20 = .ok (.iconst 0, 1) := by decide +kernel
theorem dX8_init_21 : decode cX8_init 21 = .ok (.bipush 112, 2) := by decide +kernel
theorem dX8_init_23 : decode cX8_init 23 = .ok (.iastore, 1) := by decide +kernel
theorem dX8_init_24 : decode cX8_init 24 = .ok (.dup, 1) := by decide +kernel
theorem dX8_init_25 : decode cX8_init 25 = .ok (.iconst 1, 1) := by decide +kernel
theorem dX8_init_26 : decode cX8_init 26 = .ok (.bipush 108, 2) := by decide +kernel
theorem dX8_init_28 : decode cX8_init 28 = .ok (.iastore, 1) := by decide +kernel
theorem dX8_init_29 : decode cX8_init 29 = .ok (.dup, 1) := by decide +kernel
theorem dX8_init_30 : decode cX8_init 30 = .ok (.iconst 2, 1) := by decide +kernel
theorem dX8_init_31 : decode cX8_init 31 = .ok (.bipush 97, 2) := by decide +kernel
theorem dX8_init_33 : decode cX8_init 33 = .ok (.iastore, 1) := by decide +kernel
theorem dX8_init_34 : decode cX8_init 34 = .ok (.dup, 1) := by decide +kernel
theorem dX8_init_35 : decode cX8_init 35 = .ok (.iconst 3, 1) := by decide +kernel
theorem dX8_init_36 : decode cX8_init 36 = .ok (.bipush 99, 2) := by decide +kernel
theorem dX8_init_38 : decode cX8_init 38 = .ok (.iastore, 1) := by decide +kernel
theorem dX8_init_39 : decode cX8_init 39 = .ok (.dup, 1) := by decide +kernel
theorem dX8_init_40 : decode cX8_init 40 = .ok (.iconst 4, 1) := by decide +kernel
theorem dX8_init_41 : decode cX8_init 41 = .ok (.bipush 101, 2) := by decide +kernel
theorem dX8_init_43 : decode cX8_init 43 = .ok (.iastore, 1) := by decide +kernel
theorem dX8_init_44 : decode cX8_init 44 = .ok (.dup, 1) := by decide +kernel
theorem dX8_init_45 : decode cX8_init 45 = .ok (.iconst 5, 1) := by decide +kernel
theorem dX8_init_46 : decode cX8_init 46 = .ok (.bipush 32, 2) := by decide +kernel
theorem dX8_init_48 : decode cX8_init 48 = .ok (.iastore, 1) := by decide +kernel
theorem dX8_init_49 : decode cX8_init 49 = .ok (.dup, 1) := by decide +kernel
theorem dX8_init_50 : decode cX8_init 50 = .ok (.bipush 6, 2) := by decide +kernel
theorem dX8_init_52 : decode cX8_init 52 = .ok (.bipush 112, 2) := by decide +kernel
theorem dX8_init_54 : decode cX8_init 54 = .ok (.iastore, 1) := by decide +kernel
theorem dX8_init_55 : decode cX8_init 55 = .ok (.dup, 1) := by decide +kernel
theorem dX8_init_56 : decode cX8_init 56 = .ok (.bipush 7, 2) := by decide +kernel
theorem dX8_init_58 : decode cX8_init 58 = .ok (.bipush 101, 2) := by decide +kernel
theorem dX8_init_60 : decode cX8_init 60 = .ok (.iastore, 1) := by decide +kernel
theorem dX8_init_61 : decode cX8_init 61 = .ok (.dup, 1) := by decide +kernel
theorem dX8_init_62 : decode cX8_init 62 = .ok (.bipush 8, 2) := by decide +kernel
theorem dX8_init_64 : decode cX8_init 64 = .ok (.bipush 114, 2) := by decide +kernel
theorem dX8_init_66 : decode cX8_init 66 = .ok (.iastore, 1) := by decide +kernel
theorem dX8_init_67 : decode cX8_init 67 = .ok (.dup, 1) := by decide +kernel
theorem dX8_init_68 : decode cX8_init 68 = .ok (.bipush 9, 2) := by decide +kernel
theorem dX8_init_70 : decode cX8_init 70 = .ok (.bipush 115, 2) := by decide +kernel
theorem dX8_init_72 : decode cX8_init 72 = .ok (.iastore, 1) := by decide +kernel
theorem dX8_init_73 : decode cX8_init 73 = .ok (.dup, 1) := by decide +kernel
theorem dX8_init_74 : decode cX8_init 74 = .ok (.bipush 10, 2) := by decide +kernel
theorem dX8_init_76 : decode cX8_init 76 = .ok (.bipush 111, 2) := by decide +kernel
theorem dX8_init_78 : decode cX8_init 78 = .ok (.iastore, 1) := by decide +kernel
theorem dX8_init_79 : decode cX8_init 79 = .ok (.dup, 1) := by decide +kernel
theorem dX8_init_80 : decode cX8_init 80 = .ok (.bipush 11, 2) := by decide +kernel
theorem dX8_init_82 : decode cX8_init 82 = .ok (.bipush 110, 2) := by decide +kernel
theorem dX8_init_84 : decode cX8_init 84 = .ok (.iastore, 1) := by decide +kernel
theorem dX8_init_85 : decode cX8_init 85 = .ok (.dup, 1) := by decide +kernel
theorem dX8_init_86 : decode cX8_init 86 = .ok (.bipush 12, 2) := by decide +kernel
theorem dX8_init_88 : decode cX8_init 88 = .ok (.bipush 32, 2) := by decide +kernel
theorem dX8_init_90 : decode cX8_init 90 = .ok (.iastore, 1) := by decide +kernel
theorem dX8_init_91 : decode cX8_init 91 = .ok (.dup, 1) := by decide +kernel
theorem dX8_init_92 : decode cX8_init 92 = .ok (.bipush 13, 2) := by decide +kernel
theorem dX8_init_94 : decode cX8_init 94 = .ok (.bipush 112, 2) := by decide +kernel
theorem dX8_init_96 : decode cX8_init 96 = .ok (.iastore, 1) := by decide +kernel
theorem dX8_init_97 : decode cX8_init 97 = .ok (.dup, 1) := by decide +kernel
theorem dX8_init_98 : decode cX8_init 98 = .ok (.bipush 14, 2) := by decide +kernel
theorem dX8_init_100 : decode cX8_init 100 = .ok (.bipush 105, 2) := by decide +kernel
theorem dX8_init_102 : decode cX8_init 102 = .ok (.iastore, 1) := by decide +kernel
theorem dX8_init_103 : decode cX8_init 103 = .ok (.dup, 1) := by decide +kernel
theorem dX8_init_104 : decode cX8_init 104 = .ok (.bipush 15, 2) := by decide +kernel
theorem dX8_init_106 : decode cX8_init 106 = .ok (.bipush 101, 2) := by decide +kernel
theorem dX8_init_108 : decode cX8_init 108 = .ok (.iastore, 1) := by decide +kernel
theorem dX8_init_109 : decode cX8_init 109 = .ok (.dup, 1) := by decide +kernel
theorem dX8_init_110 : decode cX8_init 110 = .ok (.bipush 16, 2) := by decide +kernel
theorem dX8_init_112 : decode cX8_init 112 = .ok (.bipush 99, 2) := by decide +kernel
theorem dX8_init_114 : decode cX8_init 114 = .ok (.iastore, 1) := by decide +kernel
theorem dX8_init_115 : decode cX8_init 115 = .ok (.dup, 1) := by decide +kernel
theorem dX8_init_116 : decode cX8_init 116 = .ok (.bipush 17, 2) := by decide +kernel
theorem dX8_init_118 : decode cX8_init 118 = .ok (.bipush 101, 2) := by decide +kernel
theorem dX8_init_120 : decode cX8_init 120 = .ok (.iastore, 1) := by decide +kernel
theorem dX8_init_121 : decode cX8_init 121 = .ok (.dup, 1) := by decide +kernel
theorem dX8_init_122 : decode cX8_init 122 = .ok (.bipush 18, 2) := by decide +kernel
theorem dX8_init_124 : decode cX8_init 124 = .ok (.bipush 32, 2) := by decide +kernel
theorem dX8_init_126 : decode cX8_init 126 = .ok (.iastore, 1) := by decide +kernel
theorem dX8_init_127 : decode cX8_init 127 = .ok (.dup, 1) := by decide +kernel
theorem dX8_init_128 : decode cX8_init 128 = .ok (.bipush 19, 2) := by decide +kernel
theorem dX8_init_130 : decode cX8_init 130 = .ok (.bipush 119, 2) := by decide +kernel
theorem dX8_init_132 : decode cX8_init 132 = .ok (.iastore, 1) := by decide +kernel
theorem dX8_init_133 : decode cX8_init 133 = .ok (.dup, 1) := by decide +kernel
theorem dX8_init_134 : decode cX8_init 134 = .ok (.bipush 20, 2) := by decide +kernel
theorem dX8_init_136 : decode cX8_init 136 = .ok (.bipush 97, 2) := by decide +kernel
theorem dX8_init_138 : decode cX8_init 138 = .ok (.iastore, 1) := by decide +kernel
theorem dX8_init_139 : decode cX8_init 139 = .ok (.dup, 1) := by decide +kernel
theorem dX8_init_140 : decode cX8_init 140 = .ok (.bipush 21, 2) := by decide +kernel
theorem dX8_init_142 : decode cX8_init 142 = .ok (.bipush 105, 2) := by decide +kernel
theorem dX8_init_144 : decode cX8_init 144 = .ok (.iastore, 1) := by decide +kernel
theorem dX8_init_145 : decode cX8_init 145 = .ok (.dup, 1) := by decide +kernel
theorem dX8_init_146 : decode cX8_init 146 = .ok (.bipush 22, 2) := by decide +kernel
theorem dX8_init_148 : decode cX8_init 148 = .ok (.bipush 116, 2) := by decide +kernel
theorem dX8_init_150 : decode cX8_init 150 = .ok (.iastore, 1) := by decide +kernel
theorem dX8_init_151 : decode cX8_init 151 = .ok (.dup, 1) := by decide +kernel
theorem dX8_init_152 : decode cX8_init 152 = .ok (.bipush 23, 2) := by decide +kernel
theorem dX8_init_154 : decode cX8_init 154 = .ok (.bipush 32, 2) := by decide +kernel
theorem dX8_init_156 : decode cX8_init 156 = .ok (.iastore, 1) := by decide +kernel
theorem dX8_init_157 : decode cX8_init 157 = .ok (.dup, 1) := by decide +kernel
theorem dX8_init_158 : decode cX8_init 158 = .ok (.bipush 24, 2) := by decide +kernel
theorem dX8_init_160 : decode cX8_init 160 = .ok (.bipush 114, 2) := by decide +kernel
theorem dX8_init_162 : decode cX8_init 162 = .ok (.iastore, 1) := by decide +kernel
theorem dX8_init_163 : decode cX8_init 163 = .ok (.dup, 1) := by decide +kernel
theorem dX8_init_164 : decode cX8_init 164 = .ok (.bipush 25, 2) := by decide +kernel
theorem dX8_init_166 : decode cX8_init 166 = .ok (.bipush 117, 2) := by decide +kernel
theorem dX8_init_168 : decode cX8_init 168 = .ok (.iastore, 1) := by decide +kernel
theorem dX8_init_169 : decode cX8_init 169 = .ok (.dup, 1) := by decide +kernel
theorem dX8_init_170 : decode cX8_init 170 = .ok (.bipush 26, 2) := by decide +kernel
theorem dX8_init_172 : decode cX8_init 172 = .ok (.bipush 108, 2) := by decide +kernel
theorem dX8_init_174 : decode cX8_init 174 = .ok (.iastore, 1) := by decide +kernel
theorem dX8_init_175 : decode cX8_init 175 = .ok (.dup, 1) := by decide +kernel
theorem dX8_init_176 : decode cX8_init 176 = .ok (.bipush 27, 2) := by decide +kernel
theorem dX8_init_178 : decode cX8_init 178 = .ok (.bipush 101, 2) := by decide +kernel
theorem dX8_init_180 : decode cX8_init 180 = .ok (.iastore, 1) := by decide +kernel
theorem dX8_init_181 : decode cX8_init 181 = .ok (.dup, 1) := by decide +kernel
theorem dX8_init_182 : decode cX8_init 182 = .ok (.bipush 28, 2) := by decide +kernel
theorem dX8_init_184 : decode cX8_init 184 = .ok (.bipush 32, 2) := by decide +kernel
theorem dX8_init_186 : decode cX8_init 186 = .ok (.iastore, 1) := by decide +kernel
theorem dX8_init_187 : decode cX8_init 187 = .ok (.dup, 1) := by decide +kernel
theorem dX8_init_188 : decode cX8_init 188 = .ok (.bipush 29, 2) := by decide +kernel
theorem dX8_init_190 : decode cX8_init 190 = .ok (.bipush 99, 2) := by decide +kernel
theorem dX8_init_192 : decode cX8_init 192 = .ok (.iastore, 1) := by decide +kernel
theorem dX8_init_193 : decode cX8_init 193 = .ok (.dup, 1) := by decide +kernel
theorem dX8_init_194 : decode cX8_init 194 = .ok (.bipush 30, 2) := by decide +kernel
theorem dX8_init_196 : decode cX8_init 196 = .ok (.bipush 117, 2) := by decide +kernel
theorem dX8_init_198 : decode cX8_init 198 = .ok (.iastore, 1) := by decide +kernel
theorem dX8_init_199 : decode cX8_init 199 = .ok (.dup, 1) := by decide +kernel
theorem dX8_init_200 : decode cX8_init 200 = .ok (.bipush 31, 2) := by decide +kernel
theorem dX8_init_202 : decode cX8_init 202 = .ok (.bipush 114, 2) := by decide +kernel
theorem dX8_init_204 : decode cX8_init 204 = .ok (.iastore, 1) := by decide +kernel
theorem dX8_init_205 : decode cX8_init 205 = .ok (.dup, 1) := by decide +kernel
theorem dX8_init_206 : decode cX8_init 206 = .ok (.bipush 32, 2) := by decide +kernel
theorem dX8_init_208 : decode cX8_init 208 = .ok (.bipush 118, 2) := by decide +kernel
theorem dX8_init_210 : decode cX8_init 210 = .ok (.iastore, 1) := by decide +kernel
theorem dX8_init_211 : decode cX8_init 211 = .ok (.dup, 1) := by decide +kernel
theorem dX8_init_212 : decode cX8_init 212 = .ok (.bipush 33, 2) := by decide +kernel
theorem dX8_init_214 : decode cX8_init 214 = .ok (.bipush 101, 2) := by decide +kernel
theorem dX8_init_216 : decode cX8_init 216 = .ok (.iastore, 1) := by decide +kernel
theorem dX8_init_217 : decode cX8_init 217 = .ok (.dup, 1) := by decide +kernel
theorem dX8_init_218 : decode cX8_init 218 = .ok (.bipush 34, 2) := by decide +kernel
theorem dX8_init_220 : decode cX8_init 220 = .ok (.bipush 32, 2) := by decide +kernel
theorem dX8_init_222 : decode cX8_init 222 = .ok (.iastore, 1) := by decide +kernel
theorem dX8_init_223 : decode cX8_init 223 = .ok (.dup, 1) := by decide +kernel
theorem dX8_init_224 : decode cX8_init 224 = .ok (.bipush 35, 2) := by decide +kernel
theorem dX8_init_226 : decode cX8_init 226 = .ok (.bipush 115, 2) := by decide +kernel
theorem dX8_init_228 : decode cX8_init 228 = .ok (.iastore, 1) := by decide +kernel
theorem dX8_init_229 : decode cX8_init 229 = .ok (.dup, 1) := by decide +kernel
theorem dX8_init_230 : decode cX8_init 230 = .ok (.bipush 36, 2) := by decide +kernel
theorem dX8_init_232 : decode cX8_init 232 = .ok (.bipush 101, 2) := by decide +kernel
theorem dX8_init_234 : decode cX8_init 234 = .ok (.iastore, 1) := by decide +kernel
theorem dX8_init_235 : decode cX8_init 235 = .ok (.dup, 1) := by decide +kernel
theorem dX8_init_236 : decode cX8_init 236 = .ok (.bipush 37, 2) := by decide +kernel
theorem dX8_init_238 : decode cX8_init 238 = .ok (.bipush 101, 2) := by decide +kernel
theorem dX8_init_240 : decode cX8_init 240 = .ok (.iastore, 1) := by decide +kernel
theorem dX8_init_241 : decode cX8_init 241 = .ok (.dup, 1) := by decide +kernel
theorem dX8_init_242 : decode cX8_init 242 = .ok (.bipush 38, 2) := by decide +kernel
theorem dX8_init_244 : decode cX8_init 244 = .ok (.bipush 100, 2) := by decide +kernel
theorem dX8_init_246 : decode cX8_init 246 = .ok (.iastore, 1) := by decide +kernel
theorem dX8_init_247 : decode cX8_init 247 = .ok (.dup, 1) := by decide +kernel
theorem dX8_init_248 : decode cX8_init 248 = .ok (.bipush 39, 2) := by decide +kernel
theorem dX8_init_250 : decode cX8_init 250 = .ok (.bipush 32, 2) := by decide +kernel
theorem dX8_init_252 : decode cX8_init 252 = .ok (.iastore, 1) := by decide +kernel
theorem dX8_init_253 : decode cX8_init 253 = .ok (.dup, 1) := by decide +kernel
theorem dX8_init_254 : decode cX8_init 254 = .ok (.bipush 40, 2) := by decide +kernel
theorem dX8_init_256 : decode cX8_init 256 = .ok (.bipush 108, 2) := by decide +kernel
theorem dX8_init_258 : decode cX8_init 258 = .ok (.iastore, 1) := by decide +kernel
theorem dX8_init_259 : decode cX8_init 259 = .ok (.dup, 1) := by decide +kernel
theorem dX8_init_260 : decode cX8_init 260 = .ok (.bipush 41, 2) := by decide +kernel
theorem dX8_init_262 : decode cX8_init 262 = .ok (.bipush 97, 2) := by decide +kernel
theorem dX8_init_264 : decode cX8_init 264 = .ok (.iastore, 1) := by decide +kernel
theorem dX8_init_265 : decode cX8_init 265 = .ok (.dup, 1) := by decide +kernel
theorem dX8_init_266 : decode cX8_init 266 = .ok (.bipush 42, 2) := by decide +kernel
theorem dX8_init_268 : decode cX8_init 268 = .ok (.bipush 119, 2) := by decide +kernel
theorem dX8_init_270 : decode cX8_init 270 = .ok (.iastore, 1) := by decide +kernel
theorem dX8_init_271 : decode cX8_init 271 = .ok (.dup, 1) := by decide +kernel
theorem dX8_init_272 : decode cX8_init 272 = .ok (.bipush 43, 2) := by decide +kernel
theorem dX8_init_274 : decode cX8_init 274 = .ok (.bipush 32, 2) := by decide +kernel
theorem dX8_init_276 : decode cX8_init 276 = .ok (.iastore, 1) := by decide +kernel
theorem dX8_init_277 : decode cX8_init 277 = .ok (.dup, 1) := by decide +kernel
theorem dX8_init_278 : decode cX8_init 278 = .ok (.bipush 44, 2) := by decide +kernel
theorem dX8_init_280 : decode cX8_init 280 = .ok (.bipush 110, 2) := by decide +kernel
theorem dX8_init_282 : decode cX8_init 282 = .ok (.iastore, 1) := by decide +kernel
theorem dX8_init_283 : decode cX8_init 283 = .ok (.dup, 1) := by decide +kernel
theorem dX8_init_284 : decode cX8_init 284 = .ok (.bipush 45, 2) := by decide +kernel
theorem dX8_init_286 : decode cX8_init 286 = .ok (.bipush 101, 2) := by decide +kernel
theorem dX8_init_288 : decode cX8_init 288 = .ok (.iastore, 1) := by decide +kernel
theorem dX8_init_289 : decode cX8_init 289 = .ok (.dup, 1) := by decide +kernel
theorem dX8_init_290 : decode cX8_init 290 = .ok (.bipush 46, 2) := by decide +kernel
theorem dX8_init_292 : decode cX8_init 292 = .ok (.bipush 116, 2) := by decide +kernel
theorem dX8_init_294 : decode cX8_init 294 = .ok (.iastore, 1) := by decide +kernel
theorem dX8_init_295 : decode cX8_init 295 = .ok (.dup, 1) := by decide +kernel
theorem dX8_init_296 : decode cX8_init 296 = .ok (.bipush 47, 2) := by decide +kernel
theorem dX8_init_298 : decode cX8_init 298 = .ok (.bipush 32, 2) := by decide +kernel
theorem dX8_init_300 : decode cX8_init 300 = .ok (.iastore, 1) := by decide +kernel
theorem dX8_init_301 : decode cX8_init 301 = .ok (.dup, 1) := by decide +kernel
theorem dX8_init_302 : decode cX8_init 302 = .ok (.bipush 48, 2) := by decide +kernel
theorem dX8_init_304 : decode cX8_init 304 = .ok (.bipush 115, 2) := by decide +kernel
theorem dX8_init_306 : decode cX8_init 306 = .ok (.iastore, 1) := by decide +kernel
theorem dX8_init_307 : decode cX8_init 307 = .ok (.dup, 1) := by decide +kernel
theorem dX8_init_308 : decode cX8_init 308 = .ok (.bipush 49, 2) := by decide +kernel
theorem dX8_init_310 : decode cX8_init 310 = .ok (.bipush 104, 2) := by decide +kernel
theorem dX8_init_312 : decode cX8_init 312 = .ok (.iastore, 1) := by decide +kernel
theorem dX8_init_313 : decode cX8_init 313 = .ok (.dup, 1) := by decide +kernel
theorem dX8_init_314 : decode cX8_init 314 = .ok (.bipush 50, 2) := by decide +kernel
theorem dX8_init_316 : decode cX8_init 316 = .ok (.bipush 101, 2) := by decide +kernel
theorem dX8_init_318 : decode cX8_init 318 = .ok (.iastore, 1) := by decide +kernel
theorem dX8_init_319 : decode cX8_init 319 = .ok (.dup, 1) := by decide +kernel
theorem dX8_init_320 : decode cX8_init 320 = .ok (.bipush 51, 2) := by decide +kernel
theorem dX8_init_322 : decode cX8_init 322 = .ok (.bipush 108, 2) := by decide +kernel
theorem dX8_init_324 : decode cX8_init 324 = .ok (.iastore, 1) := by decide +kernel
theorem dX8_init_325 : decode cX8_init 325 = .ok (.dup, 1) := by decide +kernel
theorem dX8_init_326 : decode cX8_init 326 = .ok (.bipush 52, 2) := by decide +kernel
theorem dX8_init_328 : decode cX8_init 328 = .ok (.bipush 102, 2) := by decide +kernel
theorem dX8_init_330 : decode cX8_init 330 = .ok (.iastore, 1) := by decide +kernel
theorem dX8_init_331 : decode cX8_init 331 = .ok (.dup, 1) := by decide +kernel
theorem dX8_init_332 : decode cX8_init 332 = .ok (.bipush 53, 2) := by decide +kernel
theorem dX8_init_334 : decode cX8_init 334 = .ok (.bipush 32, 2) := by decide +kernel
theorem dX8_init_336 : decode cX8_init 336 = .ok (.iastore, 1) := by decide +kernel
theorem dX8_init_337 : decode cX8_init 337 = .ok (.dup, 1) := by decide +kernel
theorem dX8_init_338 : decode cX8_init 338 = .ok (.bipush 54, 2) := by decide +kernel
theorem dX8_init_340 : decode cX8_init 340 = .ok (.bipush 102, 2) := by decide +kernel
theorem dX8_init_342 : decode cX8_init 342 = .ok (.iastore, 1) := by decide +kernel
theorem dX8_init_343 : decode cX8_init 343 = .ok (.dup, 1) := by decide +kernel
theorem dX8_init_344 : decode cX8_init 344 = .ok (.bipush 55, 2) := by decide +kernel
theorem dX8_init_346 : decode cX8_init 346 = .ok (.bipush 108, 2) := by decide +kernel
theorem dX8_init_348 : decode cX8_init 348 = .ok (.iastore, 1) := by decide +kernel
theorem dX8_init_349 : decode cX8_init 349 = .ok (.dup, 1) := by decide +kernel
theorem dX8_init_350 : decode cX8_init 350 = .ok (.bipush 56, 2) := by decide +kernel
theorem dX8_init_352 : decode cX8_init 352 = .ok (.bipush 111, 2) := by decide +kernel
theorem dX8_init_354 : decode cX8_init 354 = .ok (.iastore, 1) := by decide +kernel
theorem dX8_init_355 : decode cX8_init 355 = .ok (.dup, 1) := by decide +kernel
theorem dX8_init_356 : decode cX8_init 356 = .ok (.bipush 57, 2) := by decide +kernel
theorem dX8_init_358 : decode cX8_init 358 = .ok (.bipush 111, 2) := by decide +kernel
theorem dX8_init_360 : decode cX8_init 360 = .ok (.iastore, 1) := by decide +kernel
theorem dX8_init_361 : decode cX8_init 361 = .ok (.dup, 1) := by decide +kernel
theorem dX8_init_362 : decode cX8_init 362 = .ok (.bipush 58, 2) := by decide +kernel
theorem dX8_init_364 : decode cX8_init 364 = .ok (.bipush 114, 2) := by decide +kernel
theorem dX8_init_366 : decode cX8_init 366 = .ok (.iastore, 1) := by decide +kernel
theorem dX8_init_367 : decode cX8_init 367 = .ok (.dup, 1) := by decide +kernel
theorem dX8_init_368 : decode cX8_init 368 = .ok (.bipush 59, 2) := by decide +kernel
theorem dX8_init_370 : decode cX8_init 370 = .ok (.bipush 32, 2) := by decide +kernel
theorem dX8_init_372 : decode cX8_init 372 = .ok (.iastore, 1) := by decide +kernel
theorem dX8_init_373 : decode cX8_init 373 = .ok (.dup, 1) := by decide +kernel
theorem dX8_init_374 : decode cX8_init 374 = .ok (.bipush 60, 2) := by decide +kernel
theorem dX8_init_376 : decode cX8_init 376 = .ok (.bipush 115, 2) := by decide +kernel
theorem dX8_init_378 : decode cX8_init 378 = .ok (.iastore, 1) := by decide +kernel
theorem dX8_init_379 : decode cX8_init 379 = .ok (.dup, 1) := by decide +kernel
theorem dX8_init_380 : decode cX8_init 380 = .ok (.bipush 61, 2) := by decide +kernel
theorem dX8_init_382 : decode cX8_init 382 = .ok (.bipush 101, 2) := by decide +kernel
theorem dX8_init_384 : decode cX8_init 384 = .ok (.iastore, 1) := by decide +kernel
theorem dX8_init_385 : decode cX8_init 385 = .ok (.dup, 1) := by decide +kernel
theorem dX8_init_386 : decode cX8_init 386 = .ok (.bipush 62, 2) := by decide +kernel
theorem dX8_init_388 : decode cX8_init 388 = .ok (.bipush 97, 2) := by decide +kernel
theorem dX8_init_390 : decode cX8_init 390 = .ok (.iastore, 1) := by decide +kernel
theorem dX8_init_391 : decode cX8_init 391 = .ok (.dup, 1) := by decide +kernel
theorem dX8_init_392 : decode cX8_init 392 = .ok (.bipush 63, 2) := by decide +kernel
theorem dX8_init_394 : decode cX8_init 394 = .ok (.bipush 116, 2) := by decide +kernel
theorem dX8_init_396 : decode cX8_init 396 = .ok (.iastore, 1) := by decide +kernel
theorem dX8_init_397 : decode cX8_init 397 = .ok (.dup, 1) := by decide +kernel
theorem dX8_init_398 : decode cX8_init 398 = .ok (.bipush 64, 2) := by decide +kernel
theorem dX8_init_400 : decode cX8_init 400 = .ok (.bipush 32, 2) := by decide +kernel
theorem dX8_init_402 : decode cX8_init 402 = .ok (.iastore, 1) := by decide +kernel
theorem dX8_init_403 : decode cX8_init 403 = .ok (.dup, 1) := by decide +kernel
theorem dX8_init_404 : decode cX8_init 404 = .ok (.bipush 65, 2) := by decide +kernel
theorem dX8_init_406 : decode cX8_init 406 = .ok (.bipush 104, 2) := by decide +kernel
theorem dX8_init_408 : decode cX8_init 408 = .ok (.iastore, 1) := by decide +kernel
theorem dX8_init_409 : decode cX8_init 409 = .ok (.dup, 1) := by decide +kernel
theorem dX8_init_410 : decode cX8_init 410 = .ok (.bipush 66, 2) := by decide +kernel
theorem dX8_init_412 : decode cX8_init 412 = .ok (.bipush 97, 2) := by decide +kernel
theorem dX8_init_414 : decode cX8_init 414 = .ok (.iastore, 1) := by decide +kernel
theorem dX8_init_415 : decode cX8_init 415 = .ok (.dup, 1) := by decide +kernel
theorem dX8_init_416 : decode cX8_init 416 = .ok (.bipush 67, 2) := by decide +kernel
theorem dX8_init_418 : decode cX8_init 418 = .ok (.bipush 108, 2) := by decide +kernel
theorem dX8_init_420 : decode cX8_init 420 = .ok (.iastore, 1) := by decide +kernel
theorem dX8_init_421 : decode cX8_init 421 = .ok (.dup, 1) := by decide +kernel
theorem dX8_init_422 : decode cX8_init 422 = .ok (.bipush 68, 2) := by decide +kernel
theorem dX8_init_424 : decode cX8_init 424 = .ok (.bipush 108, 2) := by decide +kernel
theorem dX8_init_426 : decode cX8_init 426 = .ok (.iastore, 1) := by decide +kernel
theorem dX8_init_427 : decode cX8_init 427 = .ok (.dup, 1) := by decide +kernel
theorem dX8_init_428 : decode cX8_init 428 = .ok (.bipush 69, 2) := by decide +kernel
theorem dX8_init_430 : decode cX8_init 430 = .ok (.bipush 32, 2) := by decide +kernel
theorem dX8_init_432 : decode cX8_init 432 = .ok (.iastore, 1) := by decide +kernel
theorem dX8_init_433 : decode cX8_init 433 = .ok (.dup, 1) := by decide +kernel
theorem dX8_init_434 : decode cX8_init 434 = .ok (.bipush 70, 2) := by decide +kernel
theorem dX8_init_436 : decode cX8_init 436 = .ok (.bipush 102, 2) := by decide +kernel
theorem dX8_init_438 : decode cX8_init 438 = .ok (.iastore, 1) := by decide +kernel
theorem dX8_init_439 : decode cX8_init 439 = .ok (.dup, 1) := by decide +kernel
theorem dX8_init_440 : decode cX8_init 440 = .ok (.bipush 71, 2) := by decide +kernel
theorem dX8_init_442 : decode cX8_init 442 = .ok (.bipush 105, 2) := by decide +kernel
theorem dX8_init_444 : decode cX8_init 444 = .ok (.iastore, 1) := by decide +kernel
theorem dX8_init_445 : decode cX8_init 445 = .ok (.dup, 1) := by decide +kernel
theorem dX8_init_446 : decode cX8_init 446 = .ok (.bipush 72, 2) := by decide +kernel
theorem dX8_init_448 : decode cX8_init 448 = .ok (.bipush 114, 2) := by decide +kernel
theorem dX8_init_450 : decode cX8_init 450 = .ok (.iastore, 1) := by decide +kernel
theorem dX8_init_451 : decode cX8_init 451 = .ok (.dup, 1) := by decide +kernel
theorem dX8_init_452 : decode cX8_init 452 = .ok (.bipush 73, 2) := by decide +kernel
theorem dX8_init_454 : decode cX8_init 454 = .ok (.bipush 115, 2) := by decide +kernel
theorem dX8_init_456 : decode cX8_init 456 = .ok (.iastore, 1) := by decide +kernel
theorem dX8_init_457 : decode cX8_init 457 = .ok (.dup, 1) := by decide +kernel
theorem dX8_init_458 : decode cX8_init 458 = .ok (.bipush 74, 2) := by decide +kernel
theorem dX8_init_460 : decode cX8_init 460 = .ok (.bipush 116, 2) := by decide +kernel
theorem dX8_init_462 : decode cX8_init 462 = .ok (.iastore, 1) := by decide +kernel
theorem dX8_init_463 : decode cX8_init 463 = .ok (.dup, 1) := by decide +kernel
theorem dX8_init_464 : decode cX8_init 464 = .ok (.bipush 75, 2) := by decide +kernel
theorem dX8_init_466 : decode cX8_init 466 = .ok (.bipush 32, 2) := by decide +kernel
theorem dX8_init_468 : decode cX8_init 468 = .ok (.iastore, 1) := by decide +kernel
theorem dX8_init_469 : decode cX8_init 469 = .ok (.dup, 1) := by decide +kernel
theorem dX8_init_470 : decode cX8_init 470 = .ok (.bipush 76, 2) := by decide +kernel
theorem dX8_init_472 : decode cX8_init 472 = .ok (.bipush 108, 2) := by decide +kernel
theorem dX8_init_474 : decode cX8_init 474 = .ok (.iastore, 1) := by decide +kernel
theorem dX8_init_475 : decode cX8_init 475 = .ok (.dup, 1) := by decide +kernel
theorem dX8_init_476 : decode cX8_init 476 = .ok (.bipush 77, 2) := by decide +kernel
theorem dX8_init_478 : decode cX8_init 478 = .ok (.bipush 105, 2) := by decide +kernel
theorem dX8_init_480 : decode cX8_init 480 = .ok (.iastore, 1) := by decide +kernel
theorem dX8_init_481 : decode cX8_init 481 = .ok (.dup, 1) := by decide +kernel
theorem dX8_init_482 : decode cX8_init 482 = .ok (.bipush 78, 2) := by decide +kernel
theorem dX8_init_484 : decode cX8_init 484 = .ok (.bipush 103, 2) := by decide +kernel
theorem dX8_init_486 : decode cX8_init 486 = .ok (.iastore, 1) := by decide +kernel
theorem dX8_init_487 : decode cX8_init 487 = .ok (.dup, 1) := by decide +kernel
theorem dX8_init_488 : decode cX8_init 488 = .ok (.bipush 79, 2) := by decide +kernel
theorem dX8_init_490 : decode cX8_init 490 = .ok (.bipush 104, 2) := by decide +kernel
theorem dX8_init_492 : decode cX8_init 492 = .ok (.iastore, 1) := by decide +kernel
theorem dX8_init_493 : decode cX8_init 493 = .ok (.dup, 1) := by decide +kernel
theorem dX8_init_494 : decode cX8_init 494 = .ok (.bipush 80, 2) := by decide +kernel
theorem dX8_init_496 : decode cX8_init 496 = .ok (.bipush 116, 2) := by decide +kernel
theorem dX8_init_498 : decode cX8_init 498 = .ok (.iastore, 1) := by decide +kernel
theorem dX8_init_499 : decode cX8_init 499 = .ok (.dup, 1) := by decide +kernel
theorem dX8_init_500 : decode cX8_init 500 = .ok (.bipush 81, 2) := by decide +kernel
theorem dX8_init_502 : decode cX8_init 502 = .ok (.bipush 32, 2) := by decide +kernel
theorem dX8_init_504 : decode cX8_init 504 = .ok (.iastore, 1) := by decide +kernel
theorem dX8_init_505 : decode cX8_init 505 = .ok (.dup, 1) := by decide +kernel
theorem dX8_init_506 : decode cX8_init 506 = .ok (.bipush 82, 2) := by decide +kernel
theorem dX8_init_508 : decode cX8_init 508 = .ok (.bipush 108, 2) := by decide +kernel
theorem dX8_init_510 : decode cX8_init 510 = .ok (.iastore, 1) := by decide +kernel
theorem dX8_init_511 : decode cX8_init 511 = .ok (.dup, 1) := by decide +kernel
theorem dX8_init_512 : decode cX8_init 512 = .ok (.bipush 83, 2) := by decide +kernel
theorem dX8_init_514 : decode cX8_init 514 = .ok (.bipush 97, 2) := by decide +kernel
theorem dX8_init_516 : decode cX8_init 516 = .ok (.iastore, 1) := by decide +kernel
theorem dX8_init_517 : decode cX8_init 517 = .ok (.dup, 1) := by decide +kernel
theorem dX8_init_518 : decode cX8_init 518 = .ok (.bipush 84, 2) := by decide +kernel
theorem dX8_init_520 : decode cX8_init 520 = .ok (.bipush 115, 2) := by decide +kernel
theorem dX8_init_522 : decode cX8_init 522 = .ok (.iastore, 1) := by decide +kernel
theorem dX8_init_523 : decode cX8_init 523 = .ok (.dup, 1) := by decide +kernel
theorem dX8_init_524 : decode cX8_init 524 = .ok (.bipush 85, 2) := by decide +kernel
theorem dX8_init_526 : decode cX8_init 526 = .ok (.bipush 116, 2) := by decide +kernel
theorem dX8_init_528 : decode cX8_init 528 = .ok (.iastore, 1) := by decide +kernel
theorem dX8_init_529 : decode cX8_init 529 = .ok (.dup, 1) := by decide +kernel
theorem dX8_init_530 : decode cX8_init 530 = .ok (.bipush 86, 2) := by decide +kernel
theorem dX8_init_532 : decode cX8_init 532 = .ok (.bipush 32, 2) := by decide +kernel
theorem dX8_init_534 : decode cX8_init 534 = .ok (.iastore, 1) := by decide +kernel
theorem dX8_init_535 : decode cX8_init 535 = .ok (.dup, 1) := by decide +kernel
theorem dX8_init_536 : decode cX8_init 536 = .ok (.bipush 87, 2) := by decide +kernel
theorem dX8_init_538 : decode cX8_init 538 = .ok (.bipush 108, 2) := by decide +kernel
theorem dX8_init_540 : decode cX8_init 540 = .ok (.iastore, 1) := by decide +kernel
theorem dX8_init_541 : decode cX8_init 541 = .ok (.dup, 1) := by decide +kernel
theorem dX8_init_542 : decode cX8_init 542 = .ok (.bipush 88, 2) := by decide +kernel
theorem dX8_init_544 : decode cX8_init 544 = .ok (.bipush 105, 2) := by decide +kernel
theorem dX8_init_546 : decode cX8_init 546 = .ok (.iastore, 1) := by decide +kernel
theorem dX8_init_547 : decode cX8_init 547 = .ok (.dup, 1) := by decide +kernel
theorem dX8_init_548 : decode cX8_init 548 = .ok (.bipush 89, 2) := by decide +kernel
theorem dX8_init_550 : decode cX8_init 550 = .ok (.bipush 102, 2) := by decide +kernel
theorem dX8_init_552 : decode cX8_init 552 = .ok (.iastore, 1) := by decide +kernel
theorem dX8_init_553 : decode cX8_init 553 = .ok (.dup, 1) := by decide +kernel
theorem dX8_init_554 : decode cX8_init 554 = .ok (.bipush 90, 2) := by decide +kernel
theorem dX8_init_556 : decode cX8_init 556 = .ok (.bipush 116, 2) := by decide +kernel
theorem dX8_init_558 : decode cX8_init 558 = .ok (.iastore, 1) := by decide +kernel
theorem dX8_init_559 : decode cX8_init 559 = .ok (.dup, 1) := by decide +kernel
theorem dX8_init_560 : decode cX8_init 560 = .ok (.bipush 91, 2) := by decide +kernel
theorem dX8_init_562 : decode cX8_init 562 = .ok (.bipush 32, 2) := by decide +kernel
theorem dX8_init_564 : decode cX8_init 564 = .ok (.iastore, 1) := by decide +kernel
theorem dX8_init_565 : decode cX8_init 565 = .ok (.dup, 1) := by decide +kernel
theorem dX8_init_566 : decode cX8_init 566 = .ok (.bipush 92, 2) := by decide +kernel
theorem dX8_init_568 : decode cX8_init 568 = .ok (.bipush 102, 2) := by decide +kernel
theorem dX8_init_570 : decode cX8_init 570 = .ok (.iastore, 1) := by decide +kernel
theorem dX8_init_571 : decode cX8_init 571 = .ok (.dup, 1) := by decide +kernel
theorem dX8_init_572 : decode cX8_init 572 = .ok (.bipush 93, 2) := by decide +kernel
theorem dX8_init_574 : decode cX8_init 574 = .ok (.bipush 97, 2) := by decide +kernel
theorem dX8_init_576 : decode cX8_init 576 = .ok (.iastore, 1) := by decide +kernel
theorem dX8_init_577 : decode cX8_init 577 = .ok (.dup, 1) := by decide +kernel
theorem dX8_init_578 : decode cX8_init 578 = .ok (.bipush 94, 2) := by decide +kernel
theorem dX8_init_580 : decode cX8_init 580 = .ok (.bipush 108, 2) := by decide +kernel
theorem dX8_init_582 : decode cX8_init 582 = .ok (.iastore, 1) := by decide +kernel
theorem dX8_init_583 : decode cX8_init 583 = .ok (.dup, 1) := by decide +kernel
theorem dX8_init_584 : decode cX8_init 584 = .ok (.bipush 95, 2) := by decide +kernel
theorem dX8_init_586 : decode cX8_init 586 = .ok (.bipush 108, 2) := by decide +kernel
theorem dX8_init_588 : decode cX8_init 588 = .ok (.iastore, 1) := by decide +kernel
theorem dX8_init_589 : decode cX8_init 589 = .ok (.dup, 1) := by decide +kernel
theorem dX8_init_590 : decode cX8_init 590 = .ok (.bipush 96, 2) := by decide +kernel
theorem dX8_init_592 : decode cX8_init 592 = .ok (.bipush 32, 2) := by decide +kernel
theorem dX8_init_594 : decode cX8_init 594 = .ok (.iastore, 1) := by decide +kernel
theorem dX8_init_595 : decode cX8_init 595 = .ok (.dup, 1) := by decide +kernel
theorem dX8_init_596 : decode cX8_init 596 = .ok (.bipush 97, 2) := by decide +kernel
theorem dX8_init_598 : decode cX8_init 598 = .ok (.bipush 115, 2) := by decide +kernel
theorem dX8_init_600 : decode cX8_init 600 = .ok (.iastore, 1) := by decide +kernel
theorem dX8_init_601 : decode cX8_init 601 = .ok (.dup, 1) := by decide +kernel
theorem dX8_init_602 : decode cX8_init 602 = .ok (.bipush 98, 2) := by decide +kernel
theorem dX8_init_604 : decode cX8_init 604 = .ok (.bipush 116, 2) := by decide +kernel
theorem dX8_init_606 : decode cX8_init 606 = .ok (.iastore, 1) := by decide +kernel
theorem dX8_init_607 : decode cX8_init 607 = .ok (.dup, 1) := by decide +kernel
theorem dX8_init_608 : decode cX8_init 608 = .ok (.bipush 99, 2) := by decide +kernel
theorem dX8_init_610 : decode cX8_init 610 = .ok (.bipush 101, 2) := by decide +kernel
theorem dX8_init_612 : decode cX8_init 612 = .ok (.iastore, 1) := by decide +kernel
theorem dX8_init_613 : decode cX8_init 613 = .ok (.dup, 1) := by decide +kernel
theorem dX8_init_614 : decode cX8_init 614 = .ok (.bipush 100, 2) := by decide +kernel
theorem dX8_init_616 : decode cX8_init 616 = .ok (.bipush 97, 2) := by decide +kernel
theorem dX8_init_618 : decode cX8_init 618 = .ok (.iastore, 1) := by decide +kernel
theorem dX8_init_619 : decode cX8_init 619 = .ok (.dup, 1) := by decide +kernel
theorem dX8_init_620 : decode cX8_init 620 = .ok (.bipush 101, 2) := by decide +kernel
theorem dX8_init_622 : decode cX8_init 622 = .ok (.bipush 108, 2) := by decide +kernel
theorem dX8_init_624 : decode cX8_init 624 = .ok (.iastore, 1) := by decide +kernel
theorem dX8_init_625 : decode cX8_init 625 = .ok (.dup, 1) := by decide +kernel
theorem dX8_init_626 : decode cX8_init 626 = .ok (.bipush 102, 2) := by decide +kernel
theorem dX8_init_628 : decode cX8_init 628 = .ok (.bipush 32, 2) := by decide +kernel
theorem dX8_init_630 : decode cX8_init 630 = .ok (.iastore, 1) := by decide +kernel
theorem dX8_init_631 : decode cX8_init 631 = .ok (.dup, 1) := by decide +kernel
theorem dX8_init_632 : decode cX8_init 632 = .ok (.bipush 103, 2) := by decide +kernel
theorem dX8_init_634 : decode cX8_init 634 = .ok (.bipush 97, 2) := by decide +kernel
theorem dX8_init_636 : decode cX8_init 636 = .ok (.iastore, 1) := by decide +kernel
theorem dX8_init_637 : decode cX8_init 637 = .ok (.dup, 1) := by decide +kernel
theorem dX8_init_638 : decode cX8_init 638 = .ok (.bipush 104, 2) := by decide +kernel
theorem dX8_init_640 : decode cX8_init 640 = .ok (.bipush 110, 2) := by decide +kernel
theorem dX8_init_642 : decode cX8_init 642 = .ok (.iastore, 1) := by decide +kernel
theorem dX8_init_643 : decode cX8_init 643 = .ok (.dup, 1) := by decide +kernel
theorem dX8_init_644 : decode cX8_init 644 = .ok (.bipush 105, 2) := by decide +kernel
theorem dX8_init_646 : decode cX8_init 646 = .ok (.bipush 100, 2) := by decide +kernel
theorem dX8_init_648 : decode cX8_init 648 = .ok (.iastore, 1) := by decide +kernel
theorem dX8_init_649 : decode cX8_init 649 = .ok (.dup, 1) := by decide +kernel
theorem dX8_init_650 : decode cX8_init 650 = .ok (.bipush 106, 2) := by decide +kernel
theorem dX8_init_652 : decode cX8_init 652 = .ok (.bipush 32, 2) := by decide +kernel
theorem dX8_init_654 : decode cX8_init 654 = .ok (.iastore, 1) := by decide +kernel
theorem dX8_init_655 : decode cX8_init 655 = .ok (.dup, 1) := by decide +kernel
theorem dX8_init_656 : decode cX8_init 656 = .ok (.bipush 107, 2) := by decide +kernel
theorem dX8_init_658 : decode cX8_init 658 = .ok (.bipush 111, 2) := by decide +kernel
theorem dX8_init_660 : decode cX8_init 660 = .ok (.iastore, 1) := by decide +kernel
theorem dX8_init_661 : decode cX8_init 661 = .ok (.dup, 1) := by decide +kernel
theorem dX8_init_662 : decode cX8_init 662 = .ok (.bipush 108, 2) := by decide +kernel
theorem dX8_init_664 : decode cX8_init 664 = .ok (.bipush 114, 2) := by decide +kernel
theorem dX8_init_666 : decode cX8_init 666 = .ok (.iastore, 1) := by decide +kernel
theorem dX8_init_667 : decode cX8_init 667 = .ok (.dup, 1) := by decide +kernel
theorem dX8_init_668 : decode cX8_init 668 = .ok (.bipush 109, 2) := by decide +kernel
theorem dX8_init_670 : decode cX8_init 670 = .ok (.bipush 32, 2) := by decide +kernel
theorem dX8_init_672 : decode cX8_init 672 = .ok (.iastore, 1) := by decide +kernel
theorem dX8_init_673 : decode cX8_init 673 = .ok (.dup, 1) := by decide +kernel
theorem dX8_init_674 : decode cX8_init 674 = .ok (.bipush 110, 2) := by decide +kernel
theorem dX8_init_676 : decode cX8_init 676 = .ok (.bipush 110, 2) := by decide +kernel
theorem dX8_init_678 : decode cX8_init 678 = .ok (.iastore, 1) := by decide +kernel
theorem dX8_init_679 : decode cX8_init 679 = .ok (.dup, 1) := by decide +kernel
theorem dX8_init_680 : decode cX8_init 680 = .ok (.bipush 111, 2) := by decide +kernel
theorem dX8_init_682 : decode cX8_init 682 = .ok (.bipush 111, 2) := by decide +kernel
theorem dX8_init_684 : decode cX8_init 684 = .ok (.iastore, 1) := by decide +kernel
theorem dX8_init_685 : decode cX8_init 685 = .ok (.dup, 1) := by decide +kernel
theorem dX8_init_686 : decode cX8_init 686 = .ok (.bipush 112, 2) := by decide +kernel
theorem dX8_init_688 : decode cX8_init 688 = .ok (.bipush 116, 2) := by decide +kernel
theorem dX8_init_690 : decode cX8_init 690 = .ok (.iastore, 1) := by decide +kernel
theorem dX8_init_691 : decode cX8_init 691 = .ok (.dup, 1) := by decide +kernel
theorem dX8_init_692 : decode cX8_init 692 = .ok (.bipush 113, 2) := by decide +kernel
theorem dX8_init_694 : decode cX8_init 694 = .ok (.bipush 32, 2) := by decide +kernel
theorem dX8_init_696 : decode cX8_init 696 = .ok (.iastore, 1) := by decide +kernel
theorem dX8_init_697 : decode cX8_init 697 = .ok (.dup, 1) := by decide +kernel
theorem dX8_init_698 : decode cX8_init 698 = .ok (.bipush 114, 2) := by decide +kernel
theorem dX8_init_700 : decode cX8_init 700 = .ok (.bipush 104, 2) := by decide +kernel
theorem dX8_init_702 : decode cX8_init 702 = .ok (.iastore, 1) := by decide +kernel
theorem dX8_init_703 : decode cX8_init 703 = .ok (.dup, 1) := by decide +kernel
theorem dX8_init_704 : decode cX8_init 704 = .ok (.bipush 115, 2) := by decide +kernel
theorem dX8_init_706 : decode cX8_init 706 = .ok (.bipush 101, 2) := by decide +kernel
theorem dX8_init_708 : decode cX8_init 708 = .ok (.iastore, 1) := by decide +kernel
theorem dX8_init_709 : decode cX8_init 709 = .ok (.dup, 1) := by decide +kernel
theorem dX8_init_710 : decode cX8_init 710 = .ok (.bipush 116, 2) := by decide +kernel
theorem dX8_init_712 : decode cX8_init 712 = .ok (.bipush 97, 2) := by decide +kernel
theorem dX8_init_714 : decode cX8_init 714 = .ok (.iastore, 1) := by decide +kernel
theorem dX8_init_715 : decode cX8_init 715 = .ok (.dup, 1) := by decide +kernel
theorem dX8_init_716 : decode cX8_init 716 = .ok (.bipush 117, 2) := by decide +kernel
theorem dX8_init_718 : decode cX8_init 718 = .ok (.bipush 118, 2) := by decide +kernel
theorem dX8_init_720 : decode cX8_init 720 = .ok (.iastore, 1) := by decide +kernel
theorem dX8_init_721 : decode cX8_init 721 = .ok (.dup, 1) := by decide +kernel
theorem dX8_init_722 : decode cX8_init 722 = .ok (.bipush 118, 2) := by decide +kernel
theorem dX8_init_724 : decode cX8_init 724 = .ok (.bipush 121, 2) := by decide +kernel
theorem dX8_init_726 : decode cX8_init 726 = .ok (.iastore, 1) := by decide +kernel
theorem dX8_init_727 : decode cX8_init 727 = .ok (.dup, 1) := by decide +kernel
theorem dX8_init_728 : decode cX8_init 728 = .ok (.bipush 119, 2) := by decide +kernel
theorem dX8_init_730 : decode cX8_init 730 = .ok (.bipush 32, 2) := by decide +kernel
theorem dX8_init_732 : decode cX8_init 732 = .ok (.iastore, 1) := by decide +kernel
theorem dX8_init_733 : decode cX8_init 733 = .ok (.dup, 1) := by decide +kernel
theorem dX8_init_734 : decode cX8_init 734 = .ok (.bipush 120, 2) := by decide +kernel
theorem dX8_init_736 : decode cX8_init 736 = .ok (.bipush 102, 2) := by decide +kernel
theorem dX8_init_738 : decode cX8_init 738 = .ok (.iastore, 1) := by decide +kernel
theorem dX8_init_739 : decode cX8_init 739 = .ok (.dup, 1) := by decide +kernel
theorem dX8_init_740 : decode cX8_init 740 = .ok (.bipush 121, 2) := by decide +kernel
theorem dX8_init_742 : decode cX8_init 742 = .ok (.bipush 114, 2) := by decide +kernel
theorem dX8_init_744 : decode cX8_init 744 = .ok (.iastore, 1) := by decide +kernel
theorem dX8_init_745 : decode cX8_init 745 = .ok (.dup, 1) := by decide +kernel
theorem dX8_init_746 : decode cX8_init 746 = .ok (.bipush 122, 2) := by decide +kernel
theorem dX8_init_748 : decode cX8_init 748 = .ok (.bipush 97, 2) := by decide +kernel
theorem dX8_init_750 : decode cX8_init 750 = .ok (.iastore, 1) := by decide +kernel
theorem dX8_init_751 : decode cX8_init 751 = .ok (.dup, 1) := by decide +kernel
theorem dX8_init_752 : decode cX8_init 752 = .ok (.bipush 123, 2) := by decide +kernel
theorem dX8_init_754 : decode cX8_init 754 = .ok (.bipush 105, 2) := by decide +kernel
theorem dX8_init_756 : decode cX8_init 756 = .ok (.iastore, 1) := by decide +kernel
theorem dX8_init_757 : decode cX8_init 757 = .ok (.dup, 1) := by decide +kernel
theorem dX8_init_758 : decode cX8_init 758 = .ok (.bipush 124, 2) := by decide +kernel
theorem dX8_init_760 : decode cX8_init 760 = .ok (.bipush 108, 2) := by decide +kernel
theorem dX8_init_762 : decode cX8_init 762 = .ok (.iastore, 1) := by decide +kernel
theorem dX8_init_763 : decode cX8_init 763 = .ok (.dup, 1) := by decide +kernel
theorem dX8_init_764 : decode cX8_init 764 = .ok (.bipush 125, 2) := by decide +kernel
theorem dX8_init_766 : decode cX8_init 766 = .ok (.bipush 32, 2) := by decide +kernel
theorem dX8_init_768 : decode cX8_init 768 = .ok (.iastore, 1) := by decide +kernel
theorem dX8_init_769 : decode cX8_init 769 = .ok (.dup, 1) := by decide +kernel
theorem dX8_init_770 : decode cX8_init 770 = .ok (.bipush 126, 2) := by decide +kernel
theorem dX8_init_772 : decode cX8_init 772 = .ok (.bipush 97, 2) := by decide +kernel
theorem dX8_init_774 : decode cX8_init 774 = .ok (.iastore, 1) := by decide +kernel
theorem dX8_init_775 : decode cX8_init 775 = .ok (.dup, 1) := by decide +kernel
theorem dX8_init_776 : decode cX8_init 776 = .ok (.bipush 127, 2) := by decide +kernel
theorem dX8_init_778 : decode cX8_init 778 = .ok (.bipush 98, 2) := by decide +kernel
theorem dX8_init_780 : decode cX8_init 780 = .ok (.iastore, 1) := by decide +kernel
theorem dX8_init_781 : decode cX8_init 781 = .ok (.dup, 1) := by decide +kernel
theorem dX8_init_782 : decode cX8_init 782 = .ok (.sipush 128, 3) := by decide +kernel
theorem dX8_init_785 : decode cX8_init 785 = .ok (.bipush 111, 2) := by decide +kernel
theorem dX8_init_787 : decode cX8_init 787 = .ok (.iastore, 1) := by decide +kernel
theorem dX8_init_788 : decode cX8_init 788 = .ok (.dup, 1) := by decide +kernel
theorem dX8_init_789 : decode cX8_init 789 = .ok (.sipush 129, 3) := by decide +kernel
theorem dX8_init_792 : decode cX8_init 792 = .ok (.bipush 118, 2) := by decide +kernel
theorem dX8_init_794 : decode cX8_init 794 = .ok (.iastore, 1) := by decide +kernel
theorem dX8_init_795 : decode cX8_init 795 = .ok (.dup, 1) := by decide +kernel
theorem dX8_init_796 : decode cX8_init 796 = .ok (.sipush 130, 3) := by decide +kernel
theorem dX8_init_799 : decode cX8_init 799 = .ok (.bipush 101, 2) := by decide +kernel
theorem dX8_init_801 : decode cX8_init 801 = .ok (.iastore, 1) := by decide +kernel
theorem dX8_init_802 : decode cX8_init 802 = .ok (.dup, 1) := by decide +kernel
theorem dX8_init_803 : decode cX8_init 803 = .ok (.sipush 131, 3) := by decide +kernel
theorem dX8_init_806 : decode cX8_init 806 = .ok (.bipush 32, 2) := by decide +kernel
theorem dX8_init_808 : decode cX8_init 808 = .ok (.iastore, 1) := by decide +kernel
theorem dX8_init_809 : decode cX8_init 809 = .ok (.dup, 1) := by decide +kernel
theorem dX8_init_810 : decode cX8_init 810 = .ok (.sipush 132, 3) := by decide +kernel
theorem dX8_init_813 : decode cX8_init 813 = .ok (.bipush 107, 2) := by decide +kernel
theorem dX8_init_815 : decode cX8_init 815 = .ok (.iastore, 1) := by decide +kernel
theorem dX8_init_816 : decode cX8_init 816 = .ok (.dup, 1) := by decide +kernel
theorem dX8_init_817 : decode cX8_init 817 = .ok (.sipush 133, 3) := by decide +kernel
theorem dX8_init_820 : decode cX8_init 820 = .ok (.bipush 105, 2) := by decide +kernel
theorem dX8_init_822 : decode cX8_init 822 = .ok (.iastore, 1) := by decide +kernel
theorem dX8_init_823 : decode cX8_init 823 = .ok (.dup, 1) := by decide +kernel
theorem dX8_init_824 : decode cX8_init 824 = .ok (.sipush 134, 3) := by decide +kernel
theorem dX8_init_827 : decode cX8_init 827 = .ok (.bipush 110, 2) := by decide +kernel
theorem dX8_init_829 : decode cX8_init 829 = .ok (.iastore, 1) := by decide +kernel
theorem dX8_init_830 : decode cX8_init 830 = .ok (.dup, 1) := by decide +kernel
theorem dX8_init_831 : decode cX8_init 831 = .ok (.sipush 135, 3) := by decide +kernel
theorem dX8_init_834 : decode cX8_init 834 = .ok (.bipush 100, 2) := by decide +kernel
theorem dX8_init_836 : decode cX8_init 836 = .ok (.iastore, 1) := by decide +kernel
theorem dX8_init_837 : decode cX8_init 837 = .ok (.dup, 1) := by decide +kernel
theorem dX8_init_838 : decode cX8_init 838 = .ok (.sipush 136, 3) := by decide +kernel
theorem dX8_init_841 : decode cX8_init 841 = .ok (.bipush 32, 2) := by decide +kernel
theorem dX8_init_843 : decode cX8_init 843 = .ok (.iastore, 1) := by decide +kernel
theorem dX8_init_844 : decode cX8_init 844 = .ok (.dup, 1) := by decide +kernel
theorem dX8_init_845 : decode cX8_init 845 = .ok (.sipush 137, 3) := by decide +kernel
theorem dX8_init_848 : decode cX8_init 848 = .ok (.bipush 97, 2) := by decide +kernel
theorem dX8_init_850 : decode cX8_init 850 = .ok (.iastore, 1) := by decide +kernel
theorem dX8_init_851 : decode cX8_init 851 = .ok (.dup, 1) := by decide +kernel
theorem dX8_init_852 : decode cX8_init 852 = .ok (.sipush 138, 3) := by decide +kernel
theorem dX8_init_855 : decode cX8_init 855 = .ok (.bipush 98, 2) := by decide +kernel
theorem dX8_init_857 : decode cX8_init 857 = .ok (.iastore, 1) := by decide +kernel
theorem dX8_init_858 : decode cX8_init 858 = .ok (.dup, 1) := by decide +kernel
theorem dX8_init_859 : decode cX8_init 859 = .ok (.sipush 139, 3) := by decide +kernel
theorem dX8_init_862 : decode cX8_init 862 = .ok (.bipush 108, 2) := by decide +kernel
theorem dX8_init_864 : decode cX8_init 864 = .ok (.iastore, 1) := by decide +kernel
theorem dX8_init_865 : decode cX8_init 865 = .ok (.dup, 1) := by decide +kernel
theorem dX8_init_866 : decode cX8_init 866 = .ok (.sipush 140, 3) := by decide +kernel
theorem dX8_init_869 : decode cX8_init 869 = .ok (.bipush 101, 2) := by decide +kernel
theorem dX8_init_871 : decode cX8_init 871 = .ok (.iastore, 1) := by decide +kernel
theorem dX8_init_872 : decode cX8_init 872 = .ok (.dup, 1) := by decide +kernel
theorem dX8_init_873 : decode cX8_init 873 = .ok (.sipush 141, 3) := by decide +kernel
theorem dX8_init_876 : decode cX8_init 876 = .ok (.bipush 32, 2) := by decide +kernel
theorem dX8_init_878 : decode cX8_init 878 = .ok (.iastore, 1) := by decide +kernel
theorem dX8_init_879 : decode cX8_init 879 = .ok (.dup, 1) := by decide +kernel
theorem dX8_init_880 : decode cX8_init 880 = .ok (.sipush 142, 3) := by decide +kernel
theorem dX8_init_883 : decode cX8_init 883 = .ok (.bipush 115, 2) := by decide +kernel
theorem dX8_init_885 : decode cX8_init 885 = .ok (.iastore, 1) := by decide +kernel
theorem dX8_init_886 : decode cX8_init 886 = .ok (.dup, 1) := by decide +kernel
theorem dX8_init_887 : decode cX8_init 887 = .ok (.sipush 143, 3) := by decide +kernel
theorem dX8_init_890 : decode cX8_init 890 = .ok (.bipush 116, 2) := by decide +kernel
theorem dX8_init_892 : decode cX8_init 892 = .ok (.iastore, 1) := by decide +kernel
theorem dX8_init_893 : decode cX8_init 893 = .ok (.dup, 1) := by decide +kernel
theorem dX8_init_894 : decode cX8_init 894 = .ok (.sipush 144, 3) := by decide +kernel
theorem dX8_init_897 : decode cX8_init 897 = .ok (.bipush 111, 2) := by decide +kernel
theorem dX8_init_899 : decode cX8_init 899 = .ok (.iastore, 1) := by decide +kernel
theorem dX8_init_900 : decode cX8_init 900 = .ok (.dup, 1) := by decide +kernel
theorem dX8_init_901 : decode cX8_init 901 = .ok (.sipush 145, 3) := by decide +kernel
theorem dX8_init_904 : decode cX8_init 904 = .ok (.bipush 112, 2) := by decide +kernel
theorem dX8_init_906 : decode cX8_init 906 = .ok (.iastore, 1) := by decide +kernel
theorem dX8_init_907 : decode cX8_init 907 = .ok (.dup, 1) := by decide +kernel
theorem dX8_init_908 : decode cX8_init 908 = .ok (.sipush 146, 3) := by decide +kernel
theorem dX8_init_911 : decode cX8_init 911 = .ok (.bipush 32, 2) := by decide +kernel
theorem dX8_init_913 : decode cX8_init 913 = .ok (.iastore, 1) := by decide +kernel
theorem dX8_init_914 : decode cX8_init 914 = .ok (.dup, 1) := by decide +kernel
theorem dX8_init_915 : decode cX8_init 915 = .ok (.sipush 147, 3) := by decide +kernel
theorem dX8_init_918 : decode cX8_init 918 = .ok (.bipush 98, 2) := by decide +kernel
theorem dX8_init_920 : decode cX8_init 920 = .ok (.iastore, 1) := by decide +kernel
theorem dX8_init_921 : decode cX8_init 921 = .ok (.dup, 1) := by decide +kernel
theorem dX8_init_922 : decode cX8_init 922 = .ok (.sipush 148, 3) := by decide +kernel
theorem dX8_init_925 : decode cX8_init 925 = .ok (.bipush 101, 2) := by decide +kernel
theorem dX8_init_927 : decode cX8_init 927 = .ok (.iastore, 1) := by decide +kernel
theorem dX8_init_928 : decode cX8_init 928 = .ok (.dup, 1) := by decide +kernel
theorem dX8_init_929 : decode cX8_init 929 = .ok (.sipush 149, 3) := by decide +kernel
theorem dX8_init_932 : decode cX8_init 932 = .ok (.bipush 97, 2) := by decide +kernel
theorem dX8_init_934 : decode cX8_init 934 = .ok (.iastore, 1) := by decide +kernel
theorem dX8_init_935 : decode cX8_init 935 = .ok (.dup, 1) := by decide +kernel
theorem dX8_init_936 : decode cX8_init 936 = .ok (.sipush 150, 3) := by decide +kernel
theorem dX8_init_939 : decode cX8_init 939 = .ok (.bipush 114, 2) := by decide +kernel
theorem dX8_init_941 : decode cX8_init 941 = .ok (.iastore, 1) := by decide +kernel
theorem dX8_init_942 : decode cX8_init 942 = .ok (.dup, 1) := by decide +kernel
theorem dX8_init_943 : decode cX8_init 943 = .ok (.sipush 151, 3) := by decide +kernel
theorem dX8_init_946 : decode cX8_init 946 = .ok (.bipush 115, 2) := by decide +kernel
theorem dX8_init_948 : decode cX8_init 948 = .ok (.iastore, 1) := by decide +kernel
theorem dX8_init_949 : decode cX8_init 949 = .ok (.dup, 1) := by decide +kernel
theorem dX8_init_950 : decode cX8_init 950 = .ok (.sipush 152, 3) := by decide +kernel
theorem dX8_init_953 : decode cX8_init 953 = .ok (.bipush 32, 2) := by decide +kernel
theorem dX8_init_955 : decode cX8_init 955 = .ok (.iastore, 1) := by decide +kernel
theorem dX8_init_956 : decode cX8_init 956 = .ok (.putfield 13, 3) := by decide +kernel
theorem dX8_init_959 : decode cX8_init 959 = .ok (.aload_n 0, 1) := by decide +kernel
theorem dX8_init_960 : decode cX8_init 960 = .ok (.iconst (-1), 1) := by decide +kernel
theorem dX8_init_961 : decode cX8_init 961 = .ok (.putfield 16, 3) := by decide +kernel
theorem dX8_init_964 : decode cX8_init 964 = .ok (.aload_n 0, 1) := by decide +kernel
theorem dX8_init_965 : decode cX8_init 965 = .ok (.iconst 3, 1) := by decide +kernel
theorem dX8_init_966 : decode cX8_init 966 = .ok (.newarray .boolean, 2) := by decide +kernel
theorem dX8_init_968 : decode cX8_init 968 = .ok (.putfield 20, 3) := by decide +kernel
theorem dX8_init_971 : decode cX8_init 971 = .ok (.aload_n 0, 1) := by decide +kernel
theorem dX8_init_972 : decode cX8_init 972 = .ok (.bipush 6, 2) := by decide +kernel
theorem dX8_init_974 : decode cX8_init 974 = .ok (.newarray .int, 2) := by decide +kernel
theorem dX8_init_976 : decode cX8_init 976 = .ok (.putfield 24, 3) := by decide +kernel
theorem dX8_init_979 : decode cX8_init 979 = .ok (.aload_n 0, 1) := by decide +kernel
theorem dX8_init_980 : decode cX8_init 980 = .ok (.bipush 10, 2) := by decide +kernel
theorem dX8_init_982 : decode cX8_init 982 = .ok (.newarray .int, 2) := by decide +kernel
theorem dX8_init_984 : decode cX8_init 984 = .ok (.putfield 27, 3) := by decide +kernel
theorem dX8_init_987 : decode cX8_init 987 = .ok (.aload_n 0, 1) := by decide +kernel
theorem dX8_init_988 : decode cX8_init 988 = .ok (.bipush 10, 2) := by decide +kernel
theorem dX8_init_990 : decode cX8_init 990 = .ok (.newarray .int, 2) := by decide +kernel
theorem dX8_init_992 : decode cX8_init 992 = .ok (.putfield 30, 3) := by decide +kernel
theorem dX8_init_995 : decode cX8_init 995 = .ok (.aload_n 0, 1) := by decide +kernel
theorem dX8_init_996 : decode cX8_init 996 = .ok (.bipush 12, 2) := by decide +kernel
theorem dX8_init_998 : decode cX8_init 998 = .ok (.newarray .int, 2) := by decide +kernel
theorem dX8_init_1000 : decode cX8_init 1000 = .ok (.putfield 33, 3) := by decide +kernel
theorem dX8_init_1003 : decode cX8_init 1003 = .ok (.aload_n 0, 1) := by decide +kernel
theorem dX8_init_1004 : decode cX8_init 1004 = .ok (.bipush 12, 2) := by decide +kernel
theorem dX8_init_1006 : decode cX8_init 1006 = .ok (.newarray .int, 2) := by decide +kernel
theorem dX8_init_1008 : decode cX8_init 1008 = .ok (.putfield 36, 3) := by decide +kernel
theorem dX8_init_1011 : decode cX8_init 1011 = .ok (.aload_n 0, 1) := by decide +kernel
theorem dX8_init_1012 : decode cX8_init 1012 = .ok (.bipush 12, 2) := by decide +kernel
theorem dX8_init_1014 : decode cX8_init 1014 = .ok (.newarray .int, 2) := by decide +kernel
theorem dX8_init_1016 : decode cX8_init 1016 = .ok (.putfield 39, 3) := by decide +kernel
theorem dX8_init_1019 : decode cX8_init 1019 = .ok (.aload_n 0, 1) := by decide +kernel
theorem dX8_init_1020 : decode cX8_init 1020 = .ok (.bipush 12, 2) := by decide +kernel
theorem dX8_init_1022 : decode cX8_init 1022 = .ok (.newarray .int, 2) := by decide +kernel
theorem dX8_init_1024 : decode cX8_init 1024 = .ok (.putfield 42, 3) := by decide +kernel
theorem dX8_init_1027 : decode cX8_init 1027 = .ok (.aload_n 0, 1) := by decide +kernel
theorem dX8_init_1028 : decode cX8_init 1028 = .ok (.bipush 20, 2) := by decide +kernel
theorem dX8_init_1030 : decode cX8_init 1030 = .ok (.newarray .int, 2) := by decide +kernel
theorem dX8_init_1032 : decode cX8_init 1032 = .ok (.putfield 45, 3) := by decide +kernel
theorem dX8_init_1035 : decode cX8_init 1035 = .ok (.aload_n 0, 1) := by decide +kernel
theorem dX8_init_1036 : decode cX8_init 1036 = .ok (.bipush 20, 2) := by decide +kernel
theorem dX8_init_1038 : decode cX8_init 1038 = .ok (.newarray .int, 2) := by decide +kernel
theorem dX8_init_1040 : decode cX8_init 1040 = .ok (.putfield 48, 3) := by decide +kernel
theorem dX8_init_1043 : decode cX8_init 1043 = .ok (.aload_n 0, 1) := by decide +kernel
theorem dX8_init_1044 : decode cX8_init 1044 = .ok (.bipush 20, 2) := by decide +kernel
theorem dX8_init_1046 : decode cX8_init 1046 = .ok (.newarray .int, 2) := by decide +kernel
theorem dX8_init_1048 : decode cX8_init 1048 = .ok (.putfield 51, 3) := by decide +kernel
theorem dX8_init_1051 : decode cX8_init 1051 = .ok (.aload_n 0, 1) := by decide +kernel
theorem dX8_init_1052 : decode cX8_init 1052 = .ok (.bipush 20, 2) := by decide +kernel
theorem dX8_init_1054 : decode cX8_init 1054 = .ok (.newarray .int, 2) := by decide +kernel
theorem dX8_init_1056 : decode cX8_init 1056 = .ok (.putfield 54, 3) := by decide +kernel
theorem dX8_init_1059 : decode cX8_init 1059 = .ok (.aload_n 0, 1) := by decide +kernel
theorem dX8_init_1060 : decode cX8_init 1060 = .ok (.bipush 42, 2) := by decide +kernel
theorem dX8_init_1062 : decode cX8_init 1062 = .ok (.newarray .int, 2) := by decide +kernel
theorem dX8_init_1064 : decode cX8_init 1064 = .ok (.putfield 57, 3) := by decide +kernel
theorem dX8_init_1067 : decode cX8_init 1067 = .ok (.aload_n 0, 1) := by decide +kernel
theorem dX8_init_1068 : decode cX8_init 1068 = .ok (.bipush 21, 2) := by decide +kernel
theorem dX8_init_1070 : decode cX8_init 1070 = .ok (.newarray .boolean, 2) := by decide +kernel
theorem dX8_init_1072 : decode cX8_init 1072 = .ok (.putfield 60, 3) := by decide +kernel
theorem dX8_init_1075 : decode cX8_init 1075 = .ok (.aload_n 0, 1) := by decide +kernel
theorem dX8_init_1076 : decode cX8_init 1076 = .ok (.bipush 6, 2) := by decide +kernel
theorem dX8_init_1078 : decode cX8_init 1078 = .ok (.newarray .boolean, 2) := by decide +kernel
theorem dX8_init_1080 : decode cX8_init 1080 = .ok (.putfield 63, 3) := by decide +kernel
theorem dX8_init_1083 : decode cX8_init 1083 = .ok (.aload_n 0, 1) := by decide +kernel
theorem dX8_init_1084 : decode cX8_init 1084 = .ok (.bipush 6, 2) := by decide +kernel
theorem dX8_init_1086 : decode cX8_init 1086 = .ok (.newarray .int, 2) := by decide +kernel
theorem dX8_init_1088 : decode cX8_init 1088 = .ok (.putfield 66, 3) := by decide +kernel
theorem dX8_init_1091 : decode cX8_init 1091 = .ok (.aload_n 0, 1) := by decide +kernel
theorem dX8_init_1092 : decode cX8_init 1092 = .ok (.bipush 6, 2) := by decide +kernel
theorem dX8_init_1094 : decode cX8_init 1094 = .ok (.newarray .int, 2) := by decide +kernel
theorem dX8_init_1096 : decode cX8_init 1096 = .ok (.putfield 69, 3) := by decide +kernel
theorem dX8_init_1099 : decode cX8_init 1099 = .ok (.aload_n 0, 1) := by decide +kernel
theorem dX8_init_1100 : decode cX8_init 1100 = .ok (.sipush 128, 3) := by decide +kernel
theorem dX8_init_1103 : decode cX8_init 1103 = .ok (.newarray .int, 2) := by decide +kernel
theorem dX8_init_1105 : decode cX8_init 1105 = .ok (.putfield 72, 3) := by decide +kernel
theorem dX8_init_1108 : decode cX8_init 1108 = .ok (.aload_n 0, 1) := by decide +kernel
theorem dX8_init_1109 : decode cX8_init 1109 = .ok (.sipush 128, 3) := by decide +kernel
theorem dX8_init_1112 : decode cX8_init 1112 = .ok (.newarray .int, 2) := by decide +kernel
theorem dX8_init_1114 : decode cX8_init 1114 = .ok (.putfield 75, 3) := by decide +kernel
theorem dX8_init_1117 : decode cX8_init 1117 = .ok (.aload_n 0, 1) := by decide +kernel
theorem dX8_init_1118 : decode cX8_init 1118 = .ok (.sipush 128, 3) := by decide +kernel
theorem dX8_init_1121 : decode cX8_init 1121 = .ok (.newarray .int, 2) := by decide +kernel
theorem dX8_init_1123 : decode cX8_init 1123 = .ok (.putfield 78, 3) := by decide +kernel
theorem dX8_init_1126 : decode cX8_init 1126 = .ok (.aload_n 0, 1) := by decide +kernel
theorem dX8_init_1127 : decode cX8_init 1127 = .ok (.bipush 96, 2) := by decide +kernel
theorem dX8_init_1129 : decode cX8_init 1129 = .ok (.newarray .int, 2) := by decide +kernel
theorem dX8_init_1131 : decode cX8_init 1131 = .ok (.putfield 81, 3) := by decide +kernel
theorem dX8_init_1134 : decode cX8_init 1134 = .ok (.aload_n 0, 1) := by decide +kernel
theorem dX8_init_1135 : decode cX8_init 1135 = .ok (.bipush 96, 2) := by decide +kernel
theorem dX8_init_1137 : decode cX8_init 1137 = .ok (.newarray .int, 2) := by decide +kernel
theorem dX8_init_1139 : decode cX8_init 1139 = .ok (.putfield 84, 3) := by decide +kernel
theorem dX8_init_1142 : decode cX8_init 1142 = .ok (.aload_n 0, 1) := by decide +kernel
theorem dX8_init_1143 : decode cX8_init 1143 = .ok (.bipush 7, 2) := by decide +kernel
theorem dX8_init_1145 : decode cX8_init 1145 = .ok (.newarray .long, 2) := by decide +kernel
theorem dX8_init_1147 : decode cX8_init 1147 = .ok (.putfield 87, 3) := by decide +kernel
theorem dX8_init_1150 : decode cX8_init 1150 = .ok (.aload_n 0, 1) := by decide +kernel
theorem dX8_init_1151 : decode cX8_init 1151 = .ok (.bipush 64, 2) := by decide +kernel
theorem dX8_init_1153 : decode cX8_init 1153 = .ok (.newarray .long, 2) := by decide +kernel
theorem dX8_init_1155 : decode cX8_init 1155 = .ok (.putfield 91, 3) := by decide +kernel
theorem dX8_init_1158 : decode cX8_init 1158 = .ok (.aload_n 0, 1) := by decide +kernel
theorem dX8_init_1159 : decode cX8_init 1159 = .ok (.bipush 20, 2) := by decide +kernel
theorem dX8_init_1161 : decode cX8_init 1161 = .ok (.newarray .int, 2) := by decide +kernel
theorem dX8_init_1163 : decode cX8_init 1163 = .ok (.putfield 94, 3) := by decide +kernel
theorem dX8_init_1166 : decode cX8_init 1166 = .ok (.aload_n 0, 1) := by decide +kernel
theorem dX8_init_1167 : decode cX8_init 1167 = .ok (.bipush 20, 2) := by decide +kernel
theorem dX8_init_1169 : decode cX8_init 1169 = .ok (.newarray .int, 2) := by decide +kernel
theorem dX8_init_1171 : decode cX8_init 1171 = .ok (.putfield 97, 3) := by decide +kernel
theorem dX8_init_1174 : decode cX8_init 1174 = .ok (.aload_n 0, 1) := by decide +kernel
theorem dX8_init_1175 : decode cX8_init 1175 = .ok (.bipush 100, 2) := by decide +kernel
theorem dX8_init_1177 : decode cX8_init 1177 = .ok (.newarray .int, 2) := by decide +kernel
theorem dX8_init_1179 : decode cX8_init 1179 = .ok (.putfield 100, 3) := by decide +kernel
theorem dX8_init_1182 : decode cX8_init 1182 = .ok (.aload_n 0, 1) := by decide +kernel
theorem dX8_init_1183 : decode cX8_init 1183 = .ok (.bipush 10, 2) := by decide +kernel
theorem dX8_init_1185 : decode cX8_init 1185 = .ok (.newarray .int, 2) := by decide +kernel
theorem dX8_init_1187 : decode cX8_init 1187 = .ok (.putfield 103, 3) := by decide +kernel
theorem dX8_init_1190 : decode cX8_init 1190 = .ok (.aload_n 0, 1) := by decide +kernel
theorem dX8_init_1191 : decode cX8_init 1191 = .ok (.bipush 12, 2) := by decide +kernel
theorem dX8_init_1193 : decode cX8_init 1193 = .ok (.newarray .int, 2) := by decide +kernel
theorem dX8_init_1195 : decode cX8_init 1195 = .ok (.putfield 106, 3) := by decide +kernel
theorem dX8_init_1198 : decode cX8_init 1198 = .ok (.aload_n 0, 1) := by decide +kernel
theorem dX8_init_1199 : decode cX8_init 1199 = .ok (.bipush 12, 2) := by decide +kernel
theorem dX8_init_1201 : decode cX8_init 1201 = .ok (.newarray .int, 2) := by decide +kernel
theorem dX8_init_1203 : decode cX8_init 1203 = .ok (.putfield 109, 3) := by decide +kernel
theorem dX8_init_1206 : decode cX8_init 1206 = .ok (.aload_n 0, 1) := by decide +kernel
theorem dX8_init_1207 : decode cX8_init 1207 = .ok (.bipush 12, 2) := by decide +kernel
theorem dX8_init_1209 : decode cX8_init 1209 = .ok (.newarray .int, 2) := by decide +kernel
theorem dX8_init_1211 : decode cX8_init 1211 = .ok (.putfield 112, 3) := by decide +kernel
theorem dX8_init_1214 : decode cX8_init 1214 = .ok (.aload_n 0, 1) := by decide +kernel
theorem dX8_init_1215 : decode cX8_init 1215 = .ok (.bipush 12, 2) := by decide +kernel
theorem dX8_init_1217 : decode cX8_init 1217 = .ok (.newarray .int, 2) := by decide +kernel
theorem dX8_init_1219 : decode cX8_init 1219 = .ok (.putfield 115, 3) := by decide +kernel
theorem dX8_init_1222 : decode cX8_init 1222 = .ok (.aload_n 0, 1) := by decide +kernel
theorem dX8_init_1223 : decode cX8_init 1223 = .ok (.iconst 2, 1) := by decide +kernel
theorem dX8_init_1224 : decode cX8_init 1224 = .ok (.newarray .int, 2) := by decide +kernel
theorem dX8_init_1226 : decode cX8_init 1226 = .ok (.putfield 118, 3) := by decide +kernel
theorem dX8_init_1229 : decode cX8_init 1229 = .ok (.aload_n 0, 1) := by decide +kernel
theorem dX8_init_1230 : decode cX8_init 1230 = .ok (.iconst 2, 1) := by decide +kernel
theorem dX8_init_1231 : decode cX8_init 1231 = .ok (.newarray .int, 2) := by decide +kernel
theorem dX8_init_1233 : decode cX8_init 1233 = .ok (.putfield 121, 3) := by decide +kernel
theorem dX8_init_1236 : decode cX8_init 1236 = .ok (.aload_n 0, 1) := by decide +kernel
theorem dX8_init_1237 : decode cX8_init 1237 = .ok (.iconst 2, 1) := by decide +kernel
theorem dX8_init_1238 : decode cX8_init 1238 = .ok (.newarray .int, 2) := by decide +kernel
theorem dX8_init_1240 : decode cX8_init 1240 = .ok (.putfield 124, 3) := by decide +kernel
theorem dX8_init_1243 : decode cX8_init 1243 = .ok (.aload_n 0, 1) := by decide +kernel
theorem dX8_init_1244 : decode cX8_init 1244 = .ok (.bipush 10, 2) := by decide +kernel
theorem dX8_init_1246 : decode cX8_init 1246 = .ok (.newarray .int, 2) := by decide +kernel
theorem dX8_init_1248 : decode cX8_init 1248 = .ok (.putfield 127, 3) := by decide +kernel
theorem dX8_init_1251 : decode cX8_init 1251 = .ok (.aload_n 0, 1) := by decide +kernel
theorem dX8_init_1252 : decode cX8_init 1252 = .ok (.bipush 10, 2) := by decide +kernel
theorem dX8_init_1254 : decode cX8_init 1254 = .ok (.newarray .int, 2) := by decide +kernel
theorem dX8_init_1256 : decode cX8_init 1256 = .ok (.putfield 130, 3) := by decide +kernel
theorem dX8_init_1259 : decode cX8_init 1259 = .ok (.aload_n 0, 1) := by decide +kernel
theorem dX8_init_1260 : decode cX8_init 1260 = .ok (.iconst 4, 1) := by decide +kernel
theorem dX8_init_1261 : decode cX8_init 1261 = .ok (.newarray .int, 2) := by decide +kernel
theorem dX8_init_1263 : decode cX8_init 1263 = .ok (.putfield 133, 3) := by decide +kernel
theorem dX8_init_1266 : decode cX8_init 1266 = .ok (.aload_n 0, 1) := by decide +kernel
theorem dX8_init_1267 : decode cX8_init 1267 = .ok (.iconst 4, 1) := by decide +kernel
theorem dX8_init_1268 : decode cX8_init 1268 = .ok (.newarray .int, 2) := by decide +kernel
theorem dX8_init_1270 : decode cX8_init 1270 = .ok (.putfield 136, 3) := by decide +kernel
theorem dX8_init_1273 : decode cX8_init 1273 = .ok (.aload_n 0, 1) := by decide +kernel
theorem dX8_init_1274 : decode cX8_init 1274 = .ok (.bipush 25, 2) := by decide +kernel
theorem dX8_init_1276 : decode cX8_init 1276 = .ok (.newarray .int, 2) := by decide +kernel
theorem dX8_init_1278 : decode cX8_init 1278 = .ok (.putfield 139, 3) := by decide +kernel
theorem dX8_init_1281 : decode cX8_init 1281 = .ok (.aload_n 0, 1) := by decide +kernel
theorem dX8_init_1282 : decode cX8_init 1282 = .ok (.bipush 25, 2) := by decide +kernel
theorem dX8_init_1284 : decode cX8_init 1284 = .ok (.newarray .int, 2) := by decide +kernel
theorem dX8_init_1286 : decode cX8_init 1286 = .ok (.putfield 142, 3) := by decide +kernel
theorem dX8_init_1289 : decode cX8_init 1289 = .ok (.aload_n 0, 1) := by decide +kernel
theorem dX8_init_1290 : decode cX8_init 1290 = .ok (.iconst (-1), 1) := by decide +kernel
theorem dX8_init_1291 : decode cX8_init 1291 = .ok (.putfield 145, 3) := by decide +kernel
theorem dX8_init_1294 : decode cX8_init 1294 = .ok (.aload_n 0, 1) := by decide +kernel
theorem dX8_init_1295 : decode cX8_init 1295 = .ok (.bipush 96, 2) := by decide +kernel
theorem dX8_init_1297 : decode cX8_init 1297 = .ok (.newarray .int, 2) := by decide +kernel
theorem dX8_init_1299 : decode cX8_init 1299 = .ok (.putfield 148, 3) := by decide +kernel
theorem dX8_init_1302 : decode cX8_init 1302 = .ok (.aload_n 0, 1) := by decide +kernel
theorem dX8_init_1303 : decode cX8_init 1303 = .ok (.bipush 24, 2) := by decide +kernel
theorem dX8_init_1305 : decode cX8_init 1305 = .ok (.newarray .boolean, 2) := by decide +kernel
theorem dX8_init_1307 : decode cX8_init 1307 = .ok (.putfield 151, 3) := by decide +kernel
theorem dX8_init_1310 : decode cX8_init 1310 = .ok (.aload_n 0, 1) := by decide +kernel
theorem dX8_init_1311 : decode cX8_init 1311 = .ok (.sipush 1220, 3) := by decide +kernel
theorem dX8_init_1314 : decode cX8_init 1314 = .ok (.newarray .int, 2) := by decide +kernel
theorem dX8_init_1316 : decode cX8_init 1316 = .ok (.putfield 154, 3) := by decide +kernel
theorem dX8_init_1319 : decode cX8_init 1319 = .ok (.aload_n 0, 1) := by decide +kernel
theorem dX8_init_1320 : decode cX8_init 1320 = .ok (.bipush 61, 2) := by decide +kernel
theorem dX8_init_1322 : decode cX8_init 1322 = .ok (.newarray .int, 2) := by decide +kernel
theorem dX8_init_1324 : decode cX8_init 1324 = .ok (.putfield 157, 3) := by decide +kernel
theorem dX8_init_1327 : decode cX8_init 1327 = .ok (.aload_n 0, 1) := by decide +kernel
theorem dX8_init_1328 : decode cX8_init 1328 = .ok (.bipush 10, 2) := by decide +kernel
theorem dX8_init_1330 : decode cX8_init 1330 = .ok (.newarray .int, 2) := by decide +kernel
theorem dX8_init_1332 : decode cX8_init 1332 = .ok (.putfield 160, 3) := by decide +kernel
theorem dX8_init_1335 : decode cX8_init 1335 = .ok (.aload_n 0, 1) := by decide +kernel
theorem dX8_init_1336 : decode cX8_init 1336 = .ok (.bipush 12, 2) := by decide +kernel
theorem dX8_init_1338 : decode cX8_init 1338 = .ok (.newarray .int, 2) := by decide +kernel
theorem dX8_init_1340 : decode cX8_init 1340 = .ok (.putfield 163, 3) := by decide +kernel
theorem dX8_init_1343 : decode cX8_init 1343 = .ok (.aload_n 0, 1) := by decide +kernel
theorem dX8_init_1344 : decode cX8_init 1344 = .ok (.invokevirtual 166, 3) := by decide +kernel
theorem dX8_init_1347 : decode cX8_init 1347 = .ok (.aload_n 0, 1) := by decide +kernel
theorem dX8_init_1348 : decode cX8_init 1348 = .ok (.invokevirtual 169, 3) := by decide +kernel
theorem dX8_init_1351 : decode cX8_init 1351 = .ok (.return_, 1) := by decide +kernel
