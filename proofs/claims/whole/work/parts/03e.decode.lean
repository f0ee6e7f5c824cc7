theorem dX11_init_0 : decode cX11_init 0 = .ok (.aload_n 0, 1) := by decide +kernel
theorem dX11_init_1 : decode cX11_init 1 = .ok (.invokespecial 1, 3) := by decide +kernel
theorem dX11_init_4 : decode cX11_init 4 = .ok (.aload_n 0, 1) := by decide +kernel
theorem dX11_init_5 : decode cX11_init 5 = .ok (.sipush 320, 3) := by decide +kernel
theorem dX11_init_8 : decode cX11_init 8 = .ok (.newarray .int, 2) := by decide +kernel
theorem dX11_init_10 : decode cX11_init 10 = .ok (.putfield 7, 3) := by decide +kernel
theorem dX11_init_13 : decode cX11_init 13 = .ok (.aload_n 0, 1) := by decide +kernel
theorem dX11_init_14 : decode cX11_init 14 = .ok (.bipush 10, 2) := by decide +kernel
theorem dX11_init_16 : decode cX11_init 16 = .ok (.newarray .int, 2) := by decide +kernel
theorem dX11_init_18 : decode cX11_init 18 = .ok (.dup, 1) := by decide +kernel
theorem dX11_init_19 : decode cX11_init 19 = .ok (.iconst 0, 1) := by decide +kernel
theorem dX11_init_20 : decode cX11_init 20 = .ok (.iconst 0, 1) := by decide +kernel
theorem dX11_init_21 : decode cX11_init 21 = .ok (.iastore, 1) := by decide +kernel
theorem dX11_init_22 : decode cX11_init 22 = .ok (.dup, 1) := by decide +kernel
theorem dX11_init_23 : decode cX11_init 23 = .ok (.iconst 1, 1) := by decide +kernel
theorem dX11_init_24 : decode cX11_init 24 = .ok (.bipush 7, 2) := by decide +kernel
theorem dX11_init_26 : decode cX11_init 26 = .ok (.iastore, 1) := by decide +kernel
theorem dX11_init_27 : decode cX11_init 27 = .ok (.dup, 1) := by decide +kernel
theorem dX11_init_28 : decode cX11_init 28 = .ok (.iconst 2, 1) := by decide +kernel
theorem dX11_init_29 : decode cX11_init 29 = .ok (.bipush 12, 2) := by decide +kernel
theorem dX11_init_31 : decode cX11_init 31 = .ok (.iastore, 1) := by decide +kernel
theorem dX11_init_32 : decode cX11_init 32 = .ok (.dup, 1) := by decide +kernel
theorem dX11_init_33 : decode cX11_init 33 = .ok (.iconst 3, 1) := by decide +kernel
theorem dX11_init_34 : decode cX11_init 34 = .ok (.bipush 17, 2) := by decide +kernel
theorem dX11_init_36 : decode cX11_init 36 = .ok (.iastore, 1) := by decide +kernel
theorem dX11_init_37 : decode cX11_init 37 = .ok (.dup, 1) := by decide +kernel
theorem dX11_init_38 : decode cX11_init 38 = .ok (.iconst 4, 1) := by decide +kernel
theorem dX11_init_39 : decode cX11_init 39 = .ok (.bipush 23, 2) := by decide +kernel
theorem dX11_init_41 : decode cX11_init 41 = .ok (.iastore, 1) := by decide +kernel
theorem dX11_init_42 : decode cX11_init 42 = .ok (.dup, 1) := by decide +kernel
theorem dX11_init_43 : decode cX11_init 43 = .ok (.iconst 5, 1) := by decide +kernel
theorem dX11_init_44 : decode cX11_init 44 = .ok (.bipush 29, 2) := by decide +kernel
theorem dX11_init_46 : decode cX11_init 46 = .ok (.iastore, 1) := by decide +kernel
theorem dX11_init_47 : decode cX11_init 47 = .ok (.dup, 1) := by decide +kernel
theorem dX11_init_48 : decode cX11_init 48 = .ok (.bipush 6, 2) := by decide +kernel
theorem dX11_init_50 : decode cX11_init 50 = .ok (.bipush 32, 2) := by decide +kernel
theorem dX11_init_52 : decode cX11_init 52 = .ok (.iastore, 1) := by decide +kernel
theorem dX11_init_53 : decode cX11_init 53 = .ok (.dup, 1) := by decide +kernel
theorem dX11_init_54 : decode cX11_init 54 = .ok (.bipush 7, 2) := by decide +kernel
theorem dX11_init_56 : decode cX11_init 56 = .ok (.bipush 38, 2) := by decide +kernel
theorem dX11_init_58 : decode cX11_init 58 = .ok (.iastore, 1) := by decide +kernel
theorem dX11_init_59 : decode cX11_init 59 = .ok (.dup, 1) := by decide +kernel
theorem dX11_init_60 : decode cX11_init 60 = .ok (.bipush 8, 2) := by decide +kernel
theorem dX11_init_62 : decode cX11_init 62 = .ok (.bipush 42, 2) := by decide +kernel
theorem dX11_init_64 : decode cX11_init 64 = .ok (.iastore, 1) := by decide +kernel
theorem dX11_init_65 : decode cX11_init 65 = .ok (.dup, 1) := by decide +kernel
theorem dX11_init_66 : decode cX11_init 66 = .ok (.bipush 9, 2) := by decide +kernel
theorem dX11_init_68 : decode cX11_init 68 = .ok (.bipush 47, 2) := by decide +kernel
theorem dX11_init_70 : decode cX11_init 70 = .ok (.iastore, 1) := by decide +kernel
theorem dX11_init_71 : decode cX11_init 71 = .ok (.putfield 13, 3) := by decide +kernel
theorem dX11_init_74 : decode cX11_init 74 = .ok (.aload_n 0, 1) := by decide +kernel
theorem dX11_init_75 : decode cX11_init 75 = .ok (.bipush 47, 2) := by decide +kernel
theorem dX11_init_77 : decode cX11_init 77 = .ok (.newarray .int, 2) := by decide +kernel
theorem dX11_init_79 : decode cX11_init 79 = .ok (.dup, 1) := by decide +kernel
theorem dX11_init_80 : decode cX11_init 80 = .ok (.iconst 0, 1) := by decide +kernel
theorem dX11_init_81 : decode cX11_init 81 = .ok (.bipush 109, 2) := by decide +kernel
theorem dX11_init_83 : decode cX11_init 83 = .ok (.iastore, 1) := by decide +kernel
theorem dX11_init_84 : decode cX11_init 84 = .ok (.dup, 1) := by decide +kernel
theorem dX11_init_85 : decode cX11_init 85 = .ok (.iconst 1, 1) := by decide +kernel
theorem dX11_init_86 : decode cX11_init 86 = .ok (.bipush 105, 2) := by decide +kernel
theorem dX11_init_88 : decode cX11_init 88 = .ok (.iastore, 1) := by decide +kernel
theorem dX11_init_89 : decode cX11_init 89 = .ok (.dup, 1) := by decide +kernel
theorem dX11_init_90 : decode cX11_init 90 = .ok (.iconst 2, 1) := by decide +kernel
theorem dX11_init_91 : decode cX11_init 91 = .ok (.bipush 110, 2) := by decide +kernel
theorem dX11_init_93 : decode cX11_init 93 = .ok (.iastore, 1) := by decide +kernel
theorem dX11_init_94 : decode cX11_init 94 = .ok (.dup, 1) := by decide +kernel
theorem dX11_init_95 : decode cX11_init 95 = .ok (.iconst 3, 1) := by decide +kernel
theorem dX11_init_96 : decode cX11_init 96 = .ok (.bipush 117, 2) := by decide +kernel
theorem dX11_init_98 : decode cX11_init 98 = .ok (.iastore, 1) := by decide +kernel
theorem dX11_init_99 : decode cX11_init 99 = .ok (.dup, 1) := by decide +kernel
theorem dX11_init_100 : decode cX11_init 100 = .ok (.iconst 4, 1) := by decide +kernel
theorem dX11_init_101 : decode cX11_init 101 = .ok (.bipush 116, 2) := by decide +kernel
theorem dX11_init_103 : decode cX11_init 103 = .ok (.iastore, 1) := by decide +kernel
theorem dX11_init_104 : decode cX11_init 104 = .ok (.dup, 1) := by decide +kernel
theorem dX11_init_105 : decode cX11_init 105 = .ok (.iconst 5, 1) := by decide +kernel
theorem dX11_init_106 : decode cX11_init 106 = .ok (.bipush 101, 2) := by decide +kernel
theorem dX11_init_108 : decode cX11_init 108 = .ok (.iastore, 1) := by decide +kernel
theorem dX11_init_109 : decode cX11_init 109 = .ok (.dup, 1) := by decide +kernel
theorem dX11_init_110 : decode cX11_init 110 = .ok (.bipush 6, 2) := by decide +kernel
theorem dX11_init_112 : decode cX11_init 112 = .ok (.bipush 115, 2) := by decide +kernel
theorem dX11_init_114 : decode cX11_init 114 = .ok (.iastore, 1) := by decide +kernel
theorem dX11_init_115 : decode cX11_init 115 = .ok (.dup, 1) := by decide +kernel
theorem dX11_init_116 : decode cX11_init 116 = .ok (.bipush 7, 2) := by decide +kernel
theorem dX11_init_118 : decode cX11_init 118 = .ok (.bipush 109, 2) := by decide +kernel
theorem dX11_init_120 : decode cX11_init 120 = .ok (.iastore, 1) := by decide +kernel
theorem dX11_init_121 : decode cX11_init 121 = .ok (.dup, 1) := by decide +kernel
theorem dX11_init_122 : decode cX11_init 122 = .ok (.bipush 8, 2) := by decide +kernel
theorem dX11_init_124 : decode cX11_init 124 = .ok (.bipush 105, 2) := by decide +kernel
theorem dX11_init_126 : decode cX11_init 126 = .ok (.iastore, 1) := by decide +kernel
theorem dX11_init_127 : decode cX11_init 127 = .ok (.dup, 1) := by decide +kernel
theorem dX11_init_128 : decode cX11_init 128 = .ok (.bipush 9, 2) := by decide +kernel
theorem dX11_init_130 : decode cX11_init 130 = .ok (.bipush 120, 2) := by decide +kernel
theorem dX11_init_132 : decode cX11_init 132 = .ok (.iastore, 1) := by decide +kernel
theorem dX11_init_133 : decode cX11_init 133 = .ok (.dup, 1) := by decide +kernel
theorem dX11_init_134 : decode cX11_init 134 = .ok (.bipush 10, 2) := by decide +kernel
theorem dX11_init_136 : decode cX11_init 136 = .ok (.bipush 101, 2) := by decide +kernel
theorem dX11_init_138 : decode cX11_init 138 = .ok (.iastore, 1) := by decide +kernel
theorem dX11_init_139 : decode cX11_init 139 = .ok (.dup, 1) := by decide +kernel
theorem dX11_init_140 : decode cX11_init 140 = .ok (.bipush 11, 2) := by decide +kernel
theorem dX11_init_142 : decode cX11_init 142 = .ok (.bipush 100, 2) := by decide +kernel
theorem dX11_init_144 : decode cX11_init 144 = .ok (.iastore, 1) := by decide +kernel
theorem dX11_init_145 : decode cX11_init 145 = .ok (.dup, 1) := by decide +kernel
theorem dX11_init_146 : decode cX11_init 146 = .ok (.bipush 12, 2) := by decide +kernel
theorem dX11_init_148 : decode cX11_init 148 = .ok (.bipush 100, 2) := by decide +kernel
theorem dX11_init_150 : decode cX11_init 150 = .ok (.iastore, 1) := by decide +kernel
theorem dX11_init_151 : decode cX11_init 151 = .ok (.dup, 1) := by decide +kernel
theorem dX11_init_152 : decode cX11_init 152 = .ok (.bipush 13, 2) := by decide +kernel
theorem dX11_init_154 : decode cX11_init 154 = .ok (.bipush 111, 2) := by decide +kernel
theorem dX11_init_156 : decode cX11_init 156 = .ok (.iastore, 1) := by decide +kernel
theorem dX11_init_157 : decode cX11_init 157 = .ok (.dup, 1) := by decide +kernel
theorem dX11_init_158 : decode cX11_init 158 = .ok (.bipush 14, 2) := by decide +kernel
theorem dX11_init_160 : decode cX11_init 160 = .ok (.bipush 117, 2) := by decide +kernel
theorem dX11_init_162 : decode cX11_init 162 = .ok (.iastore, 1) := by decide +kernel
theorem dX11_init_163 : decode cX11_init 163 = .ok (.dup, 1) := by decide +kernel
theorem dX11_init_164 : decode cX11_init 164 = .ok (.bipush 15, 2) := by decide +kernel
theorem dX11_init_166 : decode cX11_init 166 = .ok (.bipush 98, 2) := by decide +kernel
theorem dX11_init_168 : decode cX11_init 168 = .ok (.iastore, 1) := by decide +kernel
theorem dX11_init_169 : decode cX11_init 169 = .ok (.dup, 1) := by decide +kernel
theorem dX11_init_170 : decode cX11_init 170 = .ok (.bipush 16, 2) := by decide +kernel
theorem dX11_init_172 : decode cX11_init 172 = .ok (.bipush 116, 2) := by decide +kernel
theorem dX11_init_174 : decode cX11_init 174 = .ok (.iastore, 1) := by decide +kernel
theorem dX11_init_175 : decode cX11_init 175 = .ok (.dup, 1) := by decide +kernel
theorem dX11_init_176 : decode cX11_init 176 = .ok (.bipush 17, 2) := by decide +kernel
theorem dX11_init_178 : decode cX11_init 178 = .ok (.bipush 117, 2) := by decide +kernel
theorem dX11_init_180 : decode cX11_init 180 = .ok (.iastore, 1) := by decide +kernel
theorem dX11_init_181 : decode cX11_init 181 = .ok (.dup, 1) := by decide +kernel
theorem dX11_init_182 : decode cX11_init 182 = .ok (.bipush 18, 2) := by decide +kernel
theorem dX11_init_184 : decode cX11_init 184 = .ok (.bipush 110, 2) := by decide +kernel
theorem dX11_init_186 : decode cX11_init 186 = .ok (.iastore, 1) := by decide +kernel
theorem dX11_init_187 : decode cX11_init 187 = .ok (.dup, 1) := by decide +kernel
theorem dX11_init_188 : decode cX11_init 188 = .ok (.bipush 19, 2) := by decide +kernel
theorem dX11_init_190 : decode cX11_init 190 = .ok (.bipush 114, 2) := by decide +kernel
theorem dX11_init_192 : decode cX11_init 192 = .ok (.iastore, 1) := by decide +kernel
theorem dX11_init_193 : decode cX11_init 193 = .ok (.dup, 1) := by decide +kernel
theorem dX11_init_194 : decode cX11_init 194 = .ok (.bipush 20, 2) := by decide +kernel
theorem dX11_init_196 : decode cX11_init 196 = .ok (.bipush 101, 2) := by decide +kernel
theorem dX11_init_198 : decode cX11_init 198 = .ok (.iastore, 1) := by decide +kernel
theorem dX11_init_199 : decode cX11_init 199 = .ok (.dup, 1) := by decide +kernel
theorem dX11_init_200 : decode cX11_init 200 = .ok (.bipush 21, 2) := by decide +kernel
theorem dX11_init_202 : decode cX11_init 202 = .ok (.bipush 97, 2) := by decide +kernel
theorem dX11_init_204 : decode cX11_init 204 = .ok (.iastore, 1) := by decide +kernel
theorem dX11_init_205 : decode cX11_init 205 = .ok (.dup, 1) := by decide +kernel
theorem dX11_init_206 : decode cX11_init 206 = .ok (.bipush 22, 2) := by decide +kernel
theorem dX11_init_208 : decode cX11_init 208 = .ok (.bipush 100, 2) := by decide +kernel
theorem dX11_init_210 : decode cX11_init 210 = .ok (.iastore, 1) := by decide +kernel
theorem dX11_init_211 : decode cX11_init 211 = .ok (.dup, 1) := by decide +kernel
theorem dX11_init_212 : decode cX11_init 212 = .ok (.bipush 23, 2) := by decide +kernel
theorem dX11_init_214 : decode cX11_init 214 = .ok (.bipush 99, 2) := by decide +kernel
theorem dX11_init_216 : decode cX11_init 216 = .ok (.iastore, 1) := by decide +kernel
theorem dX11_init_217 : decode cX11_init 217 = .ok (.dup, 1) := by decide +kernel
theorem dX11_init_218 : decode cX11_init 218 = .ok (.bipush 24, 2) := by decide +kernel
theorem dX11_init_220 : decode cX11_init 220 = .ok (.bipush 111, 2) := by decide +kernel
theorem dX11_init_222 : decode cX11_init 222 = .ok (.iastore, 1) := by decide +kernel
theorem dX11_init_223 : decode cX11_init 223 = .ok (.dup, 1) := by decide +kernel
theorem dX11_init_224 : decode cX11_init 224 = .ok (.bipush 25, 2) := by decide +kernel
theorem dX11_init_226 : decode cX11_init 226 = .ok (.bipush 108, 2) := by decide +kernel
theorem dX11_init_228 : decode cX11_init 228 = .ok (.iastore, 1) := by decide +kernel
theorem dX11_init_229 : decode cX11_init 229 = .ok (.dup, 1) := by decide +kernel
theorem dX11_init_230 : decode cX11_init 230 = .ok (.bipush 26, 2) := by decide +kernel
theorem dX11_init_232 : decode cX11_init 232 = .ok (.bipush 111, 2) := by decide +kernel
theorem dX11_init_234 : decode cX11_init 234 = .ok (.iastore, 1) := by decide +kernel
theorem dX11_init_235 : decode cX11_init 235 = .ok (.dup, 1) := by decide +kernel
theorem dX11_init_236 : decode cX11_init 236 = .ok (.bipush 27, 2) := by decide +kernel
theorem dX11_init_238 : decode cX11_init 238 = .ok (.bipush 117, 2) := by decide +kernel
theorem dX11_init_240 : decode cX11_init 240 = .ok (.iastore, 1) := by decide +kernel
theorem dX11_init_241 : decode cX11_init 241 = .ok (.dup, 1) := by decide +kernel
theorem dX11_init_242 : decode cX11_init 242 = .ok (.bipush 28, 2) := by decide +kernel
theorem dX11_init_244 : decode cX11_init 244 = .ok (.bipush 114, 2) := by decide +kernel
theorem dX11_init_246 : decode cX11_init 246 = .ok (.iastore, 1) := by decide +kernel
theorem dX11_init_247 : decode cX11_init 247 = .ok (.dup, 1) := by decide +kernel
theorem dX11_init_248 : decode cX11_init 248 = .ok (.bipush 29, 2) := by decide +kernel
theorem dX11_init_250 : decode cX11_init 250 = .ok (.bipush 111, 2) := by decide +kernel
theorem dX11_init_252 : decode cX11_init 252 = .ok (.iastore, 1) := by decide +kernel
theorem dX11_init_253 : decode cX11_init 253 = .ok (.dup, 1) := by decide +kernel
theorem dX11_init_254 : decode cX11_init 254 = .ok (.bipush 30, 2) := by decide +kernel
theorem dX11_init_256 : decode cX11_init 256 = .ok (.bipush 102, 2) := by decide +kernel
theorem dX11_init_258 : decode cX11_init 258 = .ok (.iastore, 1) := by decide +kernel
theorem dX11_init_259 : decode cX11_init 259 = .ok (.dup, 1) := by decide +kernel
theorem dX11_init_260 : decode cX11_init 260 = .ok (.bipush 31, 2) := by decide +kernel
theorem dX11_init_262 : decode cX11_init 262 = .ok (.bipush 102, 2) := by decide +kernel
theorem dX11_init_264 : decode cX11_init 264 = .ok (.iastore, 1) := by decide +kernel
theorem dX11_init_265 : decode cX11_init 265 = .ok (.dup, 1) := by decide +kernel
theorem dX11_init_266 : decode cX11_init 266 = .ok (.bipush 32, 2) := by decide +kernel
theorem dX11_init_268 : decode cX11_init 268 = .ok (.bipush 106, 2) := by decide +kernel
theorem dX11_init_270 : decode cX11_init 270 = .ok (.iastore, 1) := by decide +kernel
theorem dX11_init_271 : decode cX11_init 271 = .ok (.dup, 1) := by decide +kernel
theorem dX11_init_272 : decode cX11_init 272 = .ok (.bipush 33, 2) := by decide +kernel
theorem dX11_init_274 : decode cX11_init 274 = .ok (.bipush 111, 2) := by decide +kernel
theorem dX11_init_276 : decode cX11_init 276 = .ok (.iastore, 1) := by decide +kernel
theorem dX11_init_277 : decode cX11_init 277 = .ok (.dup, 1) := by decide +kernel
theorem dX11_init_278 : decode cX11_init 278 = .ok (.bipush 34, 2) := by decide +kernel
theorem dX11_init_280 : decode cX11_init 280 = .ok (.bipush 105, 2) := by decide +kernel
theorem dX11_init_282 : decode cX11_init 282 = .ok (.iastore, 1) := by decide +kernel
theorem dX11_init_283 : decode cX11_init 283 = .ok (.dup, 1) := by decide +kernel
theorem dX11_init_284 : decode cX11_init 284 = .ok (.bipush 35, 2) := by decide +kernel
theorem dX11_init_286 : decode cX11_init 286 = .ok (.bipush 110, 2) := by decide +kernel
theorem dX11_init_288 : decode cX11_init 288 = .ok (.iastore, 1) := by decide +kernel
theorem dX11_init_289 : decode cX11_init 289 = .ok (.dup, 1) := by decide +kernel
theorem dX11_init_290 : decode cX11_init 290 = .ok (.bipush 36, 2) := by decide +kernel
theorem dX11_init_292 : decode cX11_init 292 = .ok (.bipush 101, 2) := by decide +kernel
theorem dX11_init_294 : decode cX11_init 294 = .ok (.iastore, 1) := by decide +kernel
theorem dX11_init_295 : decode cX11_init 295 = .ok (.dup, 1) := by decide +kernel
theorem dX11_init_296 : decode cX11_init 296 = .ok (.bipush 37, 2) := by decide +kernel
theorem dX11_init_298 : decode cX11_init 298 = .ok (.bipush 100, 2) := by decide +kernel
theorem dX11_init_300 : decode cX11_init 300 = .ok (.iastore, 1) := by decide +kernel
theorem dX11_init_301 : decode cX11_init 301 = .ok (.dup, 1) := by decide +kernel
theorem dX11_init_302 : decode cX11_init 302 = .ok (.bipush 38, 2) := by decide +kernel
theorem dX11_init_304 : decode cX11_init 304 = .ok (.bipush 108, 2) := by decide +kernel
theorem dX11_init_306 : decode cX11_init 306 = .ok (.iastore, 1) := by decide +kernel
theorem dX11_init_307 : decode cX11_init 307 = .ok (.dup, 1) := by decide +kernel
theorem dX11_init_308 : decode cX11_init 308 = .ok (.bipush 39, 2) := by decide +kernel
theorem dX11_init_310 : decode cX11_init 310 = .ok (.bipush 97, 2) := by decide +kernel
theorem dX11_init_312 : decode cX11_init 312 = .ok (.iastore, 1) := by decide +kernel
theorem dX11_init_313 : decode cX11_init 313 = .ok (.dup, 1) := by decide +kernel
theorem dX11_init_314 : decode cX11_init 314 = .ok (.bipush 40, 2) := by decide +kernel
theorem dX11_init_316 : decode cX11_init 316 = .ok (.bipush 116, 2) := by decide +kernel
theorem dX11_init_318 : decode cX11_init 318 = .ok (.iastore, 1) := by decide +kernel
theorem dX11_init_319 : decode cX11_init 319 = .ok (.dup, 1) := by decide +kernel
theorem dX11_init_320 : decode cX11_init 320 = .ok (.bipush 41, 2) := by decide +kernel
theorem dX11_init_322 : decode cX11_init 322 = .ok (.bipush 101, 2) := by decide +kernel
theorem dX11_init_324 : decode cX11_init 324 = .ok (.iastore, 1) := by decide +kernel
theorem dX11_init_325 : decode cX11_init 325 = .ok (.dup, 1) := by decide +kernel
theorem dX11_init_326 : decode cX11_init 326 = .ok (.bipush 42, 2) := by decide +kernel
theorem dX11_init_328 : decode cX11_init 328 = .ok (.bipush 101, 2) := by decide +kernel
theorem dX11_init_330 : decode cX11_init 330 = .ok (.iastore, 1) := by decide +kernel
theorem dX11_init_331 : decode cX11_init 331 = .ok (.dup, 1) := by decide +kernel
theorem dX11_init_332 : decode cX11_init 332 = .ok (.bipush 43, 2) := by decide +kernel
theorem dX11_init_334 : decode cX11_init 334 = .ok (.bipush 97, 2) := by decide +kernel
theorem dX11_init_336 : decode cX11_init 336 = .ok (.iastore, 1) := by decide +kernel
theorem dX11_init_337 : decode cX11_init 337 = .ok (.dup, 1) := by decide +kernel
theorem dX11_init_338 : decode cX11_init 338 = .ok (.bipush 44, 2) := by decide +kernel
theorem dX11_init_340 : decode cX11_init 340 = .ok (.bipush 114, 2) := by decide +kernel
theorem dX11_init_342 : decode cX11_init 342 = .ok (.iastore, 1) := by decide +kernel
theorem dX11_init_343 : decode cX11_init 343 = .ok (.dup, 1) := by decide +kernel
theorem dX11_init_344 : decode cX11_init 344 = .ok (.bipush 45, 2) := by decide +kernel
theorem dX11_init_346 : decode cX11_init 346 = .ok (.bipush 108, 2) := by decide +kernel
theorem dX11_init_348 : decode cX11_init 348 = .ok (.iastore, 1) := by decide +kernel
theorem dX11_init_349 : decode cX11_init 349 = .ok (.dup, 1) := by decide +kernel
theorem dX11_init_350 : decode cX11_init 350 = .ok (.bipush 46, 2) := by decide +kernel
theorem dX11_init_352 : decode cX11_init 352 = .ok (.bipush 121, 2) := by decide +kernel
theorem dX11_init_354 : decode cX11_init 354 = .ok (.iastore, 1) := by decide +kernel
theorem dX11_init_355 : decode cX11_init 355 = .ok (.putfield 16, 3) := by decide +kernel
theorem dX11_init_358 : decode cX11_init 358 = .ok (.aload_n 0, 1) := by decide +kernel
theorem dX11_init_359 : decode cX11_init 359 = .ok (.bipush 10, 2) := by decide +kernel
theorem dX11_init_361 : decode cX11_init 361 = .ok (.newarray .int, 2) := by decide +kernel
theorem dX11_init_363 : decode cX11_init 363 = .ok (.dup, 1) := by decide +kernel
theorem dX11_init_364 : decode cX11_init 364 = .ok (.iconst 0, 1) := by decide +kernel
theorem dX11_init_365 : decode cX11_init 365 = .ok (.bipush 10, 2) := by decide +kernel
theorem dX11_init_367 : decode cX11_init 367 = .ok (.iastore, 1) := by decide +kernel
theorem dX11_init_368 : decode cX11_init 368 = .ok (.dup, 1) := by decide +kernel
theorem dX11_init_369 : decode cX11_init 369 = .ok (.iconst 1, 1) := by decide +kernel
theorem dX11_init_370 : decode cX11_init 370 = .ok (.bipush 60, 2) := by decide +kernel
theorem dX11_init_372 : decode cX11_init 372 = .ok (.iastore, 1) := by decide +kernel
theorem dX11_init_373 : decode cX11_init 373 = .ok (.dup, 1) := by decide +kernel
theorem dX11_init_374 : decode cX11_init 374 = .ok (.iconst 2, 1) := by decide +kernel
theorem dX11_init_375 : decode cX11_init 375 = .ok (.bipush 30, 2) := by decide +kernel
theorem dX11_init_377 : decode cX11_init 377 = .ok (.iastore, 1) := by decide +kernel
theorem dX11_init_378 : decode cX11_init 378 = .ok (.dup, 1) := by decide +kernel
theorem dX11_init_379 : decode cX11_init 379 = .ok (.iconst 3, 1) := by decide +kernel
theorem dX11_init_380 : decode cX11_init 380 = .ok (.iconst 1, 1) := by decide +kernel
theorem dX11_init_381 : decode cX11_init 381 = .ok (.iastore, 1) := by decide +kernel
theorem dX11_init_382 : decode cX11_init 382 = .ok (.dup, 1) := by decide +kernel
theorem dX11_init_383 : decode cX11_init 383 = .ok (.iconst 4, 1) := by decide +kernel
theorem dX11_init_384 : decode cX11_init 384 = .ok (.iconst 4, 1) := by decide +kernel
theorem dX11_init_385 : decode cX11_init 385 = .ok (.iastore, 1) := by decide +kernel
theorem dX11_init_386 : decode cX11_init 386 = .ok (.dup, 1) := by decide +kernel
theorem dX11_init_387 : decode cX11_init 387 = .ok (.iconst 5, 1) := by decide +kernel
theorem dX11_init_388 : decode cX11_init 388 = .ok (.iconst 2, 1) := by decide +kernel
theorem dX11_init_389 : decode cX11_init 389 = .ok (.iastore, 1) := by decide +kernel
theorem dX11_init_390 : decode cX11_init 390 = .ok (.dup, 1) := by decide +kernel
theorem dX11_init_391 : decode cX11_init 391 = .ok (.bipush 6, 2) := by decide +kernel
theorem dX11_init_393 : decode cX11_init 393 = .ok (.iconst 5, 1) := by decide +kernel
theorem dX11_init_394 : decode cX11_init 394 = .ok (.iastore, 1) := by decide +kernel
theorem dX11_init_395 : decode cX11_init 395 = .ok (.dup, 1) := by decide +kernel
theorem dX11_init_396 : decode cX11_init 396 = .ok (.bipush 7, 2) := by decide +kernel
theorem dX11_init_398 : decode cX11_init 398 = .ok (.bipush 12, 2) := by decide +kernel
theorem dX11_init_400 : decode cX11_init 400 = .ok (.iastore, 1) := by decide +kernel
theorem dX11_init_401 : decode cX11_init 401 = .ok (.dup, 1) := by decide +kernel
theorem dX11_init_402 : decode cX11_init 402 = .ok (.bipush 8, 2) := by decide +kernel
theorem dX11_init_404 : decode cX11_init 404 = .ok (.bipush 12, 2) := by decide +kernel
theorem dX11_init_406 : decode cX11_init 406 = .ok (.iastore, 1) := by decide +kernel
theorem dX11_init_407 : decode cX11_init 407 = .ok (.dup, 1) := by decide +kernel
theorem dX11_init_408 : decode cX11_init 408 = .ok (.bipush 9, 2) := by decide +kernel
theorem dX11_init_410 : decode cX11_init 410 = .ok (.iconst 0, 1) := by decide +kernel
theorem dX11_init_411 : decode cX11_init 411 = .ok (.iastore, 1) := by decide +kernel
theorem dX11_init_412 : decode cX11_init 412 = .ok (.putfield 19, 3) := by decide +kernel
theorem dX11_init_415 : decode cX11_init 415 = .ok (.aload_n 0, 1) := by decide +kernel
theorem dX11_init_416 : decode cX11_init 416 = .ok (.bipush 30, 2) := by decide +kernel
theorem dX11_init_418 : decode cX11_init 418 = .ok (.newarray .int, 2) := by decide +kernel
theorem dX11_init_420 : decode cX11_init 420 = .ok (.dup, 1) := by decide +kernel
theorem dX11_init_421 : decode cX11_init 421 = .ok (.iconst 0, 1) := by decide +kernel
theorem dX11_init_422 : decode cX11_init 422 = .ok (.bipush 10, 2) := by decide +kernel
theorem dX11_init_424 : decode cX11_init 424 = .ok (.iastore, 1) := by decide +kernel
theorem dX11_init_425 : decode cX11_init 425 = .ok (.dup, 1) := by decide +kernel
theorem dX11_init_426 : decode cX11_init 426 = .ok (.iconst 1, 1) := by decide +kernel
theorem dX11_init_427 : decode cX11_init 427 = .ok (.bipush 60, 2) := by decide +kernel
theorem dX11_init_429 : decode cX11_init 429 = .ok (.iastore, 1) := by decide +kernel
theorem dX11_init_430 : decode cX11_init 430 = .ok (.dup, 1) := by decide +kernel
theorem dX11_init_431 : decode cX11_init 431 = .ok (.iconst 2, 1) := by decide +kernel
theorem dX11_init_432 : decode cX11_init 432 = .ok (.bipush 30, 2) := by decide +kernel
theorem dX11_init_434 : decode cX11_init 434 = .ok (.iastore, 1) := by decide +kernel
theorem dX11_init_435 : decode cX11_init 435 = .ok (.dup, 1) := by decide +kernel
theorem dX11_init_436 : decode cX11_init 436 = .ok (.iconst 3, 1) := by decide +kernel
theorem dX11_init_437 : decode cX11_init 437 = .ok (.iconst 1, 1) := by decide +kernel
theorem dX11_init_438 : decode cX11_init 438 = .ok (.iastore, 1) := by decide +kernel
theorem dX11_init_439 : decode cX11_init 439 = .ok (.dup, 1) := by decide +kernel
theorem dX11_init_440 : decode cX11_init 440 = .ok (.iconst 4, 1) := by decide +kernel
theorem dX11_init_441 : decode cX11_init 441 = .ok (.iconst 4, 1) := by decide +kernel
theorem dX11_init_442 : decode cX11_init 442 = .ok (.iastore, 1) := by decide +kernel
theorem dX11_init_443 : decode cX11_init 443 = .ok (.dup, 1) := by decide +kernel
theorem dX11_init_444 : decode cX11_init 444 = .ok (.iconst 5, 1) := by decide +kernel
theorem dX11_init_445 : decode cX11_init 445 = .ok (.iconst 2, 1) := by decide +kernel
theorem dX11_init_446 : decode cX11_init 446 = .ok (.iastore, 1) := by decide +kernel
theorem dX11_init_447 : decode cX11_init 447 = .ok (.dup, 1) := by decide +kernel
theorem dX11_init_448 : decode cX11_init 448 = .ok (.bipush 6, 2) := by decide +kernel
theorem dX11_init_450 : decode cX11_init 450 = .ok (.iconst 5, 1) := by decide +kernel
theorem dX11_init_451 : decode cX11_init 451 = .ok (.iastore, 1) := by decide +kernel
theorem dX11_init_452 : decode cX11_init 452 = .ok (.dup, 1) := by decide +kernel
theorem dX11_init_453 : decode cX11_init 453 = .ok (.bipush 7, 2) := by decide +kernel
theorem dX11_init_455 : decode cX11_init 455 = .ok (.bipush 12, 2) := by decide +kernel
theorem dX11_init_457 : decode cX11_init 457 = .ok (.iastore, 1) := by decide +kernel
theorem dX11_init_458 : decode cX11_init 458 = .ok (.dup, 1) := by decide +kernel
theorem dX11_init_459 : decode cX11_init 459 = .ok (.bipush 8, 2) := by decide +kernel
theorem dX11_init_461 : decode cX11_init 461 = .ok (.bipush 12, 2) := by decide +kernel
theorem dX11_init_463 : decode cX11_init 463 = .ok (.iastore, 1) := by decide +kernel
theorem dX11_init_464 : decode cX11_init 464 = .ok (.dup, 1) := by decide +kernel
theorem dX11_init_465 : decode cX11_init 465 = .ok (.bipush 9, 2) := by decide +kernel
theorem dX11_init_467 : decode cX11_init 467 = .ok (.iconst 0, 1) := by decide +kernel
theorem dX11_init_468 : decode cX11_init 468 = .ok (.iastore, 1) := by decide +kernel
theorem dX11_init_469 : decode cX11_init 469 = .ok (.dup, 1) := by decide +kernel
theorem dX11_init_470 : decode cX11_init 470 = .ok (.bipush 10, 2) := by decide +kernel
theorem dX11_init_472 : decode cX11_init 472 = .ok (.iconst 0, 1) := by decide +kernel
theorem dX11_init_473 : decode cX11_init 473 = .ok (.iastore, 1) := by decide +kernel
theorem dX11_init_474 : decode cX11_init 474 = .ok (.dup, 1) := by decide +kernel
theorem dX11_init_475 : decode cX11_init 475 = .ok (.bipush 11, 2) := by decide +kernel
theorem dX11_init_477 : decode cX11_init 477 = .ok (.iconst 0, 1) := by decide +kernel
theorem dX11_init_478 : decode cX11_init 478 = .ok (.iastore, 1) := by decide +kernel
theorem dX11_init_479 : decode cX11_init 479 = .ok (.dup, 1) := by decide +kernel
theorem dX11_init_480 : decode cX11_init 480 = .ok (.bipush 12, 2) := by decide +kernel
theorem dX11_init_482 : decode cX11_init 482 = .ok (.iconst 0, 1) := by decide +kernel
theorem dX11_init_483 : decode cX11_init 483 = .ok (.iastore, 1) := by decide +kernel
theorem dX11_init_484 : decode cX11_init 484 = .ok (.dup, 1) := by decide +kernel
theorem dX11_init_485 : decode cX11_init 485 = .ok (.bipush 13, 2) := by decide +kernel
theorem dX11_init_487 : decode cX11_init 487 = .ok (.iconst 0, 1) := by decide +kernel
theorem dX11_init_488 : decode cX11_init 488 = .ok (.iastore, 1) := by decide +kernel
theorem dX11_init_489 : decode cX11_init 489 = .ok (.dup, 1) := by decide +kernel
theorem dX11_init_490 : decode cX11_init 490 = .ok (.bipush 14, 2) := by decide +kernel
theorem dX11_init_492 : decode cX11_init 492 = .ok (.iconst 0, 1) := by decide +kernel
theorem dX11_init_493 : decode cX11_init 493 = .ok (.iastore, 1) := by decide +kernel
theorem dX11_init_494 : decode cX11_init 494 = .ok (.dup, 1) := by decide +kernel
theorem dX11_init_495 : decode cX11_init 495 = .ok (.bipush 15, 2) := by decide +kernel
theorem dX11_init_497 : decode cX11_init 497 = .ok (.iconst 0, 1) := by decide +kernel
theorem dX11_init_498 : decode cX11_init 498 = .ok (.iastore, 1) := by decide +kernel
theorem dX11_init_499 : decode cX11_init 499 = .ok (.dup, 1) := by decide +kernel
theorem dX11_init_500 : decode cX11_init 500 = .ok (.bipush 16, 2) := by decide +kernel
theorem dX11_init_502 : decode cX11_init 502 = .ok (.iconst 0, 1) := by decide +kernel
theorem dX11_init_503 : decode cX11_init 503 = .ok (.iastore, 1) := by decide +kernel
theorem dX11_init_504 : decode cX11_init 504 = .ok (.dup, 1) := by decide +kernel
theorem dX11_init_505 : decode cX11_init 505 = .ok (.bipush 17, 2) := by decide +kernel
theorem dX11_init_507 : decode cX11_init 507 = .ok (.iconst 0, 1) := by decide +kernel
theorem dX11_init_508 : decode cX11_init 508 = .ok (.iastore, 1) := by decide +kernel
theorem dX11_init_509 : decode cX11_init 509 = .ok (.dup, 1) := by decide +kernel
theorem dX11_init_510 : decode cX11_init 510 = .ok (.bipush 18, 2) := by decide +kernel
theorem dX11_init_512 : decode cX11_init 512 = .ok (.iconst 0, 1) := by decide +kernel
theorem dX11_init_513 : decode cX11_init 513 = .ok (.iastore, 1) := by decide +kernel
theorem dX11_init_514 : decode cX11_init 514 = .ok (.dup, 1) := by decide +kernel
theorem dX11_init_515 : decode cX11_init 515 = .ok (.bipush 19, 2) := by decide +kernel
theorem dX11_init_517 : decode cX11_init 517 = .ok (.iconst 0, 1) := by decide +kernel
theorem dX11_init_518 : decode cX11_init 518 = .ok (.iastore, 1) := by decide +kernel
theorem dX11_init_519 : decode cX11_init 519 = .ok (.dup, 1) := by decide +kernel
theorem dX11_init_520 : decode cX11_init 520 = .ok (.bipush 20, 2) := by decide +kernel
theorem dX11_init_522 : decode cX11_init 522 = .ok (.iconst 0, 1) := by decide +kernel
theorem dX11_init_523 : decode cX11_init 523 = .ok (.iastore, 1) := by decide +kernel
theorem dX11_init_524 : decode cX11_init 524 = .ok (.dup, 1) := by decide +kernel
theorem dX11_init_525 : decode cX11_init 525 = .ok (.bipush 21, 2) := by decide +kernel
theorem dX11_init_527 : decode cX11_init 527 = .ok (.iconst 0, 1) := by decide +kernel
theorem dX11_init_528 : decode cX11_init 528 = .ok (.iastore, 1) := by decide +kernel
theorem dX11_init_529 : decode cX11_init 529 = .ok (.dup, 1) := by decide +kernel
theorem dX11_init_530 : decode cX11_init 530 = .ok (.bipush 22, 2) := by decide +kernel
theorem dX11_init_532 : decode cX11_init 532 = .ok (.iconst 0, 1) := by decide +kernel
theorem dX11_init_533 : decode cX11_init 533 = .ok (.iastore, 1) := by decide +kernel
theorem dX11_init_534 : decode cX11_init 534 = .ok (.dup, 1) := by decide +kernel
theorem dX11_init_535 : decode cX11_init 535 = .ok (.bipush 23, 2) := by decide +kernel
theorem dX11_init_537 : decode cX11_init 537 = .ok (.iconst 0, 1) := by decide +kernel
theorem dX11_init_538 : decode cX11_init 538 = .ok (.iastore, 1) := by decide +kernel
theorem dX11_init_539 : decode cX11_init 539 = .ok (.dup, 1) := by decide +kernel
theorem dX11_init_540 : decode cX11_init 540 = .ok (.bipush 24, 2) := by decide +kernel
theorem dX11_init_542 : decode cX11_init 542 = .ok (.iconst 0, 1) := by decide +kernel
theorem dX11_init_543 : decode cX11_init 543 = .ok (.iastore, 1) := by decide +kernel
theorem dX11_init_544 : decode cX11_init 544 = .ok (.dup, 1) := by decide +kernel
theorem dX11_init_545 : decode cX11_init 545 = .ok (.bipush 25, 2) := by decide +kernel
theorem dX11_init_547 : decode cX11_init 547 = .ok (.iconst 0, 1) := by decide +kernel
theorem dX11_init_548 : decode cX11_init 548 = .ok (.iastore, 1) := by decide +kernel
theorem dX11_init_549 : decode cX11_init 549 = .ok (.dup, 1) := by decide +kernel
theorem dX11_init_550 : decode cX11_init 550 = .ok (.bipush 26, 2) := by decide +kernel
theorem dX11_init_552 : decode cX11_init 552 = .ok (.iconst 0, 1) := by decide +kernel
theorem dX11_init_553 : decode cX11_init 553 = .ok (.iastore, 1) := by decide +kernel
theorem dX11_init_554 : decode cX11_init 554 = .ok (.dup, 1) := by decide +kernel
theorem dX11_init_555 : decode cX11_init 555 = .ok (.bipush 27, 2) := by decide +kernel
theorem dX11_init_557 : decode cX11_init 557 = .ok (.iconst 0, 1) := by decide +kernel
theorem dX11_init_558 : decode cX11_init 558 = .ok (.iastore, 1) := by decide +kernel
theorem dX11_init_559 : decode cX11_init 559 = .ok (.dup, 1) := by decide +kernel
theorem dX11_init_560 : decode cX11_init 560 = .ok (.bipush 28, 2) := by decide +kernel
theorem dX11_init_562 : decode cX11_init 562 = .ok (.iconst 0, 1) := by decide +kernel
theorem dX11_init_563 : decode cX11_init 563 = .ok (.iastore, 1) := by decide +kernel
theorem dX11_init_564 : decode cX11_init 564 = .ok (.dup, 1) := by decide +kernel
theorem dX11_init_565 : decode cX11_init 565 = .ok (.bipush 29, 2) := by decide +kernel
theorem dX11_init_567 : decode cX11_init 567 = .ok (.iconst 0, 1) := by decide +kernel
theorem dX11_init_568 : decode cX11_init 568 = .ok (.iastore, 1) := by decide +kernel
theorem dX11_init_569 : decode cX11_init 569 = .ok (.putfield 22, 3) := by decide +kernel
theorem dX11_init_572 : decode cX11_init 572 = .ok (.aload_n 0, 1) := by decide +kernel
theorem dX11_init_573 : decode cX11_init 573 = .ok (.bipush 10, 2) := by decide +kernel
theorem dX11_init_575 : decode cX11_init 575 = .ok (.newarray .int, 2) := by decide +kernel
theorem dX11_init_577 : decode cX11_init 577 = .ok (.putfield 25, 3) := by decide +kernel
theorem dX11_init_580 : decode cX11_init 580 = .ok (.aload_n 0, 1) := by decide +kernel
theorem dX11_init_581 : decode cX11_init 581 = .ok (.bipush 64, 2) := by decide +kernel
theorem dX11_init_583 : decode cX11_init 583 = .ok (.newarray .int, 2) := by decide +kernel
theorem dX11_init_585 : decode cX11_init 585 = .ok (.putfield 28, 3) := by decide +kernel
theorem dX11_init_588 : decode cX11_init 588 = .ok (.aload_n 0, 1) := by decide +kernel
theorem dX11_init_589 : decode cX11_init 589 = .ok (.sipush 660, 3) := by decide +kernel
theorem dX11_init_592 : decode cX11_init 592 = .ok (.newarray .int, 2) := by decide +kernel
theorem dX11_init_594 : decode cX11_init 594 = .ok (.putfield 31, 3) := by decide +kernel
theorem dX11_init_597 : decode cX11_init 597 = .ok (.aload_n 0, 1) := by decide +kernel
theorem dX11_init_598 : decode cX11_init 598 = .ok (.bipush 100, 2) := by decide +kernel
theorem dX11_init_600 : decode cX11_init 600 = .ok (.newarray .int, 2) := by decide +kernel
theorem dX11_init_602 : decode cX11_init 602 = .ok (.putfield 34, 3) := by decide +kernel
theorem dX11_init_605 : decode cX11_init 605 = .ok (.aload_n 0, 1) := by decide +kernel
theorem dX11_init_606 : decode cX11_init 606 = .ok (.sipush 11264, 3) := by decide +kernel
theorem dX11_init_609 : decode cX11_init 609 = .ok (.newarray .int, 2) := by decide +kernel
theorem dX11_init_611 : decode cX11_init 611 = .ok (.putfield 37, 3) := by decide +kernel
theorem dX11_init_614 : decode cX11_init 614 = .ok (.aload_n 0, 1) := by decide +kernel
theorem dX11_init_615 : decode cX11_init 615 = .ok (.sipush 11264, 3) := by decide +kernel
theorem dX11_init_618 : decode cX11_init 618 = .ok (.newarray .long, 2) := by decide +kernel
theorem dX11_init_620 : decode cX11_init 620 = .ok (.putfield 40, 3) := by decide +kernel
theorem dX11_init_623 : decode cX11_init 623 = .ok (.aload_n 0, 1) := by decide +kernel
theorem dX11_init_624 : decode cX11_init 624 = .ok (.sipush 11264, 3) := by decide +kernel
theorem dX11_init_627 : decode cX11_init 627 = .ok (.newarray .long, 2) := by decide +kernel
theorem dX11_init_629 : decode cX11_init 629 = .ok (.putfield 44, 3) := by decide +kernel
theorem dX11_init_632 : decode cX11_init 632 = .ok (.aload_n 0, 1) := by decide +kernel
theorem dX11_init_633 : decode cX11_init 633 = .ok (.sipush 11264, 3) := by decide +kernel
theorem dX11_init_636 : decode cX11_init 636 = .ok (.newarray .int, 2) := by decide +kernel
theorem dX11_init_638 : decode cX11_init 638 = .ok (.putfield 47, 3) := by decide +kernel
theorem dX11_init_641 : decode cX11_init 641 = .ok (.aload_n 0, 1) := by decide +kernel
theorem dX11_init_642 : decode cX11_init 642 = .ok (.sipush 11264, 3) := by decide +kernel
theorem dX11_init_645 : decode cX11_init 645 = .ok (.newarray .int, 2) := by decide +kernel
theorem dX11_init_647 : decode cX11_init 647 = .ok (.putfield 50, 3) := by decide +kernel
theorem dX11_init_650 : decode cX11_init 650 = .ok (.aload_n 0, 1) := by decide +kernel
theorem dX11_init_651 : decode cX11_init 651 = .ok (.bipush 10, 2) := by decide +kernel
theorem dX11_init_653 : decode cX11_init 653 = .ok (.newarray .int, 2) := by decide +kernel
theorem dX11_init_655 : decode cX11_init 655 = .ok (.putfield 53, 3) := by decide +kernel
theorem dX11_init_658 : decode cX11_init 658 = .ok (.aload_n 0, 1) := by decide +kernel
theorem dX11_init_659 : decode cX11_init 659 = .ok (.bipush 10, 2) := by decide +kernel
theorem dX11_init_661 : decode cX11_init 661 = .ok (.newarray .int, 2) := by decide +kernel
theorem dX11_init_663 : decode cX11_init 663 = .ok (.putfield 56, 3) := by decide +kernel
theorem dX11_init_666 : decode cX11_init 666 = .ok (.aload_n 0, 1) := by decide +kernel
theorem dX11_init_667 : decode cX11_init 667 = .ok (.sipush 1024, 3) := by decide +kernel
theorem dX11_init_670 : decode cX11_init 670 = .ok (.newarray .long, 2) := by decide +kernel
theorem dX11_init_672 : decode cX11_init 672 = .ok (.putfield 59, 3) := by decide +kernel
theorem dX11_init_675 : decode cX11_init 675 = .ok (.aload_n 0, 1) := by decide +kernel
theorem dX11_init_676 : decode cX11_init 676 = .ok (.sipush 1024, 3) := by decide +kernel
theorem dX11_init_679 : decode cX11_init 679 = .ok (.newarray .int, 2) := by decide +kernel
theorem dX11_init_681 : decode cX11_init 681 = .ok (.putfield 62, 3) := by decide +kernel
theorem dX11_init_684 : decode cX11_init 684 = .ok (.aload_n 0, 1) := by decide +kernel
theorem dX11_init_685 : decode cX11_init 685 = .ok (.sipush 1024, 3) := by decide +kernel
theorem dX11_init_688 : decode cX11_init 688 = .ok (.newarray .boolean, 2) := by decide +kernel
theorem dX11_init_690 : decode cX11_init 690 = .ok (.putfield 65, 3) := by decide +kernel
theorem dX11_init_693 : decode cX11_init 693 = .ok (.aload_n 0, 1) := by decide +kernel
theorem dX11_init_694 : decode cX11_init 694 = .ok (.iconst 2, 1) := by decide +kernel
theorem dX11_init_695 : decode cX11_init 695 = .ok (.newarray .boolean, 2) := by decide +kernel
theorem dX11_init_697 : decode cX11_init 697 = .ok (.putfield 69, 3) := by decide +kernel
theorem dX11_init_700 : decode cX11_init 700 = .ok (.aload_n 0, 1) := by decide +kernel
theorem dX11_init_701 : decode cX11_init 701 = .ok (.iconst 4, 1) := by decide +kernel
theorem dX11_init_702 : decode cX11_init 702 = .ok (.newarray .int, 2) := by decide +kernel
theorem dX11_init_704 : decode cX11_init 704 = .ok (.dup, 1) := by decide +kernel
theorem dX11_init_705 : decode cX11_init 705 = .ok (.iconst 0, 1) := by decide +kernel
theorem dX11_init_706 : decode cX11_init 706 = .ok (.bipush (-4), 2) := by decide +kernel
theorem dX11_init_708 : decode cX11_init 708 = .ok (.iastore, 1) := by decide +kernel
theorem dX11_init_709 : decode cX11_init 709 = .ok (.dup, 1) := by decide +kernel
theorem dX11_init_710 : decode cX11_init 710 = .ok (.iconst 1, 1) := by decide +kernel
theorem dX11_init_711 : decode cX11_init 711 = .ok (.bipush (-4), 2) := by decide +kernel
theorem dX11_init_713 : decode cX11_init 713 = .ok (.iastore, 1) := by decide +kernel
theorem dX11_init_714 : decode cX11_init 714 = .ok (.dup, 1) := by decide +kernel
theorem dX11_init_715 : decode cX11_init 715 = .ok (.iconst 2, 1) := by decide +kernel
theorem dX11_init_716 : decode cX11_init 716 = .ok (.bipush (-4), 2) := by decide +kernel
theorem dX11_init_718 : decode cX11_init 718 = .ok (.iastore, 1) := by decide +kernel
theorem dX11_init_719 : decode cX11_init 719 = .ok (.dup, 1) := by decide +kernel
theorem dX11_init_720 : decode cX11_init 720 = .ok (.iconst 3, 1) := by decide +kernel
theorem dX11_init_721 : decode cX11_init 721 = .ok (.bipush (-4), 2) := by decide +kernel
theorem dX11_init_723 : decode cX11_init 723 = .ok (.iastore, 1) := by decide +kernel
theorem dX11_init_724 : decode cX11_init 724 = .ok (.putfield 72, 3) := by decide +kernel
theorem dX11_init_727 : decode cX11_init 727 = .ok (.aload_n 0, 1) := by decide +kernel
theorem dX11_init_728 : decode cX11_init 728 = .ok (.iconst 4, 1) := by decide +kernel
theorem dX11_init_729 : decode cX11_init 729 = .ok (.newarray .int, 2) := by decide +kernel
theorem dX11_init_731 : decode cX11_init 731 = .ok (.putfield 75, 3) := by decide +kernel
theorem dX11_init_734 : decode cX11_init 734 = .ok (.aload_n 0, 1) := by decide +kernel
theorem dX11_init_735 : decode cX11_init 735 = .ok (.sipush 256, 3) := by decide +kernel
theorem dX11_init_738 : decode cX11_init 738 = .ok (.newarray .int, 2) := by decide +kernel
theorem dX11_init_740 : decode cX11_init 740 = .ok (.putfield 78, 3) := by decide +kernel
theorem dX11_init_743 : decode cX11_init 743 = .ok (.return_, 1) := by decide +kernel
theorem dX11_in_0 : decode cX11_in 0 = .ok (.lload_n 0, 1) := by decide +kernel
theorem dX11_in_1 : decode cX11_in 1 = .ok (.lload_n 2, 1) := by decide +kernel
theorem dX11_in_2 : decode cX11_in 2 = .ok (.lcmp, 1) := by decide +kernel
theorem dX11_in_3 : decode cX11_in 3 = .ok (.ifCond .lt 14, 3) := by decide +kernel
theorem dX11_in_6 : decode cX11_in 6 = .ok (.lload_n 0, 1) := by decide +kernel
theorem dX11_in_7 : decode cX11_in 7 = .ok (.lload 4, 2) := by decide +kernel
theorem dX11_in_9 : decode cX11_in 9 = .ok (.lcmp, 1) := by decide +kernel
theorem dX11_in_10 : decode cX11_in 10 = .ok (.ifCond .gt 7, 3) := by decide +kernel
theorem dX11_in_13 : decode cX11_in 13 = .ok (.iconst 1, 1) := by decide +kernel
theorem dX11_in_14 : decode cX11_in 14 = .ok (.goto 4, 3) := by decide +kernel
theorem dX11_in_17 : decode cX11_in 17 = .ok (.iconst 0, 1) := by decide +kernel
theorem dX11_in_18 : decode cX11_in 18 = .ok (.ireturn, 1) := by decide +kernel
theorem dX11_feed_0 : decode cX11_feed 0 = .ok (.aload_n 0, 1) := by decide +kernel
theorem dX11_feed_1 : decode cX11_feed 1 = .ok (.getfield 81, 3) := by decide +kernel
theorem dX11_feed_4 : decode cX11_feed 4 = .ok (.bipush 8, 2) := by decide +kernel
theorem dX11_feed_6 : decode cX11_feed 6 = .ok (.iadd, 1) := by decide +kernel
theorem dX11_feed_7 : decode cX11_feed 7 = .ok (.sipush 320, 3) := by decide +kernel
theorem dX11_feed_10 : decode cX11_feed 10 = .ok (.if_icmp .le 6, 3) := by decide +kernel
theorem dX11_feed_13 : decode cX11_feed 13 = .ok (.bipush (-3), 2) := by decide +kernel
theorem dX11_feed_15 : decode cX11_feed 15 = .ok (.ireturn, 1) := by decide +kernel
theorem dX11_feed_16 : decode cX11_feed 16 = .ok (.bipush 56, 2) := by decide +kernel
theorem dX11_feed_18 : decode cX11_feed 18 = .ok (.istore_n 3, 1) := by decide +kernel
theorem dX11_feed_19 : decode cX11_feed 19 = .ok (.iload_n 3, 1) := by decide +kernel
theorem dX11_feed_20 : decode cX11_feed 20 = .ok (.ifCond .lt 36, 3) := by decide +kernel
theorem dX11_feed_23 : decode cX11_feed 23 = .ok (.aload_n 0, 1) := by decide +kernel
theorem dX11_feed_24 : decode cX11_feed 24 = .ok (.getfield 7, 3) := by decide +kernel
theorem dX11_feed_27 : decode cX11_feed 27 = .ok (.aload_n 0, 1) := by decide +kernel
theorem dX11_feed_28 : decode cX11_feed 28 = .ok (.getfield 81, 3) := by decide +kernel
theorem dX11_feed_31 : decode cX11_feed 31 = .ok (.lload_n 1, 1) := by decide +kernel
theorem dX11_feed_32 : decode cX11_feed 32 = .ok (.iload_n 3, 1) := by decide +kernel
theorem dX11_feed_33 : decode cX11_feed 33 = .ok (.lshr, 1) := by decide +kernel
theorem dX11_feed_34 : decode cX11_feed 34 = .ok (.l2i, 1) := by decide +kernel
theorem dX11_feed_35 : decode cX11_feed 35 = .ok (.sipush 255, 3) := by decide +kernel
theorem dX11_feed_38 : decode cX11_feed 38 = .ok (.iand, 1) := by decide +kernel
theorem dX11_feed_39 : decode cX11_feed 39 = .ok (.iastore, 1) := by decide +kernel
theorem dX11_feed_40 : decode cX11_feed 40 = .ok (.aload_n 0, 1) := by decide +kernel
theorem dX11_feed_41 : decode cX11_feed 41 = .ok (.dup, 1) := by decide +kernel
theorem dX11_feed_42 : decode cX11_feed 42 = .ok (.getfield 81, 3) := by decide +kernel
theorem dX11_feed_45 : decode cX11_feed 45 = .ok (.iconst 1, 1) := by decide +kernel
theorem dX11_feed_46 : decode cX11_feed 46 = .ok (.iadd, 1) := by decide +kernel
theorem dX11_feed_47 : decode cX11_feed 47 = .ok (.putfield 81, 3) := by decide +kernel
theorem dX11_feed_50 : decode cX11_feed 50 = .ok (.iinc 3 (-8), 3) := by decide +kernel
theorem dX11_feed_53 : decode cX11_feed 53 = .ok (.goto (-34), 3) := by decide +kernel
theorem dX11_feed_56 : decode cX11_feed 56 = .ok (.aload_n 0, 1) := by decide +kernel
theorem dX11_feed_57 : decode cX11_feed 57 = .ok (.getfield 81, 3) := by decide +kernel
theorem dX11_feed_60 : decode cX11_feed 60 = .ok (.ireturn, 1) := by decide +kernel
theorem dX11_end_0 : decode cX11_end 0 = .ok (.iload_n 1, 1) := by decide +kernel
theorem dX11_end_1 : decode cX11_end 1 = .ok (.i2l, 1) := by decide +kernel
theorem dX11_end_2 : decode cX11_end 2 = .ok (.lconst 0, 1) := by decide +kernel
theorem dX11_end_3 : decode cX11_end 3 = .ok (.aload_n 0, 1) := by decide +kernel
theorem dX11_end_4 : decode cX11_end 4 = .ok (.getfield 81, 3) := by decide +kernel
theorem dX11_end_7 : decode cX11_end 7 = .ok (.i2l, 1) := by decide +kernel
theorem dX11_end_8 : decode cX11_end 8 = .ok (.invokestatic 85, 3) := by decide +kernel
theorem dX11_end_11 : decode cX11_end 11 = .ok (.ifCond .ne 5, 3) := by decide +kernel
theorem dX11_end_14 : decode cX11_end 14 = .ok (.iconst (-1), 1) := by decide +kernel
theorem dX11_end_15 : decode cX11_end 15 = .ok (.ireturn, 1) := by decide +kernel
theorem dX11_end_16 : decode cX11_end 16 = .ok (.aload_n 0, 1) := by decide +kernel
theorem dX11_end_17 : decode cX11_end 17 = .ok (.getfield 81, 3) := by decide +kernel
theorem dX11_end_20 : decode cX11_end 20 = .ok (.istore_n 2, 1) := by decide +kernel
theorem dX11_end_21 : decode cX11_end 21 = .ok (.aload_n 0, 1) := by decide +kernel
theorem dX11_end_22 : decode cX11_end 22 = .ok (.iload_n 1, 1) := by decide +kernel
theorem dX11_end_23 : decode cX11_end 23 = .ok (.putfield 81, 3) := by decide +kernel
theorem dX11_end_26 : decode cX11_end 26 = .ok (.iload_n 2, 1) := by decide +kernel
theorem dX11_end_27 : decode cX11_end 27 = .ok (.ireturn, 1) := by decide +kernel
theorem dX11_byteAt_0 : decode cX11_byteAt 0 = .ok (.iload_n 1, 1) := by decide +kernel
theorem dX11_byteAt_1 : decode cX11_byteAt 1 = .ok (.aload_n 0, 1) := by decide +kernel
theorem dX11_byteAt_2 : decode cX11_byteAt 2 = .ok (.getfield 81, 3) := by decide +kernel
theorem dX11_byteAt_5 : decode cX11_byteAt 5 = .ok (.if_icmp .ge 12, 3) := by decide +kernel
theorem dX11_byteAt_8 : decode cX11_byteAt 8 = .ok (.aload_n 0, 1) := by decide +kernel
theorem dX11_byteAt_9 : decode cX11_byteAt 9 = .ok (.getfield 7, 3) := by decide +kernel
theorem dX11_byteAt_12 : decode cX11_byteAt 12 = .ok (.iload_n 1, 1) := by decide +kernel
theorem dX11_byteAt_13 : decode cX11_byteAt 13 = .ok (.iaload, 1) := by decide +kernel
theorem dX11_byteAt_14 : decode cX11_byteAt 14 = .ok (.goto 5, 3) := by decide +kernel
theorem dX11_byteAt_17 : decode cX11_byteAt 17 = .ok (.bipush (-4), 2) := by decide +kernel
theorem dX11_byteAt_19 : decode cX11_byteAt 19 = .ok (.ireturn, 1) := by decide +kernel
theorem dX11_fails_0 : decode cX11_fails 0 = .ok (.aload_n 0, 1) := by decide +kernel
theorem dX11_fails_1 : decode cX11_fails 1 = .ok (.getfield 89, 3) := by decide +kernel
theorem dX11_fails_4 : decode cX11_fails 4 = .ok (.ifCond .ne 16, 3) := by decide +kernel
theorem dX11_fails_7 : decode cX11_fails 7 = .ok (.aload_n 0, 1) := by decide +kernel
theorem dX11_fails_8 : decode cX11_fails 8 = .ok (.iload_n 1, 1) := by decide +kernel
theorem dX11_fails_9 : decode cX11_fails 9 = .ok (.putfield 89, 3) := by decide +kernel
theorem dX11_fails_12 : decode cX11_fails 12 = .ok (.aload_n 0, 1) := by decide +kernel
theorem dX11_fails_13 : decode cX11_fails 13 = .ok (.aload_n 0, 1) := by decide +kernel
theorem dX11_fails_14 : decode cX11_fails 14 = .ok (.getfield 92, 3) := by decide +kernel
theorem dX11_fails_17 : decode cX11_fails 17 = .ok (.putfield 95, 3) := by decide +kernel
theorem dX11_fails_20 : decode cX11_fails 20 = .ok (.return_, 1) := by decide +kernel
theorem dX11_itemName_0 : decode cX11_itemName 0 = .ok (.iconst 0, 1) := by decide +kernel
theorem dX11_itemName_1 : decode cX11_itemName 1 = .ok (.istore_n 1, 1) := by decide +kernel
theorem dX11_itemName_2 : decode cX11_itemName 2 = .ok (.iload_n 1, 1) := by decide +kernel
theorem dX11_itemName_3 : decode cX11_itemName 3 = .ok (.bipush 9, 2) := by decide +kernel
theorem dX11_itemName_5 : decode cX11_itemName 5 = .ok (.if_icmp .ge 105, 3) := by decide +kernel
theorem dX11_itemName_8 : decode cX11_itemName 8 = .ok (.aload_n 0, 1) := by decide +kernel
theorem dX11_itemName_9 : decode cX11_itemName 9 = .ok (.getfield 98, 3) := by decide +kernel
theorem dX11_itemName_12 : decode cX11_itemName 12 = .ok (.aload_n 0, 1) := by decide +kernel
theorem dX11_itemName_13 : decode cX11_itemName 13 = .ok (.getfield 92, 3) := by decide +kernel
theorem dX11_itemName_16 : decode cX11_itemName 16 = .ok (.isub, 1) := by decide +kernel
theorem dX11_itemName_17 : decode cX11_itemName 17 = .ok (.aload_n 0, 1) := by decide +kernel
theorem dX11_itemName_18 : decode cX11_itemName 18 = .ok (.getfield 13, 3) := by decide +kernel
theorem dX11_itemName_21 : decode cX11_itemName 21 = .ok (.iload_n 1, 1) := by decide +kernel
theorem dX11_itemName_22 : decode cX11_itemName 22 = .ok (.iconst 1, 1) := by decide +kernel
theorem dX11_itemName_23 : decode cX11_itemName 23 = .ok (.iadd, 1) := by decide +kernel
theorem dX11_itemName_24 : decode cX11_itemName 24 = .ok (.iaload, 1) := by decide +kernel
theorem dX11_itemName_25 : decode cX11_itemName 25 = .ok (.aload_n 0, 1) := by decide +kernel
theorem dX11_itemName_26 : decode cX11_itemName 26 = .ok (.getfield 13, 3) := by decide +kernel
theorem dX11_itemName_29 : decode cX11_itemName 29 = .ok (.iload_n 1, 1) := by decide +kernel
theorem dX11_itemName_30 : decode cX11_itemName 30 = .ok (.iaload, 1) := by decide +kernel
theorem dX11_itemName_31 : decode cX11_itemName 31 = .ok (.isub, 1) := by decide +kernel
theorem dX11_itemName_32 : decode cX11_itemName 32 = .ok (.if_icmp .ne 7, 3) := by decide +kernel
theorem dX11_itemName_35 : decode cX11_itemName 35 = .ok (.iconst 1, 1) := by decide +kernel
theorem dX11_itemName_36 : decode cX11_itemName 36 = .ok (.goto 4, 3) := by decide +kernel
theorem dX11_itemName_39 : decode cX11_itemName 39 = .ok (.iconst 0, 1) := by decide +kernel
theorem dX11_itemName_40 : decode cX11_itemName 40 = .ok (.istore_n 2, 1) := by decide +kernel
theorem dX11_itemName_41 : decode cX11_itemName 41 = .ok (.iconst 0, 1) := by decide +kernel
theorem dX11_itemName_42 : decode cX11_itemName 42 = .ok (.istore_n 3, 1) := by decide +kernel
theorem dX11_itemName_43 : decode cX11_itemName 43 = .ok (.iload_n 2, 1) := by decide +kernel
theorem dX11_itemName_44 : decode cX11_itemName 44 = .ok (.ifCond .eq 54, 3) := by decide +kernel
theorem dX11_itemName_47 : decode cX11_itemName 47 = .ok (.iload_n 3, 1) := by decide +kernel
theorem dX11_itemName_48 : decode cX11_itemName 48 = .ok (.aload_n 0, 1) := by decide +kernel
theorem dX11_itemName_49 : decode cX11_itemName 49 = .ok (.getfield 98, 3) := by decide +kernel
theorem dX11_itemName_52 : decode cX11_itemName 52 = .ok (.aload_n 0, 1) := by decide +kernel
theorem dX11_itemName_53 : decode cX11_itemName 53 = .ok (.getfield 92, 3) := by decide +kernel
theorem dX11_itemName_56 : decode cX11_itemName 56 = .ok (.isub, 1) := by decide +kernel
theorem dX11_itemName_57 : decode cX11_itemName 57 = .ok (.if_icmp .ge 41, 3) := by decide +kernel
theorem dX11_itemName_60 : decode cX11_itemName 60 = .ok (.aload_n 0, 1) := by decide +kernel
theorem dX11_itemName_61 : decode cX11_itemName 61 = .ok (.aload_n 0, 1) := by decide +kernel
theorem dX11_itemName_62 : decode cX11_itemName 62 = .ok (.getfield 92, 3) := by decide +kernel
theorem dX11_itemName_65 : decode cX11_itemName 65 = .ok (.iload_n 3, 1) := by decide +kernel
theorem dX11_itemName_66 : decode cX11_itemName 66 = .ok (.iadd, 1) := by decide +kernel
theorem dX11_itemName_67 : decode cX11_itemName 67 = .ok (.invokevirtual 101, 3) := by decide +kernel
theorem dX11_itemName_70 : decode cX11_itemName 70 = .ok (.aload_n 0, 1) := by decide +kernel
theorem dX11_itemName_71 : decode cX11_itemName 71 = .ok (.getfield 16, 3) := by decide +kernel
theorem dX11_itemName_74 : decode cX11_itemName 74 = .ok (.aload_n 0, 1) := by decide +kernel
theorem dX11_itemName_75 : decode cX11_itemName 75 = .ok (.getfield 13, 3) := by decide +kernel
theorem dX11_itemName_78 : decode cX11_itemName 78 = .ok (.iload_n 1, 1) := by decide +kernel
theorem dX11_itemName_79 : decode cX11_itemName 79 = .ok (.iaload, 1) := by decide +kernel
theorem dX11_itemName_80 : decode cX11_itemName 80 = .ok (.iload_n 3, 1) := by decide +kernel
theorem dX11_itemName_81 : decode cX11_itemName 81 = .ok (.iadd, 1) := by decide +kernel
theorem dX11_itemName_82 : decode cX11_itemName 82 = .ok (.iaload, 1) := by decide +kernel
theorem dX11_itemName_83 : decode cX11_itemName 83 = .ok (.if_icmp .ne 7, 3) := by decide +kernel
theorem dX11_itemName_86 : decode cX11_itemName 86 = .ok (.iconst 1, 1) := by decide +kernel
theorem dX11_itemName_87 : decode cX11_itemName 87 = .ok (.goto 4, 3) := by decide +kernel
theorem dX11_itemName_90 : decode cX11_itemName 90 = .ok (.iconst 0, 1) := by decide +kernel
theorem dX11_itemName_91 : decode cX11_itemName 91 = .ok (.istore_n 2, 1) := by decide +kernel
theorem dX11_itemName_92 : decode cX11_itemName 92 = .ok (.iinc 3 1, 3) := by decide +kernel
theorem dX11_itemName_95 : decode cX11_itemName 95 = .ok (.goto (-52), 3) := by decide +kernel
theorem dX11_itemName_98 : decode cX11_itemName 98 = .ok (.iload_n 2, 1) := by decide +kernel
theorem dX11_itemName_99 : decode cX11_itemName 99 = .ok (.ifCond .eq 5, 3) := by decide +kernel
theorem dX11_itemName_102 : decode cX11_itemName 102 = .ok (.iload_n 1, 1) := by decide +kernel
theorem dX11_itemName_103 : decode cX11_itemName 103 = .ok (.ireturn, 1) := by decide +kernel
theorem dX11_itemName_104 : decode cX11_itemName 104 = .ok (.iinc 1 1, 3) := by decide +kernel
theorem dX11_itemName_107 : decode cX11_itemName 107 = .ok (.goto (-105), 3) := by decide +kernel
theorem dX11_itemName_110 : decode cX11_itemName 110 = .ok (.bipush (-4), 2) := by decide +kernel
theorem dX11_itemName_112 : decode cX11_itemName 112 = .ok (.ireturn, 1) := by decide +kernel
theorem dX11_next_0 : decode cX11_next 0 = .ok (.aload_n 0, 1) := by decide +kernel
theorem dX11_next_1 : decode cX11_next 1 = .ok (.getfield 89, 3) := by decide +kernel
theorem dX11_next_4 : decode cX11_next 4 = .ok (.ifCond .le 4, 3) := by decide +kernel
theorem dX11_next_7 : decode cX11_next 7 = .ok (.return_, 1) := by decide +kernel
theorem dX11_next_8 : decode cX11_next 8 = .ok (.aload_n 0, 1) := by decide +kernel
theorem dX11_next_9 : decode cX11_next 9 = .ok (.aload_n 0, 1) := by decide +kernel
theorem dX11_next_10 : decode cX11_next 10 = .ok (.getfield 98, 3) := by decide +kernel
theorem dX11_next_13 : decode cX11_next 13 = .ok (.invokevirtual 101, 3) := by decide +kernel
theorem dX11_next_16 : decode cX11_next 16 = .ok (.bipush 32, 2) := by decide +kernel
theorem dX11_next_18 : decode cX11_next 18 = .ok (.if_icmp .ne 16, 3) := by decide +kernel
theorem dX11_next_21 : decode cX11_next 21 = .ok (.aload_n 0, 1) := by decide +kernel
theorem dX11_next_22 : decode cX11_next 22 = .ok (.dup, 1) := by decide +kernel
theorem dX11_next_23 : decode cX11_next 23 = .ok (.getfield 98, 3) := by decide +kernel
theorem dX11_next_26 : decode cX11_next 26 = .ok (.iconst 1, 1) := by decide +kernel
theorem dX11_next_27 : decode cX11_next 27 = .ok (.iadd, 1) := by decide +kernel
theorem dX11_next_28 : decode cX11_next 28 = .ok (.putfield 98, 3) := by decide +kernel
theorem dX11_next_31 : decode cX11_next 31 = .ok (.goto (-23), 3) := by decide +kernel
theorem dX11_next_34 : decode cX11_next 34 = .ok (.aload_n 0, 1) := by decide +kernel
theorem dX11_next_35 : decode cX11_next 35 = .ok (.aload_n 0, 1) := by decide +kernel
theorem dX11_next_36 : decode cX11_next 36 = .ok (.getfield 98, 3) := by decide +kernel
theorem dX11_next_39 : decode cX11_next 39 = .ok (.putfield 92, 3) := by decide +kernel
theorem dX11_next_42 : decode cX11_next 42 = .ok (.aload_n 0, 1) := by decide +kernel
theorem dX11_next_43 : decode cX11_next 43 = .ok (.aload_n 0, 1) := by decide +kernel
theorem dX11_next_44 : decode cX11_next 44 = .ok (.getfield 98, 3) := by decide +kernel
theorem dX11_next_47 : decode cX11_next 47 = .ok (.invokevirtual 101, 3) := by decide +kernel
theorem dX11_next_50 : decode cX11_next 50 = .ok (.istore_n 1, 1) := by decide +kernel
theorem dX11_next_51 : decode cX11_next 51 = .ok (.aload_n 0, 1) := by decide +kernel
theorem dX11_next_52 : decode cX11_next 52 = .ok (.iconst 0, 1) := by decide +kernel
theorem dX11_next_53 : decode cX11_next 53 = .ok (.putfield 105, 3) := by decide +kernel
theorem dX11_next_56 : decode cX11_next 56 = .ok (.iload_n 1, 1) := by decide +kernel
theorem dX11_next_57 : decode cX11_next 57 = .ok (.bipush (-4), 2) := by decide +kernel
theorem dX11_next_59 : decode cX11_next 59 = .ok (.if_icmp .ne 11, 3) := by decide +kernel
theorem dX11_next_62 : decode cX11_next 62 = .ok (.aload_n 0, 1) := by decide +kernel
theorem dX11_next_63 : decode cX11_next 63 = .ok (.iconst 0, 1) := by decide +kernel
theorem dX11_next_64 : decode cX11_next 64 = .ok (.putfield 108, 3) := by decide +kernel
theorem dX11_next_67 : decode cX11_next 67 = .ok (.goto 202, 3) := by decide +kernel
theorem dX11_next_70 : decode cX11_next 70 = .ok (.iload_n 1, 1) := by decide +kernel
theorem dX11_next_71 : decode cX11_next 71 = .ok (.i2l, 1) := by decide +kernel
theorem dX11_next_72 : decode cX11_next 72 = .ok (.ldc2_w 111, 3) := by decide +kernel
theorem dX11_next_75 : decode cX11_next 75 = .ok (.ldc2_w 113, 3) := by decide +kernel
theorem dX11_next_78 : decode cX11_next 78 = .ok (.invokestatic 85, 3) := by decide +kernel
theorem dX11_next_81 : decode cX11_next 81 = .ok (.ifCond .eq 45, 3) := by decide +kernel
theorem dX11_next_84 : decode cX11_next 84 = .ok (.aload_n 0, 1) := by decide +kernel
theorem dX11_next_85 : decode cX11_next 85 = .ok (.aload_n 0, 1) := by decide +kernel
theorem dX11_next_86 : decode cX11_next 86 = .ok (.getfield 98, 3) := by decide +kernel
theorem dX11_next_89 : decode cX11_next 89 = .ok (.invokevirtual 101, 3) := by decide +kernel
theorem dX11_next_92 : decode cX11_next 92 = .ok (.i2l, 1) := by decide +kernel
theorem dX11_next_93 : decode cX11_next 93 = .ok (.ldc2_w 111, 3) := by decide +kernel
theorem dX11_next_96 : decode cX11_next 96 = .ok (.ldc2_w 113, 3) := by decide +kernel
theorem dX11_next_99 : decode cX11_next 99 = .ok (.invokestatic 85, 3) := by decide +kernel
theorem dX11_next_102 : decode cX11_next 102 = .ok (.ifCond .eq 16, 3) := by decide +kernel
theorem dX11_next_105 : decode cX11_next 105 = .ok (.aload_n 0, 1) := by decide +kernel
theorem dX11_next_106 : decode cX11_next 106 = .ok (.dup, 1) := by decide +kernel
theorem dX11_next_107 : decode cX11_next 107 = .ok (.getfield 98, 3) := by decide +kernel
theorem dX11_next_110 : decode cX11_next 110 = .ok (.iconst 1, 1) := by decide +kernel
theorem dX11_next_111 : decode cX11_next 111 = .ok (.iadd, 1) := by decide +kernel
theorem dX11_next_112 : decode cX11_next 112 = .ok (.putfield 98, 3) := by decide +kernel
theorem dX11_next_115 : decode cX11_next 115 = .ok (.goto (-31), 3) := by decide +kernel
theorem dX11_next_118 : decode cX11_next 118 = .ok (.aload_n 0, 1) := by decide +kernel
theorem dX11_next_119 : decode cX11_next 119 = .ok (.iconst 1, 1) := by decide +kernel
theorem dX11_next_120 : decode cX11_next 120 = .ok (.putfield 108, 3) := by decide +kernel
theorem dX11_next_123 : decode cX11_next 123 = .ok (.goto 146, 3) := by decide +kernel
theorem dX11_next_126 : decode cX11_next 126 = .ok (.iload_n 1, 1) := by decide +kernel
theorem dX11_next_127 : decode cX11_next 127 = .ok (.i2l, 1) := by decide +kernel
theorem dX11_next_128 : decode cX11_next 128 = .ok (.ldc2_w 115, 3) := by decide +kernel
theorem dX11_next_131 : decode cX11_next 131 = .ok (.ldc2_w 117, 3) := by decide +kernel
theorem dX11_next_134 : decode cX11_next 134 = .ok (.invokestatic 85, 3) := by decide +kernel
theorem dX11_next_137 : decode cX11_next 137 = .ok (.ifCond .eq 106, 3) := by decide +kernel
theorem dX11_next_140 : decode cX11_next 140 = .ok (.aload_n 0, 1) := by decide +kernel
theorem dX11_next_141 : decode cX11_next 141 = .ok (.aload_n 0, 1) := by decide +kernel
theorem dX11_next_142 : decode cX11_next 142 = .ok (.getfield 98, 3) := by decide +kernel
theorem dX11_next_145 : decode cX11_next 145 = .ok (.invokevirtual 101, 3) := by decide +kernel
theorem dX11_next_148 : decode cX11_next 148 = .ok (.i2l, 1) := by decide +kernel
theorem dX11_next_149 : decode cX11_next 149 = .ok (.ldc2_w 115, 3) := by decide +kernel
theorem dX11_next_152 : decode cX11_next 152 = .ok (.ldc2_w 117, 3) := by decide +kernel
theorem dX11_next_155 : decode cX11_next 155 = .ok (.invokestatic 85, 3) := by decide +kernel
theorem dX11_next_158 : decode cX11_next 158 = .ok (.ifCond .eq 59, 3) := by decide +kernel
theorem dX11_next_161 : decode cX11_next 161 = .ok (.aload_n 0, 1) := by decide +kernel
theorem dX11_next_162 : decode cX11_next 162 = .ok (.aload_n 0, 1) := by decide +kernel
theorem dX11_next_163 : decode cX11_next 163 = .ok (.getfield 98, 3) := by decide +kernel
theorem dX11_next_166 : decode cX11_next 166 = .ok (.aload_n 0, 1) := by decide +kernel
theorem dX11_next_167 : decode cX11_next 167 = .ok (.getfield 92, 3) := by decide +kernel
theorem dX11_next_170 : decode cX11_next 170 = .ok (.isub, 1) := by decide +kernel
theorem dX11_next_171 : decode cX11_next 171 = .ok (.iconst 3, 1) := by decide +kernel
theorem dX11_next_172 : decode cX11_next 172 = .ok (.if_icmp .ge 25, 3) := by decide +kernel
theorem dX11_next_175 : decode cX11_next 175 = .ok (.bipush 10, 2) := by decide +kernel
theorem dX11_next_177 : decode cX11_next 177 = .ok (.aload_n 0, 1) := by decide +kernel
theorem dX11_next_178 : decode cX11_next 178 = .ok (.getfield 105, 3) := by decide +kernel
theorem dX11_next_181 : decode cX11_next 181 = .ok (.imul, 1) := by decide +kernel
theorem dX11_next_182 : decode cX11_next 182 = .ok (.aload_n 0, 1) := by decide +kernel
theorem dX11_next_183 : decode cX11_next 183 = .ok (.aload_n 0, 1) := by decide +kernel
theorem dX11_next_184 : decode cX11_next 184 = .ok (.getfield 98, 3) := by decide +kernel
theorem dX11_next_187 : decode cX11_next 187 = .ok (.invokevirtual 101, 3) := by decide +kernel
theorem dX11_next_190 : decode cX11_next 190 = .ok (.iadd, 1) := by decide +kernel
theorem dX11_next_191 : decode cX11_next 191 = .ok (.bipush 48, 2) := by decide +kernel
theorem dX11_next_193 : decode cX11_next 193 = .ok (.isub, 1) := by decide +kernel
theorem dX11_next_194 : decode cX11_next 194 = .ok (.goto 7, 3) := by decide +kernel
theorem dX11_next_197 : decode cX11_next 197 = .ok (.aload_n 0, 1) := by decide +kernel
theorem dX11_next_198 : decode cX11_next 198 = .ok (.getfield 105, 3) := by decide +kernel
theorem dX11_next_201 : decode cX11_next 201 = .ok (.putfield 105, 3) := by decide +kernel
theorem dX11_next_204 : decode cX11_next 204 = .ok (.aload_n 0, 1) := by decide +kernel
theorem dX11_next_205 : decode cX11_next 205 = .ok (.dup, 1) := by decide +kernel
theorem dX11_next_206 : decode cX11_next 206 = .ok (.getfield 98, 3) := by decide +kernel
theorem dX11_next_209 : decode cX11_next 209 = .ok (.iconst 1, 1) := by decide +kernel
theorem dX11_next_210 : decode cX11_next 210 = .ok (.iadd, 1) := by decide +kernel
theorem dX11_next_211 : decode cX11_next 211 = .ok (.putfield 98, 3) := by decide +kernel
theorem dX11_next_214 : decode cX11_next 214 = .ok (.goto (-74), 3) := by decide +kernel
theorem dX11_next_217 : decode cX11_next 217 = .ok (.aload_n 0, 1) := by decide +kernel
theorem dX11_next_218 : decode cX11_next 218 = .ok (.iconst 2, 1) := by decide +kernel
theorem dX11_next_219 : decode cX11_next 219 = .ok (.putfield 108, 3) := by decide +kernel
theorem dX11_next_222 : decode cX11_next 222 = .ok (.aload_n 0, 1) := by decide +kernel
theorem dX11_next_223 : decode cX11_next 223 = .ok (.getfield 98, 3) := by decide +kernel
theorem dX11_next_226 : decode cX11_next 226 = .ok (.aload_n 0, 1) := by decide +kernel
theorem dX11_next_227 : decode cX11_next 227 = .ok (.getfield 92, 3) := by decide +kernel
theorem dX11_next_230 : decode cX11_next 230 = .ok (.isub, 1) := by decide +kernel
theorem dX11_next_231 : decode cX11_next 231 = .ok (.iconst 3, 1) := by decide +kernel
theorem dX11_next_232 : decode cX11_next 232 = .ok (.if_icmp .le 37, 3) := by decide +kernel
theorem dX11_next_235 : decode cX11_next 235 = .ok (.aload_n 0, 1) := by decide +kernel
theorem dX11_next_236 : decode cX11_next 236 = .ok (.iconst 1, 1) := by decide +kernel
theorem dX11_next_237 : decode cX11_next 237 = .ok (.invokevirtual 119, 3) := by decide +kernel
theorem dX11_next_240 : decode cX11_next 240 = .ok (.goto 29, 3) := by decide +kernel
theorem dX11_next_243 : decode cX11_next 243 = .ok (.aload_n 0, 1) := by decide +kernel
theorem dX11_next_244 : decode cX11_next 244 = .ok (.iconst 3, 1) := by decide +kernel
theorem dX11_next_245 : decode cX11_next 245 = .ok (.putfield 108, 3) := by decide +kernel
theorem dX11_next_248 : decode cX11_next 248 = .ok (.aload_n 0, 1) := by decide +kernel
theorem dX11_next_249 : decode cX11_next 249 = .ok (.dup, 1) := by decide +kernel
theorem dX11_next_250 : decode cX11_next 250 = .ok (.getfield 98, 3) := by decide +kernel
theorem dX11_next_253 : decode cX11_next 253 = .ok (.iconst 1, 1) := by decide +kernel
theorem dX11_next_254 : decode cX11_next 254 = .ok (.iadd, 1) := by decide +kernel
theorem dX11_next_255 : decode cX11_next 255 = .ok (.putfield 98, 3) := by decide +kernel
theorem dX11_next_258 : decode cX11_next 258 = .ok (.iload_n 1, 1) := by decide +kernel
theorem dX11_next_259 : decode cX11_next 259 = .ok (.bipush 59, 2) := by decide +kernel
theorem dX11_next_261 : decode cX11_next 261 = .ok (.if_icmp .eq 8, 3) := by decide +kernel
theorem dX11_next_264 : decode cX11_next 264 = .ok (.aload_n 0, 1) := by decide +kernel
theorem dX11_next_265 : decode cX11_next 265 = .ok (.iconst 1, 1) := by decide +kernel
theorem dX11_next_266 : decode cX11_next 266 = .ok (.invokevirtual 119, 3) := by decide +kernel
theorem dX11_next_269 : decode cX11_next 269 = .ok (.return_, 1) := by decide +kernel
theorem dX11_number_0 : decode cX11_number 0 = .ok (.aload_n 0, 1) := by decide +kernel
theorem dX11_number_1 : decode cX11_number 1 = .ok (.getfield 89, 3) := by decide +kernel
theorem dX11_number_4 : decode cX11_number 4 = .ok (.ifCond .ne 16, 3) := by decide +kernel
theorem dX11_number_7 : decode cX11_number 7 = .ok (.aload_n 0, 1) := by decide +kernel
theorem dX11_number_8 : decode cX11_number 8 = .ok (.getfield 108, 3) := by decide +kernel
theorem dX11_number_11 : decode cX11_number 11 = .ok (.iconst 2, 1) := by decide +kernel
theorem dX11_number_12 : decode cX11_number 12 = .ok (.if_icmp .eq 8, 3) := by decide +kernel
theorem dX11_number_15 : decode cX11_number 15 = .ok (.aload_n 0, 1) := by decide +kernel
theorem dX11_number_16 : decode cX11_number 16 = .ok (.iconst 2, 1) := by decide +kernel
theorem dX11_number_17 : decode cX11_number 17 = .ok (.invokevirtual 119, 3) := by decide +kernel
theorem dX11_number_20 : decode cX11_number 20 = .ok (.aload_n 0, 1) := by decide +kernel
theorem dX11_number_21 : decode cX11_number 21 = .ok (.getfield 89, 3) := by decide +kernel
theorem dX11_number_24 : decode cX11_number 24 = .ok (.ifCond .ne 23, 3) := by decide +kernel
theorem dX11_number_27 : decode cX11_number 27 = .ok (.aload_n 0, 1) := by decide +kernel
theorem dX11_number_28 : decode cX11_number 28 = .ok (.getfield 105, 3) := by decide +kernel
theorem dX11_number_31 : decode cX11_number 31 = .ok (.i2l, 1) := by decide +kernel
theorem dX11_number_32 : decode cX11_number 32 = .ok (.iload_n 1, 1) := by decide +kernel
theorem dX11_number_33 : decode cX11_number 33 = .ok (.i2l, 1) := by decide +kernel
theorem dX11_number_34 : decode cX11_number 34 = .ok (.iload_n 2, 1) := by decide +kernel
theorem dX11_number_35 : decode cX11_number 35 = .ok (.i2l, 1) := by decide +kernel
theorem dX11_number_36 : decode cX11_number 36 = .ok (.invokestatic 85, 3) := by decide +kernel
theorem dX11_number_39 : decode cX11_number 39 = .ok (.ifCond .ne 8, 3) := by decide +kernel
theorem dX11_number_42 : decode cX11_number 42 = .ok (.aload_n 0, 1) := by decide +kernel
theorem dX11_number_43 : decode cX11_number 43 = .ok (.iconst 3, 1) := by decide +kernel
theorem dX11_number_44 : decode cX11_number 44 = .ok (.invokevirtual 119, 3) := by decide +kernel
theorem dX11_number_47 : decode cX11_number 47 = .ok (.aload_n 0, 1) := by decide +kernel
theorem dX11_number_48 : decode cX11_number 48 = .ok (.getfield 89, 3) := by decide +kernel
theorem dX11_number_51 : decode cX11_number 51 = .ok (.ifCond .ne 10, 3) := by decide +kernel
theorem dX11_number_54 : decode cX11_number 54 = .ok (.aload_n 0, 1) := by decide +kernel
theorem dX11_number_55 : decode cX11_number 55 = .ok (.getfield 105, 3) := by decide +kernel
theorem dX11_number_58 : decode cX11_number 58 = .ok (.goto 4, 3) := by decide +kernel
theorem dX11_number_61 : decode cX11_number 61 = .ok (.iload_n 1, 1) := by decide +kernel
theorem dX11_number_62 : decode cX11_number 62 = .ok (.istore_n 3, 1) := by decide +kernel
theorem dX11_number_63 : decode cX11_number 63 = .ok (.aload_n 0, 1) := by decide +kernel
theorem dX11_number_64 : decode cX11_number 64 = .ok (.invokevirtual 123, 3) := by decide +kernel
theorem dX11_number_67 : decode cX11_number 67 = .ok (.iload_n 3, 1) := by decide +kernel
theorem dX11_number_68 : decode cX11_number 68 = .ok (.ireturn, 1) := by decide +kernel
theorem dX11_letter_0 : decode cX11_letter 0 = .ok (.aload_n 0, 1) := by decide +kernel
theorem dX11_letter_1 : decode cX11_letter 1 = .ok (.getfield 89, 3) := by decide +kernel
theorem dX11_letter_4 : decode cX11_letter 4 = .ok (.ifCond .ne 16, 3) := by decide +kernel
theorem dX11_letter_7 : decode cX11_letter 7 = .ok (.aload_n 0, 1) := by decide +kernel
theorem dX11_letter_8 : decode cX11_letter 8 = .ok (.getfield 108, 3) := by decide +kernel
theorem dX11_letter_11 : decode cX11_letter 11 = .ok (.iconst 1, 1) := by decide +kernel
theorem dX11_letter_12 : decode cX11_letter 12 = .ok (.if_icmp .eq 8, 3) := by decide +kernel
theorem dX11_letter_15 : decode cX11_letter 15 = .ok (.aload_n 0, 1) := by decide +kernel
theorem dX11_letter_16 : decode cX11_letter 16 = .ok (.iconst 2, 1) := by decide +kernel
theorem dX11_letter_17 : decode cX11_letter 17 = .ok (.invokevirtual 119, 3) := by decide +kernel
theorem dX11_letter_20 : decode cX11_letter 20 = .ok (.aload_n 0, 1) := by decide +kernel
theorem dX11_letter_21 : decode cX11_letter 21 = .ok (.aload_n 0, 1) := by decide +kernel
theorem dX11_letter_22 : decode cX11_letter 22 = .ok (.getfield 92, 3) := by decide +kernel
theorem dX11_letter_25 : decode cX11_letter 25 = .ok (.invokevirtual 101, 3) := by decide +kernel
theorem dX11_letter_28 : decode cX11_letter 28 = .ok (.bipush 97, 2) := by decide +kernel
theorem dX11_letter_30 : decode cX11_letter 30 = .ok (.isub, 1) := by decide +kernel
theorem dX11_letter_31 : decode cX11_letter 31 = .ok (.istore_n 1, 1) := by decide +kernel
theorem dX11_letter_32 : decode cX11_letter 32 = .ok (.aload_n 0, 1) := by decide +kernel
theorem dX11_letter_33 : decode cX11_letter 33 = .ok (.getfield 89, 3) := by decide +kernel
theorem dX11_letter_36 : decode cX11_letter 36 = .ok (.ifCond .ne 33, 3) := by decide +kernel
theorem dX11_letter_39 : decode cX11_letter 39 = .ok (.aload_n 0, 1) := by decide +kernel
theorem dX11_letter_40 : decode cX11_letter 40 = .ok (.getfield 98, 3) := by decide +kernel
theorem dX11_letter_43 : decode cX11_letter 43 = .ok (.aload_n 0, 1) := by decide +kernel
theorem dX11_letter_44 : decode cX11_letter 44 = .ok (.getfield 92, 3) := by decide +kernel
theorem dX11_letter_47 : decode cX11_letter 47 = .ok (.isub, 1) := by decide +kernel
theorem dX11_letter_48 : decode cX11_letter 48 = .ok (.iconst 1, 1) := by decide +kernel
theorem dX11_letter_49 : decode cX11_letter 49 = .ok (.if_icmp .ne 15, 3) := by decide +kernel
theorem dX11_letter_52 : decode cX11_letter 52 = .ok (.iload_n 1, 1) := by decide +kernel
theorem dX11_letter_53 : decode cX11_letter 53 = .ok (.i2l, 1) := by decide +kernel
theorem dX11_letter_54 : decode cX11_letter 54 = .ok (.lconst 0, 1) := by decide +kernel
theorem dX11_letter_55 : decode cX11_letter 55 = .ok (.ldc2_w 126, 3) := by decide +kernel
theorem dX11_letter_58 : decode cX11_letter 58 = .ok (.invokestatic 85, 3) := by decide +kernel
theorem dX11_letter_61 : decode cX11_letter 61 = .ok (.ifCond .ne 8, 3) := by decide +kernel
theorem dX11_letter_64 : decode cX11_letter 64 = .ok (.aload_n 0, 1) := by decide +kernel
theorem dX11_letter_65 : decode cX11_letter 65 = .ok (.iconst 3, 1) := by decide +kernel
theorem dX11_letter_66 : decode cX11_letter 66 = .ok (.invokevirtual 119, 3) := by decide +kernel
theorem dX11_letter_69 : decode cX11_letter 69 = .ok (.aload_n 0, 1) := by decide +kernel
theorem dX11_letter_70 : decode cX11_letter 70 = .ok (.getfield 89, 3) := by decide +kernel
theorem dX11_letter_73 : decode cX11_letter 73 = .ok (.ifCond .ne 7, 3) := by decide +kernel
theorem dX11_letter_76 : decode cX11_letter 76 = .ok (.iload_n 1, 1) := by decide +kernel
theorem dX11_letter_77 : decode cX11_letter 77 = .ok (.goto 4, 3) := by decide +kernel
theorem dX11_letter_80 : decode cX11_letter 80 = .ok (.iconst 0, 1) := by decide +kernel
theorem dX11_letter_81 : decode cX11_letter 81 = .ok (.ireturn, 1) := by decide +kernel
theorem dX11_readTwo_0 : decode cX11_readTwo 0 = .ok (.aload_n 0, 1) := by decide +kernel
theorem dX11_readTwo_1 : decode cX11_readTwo 1 = .ok (.invokevirtual 128, 3) := by decide +kernel
theorem dX11_readTwo_4 : decode cX11_readTwo 4 = .ok (.istore_n 1, 1) := by decide +kernel
theorem dX11_readTwo_5 : decode cX11_readTwo 5 = .ok (.aload_n 0, 1) := by decide +kernel
theorem dX11_readTwo_6 : decode cX11_readTwo 6 = .ok (.invokevirtual 123, 3) := by decide +kernel
theorem dX11_readTwo_9 : decode cX11_readTwo 9 = .ok (.aload_n 0, 1) := by decide +kernel
theorem dX11_readTwo_10 : decode cX11_readTwo 10 = .ok (.invokevirtual 128, 3) := by decide +kernel
theorem dX11_readTwo_13 : decode cX11_readTwo 13 = .ok (.istore_n 2, 1) := by decide +kernel
theorem dX11_readTwo_14 : decode cX11_readTwo 14 = .ok (.aload_n 0, 1) := by decide +kernel
theorem dX11_readTwo_15 : decode cX11_readTwo 15 = .ok (.getfield 89, 3) := by decide +kernel
theorem dX11_readTwo_18 : decode cX11_readTwo 18 = .ok (.ifCond .ne 13, 3) := by decide +kernel
theorem dX11_readTwo_21 : decode cX11_readTwo 21 = .ok (.iload_n 1, 1) := by decide +kernel
theorem dX11_readTwo_22 : decode cX11_readTwo 22 = .ok (.iload_n 2, 1) := by decide +kernel
theorem dX11_readTwo_23 : decode cX11_readTwo 23 = .ok (.if_icmp .ne 8, 3) := by decide +kernel
theorem dX11_readTwo_26 : decode cX11_readTwo 26 = .ok (.aload_n 0, 1) := by decide +kernel
theorem dX11_readTwo_27 : decode cX11_readTwo 27 = .ok (.iconst 3, 1) := by decide +kernel
theorem dX11_readTwo_28 : decode cX11_readTwo 28 = .ok (.invokevirtual 119, 3) := by decide +kernel
theorem dX11_readTwo_31 : decode cX11_readTwo 31 = .ok (.aload_n 0, 1) := by decide +kernel
theorem dX11_readTwo_32 : decode cX11_readTwo 32 = .ok (.getfield 89, 3) := by decide +kernel
theorem dX11_readTwo_35 : decode cX11_readTwo 35 = .ok (.ifCond .ne 22, 3) := by decide +kernel
theorem dX11_readTwo_38 : decode cX11_readTwo 38 = .ok (.aload_n 0, 1) := by decide +kernel
theorem dX11_readTwo_39 : decode cX11_readTwo 39 = .ok (.getfield 28, 3) := by decide +kernel
theorem dX11_readTwo_42 : decode cX11_readTwo 42 = .ok (.bipush 8, 2) := by decide +kernel
theorem dX11_readTwo_44 : decode cX11_readTwo 44 = .ok (.iload_n 1, 1) := by decide +kernel
theorem dX11_readTwo_45 : decode cX11_readTwo 45 = .ok (.imul, 1) := by decide +kernel
theorem dX11_readTwo_46 : decode cX11_readTwo 46 = .ok (.iload_n 2, 1) := by decide +kernel
theorem dX11_readTwo_47 : decode cX11_readTwo 47 = .ok (.iadd, 1) := by decide +kernel
theorem dX11_readTwo_48 : decode cX11_readTwo 48 = .ok (.iaload, 1) := by decide +kernel
theorem dX11_readTwo_49 : decode cX11_readTwo 49 = .ok (.ifCond .le 8, 3) := by decide +kernel
theorem dX11_readTwo_52 : decode cX11_readTwo 52 = .ok (.aload_n 0, 1) := by decide +kernel
theorem dX11_readTwo_53 : decode cX11_readTwo 53 = .ok (.iconst 4, 1) := by decide +kernel
theorem dX11_readTwo_54 : decode cX11_readTwo 54 = .ok (.invokevirtual 119, 3) := by decide +kernel
theorem dX11_readTwo_57 : decode cX11_readTwo 57 = .ok (.aload_n 0, 1) := by decide +kernel
theorem dX11_readTwo_58 : decode cX11_readTwo 58 = .ok (.invokevirtual 123, 3) := by decide +kernel
theorem dX11_readTwo_61 : decode cX11_readTwo 61 = .ok (.aload_n 0, 1) := by decide +kernel
theorem dX11_readTwo_62 : decode cX11_readTwo 62 = .ok (.iconst 0, 1) := by decide +kernel
theorem dX11_readTwo_63 : decode cX11_readTwo 63 = .ok (.bipush 50, 2) := by decide +kernel
theorem dX11_readTwo_65 : decode cX11_readTwo 65 = .ok (.invokevirtual 132, 3) := by decide +kernel
theorem dX11_readTwo_68 : decode cX11_readTwo 68 = .ok (.istore_n 3, 1) := by decide +kernel
theorem dX11_readTwo_69 : decode cX11_readTwo 69 = .ok (.aload_n 0, 1) := by decide +kernel
theorem dX11_readTwo_70 : decode cX11_readTwo 70 = .ok (.getfield 89, 3) := by decide +kernel
theorem dX11_readTwo_73 : decode cX11_readTwo 73 = .ok (.ifCond .ne 17, 3) := by decide +kernel
theorem dX11_readTwo_76 : decode cX11_readTwo 76 = .ok (.aload_n 0, 1) := by decide +kernel
theorem dX11_readTwo_77 : decode cX11_readTwo 77 = .ok (.getfield 28, 3) := by decide +kernel
theorem dX11_readTwo_80 : decode cX11_readTwo 80 = .ok (.bipush 8, 2) := by decide +kernel
theorem dX11_readTwo_82 : decode cX11_readTwo 82 = .ok (.iload_n 1, 1) := by decide +kernel
theorem dX11_readTwo_83 : decode cX11_readTwo 83 = .ok (.imul, 1) := by decide +kernel
theorem dX11_readTwo_84 : decode cX11_readTwo 84 = .ok (.iload_n 2, 1) := by decide +kernel
theorem dX11_readTwo_85 : decode cX11_readTwo 85 = .ok (.iadd, 1) := by decide +kernel
theorem dX11_readTwo_86 : decode cX11_readTwo 86 = .ok (.iload_n 3, 1) := by decide +kernel
theorem dX11_readTwo_87 : decode cX11_readTwo 87 = .ok (.iconst 1, 1) := by decide +kernel
theorem dX11_readTwo_88 : decode cX11_readTwo 88 = .ok (.iadd, 1) := by decide +kernel
theorem dX11_readTwo_89 : decode cX11_readTwo 89 = .ok (.iastore, 1) := by decide +kernel
theorem dX11_readTwo_90 : decode cX11_readTwo 90 = .ok (.return_, 1) := by decide +kernel
theorem dX11_readItem_0 : decode cX11_readItem 0 = .ok (.aload_n 0, 1) := by decide +kernel
theorem dX11_readItem_1 : decode cX11_readItem 1 = .ok (.getfield 108, 3) := by decide +kernel
theorem dX11_readItem_4 : decode cX11_readItem 4 = .ok (.iconst 1, 1) := by decide +kernel
theorem dX11_readItem_5 : decode cX11_readItem 5 = .ok (.if_icmp .ne 10, 3) := by decide +kernel
theorem dX11_readItem_8 : decode cX11_readItem 8 = .ok (.aload_n 0, 1) := by decide +kernel
theorem dX11_readItem_9 : decode cX11_readItem 9 = .ok (.invokevirtual 136, 3) := by decide +kernel
theorem dX11_readItem_12 : decode cX11_readItem 12 = .ok (.goto 5, 3) := by decide +kernel
theorem dX11_readItem_15 : decode cX11_readItem 15 = .ok (.bipush (-4), 2) := by decide +kernel
theorem dX11_readItem_17 : decode cX11_readItem 17 = .ok (.istore_n 1, 1) := by decide +kernel
theorem dX11_readItem_18 : decode cX11_readItem 18 = .ok (.iload_n 1, 1) := by decide +kernel
theorem dX11_readItem_19 : decode cX11_readItem 19 = .ok (.bipush (-4), 2) := by decide +kernel
theorem dX11_readItem_21 : decode cX11_readItem 21 = .ok (.if_icmp .ne 9, 3) := by decide +kernel
theorem dX11_readItem_24 : decode cX11_readItem 24 = .ok (.aload_n 0, 1) := by decide +kernel
theorem dX11_readItem_25 : decode cX11_readItem 25 = .ok (.iconst 2, 1) := by decide +kernel
theorem dX11_readItem_26 : decode cX11_readItem 26 = .ok (.invokevirtual 119, 3) := by decide +kernel
theorem dX11_readItem_29 : decode cX11_readItem 29 = .ok (.return_, 1) := by decide +kernel
theorem dX11_readItem_30 : decode cX11_readItem 30 = .ok (.iload_n 1, 1) := by decide +kernel
theorem dX11_readItem_31 : decode cX11_readItem 31 = .ok (.bipush 7, 2) := by decide +kernel
theorem dX11_readItem_33 : decode cX11_readItem 33 = .ok (.if_icmp .le 8, 3) := by decide +kernel
theorem dX11_readItem_36 : decode cX11_readItem 36 = .ok (.bipush 7, 2) := by decide +kernel
theorem dX11_readItem_38 : decode cX11_readItem 38 = .ok (.goto 4, 3) := by decide +kernel
theorem dX11_readItem_41 : decode cX11_readItem 41 = .ok (.iload_n 1, 1) := by decide +kernel
theorem dX11_readItem_42 : decode cX11_readItem 42 = .ok (.istore_n 2, 1) := by decide +kernel
theorem dX11_readItem_43 : decode cX11_readItem 43 = .ok (.iload_n 1, 1) := by decide +kernel
theorem dX11_readItem_44 : decode cX11_readItem 44 = .ok (.iconst 1, 1) := by decide +kernel
theorem dX11_readItem_45 : decode cX11_readItem 45 = .ok (.if_icmp .eq 32, 3) := by decide +kernel
theorem dX11_readItem_48 : decode cX11_readItem 48 = .ok (.aload_n 0, 1) := by decide +kernel
theorem dX11_readItem_49 : decode cX11_readItem 49 = .ok (.getfield 139, 3) := by decide +kernel
theorem dX11_readItem_52 : decode cX11_readItem 52 = .ok (.iload_n 2, 1) := by decide +kernel
theorem dX11_readItem_53 : decode cX11_readItem 53 = .ok (.ishr, 1) := by decide +kernel
theorem dX11_readItem_54 : decode cX11_readItem 54 = .ok (.iconst 1, 1) := by decide +kernel
theorem dX11_readItem_55 : decode cX11_readItem 55 = .ok (.iand, 1) := by decide +kernel
theorem dX11_readItem_56 : decode cX11_readItem 56 = .ok (.iconst 1, 1) := by decide +kernel
theorem dX11_readItem_57 : decode cX11_readItem 57 = .ok (.if_icmp .ne 8, 3) := by decide +kernel
theorem dX11_readItem_60 : decode cX11_readItem 60 = .ok (.aload_n 0, 1) := by decide +kernel
theorem dX11_readItem_61 : decode cX11_readItem 61 = .ok (.iconst 4, 1) := by decide +kernel
theorem dX11_readItem_62 : decode cX11_readItem 62 = .ok (.invokevirtual 119, 3) := by decide +kernel
theorem dX11_readItem_65 : decode cX11_readItem 65 = .ok (.aload_n 0, 1) := by decide +kernel
theorem dX11_readItem_66 : decode cX11_readItem 66 = .ok (.dup, 1) := by decide +kernel
theorem dX11_readItem_67 : decode cX11_readItem 67 = .ok (.getfield 139, 3) := by decide +kernel
theorem dX11_readItem_70 : decode cX11_readItem 70 = .ok (.iconst 1, 1) := by decide +kernel
theorem dX11_readItem_71 : decode cX11_readItem 71 = .ok (.iload_n 2, 1) := by decide +kernel
theorem dX11_readItem_72 : decode cX11_readItem 72 = .ok (.ishl, 1) := by decide +kernel
theorem dX11_readItem_73 : decode cX11_readItem 73 = .ok (.ior, 1) := by decide +kernel
theorem dX11_readItem_74 : decode cX11_readItem 74 = .ok (.putfield 139, 3) := by decide +kernel
theorem dX11_readItem_77 : decode cX11_readItem 77 = .ok (.aload_n 0, 1) := by decide +kernel
theorem dX11_readItem_78 : decode cX11_readItem 78 = .ok (.invokevirtual 123, 3) := by decide +kernel
theorem dX11_readItem_81 : decode cX11_readItem 81 = .ok (.iload_n 1, 1) := by decide +kernel
theorem dX11_readItem_82 : decode cX11_readItem 82 = .ok (.ifCond .ne 74, 3) := by decide +kernel
theorem dX11_readItem_85 : decode cX11_readItem 85 = .ok (.aload_n 0, 1) := by decide +kernel
theorem dX11_readItem_86 : decode cX11_readItem 86 = .ok (.getfield 25, 3) := by decide +kernel
theorem dX11_readItem_89 : decode cX11_readItem 89 = .ok (.iconst 0, 1) := by decide +kernel
theorem dX11_readItem_90 : decode cX11_readItem 90 = .ok (.aload_n 0, 1) := by decide +kernel
theorem dX11_readItem_91 : decode cX11_readItem 91 = .ok (.iconst 0, 1) := by decide +kernel
theorem dX11_readItem_92 : decode cX11_readItem 92 = .ok (.sipush 500, 3) := by decide +kernel
theorem dX11_readItem_95 : decode cX11_readItem 95 = .ok (.invokevirtual 132, 3) := by decide +kernel
theorem dX11_readItem_98 : decode cX11_readItem 98 = .ok (.iastore, 1) := by decide +kernel
theorem dX11_readItem_99 : decode cX11_readItem 99 = .ok (.aload_n 0, 1) := by decide +kernel
theorem dX11_readItem_100 : decode cX11_readItem 100 = .ok (.getfield 25, 3) := by decide +kernel
theorem dX11_readItem_103 : decode cX11_readItem 103 = .ok (.iconst 1, 1) := by decide +kernel
theorem dX11_readItem_104 : decode cX11_readItem 104 = .ok (.aload_n 0, 1) := by decide +kernel
theorem dX11_readItem_105 : decode cX11_readItem 105 = .ok (.aload_n 0, 1) := by decide +kernel
theorem dX11_readItem_106 : decode cX11_readItem 106 = .ok (.getfield 25, 3) := by decide +kernel
theorem dX11_readItem_109 : decode cX11_readItem 109 = .ok (.iconst 0, 1) := by decide +kernel
theorem dX11_readItem_110 : decode cX11_readItem 110 = .ok (.iaload, 1) := by decide +kernel
theorem dX11_readItem_111 : decode cX11_readItem 111 = .ok (.sipush 500, 3) := by decide +kernel
theorem dX11_readItem_114 : decode cX11_readItem 114 = .ok (.invokevirtual 132, 3) := by decide +kernel
theorem dX11_readItem_117 : decode cX11_readItem 117 = .ok (.iastore, 1) := by decide +kernel
theorem dX11_readItem_118 : decode cX11_readItem 118 = .ok (.aload_n 0, 1) := by decide +kernel
theorem dX11_readItem_119 : decode cX11_readItem 119 = .ok (.getfield 25, 3) := by decide +kernel
theorem dX11_readItem_122 : decode cX11_readItem 122 = .ok (.iconst 2, 1) := by decide +kernel
theorem dX11_readItem_123 : decode cX11_readItem 123 = .ok (.aload_n 0, 1) := by decide +kernel
theorem dX11_readItem_124 : decode cX11_readItem 124 = .ok (.aload_n 0, 1) := by decide +kernel
theorem dX11_readItem_125 : decode cX11_readItem 125 = .ok (.getfield 25, 3) := by decide +kernel
theorem dX11_readItem_128 : decode cX11_readItem 128 = .ok (.iconst 0, 1) := by decide +kernel
theorem dX11_readItem_129 : decode cX11_readItem 129 = .ok (.iaload, 1) := by decide +kernel
theorem dX11_readItem_130 : decode cX11_readItem 130 = .ok (.aload_n 0, 1) := by decide +kernel
theorem dX11_readItem_131 : decode cX11_readItem 131 = .ok (.getfield 25, 3) := by decide +kernel
theorem dX11_readItem_134 : decode cX11_readItem 134 = .ok (.iconst 1, 1) := by decide +kernel
theorem dX11_readItem_135 : decode cX11_readItem 135 = .ok (.iaload, 1) := by decide +kernel
theorem dX11_readItem_136 : decode cX11_readItem 136 = .ok (.invokevirtual 132, 3) := by decide +kernel
theorem dX11_readItem_139 : decode cX11_readItem 139 = .ok (.iastore, 1) := by decide +kernel
theorem dX11_readItem_140 : decode cX11_readItem 140 = .ok (.aload_n 0, 1) := by decide +kernel
theorem dX11_readItem_141 : decode cX11_readItem 141 = .ok (.getfield 25, 3) := by decide +kernel
theorem dX11_readItem_144 : decode cX11_readItem 144 = .ok (.iconst 3, 1) := by decide +kernel
theorem dX11_readItem_145 : decode cX11_readItem 145 = .ok (.aload_n 0, 1) := by decide +kernel
theorem dX11_readItem_146 : decode cX11_readItem 146 = .ok (.iconst 0, 1) := by decide +kernel
theorem dX11_readItem_147 : decode cX11_readItem 147 = .ok (.bipush 9, 2) := by decide +kernel
theorem dX11_readItem_149 : decode cX11_readItem 149 = .ok (.invokevirtual 132, 3) := by decide +kernel
theorem dX11_readItem_152 : decode cX11_readItem 152 = .ok (.iastore, 1) := by decide +kernel
theorem dX11_readItem_153 : decode cX11_readItem 153 = .ok (.goto 76, 3) := by decide +kernel
theorem dX11_readItem_156 : decode cX11_readItem 156 = .ok (.iload_n 1, 1) := by decide +kernel
theorem dX11_readItem_157 : decode cX11_readItem 157 = .ok (.iconst 1, 1) := by decide +kernel
theorem dX11_readItem_158 : decode cX11_readItem 158 = .ok (.if_icmp .ne 10, 3) := by decide +kernel
theorem dX11_readItem_161 : decode cX11_readItem 161 = .ok (.aload_n 0, 1) := by decide +kernel
theorem dX11_readItem_162 : decode cX11_readItem 162 = .ok (.invokevirtual 142, 3) := by decide +kernel
theorem dX11_readItem_165 : decode cX11_readItem 165 = .ok (.goto 64, 3) := by decide +kernel
theorem dX11_readItem_168 : decode cX11_readItem 168 = .ok (.iload_n 1, 1) := by decide +kernel
theorem dX11_readItem_169 : decode cX11_readItem 169 = .ok (.bipush 7, 2) := by decide +kernel
theorem dX11_readItem_171 : decode cX11_readItem 171 = .ok (.if_icmp .ge 31, 3) := by decide +kernel
theorem dX11_readItem_174 : decode cX11_readItem 174 = .ok (.aload_n 0, 1) := by decide +kernel
theorem dX11_readItem_175 : decode cX11_readItem 175 = .ok (.getfield 25, 3) := by decide +kernel
theorem dX11_readItem_178 : decode cX11_readItem 178 = .ok (.iload_n 1, 1) := by decide +kernel
theorem dX11_readItem_179 : decode cX11_readItem 179 = .ok (.iconst 2, 1) := by decide +kernel
theorem dX11_readItem_180 : decode cX11_readItem 180 = .ok (.iadd, 1) := by decide +kernel
theorem dX11_readItem_181 : decode cX11_readItem 181 = .ok (.aload_n 0, 1) := by decide +kernel
theorem dX11_readItem_182 : decode cX11_readItem 182 = .ok (.iconst 0, 1) := by decide +kernel
theorem dX11_readItem_183 : decode cX11_readItem 183 = .ok (.iload_n 1, 1) := by decide +kernel
theorem dX11_readItem_184 : decode cX11_readItem 184 = .ok (.iconst 5, 1) := by decide +kernel
theorem dX11_readItem_185 : decode cX11_readItem 185 = .ok (.if_icmp .ge 8, 3) := by decide +kernel
theorem dX11_readItem_188 : decode cX11_readItem 188 = .ok (.bipush 50, 2) := by decide +kernel
theorem dX11_readItem_190 : decode cX11_readItem 190 = .ok (.goto 5, 3) := by decide +kernel
theorem dX11_readItem_193 : decode cX11_readItem 193 = .ok (.bipush 99, 2) := by decide +kernel
theorem dX11_readItem_195 : decode cX11_readItem 195 = .ok (.invokevirtual 132, 3) := by decide +kernel
theorem dX11_readItem_198 : decode cX11_readItem 198 = .ok (.iastore, 1) := by decide +kernel
theorem dX11_readItem_199 : decode cX11_readItem 199 = .ok (.goto 30, 3) := by decide +kernel
theorem dX11_readItem_202 : decode cX11_readItem 202 = .ok (.aload_n 0, 1) := by decide +kernel
theorem dX11_readItem_203 : decode cX11_readItem 203 = .ok (.iconst 0, 1) := by decide +kernel
theorem dX11_readItem_204 : decode cX11_readItem 204 = .ok (.bipush 99, 2) := by decide +kernel
theorem dX11_readItem_206 : decode cX11_readItem 206 = .ok (.invokevirtual 132, 3) := by decide +kernel
theorem dX11_readItem_209 : decode cX11_readItem 209 = .ok (.istore_n 3, 1) := by decide +kernel
theorem dX11_readItem_210 : decode cX11_readItem 210 = .ok (.aload_n 0, 1) := by decide +kernel
theorem dX11_readItem_211 : decode cX11_readItem 211 = .ok (.getfield 25, 3) := by decide +kernel
theorem dX11_readItem_214 : decode cX11_readItem 214 = .ok (.bipush 9, 2) := by decide +kernel
theorem dX11_readItem_216 : decode cX11_readItem 216 = .ok (.iload_n 1, 1) := by decide +kernel
theorem dX11_readItem_217 : decode cX11_readItem 217 = .ok (.bipush 7, 2) := by decide +kernel
theorem dX11_readItem_219 : decode cX11_readItem 219 = .ok (.if_icmp .ne 7, 3) := by decide +kernel
theorem dX11_readItem_222 : decode cX11_readItem 222 = .ok (.iload_n 3, 1) := by decide +kernel
theorem dX11_readItem_223 : decode cX11_readItem 223 = .ok (.goto 5, 3) := by decide +kernel
theorem dX11_readItem_226 : decode cX11_readItem 226 = .ok (.iload_n 3, 1) := by decide +kernel
theorem dX11_readItem_227 : decode cX11_readItem 227 = .ok (.ineg, 1) := by decide +kernel
theorem dX11_readItem_228 : decode cX11_readItem 228 = .ok (.iastore, 1) := by decide +kernel
theorem dX11_readItem_229 : decode cX11_readItem 229 = .ok (.aload_n 0, 1) := by decide +kernel
theorem dX11_readItem_230 : decode cX11_readItem 230 = .ok (.getfield 89, 3) := by decide +kernel
theorem dX11_readItem_233 : decode cX11_readItem 233 = .ok (.ifCond .ne 16, 3) := by decide +kernel
theorem dX11_readItem_236 : decode cX11_readItem 236 = .ok (.aload_n 0, 1) := by decide +kernel
theorem dX11_readItem_237 : decode cX11_readItem 237 = .ok (.getfield 108, 3) := by decide +kernel
theorem dX11_readItem_240 : decode cX11_readItem 240 = .ok (.iconst 3, 1) := by decide +kernel
theorem dX11_readItem_241 : decode cX11_readItem 241 = .ok (.if_icmp .eq 8, 3) := by decide +kernel
theorem dX11_readItem_244 : decode cX11_readItem 244 = .ok (.aload_n 0, 1) := by decide +kernel
theorem dX11_readItem_245 : decode cX11_readItem 245 = .ok (.iconst 2, 1) := by decide +kernel
theorem dX11_readItem_246 : decode cX11_readItem 246 = .ok (.invokevirtual 119, 3) := by decide +kernel
theorem dX11_readItem_249 : decode cX11_readItem 249 = .ok (.aload_n 0, 1) := by decide +kernel
theorem dX11_readItem_250 : decode cX11_readItem 250 = .ok (.invokevirtual 123, 3) := by decide +kernel
theorem dX11_readItem_253 : decode cX11_readItem 253 = .ok (.return_, 1) := by decide +kernel
theorem dX11_road_0 : decode cX11_road 0 = .ok (.aload_n 0, 1) := by decide +kernel
theorem dX11_road_1 : decode cX11_road 1 = .ok (.iconst 0, 1) := by decide +kernel
theorem dX11_road_2 : decode cX11_road 2 = .ok (.putfield 89, 3) := by decide +kernel
theorem dX11_road_5 : decode cX11_road 5 = .ok (.aload_n 0, 1) := by decide +kernel
theorem dX11_road_6 : decode cX11_road 6 = .ok (.iconst 0, 1) := by decide +kernel
theorem dX11_road_7 : decode cX11_road 7 = .ok (.putfield 98, 3) := by decide +kernel
theorem dX11_road_10 : decode cX11_road 10 = .ok (.aload_n 0, 1) := by decide +kernel
theorem dX11_road_11 : decode cX11_road 11 = .ok (.iconst 0, 1) := by decide +kernel
theorem dX11_road_12 : decode cX11_road 12 = .ok (.putfield 139, 3) := by decide +kernel
theorem dX11_road_15 : decode cX11_road 15 = .ok (.iconst 0, 1) := by decide +kernel
theorem dX11_road_16 : decode cX11_road 16 = .ok (.istore_n 1, 1) := by decide +kernel
theorem dX11_road_17 : decode cX11_road 17 = .ok (.iconst 0, 1) := by decide +kernel
theorem dX11_road_18 : decode cX11_road 18 = .ok (.istore_n 2, 1) := by decide +kernel
theorem dX11_road_19 : decode cX11_road 19 = .ok (.iload_n 2, 1) := by decide +kernel
theorem dX11_road_20 : decode cX11_road 20 = .ok (.bipush 10, 2) := by decide +kernel
theorem dX11_road_22 : decode cX11_road 22 = .ok (.if_icmp .ge 21, 3) := by decide +kernel
theorem dX11_road_25 : decode cX11_road 25 = .ok (.aload_n 0, 1) := by decide +kernel
theorem dX11_road_26 : decode cX11_road 26 = .ok (.getfield 25, 3) := by decide +kernel
theorem dX11_road_29 : decode cX11_road 29 = .ok (.iload_n 2, 1) := by decide +kernel
theorem dX11_road_30 : decode cX11_road 30 = .ok (.aload_n 0, 1) := by decide +kernel
theorem dX11_road_31 : decode cX11_road 31 = .ok (.getfield 19, 3) := by decide +kernel
theorem dX11_road_34 : decode cX11_road 34 = .ok (.iload_n 2, 1) := by decide +kernel
theorem dX11_road_35 : decode cX11_road 35 = .ok (.iaload, 1) := by decide +kernel
theorem dX11_road_36 : decode cX11_road 36 = .ok (.iastore, 1) := by decide +kernel
theorem dX11_road_37 : decode cX11_road 37 = .ok (.iinc 2 1, 3) := by decide +kernel
theorem dX11_road_40 : decode cX11_road 40 = .ok (.goto (-21), 3) := by decide +kernel
theorem dX11_road_43 : decode cX11_road 43 = .ok (.iconst 0, 1) := by decide +kernel
theorem dX11_road_44 : decode cX11_road 44 = .ok (.istore_n 2, 1) := by decide +kernel
theorem dX11_road_45 : decode cX11_road 45 = .ok (.iload_n 2, 1) := by decide +kernel
theorem dX11_road_46 : decode cX11_road 46 = .ok (.bipush 64, 2) := by decide +kernel
theorem dX11_road_48 : decode cX11_road 48 = .ok (.if_icmp .ge 16, 3) := by decide +kernel
theorem dX11_road_51 : decode cX11_road 51 = .ok (.aload_n 0, 1) := by decide +kernel
theorem dX11_road_52 : decode cX11_road 52 = .ok (.getfield 28, 3) := by decide +kernel
theorem dX11_road_55 : decode cX11_road 55 = .ok (.iload_n 2, 1) := by decide +kernel
theorem dX11_road_56 : decode cX11_road 56 = .ok (.iconst 0, 1) := by decide +kernel
theorem dX11_road_57 : decode cX11_road 57 = .ok (.iastore, 1) := by decide +kernel
theorem dX11_road_58 : decode cX11_road 58 = .ok (.iinc 2 1, 3) := by decide +kernel
theorem dX11_road_61 : decode cX11_road 61 = .ok (.goto (-16), 3) := by decide +kernel
theorem dX11_road_64 : decode cX11_road 64 = .ok (.aload_n 0, 1) := by decide +kernel
theorem dX11_road_65 : decode cX11_road 65 = .ok (.invokevirtual 123, 3) := by decide +kernel
theorem dX11_road_68 : decode cX11_road 68 = .ok (.aload_n 0, 1) := by decide +kernel
theorem dX11_road_69 : decode cX11_road 69 = .ok (.getfield 89, 3) := by decide +kernel
theorem dX11_road_72 : decode cX11_road 72 = .ok (.ifCond .ne 20, 3) := by decide +kernel
theorem dX11_road_75 : decode cX11_road 75 = .ok (.aload_n 0, 1) := by decide +kernel
theorem dX11_road_76 : decode cX11_road 76 = .ok (.getfield 108, 3) := by decide +kernel
theorem dX11_road_79 : decode cX11_road 79 = .ok (.ifCond .eq 13, 3) := by decide +kernel
theorem dX11_road_82 : decode cX11_road 82 = .ok (.aload_n 0, 1) := by decide +kernel
theorem dX11_road_83 : decode cX11_road 83 = .ok (.invokevirtual 145, 3) := by decide +kernel
theorem dX11_road_86 : decode cX11_road 86 = .ok (.iinc 1 1, 3) := by decide +kernel
theorem dX11_road_89 : decode cX11_road 89 = .ok (.goto (-21), 3) := by decide +kernel
theorem dX11_road_92 : decode cX11_road 92 = .ok (.aload_n 0, 1) := by decide +kernel
theorem dX11_road_93 : decode cX11_road 93 = .ok (.iconst 0, 1) := by decide +kernel
theorem dX11_road_94 : decode cX11_road 94 = .ok (.putfield 81, 3) := by decide +kernel
theorem dX11_road_97 : decode cX11_road 97 = .ok (.aload_n 0, 1) := by decide +kernel
theorem dX11_road_98 : decode cX11_road 98 = .ok (.aload_n 0, 1) := by decide +kernel
theorem dX11_road_99 : decode cX11_road 99 = .ok (.getfield 89, 3) := by decide +kernel
theorem dX11_road_102 : decode cX11_road 102 = .ok (.putfield 148, 3) := by decide +kernel
theorem dX11_road_105 : decode cX11_road 105 = .ok (.aload_n 0, 1) := by decide +kernel
theorem dX11_road_106 : decode cX11_road 106 = .ok (.getfield 89, 3) := by decide +kernel
theorem dX11_road_109 : decode cX11_road 109 = .ok (.ifCond .le 11, 3) := by decide +kernel
theorem dX11_road_112 : decode cX11_road 112 = .ok (.bipush (-10), 2) := by decide +kernel
theorem dX11_road_114 : decode cX11_road 114 = .ok (.aload_n 0, 1) := by decide +kernel
theorem dX11_road_115 : decode cX11_road 115 = .ok (.getfield 95, 3) := by decide +kernel
theorem dX11_road_118 : decode cX11_road 118 = .ok (.isub, 1) := by decide +kernel
theorem dX11_road_119 : decode cX11_road 119 = .ok (.ireturn, 1) := by decide +kernel
theorem dX11_road_120 : decode cX11_road 120 = .ok (.iconst 0, 1) := by decide +kernel
theorem dX11_road_121 : decode cX11_road 121 = .ok (.istore_n 2, 1) := by decide +kernel
theorem dX11_road_122 : decode cX11_road 122 = .ok (.iload_n 2, 1) := by decide +kernel
theorem dX11_road_123 : decode cX11_road 123 = .ok (.bipush 10, 2) := by decide +kernel
theorem dX11_road_125 : decode cX11_road 125 = .ok (.if_icmp .ge 21, 3) := by decide +kernel
theorem dX11_road_128 : decode cX11_road 128 = .ok (.aload_n 0, 1) := by decide +kernel
theorem dX11_road_129 : decode cX11_road 129 = .ok (.getfield 22, 3) := by decide +kernel
theorem dX11_road_132 : decode cX11_road 132 = .ok (.iload_n 2, 1) := by decide +kernel
theorem dX11_road_133 : decode cX11_road 133 = .ok (.aload_n 0, 1) := by decide +kernel
theorem dX11_road_134 : decode cX11_road 134 = .ok (.getfield 25, 3) := by decide +kernel
theorem dX11_road_137 : decode cX11_road 137 = .ok (.iload_n 2, 1) := by decide +kernel
theorem dX11_road_138 : decode cX11_road 138 = .ok (.iaload, 1) := by decide +kernel
theorem dX11_road_139 : decode cX11_road 139 = .ok (.iastore, 1) := by decide +kernel
theorem dX11_road_140 : decode cX11_road 140 = .ok (.iinc 2 1, 3) := by decide +kernel
theorem dX11_road_143 : decode cX11_road 143 = .ok (.goto (-21), 3) := by decide +kernel
theorem dX11_road_146 : decode cX11_road 146 = .ok (.iconst 0, 1) := by decide +kernel
theorem dX11_road_147 : decode cX11_road 147 = .ok (.istore_n 2, 1) := by decide +kernel
theorem dX11_road_148 : decode cX11_road 148 = .ok (.iload_n 2, 1) := by decide +kernel
theorem dX11_road_149 : decode cX11_road 149 = .ok (.bipush 64, 2) := by decide +kernel
theorem dX11_road_151 : decode cX11_road 151 = .ok (.if_icmp .ge 21, 3) := by decide +kernel
theorem dX11_road_154 : decode cX11_road 154 = .ok (.aload_n 0, 1) := by decide +kernel
theorem dX11_road_155 : decode cX11_road 155 = .ok (.getfield 31, 3) := by decide +kernel
theorem dX11_road_158 : decode cX11_road 158 = .ok (.iload_n 2, 1) := by decide +kernel
theorem dX11_road_159 : decode cX11_road 159 = .ok (.aload_n 0, 1) := by decide +kernel
theorem dX11_road_160 : decode cX11_road 160 = .ok (.getfield 28, 3) := by decide +kernel
theorem dX11_road_163 : decode cX11_road 163 = .ok (.iload_n 2, 1) := by decide +kernel
theorem dX11_road_164 : decode cX11_road 164 = .ok (.iaload, 1) := by decide +kernel
theorem dX11_road_165 : decode cX11_road 165 = .ok (.iastore, 1) := by decide +kernel
theorem dX11_road_166 : decode cX11_road 166 = .ok (.iinc 2 1, 3) := by decide +kernel
theorem dX11_road_169 : decode cX11_road 169 = .ok (.goto (-21), 3) := by decide +kernel
theorem dX11_road_172 : decode cX11_road 172 = .ok (.iload_n 1, 1) := by decide +kernel
theorem dX11_road_173 : decode cX11_road 173 = .ok (.ireturn, 1) := by decide +kernel
theorem dX11_fault_0 : decode cX11_fault 0 = .ok (.aload_n 0, 1) := by decide +kernel
theorem dX11_fault_1 : decode cX11_fault 1 = .ok (.getfield 148, 3) := by decide +kernel
theorem dX11_fault_4 : decode cX11_fault 4 = .ok (.ireturn, 1) := by decide +kernel
theorem dX11_rule_0 : decode cX11_rule 0 = .ok (.iload_n 1, 1) := by decide +kernel
theorem dX11_rule_1 : decode cX11_rule 1 = .ok (.i2l, 1) := by decide +kernel
theorem dX11_rule_2 : decode cX11_rule 2 = .ok (.lconst 0, 1) := by decide +kernel
theorem dX11_rule_3 : decode cX11_rule 3 = .ok (.ldc2_w 151, 3) := by decide +kernel
theorem dX11_rule_6 : decode cX11_rule 6 = .ok (.invokestatic 85, 3) := by decide +kernel
theorem dX11_rule_9 : decode cX11_rule 9 = .ok (.ifCond .eq 12, 3) := by decide +kernel
theorem dX11_rule_12 : decode cX11_rule 12 = .ok (.aload_n 0, 1) := by decide +kernel
theorem dX11_rule_13 : decode cX11_rule 13 = .ok (.getfield 22, 3) := by decide +kernel
theorem dX11_rule_16 : decode cX11_rule 16 = .ok (.iload_n 1, 1) := by decide +kernel
theorem dX11_rule_17 : decode cX11_rule 17 = .ok (.iaload, 1) := by decide +kernel
theorem dX11_rule_18 : decode cX11_rule 18 = .ok (.goto 6, 3) := by decide +kernel
theorem dX11_rule_21 : decode cX11_rule 21 = .ok (.sipush (-1000), 3) := by decide +kernel
theorem dX11_rule_24 : decode cX11_rule 24 = .ok (.ireturn, 1) := by decide +kernel
theorem dX11_isLetter_0 : decode cX11_isLetter 0 = .ok (.iload_n 0, 1) := by decide +kernel
theorem dX11_isLetter_1 : decode cX11_isLetter 1 = .ok (.i2l, 1) := by decide +kernel
theorem dX11_isLetter_2 : decode cX11_isLetter 2 = .ok (.lconst 0, 1) := by decide +kernel
theorem dX11_isLetter_3 : decode cX11_isLetter 3 = .ok (.ldc2_w 126, 3) := by decide +kernel
theorem dX11_isLetter_6 : decode cX11_isLetter 6 = .ok (.invokestatic 85, 3) := by decide +kernel
theorem dX11_isLetter_9 : decode cX11_isLetter 9 = .ok (.ireturn, 1) := by decide +kernel
theorem dX11_mixed_0 : decode cX11_mixed 0 = .ok (.iload_n 1, 1) := by decide +kernel
theorem dX11_mixed_1 : decode cX11_mixed 1 = .ok (.invokestatic 153, 3) := by decide +kernel
theorem dX11_mixed_4 : decode cX11_mixed 4 = .ok (.ifCond .eq 15, 3) := by decide +kernel
theorem dX11_mixed_7 : decode cX11_mixed 7 = .ok (.iload_n 2, 1) := by decide +kernel
theorem dX11_mixed_8 : decode cX11_mixed 8 = .ok (.invokestatic 153, 3) := by decide +kernel
theorem dX11_mixed_11 : decode cX11_mixed 11 = .ok (.ifCond .eq 8, 3) := by decide +kernel
theorem dX11_mixed_14 : decode cX11_mixed 14 = .ok (.iload_n 1, 1) := by decide +kernel
theorem dX11_mixed_15 : decode cX11_mixed 15 = .ok (.iload_n 2, 1) := by decide +kernel
theorem dX11_mixed_16 : decode cX11_mixed 16 = .ok (.if_icmp .ne 5, 3) := by decide +kernel
theorem dX11_mixed_19 : decode cX11_mixed 19 = .ok (.iconst (-1), 1) := by decide +kernel
theorem dX11_mixed_20 : decode cX11_mixed 20 = .ok (.ireturn, 1) := by decide +kernel
theorem dX11_mixed_21 : decode cX11_mixed 21 = .ok (.aload_n 0, 1) := by decide +kernel
theorem dX11_mixed_22 : decode cX11_mixed 22 = .ok (.getfield 31, 3) := by decide +kernel
theorem dX11_mixed_25 : decode cX11_mixed 25 = .ok (.bipush 8, 2) := by decide +kernel
theorem dX11_mixed_27 : decode cX11_mixed 27 = .ok (.iload_n 1, 1) := by decide +kernel
theorem dX11_mixed_28 : decode cX11_mixed 28 = .ok (.imul, 1) := by decide +kernel
theorem dX11_mixed_29 : decode cX11_mixed 29 = .ok (.iload_n 2, 1) := by decide +kernel
theorem dX11_mixed_30 : decode cX11_mixed 30 = .ok (.iadd, 1) := by decide +kernel
theorem dX11_mixed_31 : decode cX11_mixed 31 = .ok (.iaload, 1) := by decide +kernel
theorem dX11_mixed_32 : decode cX11_mixed 32 = .ok (.istore_n 3, 1) := by decide +kernel
theorem dX11_mixed_33 : decode cX11_mixed 33 = .ok (.iload_n 3, 1) := by decide +kernel
theorem dX11_mixed_34 : decode cX11_mixed 34 = .ok (.ifCond .ne 8, 3) := by decide +kernel
theorem dX11_mixed_37 : decode cX11_mixed 37 = .ok (.bipush (-4), 2) := by decide +kernel
theorem dX11_mixed_39 : decode cX11_mixed 39 = .ok (.goto 6, 3) := by decide +kernel
theorem dX11_mixed_42 : decode cX11_mixed 42 = .ok (.iload_n 3, 1) := by decide +kernel
theorem dX11_mixed_43 : decode cX11_mixed 43 = .ok (.iconst 1, 1) := by decide +kernel
theorem dX11_mixed_44 : decode cX11_mixed 44 = .ok (.isub, 1) := by decide +kernel
theorem dX11_mixed_45 : decode cX11_mixed 45 = .ok (.ireturn, 1) := by decide +kernel
theorem dX11_setClock_0 : decode cX11_setClock 0 = .ok (.iload_n 1, 1) := by decide +kernel
theorem dX11_setClock_1 : decode cX11_setClock 1 = .ok (.i2l, 1) := by decide +kernel
theorem dX11_setClock_2 : decode cX11_setClock 2 = .ok (.ldc2_w 157, 3) := by decide +kernel
theorem dX11_setClock_5 : decode cX11_setClock 5 = .ok (.ldc2_w 159, 3) := by decide +kernel
theorem dX11_setClock_8 : decode cX11_setClock 8 = .ok (.invokestatic 85, 3) := by decide +kernel
theorem dX11_setClock_11 : decode cX11_setClock 11 = .ok (.ifCond .ne 7, 3) := by decide +kernel
theorem dX11_setClock_14 : decode cX11_setClock 14 = .ok (.sipush (-1000), 3) := by decide +kernel
theorem dX11_setClock_17 : decode cX11_setClock 17 = .ok (.ireturn, 1) := by decide +kernel
theorem dX11_setClock_18 : decode cX11_setClock 18 = .ok (.aload_n 0, 1) := by decide +kernel
theorem dX11_setClock_19 : decode cX11_setClock 19 = .ok (.getfield 22, 3) := by decide +kernel
theorem dX11_setClock_22 : decode cX11_setClock 22 = .ok (.bipush 9, 2) := by decide +kernel
theorem dX11_setClock_24 : decode cX11_setClock 24 = .ok (.iaload, 1) := by decide +kernel
theorem dX11_setClock_25 : decode cX11_setClock 25 = .ok (.istore_n 2, 1) := by decide +kernel
theorem dX11_setClock_26 : decode cX11_setClock 26 = .ok (.aload_n 0, 1) := by decide +kernel
theorem dX11_setClock_27 : decode cX11_setClock 27 = .ok (.getfield 22, 3) := by decide +kernel
theorem dX11_setClock_30 : decode cX11_setClock 30 = .ok (.bipush 9, 2) := by decide +kernel
theorem dX11_setClock_32 : decode cX11_setClock 32 = .ok (.iload_n 1, 1) := by decide +kernel
theorem dX11_setClock_33 : decode cX11_setClock 33 = .ok (.iastore, 1) := by decide +kernel
theorem dX11_setClock_34 : decode cX11_setClock 34 = .ok (.iload_n 2, 1) := by decide +kernel
theorem dX11_setClock_35 : decode cX11_setClock 35 = .ok (.ireturn, 1) := by decide +kernel
theorem dX11_isEnd_0 : decode cX11_isEnd 0 = .ok (.iload_n 0, 1) := by decide +kernel
theorem dX11_isEnd_1 : decode cX11_isEnd 1 = .ok (.i2l, 1) := by decide +kernel
theorem dX11_isEnd_2 : decode cX11_isEnd 2 = .ok (.lconst 0, 1) := by decide +kernel
theorem dX11_isEnd_3 : decode cX11_isEnd 3 = .ok (.lconst 1, 1) := by decide +kernel
theorem dX11_isEnd_4 : decode cX11_isEnd 4 = .ok (.invokestatic 85, 3) := by decide +kernel
theorem dX11_isEnd_7 : decode cX11_isEnd 7 = .ok (.ireturn, 1) := by decide +kernel
theorem dX11_linesOf_0 : decode cX11_linesOf 0 = .ok (.aload_n 0, 1) := by decide +kernel
theorem dX11_linesOf_1 : decode cX11_linesOf 1 = .ok (.getfield 31, 3) := by decide +kernel
theorem dX11_linesOf_4 : decode cX11_linesOf 4 = .ok (.bipush 64, 2) := by decide +kernel
theorem dX11_linesOf_6 : decode cX11_linesOf 6 = .ok (.iload_n 1, 1) := by decide +kernel
theorem dX11_linesOf_7 : decode cX11_linesOf 7 = .ok (.iadd, 1) := by decide +kernel
theorem dX11_linesOf_8 : decode cX11_linesOf 8 = .ok (.iaload, 1) := by decide +kernel
theorem dX11_linesOf_9 : decode cX11_linesOf 9 = .ok (.iload_n 2, 1) := by decide +kernel
theorem dX11_linesOf_10 : decode cX11_linesOf 10 = .ok (.iadd, 1) := by decide +kernel
theorem dX11_linesOf_11 : decode cX11_linesOf 11 = .ok (.ireturn, 1) := by decide +kernel
theorem dX11_isLine_0 : decode cX11_isLine 0 = .ok (.iload_n 1, 1) := by decide +kernel
theorem dX11_isLine_1 : decode cX11_isLine 1 = .ok (.invokestatic 161, 3) := by decide +kernel
theorem dX11_isLine_4 : decode cX11_isLine 4 = .ok (.ifCond .eq 23, 3) := by decide +kernel
theorem dX11_isLine_7 : decode cX11_isLine 7 = .ok (.iload_n 2, 1) := by decide +kernel
theorem dX11_isLine_8 : decode cX11_isLine 8 = .ok (.i2l, 1) := by decide +kernel
theorem dX11_isLine_9 : decode cX11_isLine 9 = .ok (.lconst 0, 1) := by decide +kernel
theorem dX11_isLine_10 : decode cX11_isLine 10 = .ok (.aload_n 0, 1) := by decide +kernel
theorem dX11_isLine_11 : decode cX11_isLine 11 = .ok (.iload_n 1, 1) := by decide +kernel
theorem dX11_isLine_12 : decode cX11_isLine 12 = .ok (.iconst (-1), 1) := by decide +kernel
theorem dX11_isLine_13 : decode cX11_isLine 13 = .ok (.invokevirtual 164, 3) := by decide +kernel
theorem dX11_isLine_16 : decode cX11_isLine 16 = .ok (.i2l, 1) := by decide +kernel
theorem dX11_isLine_17 : decode cX11_isLine 17 = .ok (.invokestatic 85, 3) := by decide +kernel
theorem dX11_isLine_20 : decode cX11_isLine 20 = .ok (.ifCond .eq 7, 3) := by decide +kernel
theorem dX11_isLine_23 : decode cX11_isLine 23 = .ok (.iconst 1, 1) := by decide +kernel
theorem dX11_isLine_24 : decode cX11_isLine 24 = .ok (.goto 4, 3) := by decide +kernel
theorem dX11_isLine_27 : decode cX11_isLine 27 = .ok (.iconst 0, 1) := by decide +kernel
theorem dX11_isLine_28 : decode cX11_isLine 28 = .ok (.ireturn, 1) := by decide +kernel
theorem dX11_its_0 : decode cX11_its 0 = .ok (.aload_n 0, 1) := by decide +kernel
theorem dX11_its_1 : decode cX11_its 1 = .ok (.getfield 31, 3) := by decide +kernel
theorem dX11_its_4 : decode cX11_its 4 = .ok (.bipush 70, 2) := by decide +kernel
theorem dX11_its_6 : decode cX11_its 6 = .ok (.bipush 60, 2) := by decide +kernel
theorem dX11_its_8 : decode cX11_its 8 = .ok (.iload_n 1, 1) := by decide +kernel
theorem dX11_its_9 : decode cX11_its 9 = .ok (.imul, 1) := by decide +kernel
theorem dX11_its_10 : decode cX11_its 10 = .ok (.iadd, 1) := by decide +kernel
theorem dX11_its_11 : decode cX11_its 11 = .ok (.bipush 6, 2) := by decide +kernel
theorem dX11_its_13 : decode cX11_its 13 = .ok (.iload_n 2, 1) := by decide +kernel
theorem dX11_its_14 : decode cX11_its 14 = .ok (.imul, 1) := by decide +kernel
theorem dX11_its_15 : decode cX11_its 15 = .ok (.iadd, 1) := by decide +kernel
theorem dX11_its_16 : decode cX11_its 16 = .ok (.iload_n 3, 1) := by decide +kernel
theorem dX11_its_17 : decode cX11_its 17 = .ok (.iadd, 1) := by decide +kernel
theorem dX11_its_18 : decode cX11_its 18 = .ok (.iaload, 1) := by decide +kernel
theorem dX11_its_19 : decode cX11_its 19 = .ok (.ireturn, 1) := by decide +kernel
theorem dX11_setIts_0 : decode cX11_setIts 0 = .ok (.aload_n 0, 1) := by decide +kernel
theorem dX11_setIts_1 : decode cX11_setIts 1 = .ok (.getfield 31, 3) := by decide +kernel
theorem dX11_setIts_4 : decode cX11_setIts 4 = .ok (.bipush 70, 2) := by decide +kernel
theorem dX11_setIts_6 : decode cX11_setIts 6 = .ok (.bipush 60, 2) := by decide +kernel
theorem dX11_setIts_8 : decode cX11_setIts 8 = .ok (.iload_n 1, 1) := by decide +kernel
theorem dX11_setIts_9 : decode cX11_setIts 9 = .ok (.imul, 1) := by decide +kernel
theorem dX11_setIts_10 : decode cX11_setIts 10 = .ok (.iadd, 1) := by decide +kernel
theorem dX11_setIts_11 : decode cX11_setIts 11 = .ok (.bipush 6, 2) := by decide +kernel
theorem dX11_setIts_13 : decode cX11_setIts 13 = .ok (.iload_n 2, 1) := by decide +kernel
theorem dX11_setIts_14 : decode cX11_setIts 14 = .ok (.imul, 1) := by decide +kernel
theorem dX11_setIts_15 : decode cX11_setIts 15 = .ok (.iadd, 1) := by decide +kernel
theorem dX11_setIts_16 : decode cX11_setIts 16 = .ok (.iload_n 3, 1) := by decide +kernel
theorem dX11_setIts_17 : decode cX11_setIts 17 = .ok (.iadd, 1) := by decide +kernel
theorem dX11_setIts_18 : decode cX11_setIts 18 = .ok (.iload 4, 2) := by decide +kernel
theorem dX11_setIts_20 : decode cX11_setIts 20 = .ok (.iastore, 1) := by decide +kernel
theorem dX11_setIts_21 : decode cX11_setIts 21 = .ok (.return_, 1) := by decide +kernel
theorem dX11_line_0 : decode cX11_line 0 = .ok (.iload_n 1, 1) := by decide +kernel
theorem dX11_line_1 : decode cX11_line 1 = .ok (.invokestatic 161, 3) := by decide +kernel
theorem dX11_line_4 : decode cX11_line 4 = .ok (.ifCond .eq 40, 3) := by decide +kernel
theorem dX11_line_7 : decode cX11_line 7 = .ok (.iload_n 2, 1) := by decide +kernel
theorem dX11_line_8 : decode cX11_line 8 = .ok (.i2l, 1) := by decide +kernel
theorem dX11_line_9 : decode cX11_line 9 = .ok (.lconst 0, 1) := by decide +kernel
theorem dX11_line_10 : decode cX11_line 10 = .ok (.ldc2_w 167, 3) := by decide +kernel
theorem dX11_line_13 : decode cX11_line 13 = .ok (.invokestatic 85, 3) := by decide +kernel
theorem dX11_line_16 : decode cX11_line 16 = .ok (.ifCond .eq 28, 3) := by decide +kernel
theorem dX11_line_19 : decode cX11_line 19 = .ok (.iload_n 3, 1) := by decide +kernel
theorem dX11_line_20 : decode cX11_line 20 = .ok (.i2l, 1) := by decide +kernel
theorem dX11_line_21 : decode cX11_line 21 = .ok (.lconst 0, 1) := by decide +kernel
theorem dX11_line_22 : decode cX11_line 22 = .ok (.ldc2_w 169, 3) := by decide +kernel
theorem dX11_line_25 : decode cX11_line 25 = .ok (.invokestatic 85, 3) := by decide +kernel
theorem dX11_line_28 : decode cX11_line 28 = .ok (.ifCond .eq 16, 3) := by decide +kernel
theorem dX11_line_31 : decode cX11_line 31 = .ok (.iload 4, 2) := by decide +kernel
theorem dX11_line_33 : decode cX11_line 33 = .ok (.i2l, 1) := by decide +kernel
theorem dX11_line_34 : decode cX11_line 34 = .ok (.lconst 0, 1) := by decide +kernel
theorem dX11_line_35 : decode cX11_line 35 = .ok (.ldc2_w 171, 3) := by decide +kernel
theorem dX11_line_38 : decode cX11_line 38 = .ok (.invokestatic 85, 3) := by decide +kernel
theorem dX11_line_41 : decode cX11_line 41 = .ok (.ifCond .ne 5, 3) := by decide +kernel
theorem dX11_line_44 : decode cX11_line 44 = .ok (.iconst (-1), 1) := by decide +kernel
theorem dX11_line_45 : decode cX11_line 45 = .ok (.ireturn, 1) := by decide +kernel
theorem dX11_line_46 : decode cX11_line 46 = .ok (.aload_n 0, 1) := by decide +kernel
theorem dX11_line_47 : decode cX11_line 47 = .ok (.iload_n 1, 1) := by decide +kernel
theorem dX11_line_48 : decode cX11_line 48 = .ok (.iconst 0, 1) := by decide +kernel
theorem dX11_line_49 : decode cX11_line 49 = .ok (.invokevirtual 164, 3) := by decide +kernel
theorem dX11_line_52 : decode cX11_line 52 = .ok (.istore 5, 2) := by decide +kernel
theorem dX11_line_54 : decode cX11_line 54 = .ok (.iload 5, 2) := by decide +kernel
theorem dX11_line_56 : decode cX11_line 56 = .ok (.bipush 10, 2) := by decide +kernel
theorem dX11_line_58 : decode cX11_line 58 = .ok (.if_icmp .ne 6, 3) := by decide +kernel
theorem dX11_line_61 : decode cX11_line 61 = .ok (.bipush (-3), 2) := by decide +kernel
theorem dX11_line_63 : decode cX11_line 63 = .ok (.ireturn, 1) := by decide +kernel
theorem dX11_line_64 : decode cX11_line 64 = .ok (.iload_n 3, 1) := by decide +kernel
theorem dX11_line_65 : decode cX11_line 65 = .ok (.istore 6, 2) := by decide +kernel
theorem dX11_line_67 : decode cX11_line 67 = .ok (.aload_n 0, 1) := by decide +kernel
theorem dX11_line_68 : decode cX11_line 68 = .ok (.iload_n 1, 1) := by decide +kernel
theorem dX11_line_69 : decode cX11_line 69 = .ok (.iload 5, 2) := by decide +kernel
theorem dX11_line_71 : decode cX11_line 71 = .ok (.iconst 0, 1) := by decide +kernel
theorem dX11_line_72 : decode cX11_line 72 = .ok (.iload_n 2, 1) := by decide +kernel
theorem dX11_line_73 : decode cX11_line 73 = .ok (.invokevirtual 173, 3) := by decide +kernel
theorem dX11_line_76 : decode cX11_line 76 = .ok (.iconst 4, 1) := by decide +kernel
theorem dX11_line_77 : decode cX11_line 77 = .ok (.istore 7, 2) := by decide +kernel
theorem dX11_line_79 : decode cX11_line 79 = .ok (.iload 7, 2) := by decide +kernel
theorem dX11_line_81 : decode cX11_line 81 = .ok (.ifCond .le 30, 3) := by decide +kernel
theorem dX11_line_84 : decode cX11_line 84 = .ok (.aload_n 0, 1) := by decide +kernel
theorem dX11_line_85 : decode cX11_line 85 = .ok (.iload_n 1, 1) := by decide +kernel
theorem dX11_line_86 : decode cX11_line 86 = .ok (.iload 5, 2) := by decide +kernel
theorem dX11_line_88 : decode cX11_line 88 = .ok (.iload 7, 2) := by decide +kernel
theorem dX11_line_90 : decode cX11_line 90 = .ok (.iload 6, 2) := by decide +kernel
theorem dX11_line_92 : decode cX11_line 92 = .ok (.bipush 17, 2) := by decide +kernel
theorem dX11_line_94 : decode cX11_line 94 = .ok (.irem, 1) := by decide +kernel
theorem dX11_line_95 : decode cX11_line 95 = .ok (.invokevirtual 173, 3) := by decide +kernel
theorem dX11_line_98 : decode cX11_line 98 = .ok (.iload 6, 2) := by decide +kernel
theorem dX11_line_100 : decode cX11_line 100 = .ok (.bipush 17, 2) := by decide +kernel
theorem dX11_line_102 : decode cX11_line 102 = .ok (.idiv, 1) := by decide +kernel
theorem dX11_line_103 : decode cX11_line 103 = .ok (.istore 6, 2) := by decide +kernel
theorem dX11_line_105 : decode cX11_line 105 = .ok (.iinc 7 (-1), 3) := by decide +kernel
theorem dX11_line_108 : decode cX11_line 108 = .ok (.goto (-29), 3) := by decide +kernel
theorem dX11_line_111 : decode cX11_line 111 = .ok (.aload_n 0, 1) := by decide +kernel
theorem dX11_line_112 : decode cX11_line 112 = .ok (.iload_n 1, 1) := by decide +kernel
theorem dX11_line_113 : decode cX11_line 113 = .ok (.iload 5, 2) := by decide +kernel
theorem dX11_line_115 : decode cX11_line 115 = .ok (.iconst 5, 1) := by decide +kernel
theorem dX11_line_116 : decode cX11_line 116 = .ok (.iload 4, 2) := by decide +kernel
theorem dX11_line_118 : decode cX11_line 118 = .ok (.invokevirtual 173, 3) := by decide +kernel
theorem dX11_line_121 : decode cX11_line 121 = .ok (.aload_n 0, 1) := by decide +kernel
theorem dX11_line_122 : decode cX11_line 122 = .ok (.getfield 31, 3) := by decide +kernel
theorem dX11_line_125 : decode cX11_line 125 = .ok (.bipush 64, 2) := by decide +kernel
theorem dX11_line_127 : decode cX11_line 127 = .ok (.iload_n 1, 1) := by decide +kernel
theorem dX11_line_128 : decode cX11_line 128 = .ok (.iadd, 1) := by decide +kernel
theorem dX11_line_129 : decode cX11_line 129 = .ok (.dup2, 1) := by decide +kernel
theorem dX11_line_130 : decode cX11_line 130 = .ok (.iaload, 1) := by decide +kernel
theorem dX11_line_131 : decode cX11_line 131 = .ok (.iconst 1, 1) := by decide +kernel
theorem dX11_line_132 : decode cX11_line 132 = .ok (.iadd, 1) := by decide +kernel
theorem dX11_line_133 : decode cX11_line 133 = .ok (.iastore, 1) := by decide +kernel
theorem dX11_line_134 : decode cX11_line 134 = .ok (.iload 5, 2) := by decide +kernel
theorem dX11_line_136 : decode cX11_line 136 = .ok (.ireturn, 1) := by decide +kernel
theorem dX11_drop_0 : decode cX11_drop 0 = .ok (.aload_n 0, 1) := by decide +kernel
theorem dX11_drop_1 : decode cX11_drop 1 = .ok (.iload_n 1, 1) := by decide +kernel
theorem dX11_drop_2 : decode cX11_drop 2 = .ok (.iload_n 2, 1) := by decide +kernel
theorem dX11_drop_3 : decode cX11_drop 3 = .ok (.invokevirtual 177, 3) := by decide +kernel
theorem dX11_drop_6 : decode cX11_drop 6 = .ok (.ifCond .ne 5, 3) := by decide +kernel
theorem dX11_drop_9 : decode cX11_drop 9 = .ok (.iconst (-1), 1) := by decide +kernel
theorem dX11_drop_10 : decode cX11_drop 10 = .ok (.ireturn, 1) := by decide +kernel
theorem dX11_drop_11 : decode cX11_drop 11 = .ok (.aload_n 0, 1) := by decide +kernel
theorem dX11_drop_12 : decode cX11_drop 12 = .ok (.getfield 31, 3) := by decide +kernel
theorem dX11_drop_15 : decode cX11_drop 15 = .ok (.bipush 64, 2) := by decide +kernel
theorem dX11_drop_17 : decode cX11_drop 17 = .ok (.iload_n 1, 1) := by decide +kernel
theorem dX11_drop_18 : decode cX11_drop 18 = .ok (.iadd, 1) := by decide +kernel
theorem dX11_drop_19 : decode cX11_drop 19 = .ok (.dup2, 1) := by decide +kernel
theorem dX11_drop_20 : decode cX11_drop 20 = .ok (.iaload, 1) := by decide +kernel
theorem dX11_drop_21 : decode cX11_drop 21 = .ok (.iconst 1, 1) := by decide +kernel
theorem dX11_drop_22 : decode cX11_drop 22 = .ok (.isub, 1) := by decide +kernel
theorem dX11_drop_23 : decode cX11_drop 23 = .ok (.iastore, 1) := by decide +kernel
theorem dX11_drop_24 : decode cX11_drop 24 = .ok (.iload_n 2, 1) := by decide +kernel
theorem dX11_drop_25 : decode cX11_drop 25 = .ok (.istore_n 3, 1) := by decide +kernel
theorem dX11_drop_26 : decode cX11_drop 26 = .ok (.iload_n 3, 1) := by decide +kernel
theorem dX11_drop_27 : decode cX11_drop 27 = .ok (.aload_n 0, 1) := by decide +kernel
theorem dX11_drop_28 : decode cX11_drop 28 = .ok (.iload_n 1, 1) := by decide +kernel
theorem dX11_drop_29 : decode cX11_drop 29 = .ok (.iconst 0, 1) := by decide +kernel
theorem dX11_drop_30 : decode cX11_drop 30 = .ok (.invokevirtual 164, 3) := by decide +kernel
theorem dX11_drop_33 : decode cX11_drop 33 = .ok (.if_icmp .ge 43, 3) := by decide +kernel
theorem dX11_drop_36 : decode cX11_drop 36 = .ok (.iconst 0, 1) := by decide +kernel
theorem dX11_drop_37 : decode cX11_drop 37 = .ok (.istore 4, 2) := by decide +kernel
theorem dX11_drop_39 : decode cX11_drop 39 = .ok (.iload 4, 2) := by decide +kernel
theorem dX11_drop_41 : decode cX11_drop 41 = .ok (.bipush 6, 2) := by decide +kernel
theorem dX11_drop_43 : decode cX11_drop 43 = .ok (.if_icmp .ge 27, 3) := by decide +kernel
theorem dX11_drop_46 : decode cX11_drop 46 = .ok (.aload_n 0, 1) := by decide +kernel
theorem dX11_drop_47 : decode cX11_drop 47 = .ok (.iload_n 1, 1) := by decide +kernel
theorem dX11_drop_48 : decode cX11_drop 48 = .ok (.iload_n 3, 1) := by decide +kernel
theorem dX11_drop_49 : decode cX11_drop 49 = .ok (.iload 4, 2) := by decide +kernel
theorem dX11_drop_51 : decode cX11_drop 51 = .ok (.aload_n 0, 1) := by decide +kernel
theorem dX11_drop_52 : decode cX11_drop 52 = .ok (.iload_n 1, 1) := by decide +kernel
theorem dX11_drop_53 : decode cX11_drop 53 = .ok (.iload_n 3, 1) := by decide +kernel
theorem dX11_drop_54 : decode cX11_drop 54 = .ok (.iconst 1, 1) := by decide +kernel
theorem dX11_drop_55 : decode cX11_drop 55 = .ok (.iadd, 1) := by decide +kernel
theorem dX11_drop_56 : decode cX11_drop 56 = .ok (.iload 4, 2) := by decide +kernel
theorem dX11_drop_58 : decode cX11_drop 58 = .ok (.invokevirtual 181, 3) := by decide +kernel
theorem dX11_drop_61 : decode cX11_drop 61 = .ok (.invokevirtual 173, 3) := by decide +kernel
theorem dX11_drop_64 : decode cX11_drop 64 = .ok (.iinc 4 1, 3) := by decide +kernel
theorem dX11_drop_67 : decode cX11_drop 67 = .ok (.goto (-28), 3) := by decide +kernel
theorem dX11_drop_70 : decode cX11_drop 70 = .ok (.iinc 3 1, 3) := by decide +kernel
theorem dX11_drop_73 : decode cX11_drop 73 = .ok (.goto (-47), 3) := by decide +kernel
theorem dX11_drop_76 : decode cX11_drop 76 = .ok (.aload_n 0, 1) := by decide +kernel
theorem dX11_drop_77 : decode cX11_drop 77 = .ok (.iload_n 1, 1) := by decide +kernel
theorem dX11_drop_78 : decode cX11_drop 78 = .ok (.iconst 0, 1) := by decide +kernel
theorem dX11_drop_79 : decode cX11_drop 79 = .ok (.invokevirtual 164, 3) := by decide +kernel
theorem dX11_drop_82 : decode cX11_drop 82 = .ok (.ireturn, 1) := by decide +kernel
theorem dX11_of_0 : decode cX11_of 0 = .ok (.aload_n 0, 1) := by decide +kernel
theorem dX11_of_1 : decode cX11_of 1 = .ok (.iload_n 1, 1) := by decide +kernel
theorem dX11_of_2 : decode cX11_of 2 = .ok (.iload_n 2, 1) := by decide +kernel
theorem dX11_of_3 : decode cX11_of 3 = .ok (.invokevirtual 177, 3) := by decide +kernel
theorem dX11_of_6 : decode cX11_of 6 = .ok (.ifCond .eq 29, 3) := by decide +kernel
theorem dX11_of_9 : decode cX11_of 9 = .ok (.iload_n 3, 1) := by decide +kernel
theorem dX11_of_10 : decode cX11_of 10 = .ok (.i2l, 1) := by decide +kernel
theorem dX11_of_11 : decode cX11_of 11 = .ok (.lconst 0, 1) := by decide +kernel
theorem dX11_of_12 : decode cX11_of 12 = .ok (.ldc2_w 185, 3) := by decide +kernel
theorem dX11_of_15 : decode cX11_of 15 = .ok (.invokestatic 85, 3) := by decide +kernel
theorem dX11_of_18 : decode cX11_of 18 = .ok (.ifCond .ne 19, 3) := by decide +kernel
theorem dX11_of_21 : decode cX11_of 21 = .ok (.iload_n 3, 1) := by decide +kernel
theorem dX11_of_22 : decode cX11_of 22 = .ok (.i2l, 1) := by decide +kernel
theorem dX11_of_23 : decode cX11_of 23 = .ok (.ldc2_w 187, 3) := by decide +kernel
theorem dX11_of_26 : decode cX11_of 26 = .ok (.ldc2_w 189, 3) := by decide +kernel
theorem dX11_of_29 : decode cX11_of 29 = .ok (.invokestatic 85, 3) := by decide +kernel
theorem dX11_of_32 : decode cX11_of 32 = .ok (.ifCond .ne 5, 3) := by decide +kernel
theorem dX11_of_35 : decode cX11_of 35 = .ok (.iconst (-1), 1) := by decide +kernel
theorem dX11_of_36 : decode cX11_of 36 = .ok (.ireturn, 1) := by decide +kernel
theorem dX11_of_37 : decode cX11_of 37 = .ok (.iconst 0, 1) := by decide +kernel
theorem dX11_of_38 : decode cX11_of 38 = .ok (.istore 4, 2) := by decide +kernel
theorem dX11_of_40 : decode cX11_of 40 = .ok (.iconst 1, 1) := by decide +kernel
theorem dX11_of_41 : decode cX11_of 41 = .ok (.istore 5, 2) := by decide +kernel
theorem dX11_of_43 : decode cX11_of 43 = .ok (.iload 5, 2) := by decide +kernel
theorem dX11_of_45 : decode cX11_of 45 = .ok (.iconst 4, 1) := by decide +kernel
theorem dX11_of_46 : decode cX11_of 46 = .ok (.if_icmp .gt 25, 3) := by decide +kernel
theorem dX11_of_49 : decode cX11_of 49 = .ok (.bipush 17, 2) := by decide +kernel
theorem dX11_of_51 : decode cX11_of 51 = .ok (.iload 4, 2) := by decide +kernel
theorem dX11_of_53 : decode cX11_of 53 = .ok (.imul, 1) := by decide +kernel
theorem dX11_of_54 : decode cX11_of 54 = .ok (.aload_n 0, 1) := by decide +kernel
theorem dX11_of_55 : decode cX11_of 55 = .ok (.iload_n 1, 1) := by decide +kernel
theorem dX11_of_56 : decode cX11_of 56 = .ok (.iload_n 2, 1) := by decide +kernel
theorem dX11_of_57 : decode cX11_of 57 = .ok (.iload 5, 2) := by decide +kernel
theorem dX11_of_59 : decode cX11_of 59 = .ok (.invokevirtual 181, 3) := by decide +kernel
theorem dX11_of_62 : decode cX11_of 62 = .ok (.iadd, 1) := by decide +kernel
theorem dX11_of_63 : decode cX11_of 63 = .ok (.istore 4, 2) := by decide +kernel
theorem dX11_of_65 : decode cX11_of 65 = .ok (.iinc 5 1, 3) := by decide +kernel
theorem dX11_of_68 : decode cX11_of 68 = .ok (.goto (-25), 3) := by decide +kernel
theorem dX11_of_71 : decode cX11_of 71 = .ok (.iload_n 3, 1) := by decide +kernel
theorem dX11_of_72 : decode cX11_of 72 = .ok (.ifCond .ne 13, 3) := by decide +kernel
theorem dX11_of_75 : decode cX11_of 75 = .ok (.aload_n 0, 1) := by decide +kernel
theorem dX11_of_76 : decode cX11_of 76 = .ok (.iload_n 1, 1) := by decide +kernel
theorem dX11_of_77 : decode cX11_of 77 = .ok (.iload_n 2, 1) := by decide +kernel
theorem dX11_of_78 : decode cX11_of 78 = .ok (.iconst 0, 1) := by decide +kernel
theorem dX11_of_79 : decode cX11_of 79 = .ok (.invokevirtual 181, 3) := by decide +kernel
theorem dX11_of_82 : decode cX11_of 82 = .ok (.goto 38, 3) := by decide +kernel
theorem dX11_of_85 : decode cX11_of 85 = .ok (.iload_n 3, 1) := by decide +kernel
theorem dX11_of_86 : decode cX11_of 86 = .ok (.iconst 1, 1) := by decide +kernel
theorem dX11_of_87 : decode cX11_of 87 = .ok (.if_icmp .ne 8, 3) := by decide +kernel
theorem dX11_of_90 : decode cX11_of 90 = .ok (.iload 4, 2) := by decide +kernel
theorem dX11_of_92 : decode cX11_of 92 = .ok (.goto 28, 3) := by decide +kernel
theorem dX11_of_95 : decode cX11_of 95 = .ok (.iload_n 3, 1) := by decide +kernel
theorem dX11_of_96 : decode cX11_of 96 = .ok (.iconst 2, 1) := by decide +kernel
theorem dX11_of_97 : decode cX11_of 97 = .ok (.if_icmp .ne 13, 3) := by decide +kernel
theorem dX11_of_100 : decode cX11_of 100 = .ok (.aload_n 0, 1) := by decide +kernel
theorem dX11_of_101 : decode cX11_of 101 = .ok (.iload_n 1, 1) := by decide +kernel
theorem dX11_of_102 : decode cX11_of 102 = .ok (.iload_n 2, 1) := by decide +kernel
theorem dX11_of_103 : decode cX11_of 103 = .ok (.iconst 5, 1) := by decide +kernel
theorem dX11_of_104 : decode cX11_of 104 = .ok (.invokevirtual 181, 3) := by decide +kernel
theorem dX11_of_107 : decode cX11_of 107 = .ok (.goto 13, 3) := by decide +kernel
theorem dX11_of_110 : decode cX11_of 110 = .ok (.aload_n 0, 1) := by decide +kernel
theorem dX11_of_111 : decode cX11_of 111 = .ok (.iload_n 1, 1) := by decide +kernel
theorem dX11_of_112 : decode cX11_of 112 = .ok (.iload_n 2, 1) := by decide +kernel
theorem dX11_of_113 : decode cX11_of 113 = .ok (.iload_n 3, 1) := by decide +kernel
theorem dX11_of_114 : decode cX11_of 114 = .ok (.bipush 9, 2) := by decide +kernel
theorem dX11_of_116 : decode cX11_of 116 = .ok (.isub, 1) := by decide +kernel
theorem dX11_of_117 : decode cX11_of 117 = .ok (.invokevirtual 181, 3) := by decide +kernel
theorem dX11_of_120 : decode cX11_of 120 = .ok (.ireturn, 1) := by decide +kernel
theorem dX11_sign_0 : decode cX11_sign 0 = .ok (.aload_n 0, 1) := by decide +kernel
theorem dX11_sign_1 : decode cX11_sign 1 = .ok (.iload_n 1, 1) := by decide +kernel
theorem dX11_sign_2 : decode cX11_sign 2 = .ok (.iload_n 2, 1) := by decide +kernel
theorem dX11_sign_3 : decode cX11_sign 3 = .ok (.invokevirtual 177, 3) := by decide +kernel
theorem dX11_sign_6 : decode cX11_sign 6 = .ok (.ifCond .eq 28, 3) := by decide +kernel
theorem dX11_sign_9 : decode cX11_sign 9 = .ok (.iload_n 3, 1) := by decide +kernel
theorem dX11_sign_10 : decode cX11_sign 10 = .ok (.i2l, 1) := by decide +kernel
theorem dX11_sign_11 : decode cX11_sign 11 = .ok (.lconst 0, 1) := by decide +kernel
theorem dX11_sign_12 : decode cX11_sign 12 = .ok (.ldc2_w 191, 3) := by decide +kernel
theorem dX11_sign_15 : decode cX11_sign 15 = .ok (.invokestatic 85, 3) := by decide +kernel
theorem dX11_sign_18 : decode cX11_sign 18 = .ok (.ifCond .eq 16, 3) := by decide +kernel
theorem dX11_sign_21 : decode cX11_sign 21 = .ok (.iload 4, 2) := by decide +kernel
theorem dX11_sign_23 : decode cX11_sign 23 = .ok (.i2l, 1) := by decide +kernel
theorem dX11_sign_24 : decode cX11_sign 24 = .ok (.lconst 0, 1) := by decide +kernel
theorem dX11_sign_25 : decode cX11_sign 25 = .ok (.ldc2_w 193, 3) := by decide +kernel
theorem dX11_sign_28 : decode cX11_sign 28 = .ok (.invokestatic 85, 3) := by decide +kernel
theorem dX11_sign_31 : decode cX11_sign 31 = .ok (.ifCond .ne 5, 3) := by decide +kernel
theorem dX11_sign_34 : decode cX11_sign 34 = .ok (.iconst (-1), 1) := by decide +kernel
theorem dX11_sign_35 : decode cX11_sign 35 = .ok (.ireturn, 1) := by decide +kernel
theorem dX11_sign_36 : decode cX11_sign 36 = .ok (.aload_n 0, 1) := by decide +kernel
theorem dX11_sign_37 : decode cX11_sign 37 = .ok (.iload_n 1, 1) := by decide +kernel
theorem dX11_sign_38 : decode cX11_sign 38 = .ok (.iload_n 2, 1) := by decide +kernel
theorem dX11_sign_39 : decode cX11_sign 39 = .ok (.iload_n 3, 1) := by decide +kernel
theorem dX11_sign_40 : decode cX11_sign 40 = .ok (.iconst 1, 1) := by decide +kernel
theorem dX11_sign_41 : decode cX11_sign 41 = .ok (.iadd, 1) := by decide +kernel
theorem dX11_sign_42 : decode cX11_sign 42 = .ok (.invokevirtual 181, 3) := by decide +kernel
theorem dX11_sign_45 : decode cX11_sign 45 = .ok (.istore 5, 2) := by decide +kernel
theorem dX11_sign_47 : decode cX11_sign 47 = .ok (.aload_n 0, 1) := by decide +kernel
theorem dX11_sign_48 : decode cX11_sign 48 = .ok (.iload_n 1, 1) := by decide +kernel
theorem dX11_sign_49 : decode cX11_sign 49 = .ok (.iload_n 2, 1) := by decide +kernel
theorem dX11_sign_50 : decode cX11_sign 50 = .ok (.iload_n 3, 1) := by decide +kernel
theorem dX11_sign_51 : decode cX11_sign 51 = .ok (.iconst 1, 1) := by decide +kernel
theorem dX11_sign_52 : decode cX11_sign 52 = .ok (.iadd, 1) := by decide +kernel
theorem dX11_sign_53 : decode cX11_sign 53 = .ok (.iload 4, 2) := by decide +kernel
theorem dX11_sign_55 : decode cX11_sign 55 = .ok (.invokevirtual 173, 3) := by decide +kernel
theorem dX11_sign_58 : decode cX11_sign 58 = .ok (.iload 5, 2) := by decide +kernel
theorem dX11_sign_60 : decode cX11_sign 60 = .ok (.ireturn, 1) := by decide +kernel
theorem dX11_arePair_0 : decode cX11_arePair 0 = .ok (.aload_n 0, 1) := by decide +kernel
theorem dX11_arePair_1 : decode cX11_arePair 1 = .ok (.iconst 0, 1) := by decide +kernel
theorem dX11_arePair_2 : decode cX11_arePair 2 = .ok (.iload_n 1, 1) := by decide +kernel
theorem dX11_arePair_3 : decode cX11_arePair 3 = .ok (.invokevirtual 177, 3) := by decide +kernel
theorem dX11_arePair_6 : decode cX11_arePair 6 = .ok (.ifCond .eq 16, 3) := by decide +kernel
theorem dX11_arePair_9 : decode cX11_arePair 9 = .ok (.aload_n 0, 1) := by decide +kernel
theorem dX11_arePair_10 : decode cX11_arePair 10 = .ok (.iconst 1, 1) := by decide +kernel
theorem dX11_arePair_11 : decode cX11_arePair 11 = .ok (.iload_n 2, 1) := by decide +kernel
theorem dX11_arePair_12 : decode cX11_arePair 12 = .ok (.invokevirtual 177, 3) := by decide +kernel
theorem dX11_arePair_15 : decode cX11_arePair 15 = .ok (.ifCond .eq 7, 3) := by decide +kernel
theorem dX11_arePair_18 : decode cX11_arePair 18 = .ok (.iconst 1, 1) := by decide +kernel
theorem dX11_arePair_19 : decode cX11_arePair 19 = .ok (.goto 4, 3) := by decide +kernel
theorem dX11_arePair_22 : decode cX11_arePair 22 = .ok (.iconst 0, 1) := by decide +kernel
theorem dX11_arePair_23 : decode cX11_arePair 23 = .ok (.ireturn, 1) := by decide +kernel
theorem dX11_tookOf_0 : decode cX11_tookOf 0 = .ok (.aload_n 0, 1) := by decide +kernel
theorem dX11_tookOf_1 : decode cX11_tookOf 1 = .ok (.iconst 1, 1) := by decide +kernel
theorem dX11_tookOf_2 : decode cX11_tookOf 2 = .ok (.iload_n 2, 1) := by decide +kernel
theorem dX11_tookOf_3 : decode cX11_tookOf 3 = .ok (.iconst 0, 1) := by decide +kernel
theorem dX11_tookOf_4 : decode cX11_tookOf 4 = .ok (.invokevirtual 181, 3) := by decide +kernel
theorem dX11_tookOf_7 : decode cX11_tookOf 7 = .ok (.aload_n 0, 1) := by decide +kernel
theorem dX11_tookOf_8 : decode cX11_tookOf 8 = .ok (.iconst 0, 1) := by decide +kernel
theorem dX11_tookOf_9 : decode cX11_tookOf 9 = .ok (.iload_n 1, 1) := by decide +kernel
theorem dX11_tookOf_10 : decode cX11_tookOf 10 = .ok (.iconst 0, 1) := by decide +kernel
theorem dX11_tookOf_11 : decode cX11_tookOf 11 = .ok (.invokevirtual 181, 3) := by decide +kernel
theorem dX11_tookOf_14 : decode cX11_tookOf 14 = .ok (.isub, 1) := by decide +kernel
theorem dX11_tookOf_15 : decode cX11_tookOf 15 = .ok (.aload_n 0, 1) := by decide +kernel
theorem dX11_tookOf_16 : decode cX11_tookOf 16 = .ok (.getfield 22, 3) := by decide +kernel
theorem dX11_tookOf_19 : decode cX11_tookOf 19 = .ok (.bipush 9, 2) := by decide +kernel
theorem dX11_tookOf_21 : decode cX11_tookOf 21 = .ok (.iaload, 1) := by decide +kernel
theorem dX11_tookOf_22 : decode cX11_tookOf 22 = .ok (.isub, 1) := by decide +kernel
theorem dX11_tookOf_23 : decode cX11_tookOf 23 = .ok (.ireturn, 1) := by decide +kernel
theorem dX11_took_0 : decode cX11_took 0 = .ok (.aload_n 0, 1) := by decide +kernel
theorem dX11_took_1 : decode cX11_took 1 = .ok (.iload_n 1, 1) := by decide +kernel
theorem dX11_took_2 : decode cX11_took 2 = .ok (.iload_n 2, 1) := by decide +kernel
theorem dX11_took_3 : decode cX11_took 3 = .ok (.invokevirtual 195, 3) := by decide +kernel
theorem dX11_took_6 : decode cX11_took 6 = .ok (.ifCond .eq 12, 3) := by decide +kernel
theorem dX11_took_9 : decode cX11_took 9 = .ok (.aload_n 0, 1) := by decide +kernel
theorem dX11_took_10 : decode cX11_took 10 = .ok (.iload_n 1, 1) := by decide +kernel
theorem dX11_took_11 : decode cX11_took 11 = .ok (.iload_n 2, 1) := by decide +kernel
theorem dX11_took_12 : decode cX11_took 12 = .ok (.invokevirtual 198, 3) := by decide +kernel
theorem dX11_took_15 : decode cX11_took 15 = .ok (.goto 6, 3) := by decide +kernel
theorem dX11_took_18 : decode cX11_took 18 = .ok (.sipush (-10000), 3) := by decide +kernel
theorem dX11_took_21 : decode cX11_took 21 = .ok (.ireturn, 1) := by decide +kernel
theorem dX11_letterOf_0 : decode cX11_letterOf 0 = .ok (.iload_n 0, 1) := by decide +kernel
theorem dX11_letterOf_1 : decode cX11_letterOf 1 = .ok (.bipush 8, 2) := by decide +kernel
theorem dX11_letterOf_3 : decode cX11_letterOf 3 = .ok (.if_icmp .le 10, 3) := by decide +kernel
theorem dX11_letterOf_6 : decode cX11_letterOf 6 = .ok (.iload_n 0, 1) := by decide +kernel
theorem dX11_letterOf_7 : decode cX11_letterOf 7 = .ok (.bipush 8, 2) := by decide +kernel
theorem dX11_letterOf_9 : decode cX11_letterOf 9 = .ok (.isub, 1) := by decide +kernel
theorem dX11_letterOf_10 : decode cX11_letterOf 10 = .ok (.goto 4, 3) := by decide +kernel
theorem dX11_letterOf_13 : decode cX11_letterOf 13 = .ok (.iload_n 0, 1) := by decide +kernel
theorem dX11_letterOf_14 : decode cX11_letterOf 14 = .ok (.ireturn, 1) := by decide +kernel
theorem dX11_isDoubt_0 : decode cX11_isDoubt 0 = .ok (.iload_n 0, 1) := by decide +kernel
theorem dX11_isDoubt_1 : decode cX11_isDoubt 1 = .ok (.bipush 8, 2) := by decide +kernel
theorem dX11_isDoubt_3 : decode cX11_isDoubt 3 = .ok (.if_icmp .gt 9, 3) := by decide +kernel
theorem dX11_isDoubt_6 : decode cX11_isDoubt 6 = .ok (.iload_n 1, 1) := by decide +kernel
theorem dX11_isDoubt_7 : decode cX11_isDoubt 7 = .ok (.bipush 8, 2) := by decide +kernel
theorem dX11_isDoubt_9 : decode cX11_isDoubt 9 = .ok (.if_icmp .le 7, 3) := by decide +kernel
theorem dX11_isDoubt_12 : decode cX11_isDoubt 12 = .ok (.iconst 1, 1) := by decide +kernel
theorem dX11_isDoubt_13 : decode cX11_isDoubt 13 = .ok (.goto 4, 3) := by decide +kernel
theorem dX11_isDoubt_16 : decode cX11_isDoubt 16 = .ok (.iconst 0, 1) := by decide +kernel
theorem dX11_isDoubt_17 : decode cX11_isDoubt 17 = .ok (.ireturn, 1) := by decide +kernel
theorem dX11_pointsAt_0 : decode cX11_pointsAt 0 = .ok (.aload_n 0, 1) := by decide +kernel
theorem dX11_pointsAt_1 : decode cX11_pointsAt 1 = .ok (.iconst 0, 1) := by decide +kernel
theorem dX11_pointsAt_2 : decode cX11_pointsAt 2 = .ok (.iload_n 1, 1) := by decide +kernel
theorem dX11_pointsAt_3 : decode cX11_pointsAt 3 = .ok (.iload_n 3, 1) := by decide +kernel
theorem dX11_pointsAt_4 : decode cX11_pointsAt 4 = .ok (.iconst 1, 1) := by decide +kernel
theorem dX11_pointsAt_5 : decode cX11_pointsAt 5 = .ok (.iadd, 1) := by decide +kernel
theorem dX11_pointsAt_6 : decode cX11_pointsAt 6 = .ok (.invokevirtual 181, 3) := by decide +kernel
theorem dX11_pointsAt_9 : decode cX11_pointsAt 9 = .ok (.istore 4, 2) := by decide +kernel
theorem dX11_pointsAt_11 : decode cX11_pointsAt 11 = .ok (.aload_n 0, 1) := by decide +kernel
theorem dX11_pointsAt_12 : decode cX11_pointsAt 12 = .ok (.iconst 1, 1) := by decide +kernel
theorem dX11_pointsAt_13 : decode cX11_pointsAt 13 = .ok (.iload_n 2, 1) := by decide +kernel
theorem dX11_pointsAt_14 : decode cX11_pointsAt 14 = .ok (.iload_n 3, 1) := by decide +kernel
theorem dX11_pointsAt_15 : decode cX11_pointsAt 15 = .ok (.iconst 1, 1) := by decide +kernel
theorem dX11_pointsAt_16 : decode cX11_pointsAt 16 = .ok (.iadd, 1) := by decide +kernel
theorem dX11_pointsAt_17 : decode cX11_pointsAt 17 = .ok (.invokevirtual 181, 3) := by decide +kernel
theorem dX11_pointsAt_20 : decode cX11_pointsAt 20 = .ok (.istore 5, 2) := by decide +kernel
theorem dX11_pointsAt_22 : decode cX11_pointsAt 22 = .ok (.iload 4, 2) := by decide +kernel
theorem dX11_pointsAt_24 : decode cX11_pointsAt 24 = .ok (.ifCond .eq 8, 3) := by decide +kernel
theorem dX11_pointsAt_27 : decode cX11_pointsAt 27 = .ok (.iload 5, 2) := by decide +kernel
theorem dX11_pointsAt_29 : decode cX11_pointsAt 29 = .ok (.ifCond .ne 10, 3) := by decide +kernel
theorem dX11_pointsAt_32 : decode cX11_pointsAt 32 = .ok (.aload_n 0, 1) := by decide +kernel
theorem dX11_pointsAt_33 : decode cX11_pointsAt 33 = .ok (.getfield 22, 3) := by decide +kernel
theorem dX11_pointsAt_36 : decode cX11_pointsAt 36 = .ok (.iconst 5, 1) := by decide +kernel
theorem dX11_pointsAt_37 : decode cX11_pointsAt 37 = .ok (.iaload, 1) := by decide +kernel
theorem dX11_pointsAt_38 : decode cX11_pointsAt 38 = .ok (.ireturn, 1) := by decide +kernel
theorem dX11_pointsAt_39 : decode cX11_pointsAt 39 = .ok (.iload 4, 2) := by decide +kernel
theorem dX11_pointsAt_41 : decode cX11_pointsAt 41 = .ok (.invokestatic 201, 3) := by decide +kernel
theorem dX11_pointsAt_44 : decode cX11_pointsAt 44 = .ok (.iconst 1, 1) := by decide +kernel
theorem dX11_pointsAt_45 : decode cX11_pointsAt 45 = .ok (.isub, 1) := by decide +kernel
theorem dX11_pointsAt_46 : decode cX11_pointsAt 46 = .ok (.istore 6, 2) := by decide +kernel
theorem dX11_pointsAt_48 : decode cX11_pointsAt 48 = .ok (.iload 5, 2) := by decide +kernel
theorem dX11_pointsAt_50 : decode cX11_pointsAt 50 = .ok (.invokestatic 201, 3) := by decide +kernel
theorem dX11_pointsAt_53 : decode cX11_pointsAt 53 = .ok (.iconst 1, 1) := by decide +kernel
theorem dX11_pointsAt_54 : decode cX11_pointsAt 54 = .ok (.isub, 1) := by decide +kernel
theorem dX11_pointsAt_55 : decode cX11_pointsAt 55 = .ok (.istore 7, 2) := by decide +kernel
theorem dX11_pointsAt_57 : decode cX11_pointsAt 57 = .ok (.iload 6, 2) := by decide +kernel
theorem dX11_pointsAt_59 : decode cX11_pointsAt 59 = .ok (.iload 7, 2) := by decide +kernel
theorem dX11_pointsAt_61 : decode cX11_pointsAt 61 = .ok (.if_icmp .ne 19, 3) := by decide +kernel
theorem dX11_pointsAt_64 : decode cX11_pointsAt 64 = .ok (.iload 4, 2) := by decide +kernel
theorem dX11_pointsAt_66 : decode cX11_pointsAt 66 = .ok (.iload 5, 2) := by decide +kernel
theorem dX11_pointsAt_68 : decode cX11_pointsAt 68 = .ok (.invokestatic 204, 3) := by decide +kernel
theorem dX11_pointsAt_71 : decode cX11_pointsAt 71 = .ok (.ifCond .eq 7, 3) := by decide +kernel
theorem dX11_pointsAt_74 : decode cX11_pointsAt 74 = .ok (.iconst 1, 1) := by decide +kernel
theorem dX11_pointsAt_75 : decode cX11_pointsAt 75 = .ok (.goto 4, 3) := by decide +kernel
theorem dX11_pointsAt_78 : decode cX11_pointsAt 78 = .ok (.iconst 0, 1) := by decide +kernel
theorem dX11_pointsAt_79 : decode cX11_pointsAt 79 = .ok (.ireturn, 1) := by decide +kernel
theorem dX11_pointsAt_80 : decode cX11_pointsAt 80 = .ok (.aload_n 0, 1) := by decide +kernel
theorem dX11_pointsAt_81 : decode cX11_pointsAt 81 = .ok (.getfield 31, 3) := by decide +kernel
theorem dX11_pointsAt_84 : decode cX11_pointsAt 84 = .ok (.bipush 8, 2) := by decide +kernel
theorem dX11_pointsAt_86 : decode cX11_pointsAt 86 = .ok (.iload 6, 2) := by decide +kernel
theorem dX11_pointsAt_88 : decode cX11_pointsAt 88 = .ok (.imul, 1) := by decide +kernel
theorem dX11_pointsAt_89 : decode cX11_pointsAt 89 = .ok (.iload 7, 2) := by decide +kernel
theorem dX11_pointsAt_91 : decode cX11_pointsAt 91 = .ok (.iadd, 1) := by decide +kernel
theorem dX11_pointsAt_92 : decode cX11_pointsAt 92 = .ok (.iaload, 1) := by decide +kernel
theorem dX11_pointsAt_93 : decode cX11_pointsAt 93 = .ok (.iconst 1, 1) := by decide +kernel
theorem dX11_pointsAt_94 : decode cX11_pointsAt 94 = .ok (.isub, 1) := by decide +kernel
theorem dX11_pointsAt_95 : decode cX11_pointsAt 95 = .ok (.istore 8, 2) := by decide +kernel
theorem dX11_pointsAt_97 : decode cX11_pointsAt 97 = .ok (.iload 4, 2) := by decide +kernel
theorem dX11_pointsAt_99 : decode cX11_pointsAt 99 = .ok (.iload 5, 2) := by decide +kernel
theorem dX11_pointsAt_101 : decode cX11_pointsAt 101 = .ok (.invokestatic 204, 3) := by decide +kernel
theorem dX11_pointsAt_104 : decode cX11_pointsAt 104 = .ok (.ifCond .eq 12, 3) := by decide +kernel
theorem dX11_pointsAt_107 : decode cX11_pointsAt 107 = .ok (.aload_n 0, 1) := by decide +kernel
theorem dX11_pointsAt_108 : decode cX11_pointsAt 108 = .ok (.getfield 22, 3) := by decide +kernel
theorem dX11_pointsAt_111 : decode cX11_pointsAt 111 = .ok (.iconst 4, 1) := by decide +kernel
theorem dX11_pointsAt_112 : decode cX11_pointsAt 112 = .ok (.iaload, 1) := by decide +kernel
theorem dX11_pointsAt_113 : decode cX11_pointsAt 113 = .ok (.goto 5, 3) := by decide +kernel
theorem dX11_pointsAt_116 : decode cX11_pointsAt 116 = .ok (.bipush (-4), 2) := by decide +kernel
theorem dX11_pointsAt_118 : decode cX11_pointsAt 118 = .ok (.istore 9, 2) := by decide +kernel
theorem dX11_pointsAt_120 : decode cX11_pointsAt 120 = .ok (.iload 8, 2) := by decide +kernel
theorem dX11_pointsAt_122 : decode cX11_pointsAt 122 = .ok (.ifCond .ge 8, 3) := by decide +kernel
theorem dX11_pointsAt_125 : decode cX11_pointsAt 125 = .ok (.iload 9, 2) := by decide +kernel
theorem dX11_pointsAt_127 : decode cX11_pointsAt 127 = .ok (.goto 24, 3) := by decide +kernel
theorem dX11_pointsAt_130 : decode cX11_pointsAt 130 = .ok (.iload 9, 2) := by decide +kernel
theorem dX11_pointsAt_132 : decode cX11_pointsAt 132 = .ok (.bipush (-4), 2) := by decide +kernel
theorem dX11_pointsAt_134 : decode cX11_pointsAt 134 = .ok (.if_icmp .eq 10, 3) := by decide +kernel
theorem dX11_pointsAt_137 : decode cX11_pointsAt 137 = .ok (.iload 8, 2) := by decide +kernel
theorem dX11_pointsAt_139 : decode cX11_pointsAt 139 = .ok (.iload 9, 2) := by decide +kernel
theorem dX11_pointsAt_141 : decode cX11_pointsAt 141 = .ok (.if_icmp .ge 8, 3) := by decide +kernel
theorem dX11_pointsAt_144 : decode cX11_pointsAt 144 = .ok (.iload 8, 2) := by decide +kernel
theorem dX11_pointsAt_146 : decode cX11_pointsAt 146 = .ok (.goto 5, 3) := by decide +kernel
theorem dX11_pointsAt_149 : decode cX11_pointsAt 149 = .ok (.iload 9, 2) := by decide +kernel
theorem dX11_pointsAt_151 : decode cX11_pointsAt 151 = .ok (.ireturn, 1) := by decide +kernel
theorem dX11_isInTime_0 : decode cX11_isInTime 0 = .ok (.aload_n 0, 1) := by decide +kernel
theorem dX11_isInTime_1 : decode cX11_isInTime 1 = .ok (.iload_n 1, 1) := by decide +kernel
theorem dX11_isInTime_2 : decode cX11_isInTime 2 = .ok (.iload_n 2, 1) := by decide +kernel
theorem dX11_isInTime_3 : decode cX11_isInTime 3 = .ok (.invokevirtual 198, 3) := by decide +kernel
theorem dX11_isInTime_6 : decode cX11_isInTime 6 = .ok (.i2l, 1) := by decide +kernel
theorem dX11_isInTime_7 : decode cX11_isInTime 7 = .ok (.aload_n 0, 1) := by decide +kernel
theorem dX11_isInTime_8 : decode cX11_isInTime 8 = .ok (.getfield 22, 3) := by decide +kernel
theorem dX11_isInTime_11 : decode cX11_isInTime 11 = .ok (.iconst 0, 1) := by decide +kernel
theorem dX11_isInTime_12 : decode cX11_isInTime 12 = .ok (.iaload, 1) := by decide +kernel
theorem dX11_isInTime_13 : decode cX11_isInTime 13 = .ok (.i2l, 1) := by decide +kernel
theorem dX11_isInTime_14 : decode cX11_isInTime 14 = .ok (.aload_n 0, 1) := by decide +kernel
theorem dX11_isInTime_15 : decode cX11_isInTime 15 = .ok (.getfield 22, 3) := by decide +kernel
theorem dX11_isInTime_18 : decode cX11_isInTime 18 = .ok (.iconst 1, 1) := by decide +kernel
theorem dX11_isInTime_19 : decode cX11_isInTime 19 = .ok (.iaload, 1) := by decide +kernel
theorem dX11_isInTime_20 : decode cX11_isInTime 20 = .ok (.i2l, 1) := by decide +kernel
theorem dX11_isInTime_21 : decode cX11_isInTime 21 = .ok (.invokestatic 85, 3) := by decide +kernel
theorem dX11_isInTime_24 : decode cX11_isInTime 24 = .ok (.ireturn, 1) := by decide +kernel
theorem dX11_costOf_0 : decode cX11_costOf 0 = .ok (.aload_n 0, 1) := by decide +kernel
theorem dX11_costOf_1 : decode cX11_costOf 1 = .ok (.iload_n 1, 1) := by decide +kernel
theorem dX11_costOf_2 : decode cX11_costOf 2 = .ok (.iload_n 2, 1) := by decide +kernel
theorem dX11_costOf_3 : decode cX11_costOf 3 = .ok (.invokevirtual 207, 3) := by decide +kernel
theorem dX11_costOf_6 : decode cX11_costOf 6 = .ok (.ifCond .ne 6, 3) := by decide +kernel
theorem dX11_costOf_9 : decode cX11_costOf 9 = .ok (.bipush (-4), 2) := by decide +kernel
theorem dX11_costOf_11 : decode cX11_costOf 11 = .ok (.ireturn, 1) := by decide +kernel
theorem dX11_costOf_12 : decode cX11_costOf 12 = .ok (.aload_n 0, 1) := by decide +kernel
theorem dX11_costOf_13 : decode cX11_costOf 13 = .ok (.iload_n 1, 1) := by decide +kernel
theorem dX11_costOf_14 : decode cX11_costOf 14 = .ok (.iload_n 2, 1) := by decide +kernel
theorem dX11_costOf_15 : decode cX11_costOf 15 = .ok (.invokevirtual 198, 3) := by decide +kernel
theorem dX11_costOf_18 : decode cX11_costOf 18 = .ok (.aload_n 0, 1) := by decide +kernel
theorem dX11_costOf_19 : decode cX11_costOf 19 = .ok (.getfield 22, 3) := by decide +kernel
theorem dX11_costOf_22 : decode cX11_costOf 22 = .ok (.iconst 2, 1) := by decide +kernel
theorem dX11_costOf_23 : decode cX11_costOf 23 = .ok (.iaload, 1) := by decide +kernel
theorem dX11_costOf_24 : decode cX11_costOf 24 = .ok (.isub, 1) := by decide +kernel
theorem dX11_costOf_25 : decode cX11_costOf 25 = .ok (.istore 4, 2) := by decide +kernel
theorem dX11_costOf_27 : decode cX11_costOf 27 = .ok (.aload_n 0, 1) := by decide +kernel
theorem dX11_costOf_28 : decode cX11_costOf 28 = .ok (.getfield 22, 3) := by decide +kernel
theorem dX11_costOf_31 : decode cX11_costOf 31 = .ok (.iconst 3, 1) := by decide +kernel
theorem dX11_costOf_32 : decode cX11_costOf 32 = .ok (.iaload, 1) := by decide +kernel
theorem dX11_costOf_33 : decode cX11_costOf 33 = .ok (.iload 4, 2) := by decide +kernel
theorem dX11_costOf_35 : decode cX11_costOf 35 = .ok (.ifCond .ge 9, 3) := by decide +kernel
theorem dX11_costOf_38 : decode cX11_costOf 38 = .ok (.iload 4, 2) := by decide +kernel
theorem dX11_costOf_40 : decode cX11_costOf 40 = .ok (.ineg, 1) := by decide +kernel
theorem dX11_costOf_41 : decode cX11_costOf 41 = .ok (.goto 5, 3) := by decide +kernel
theorem dX11_costOf_44 : decode cX11_costOf 44 = .ok (.iload 4, 2) := by decide +kernel
theorem dX11_costOf_46 : decode cX11_costOf 46 = .ok (.imul, 1) := by decide +kernel
theorem dX11_costOf_47 : decode cX11_costOf 47 = .ok (.istore 5, 2) := by decide +kernel
theorem dX11_costOf_49 : decode cX11_costOf 49 = .ok (.iconst 0, 1) := by decide +kernel
theorem dX11_costOf_50 : decode cX11_costOf 50 = .ok (.istore 6, 2) := by decide +kernel
theorem dX11_costOf_52 : decode cX11_costOf 52 = .ok (.iload 6, 2) := by decide +kernel
theorem dX11_costOf_54 : decode cX11_costOf 54 = .ok (.iconst 4, 1) := by decide +kernel
theorem dX11_costOf_55 : decode cX11_costOf 55 = .ok (.if_icmp .ge 50, 3) := by decide +kernel
theorem dX11_costOf_58 : decode cX11_costOf 58 = .ok (.iload_n 3, 1) := by decide +kernel
theorem dX11_costOf_59 : decode cX11_costOf 59 = .ok (.iload 6, 2) := by decide +kernel
theorem dX11_costOf_61 : decode cX11_costOf 61 = .ok (.ishr, 1) := by decide +kernel
theorem dX11_costOf_62 : decode cX11_costOf 62 = .ok (.iconst 1, 1) := by decide +kernel
theorem dX11_costOf_63 : decode cX11_costOf 63 = .ok (.iand, 1) := by decide +kernel
theorem dX11_costOf_64 : decode cX11_costOf 64 = .ok (.iconst 1, 1) := by decide +kernel
theorem dX11_costOf_65 : decode cX11_costOf 65 = .ok (.if_icmp .ne 14, 3) := by decide +kernel
theorem dX11_costOf_68 : decode cX11_costOf 68 = .ok (.aload_n 0, 1) := by decide +kernel
theorem dX11_costOf_69 : decode cX11_costOf 69 = .ok (.iload_n 1, 1) := by decide +kernel
theorem dX11_costOf_70 : decode cX11_costOf 70 = .ok (.iload_n 2, 1) := by decide +kernel
theorem dX11_costOf_71 : decode cX11_costOf 71 = .ok (.iload 6, 2) := by decide +kernel
theorem dX11_costOf_73 : decode cX11_costOf 73 = .ok (.invokevirtual 210, 3) := by decide +kernel
theorem dX11_costOf_76 : decode cX11_costOf 76 = .ok (.goto 4, 3) := by decide +kernel
theorem dX11_costOf_79 : decode cX11_costOf 79 = .ok (.iconst 0, 1) := by decide +kernel
theorem dX11_costOf_80 : decode cX11_costOf 80 = .ok (.istore 7, 2) := by decide +kernel
theorem dX11_costOf_82 : decode cX11_costOf 82 = .ok (.iload 7, 2) := by decide +kernel
theorem dX11_costOf_84 : decode cX11_costOf 84 = .ok (.bipush (-4), 2) := by decide +kernel
theorem dX11_costOf_86 : decode cX11_costOf 86 = .ok (.if_icmp .ne 6, 3) := by decide +kernel
theorem dX11_costOf_89 : decode cX11_costOf 89 = .ok (.bipush (-4), 2) := by decide +kernel
theorem dX11_costOf_91 : decode cX11_costOf 91 = .ok (.ireturn, 1) := by decide +kernel
theorem dX11_costOf_92 : decode cX11_costOf 92 = .ok (.iload 5, 2) := by decide +kernel
theorem dX11_costOf_94 : decode cX11_costOf 94 = .ok (.iload 7, 2) := by decide +kernel
theorem dX11_costOf_96 : decode cX11_costOf 96 = .ok (.iadd, 1) := by decide +kernel
theorem dX11_costOf_97 : decode cX11_costOf 97 = .ok (.istore 5, 2) := by decide +kernel
theorem dX11_costOf_99 : decode cX11_costOf 99 = .ok (.iinc 6 1, 3) := by decide +kernel
theorem dX11_costOf_102 : decode cX11_costOf 102 = .ok (.goto (-50), 3) := by decide +kernel
theorem dX11_costOf_105 : decode cX11_costOf 105 = .ok (.aload_n 0, 1) := by decide +kernel
theorem dX11_costOf_106 : decode cX11_costOf 106 = .ok (.iconst 0, 1) := by decide +kernel
theorem dX11_costOf_107 : decode cX11_costOf 107 = .ok (.iload_n 1, 1) := by decide +kernel
theorem dX11_costOf_108 : decode cX11_costOf 108 = .ok (.iconst 5, 1) := by decide +kernel
theorem dX11_costOf_109 : decode cX11_costOf 109 = .ok (.invokevirtual 181, 3) := by decide +kernel
theorem dX11_costOf_112 : decode cX11_costOf 112 = .ok (.aload_n 0, 1) := by decide +kernel
theorem dX11_costOf_113 : decode cX11_costOf 113 = .ok (.iconst 1, 1) := by decide +kernel
theorem dX11_costOf_114 : decode cX11_costOf 114 = .ok (.iload_n 2, 1) := by decide +kernel
theorem dX11_costOf_115 : decode cX11_costOf 115 = .ok (.iconst 5, 1) := by decide +kernel
theorem dX11_costOf_116 : decode cX11_costOf 116 = .ok (.invokevirtual 181, 3) := by decide +kernel
theorem dX11_costOf_119 : decode cX11_costOf 119 = .ok (.invokestatic 213, 3) := by decide +kernel
theorem dX11_costOf_122 : decode cX11_costOf 122 = .ok (.ifCond .eq 16, 3) := by decide +kernel
theorem dX11_costOf_125 : decode cX11_costOf 125 = .ok (.iload 5, 2) := by decide +kernel
theorem dX11_costOf_127 : decode cX11_costOf 127 = .ok (.aload_n 0, 1) := by decide +kernel
theorem dX11_costOf_128 : decode cX11_costOf 128 = .ok (.getfield 22, 3) := by decide +kernel
theorem dX11_costOf_131 : decode cX11_costOf 131 = .ok (.bipush 6, 2) := by decide +kernel
theorem dX11_costOf_133 : decode cX11_costOf 133 = .ok (.iaload, 1) := by decide +kernel
theorem dX11_costOf_134 : decode cX11_costOf 134 = .ok (.iadd, 1) := by decide +kernel
theorem dX11_costOf_135 : decode cX11_costOf 135 = .ok (.goto 5, 3) := by decide +kernel
theorem dX11_costOf_138 : decode cX11_costOf 138 = .ok (.iload 5, 2) := by decide +kernel
theorem dX11_costOf_140 : decode cX11_costOf 140 = .ok (.ireturn, 1) := by decide +kernel
theorem dX11_areUnlike_0 : decode cX11_areUnlike 0 = .ok (.iload_n 0, 1) := by decide +kernel
theorem dX11_areUnlike_1 : decode cX11_areUnlike 1 = .ok (.ifCond .le 16, 3) := by decide +kernel
theorem dX11_areUnlike_4 : decode cX11_areUnlike 4 = .ok (.iload_n 1, 1) := by decide +kernel
theorem dX11_areUnlike_5 : decode cX11_areUnlike 5 = .ok (.ifCond .le 12, 3) := by decide +kernel
theorem dX11_areUnlike_8 : decode cX11_areUnlike 8 = .ok (.iload_n 0, 1) := by decide +kernel
theorem dX11_areUnlike_9 : decode cX11_areUnlike 9 = .ok (.iload_n 1, 1) := by decide +kernel
theorem dX11_areUnlike_10 : decode cX11_areUnlike 10 = .ok (.if_icmp .eq 7, 3) := by decide +kernel
theorem dX11_areUnlike_13 : decode cX11_areUnlike 13 = .ok (.iconst 1, 1) := by decide +kernel
theorem dX11_areUnlike_14 : decode cX11_areUnlike 14 = .ok (.goto 4, 3) := by decide +kernel
theorem dX11_areUnlike_17 : decode cX11_areUnlike 17 = .ok (.iconst 0, 1) := by decide +kernel
theorem dX11_areUnlike_18 : decode cX11_areUnlike 18 = .ok (.ireturn, 1) := by decide +kernel
theorem dX11_cost_0 : decode cX11_cost 0 = .ok (.aload_n 0, 1) := by decide +kernel
theorem dX11_cost_1 : decode cX11_cost 1 = .ok (.iload_n 1, 1) := by decide +kernel
theorem dX11_cost_2 : decode cX11_cost 2 = .ok (.iload_n 2, 1) := by decide +kernel
theorem dX11_cost_3 : decode cX11_cost 3 = .ok (.invokevirtual 195, 3) := by decide +kernel
theorem dX11_cost_6 : decode cX11_cost 6 = .ok (.ifCond .eq 14, 3) := by decide +kernel
theorem dX11_cost_9 : decode cX11_cost 9 = .ok (.aload_n 0, 1) := by decide +kernel
theorem dX11_cost_10 : decode cX11_cost 10 = .ok (.iload_n 1, 1) := by decide +kernel
theorem dX11_cost_11 : decode cX11_cost 11 = .ok (.iload_n 2, 1) := by decide +kernel
theorem dX11_cost_12 : decode cX11_cost 12 = .ok (.bipush 15, 2) := by decide +kernel
theorem dX11_cost_14 : decode cX11_cost 14 = .ok (.invokevirtual 216, 3) := by decide +kernel
theorem dX11_cost_17 : decode cX11_cost 17 = .ok (.goto 4, 3) := by decide +kernel
theorem dX11_cost_20 : decode cX11_cost 20 = .ok (.iconst (-1), 1) := by decide +kernel
theorem dX11_cost_21 : decode cX11_cost 21 = .ok (.ireturn, 1) := by decide +kernel
theorem dX11_why_0 : decode cX11_why 0 = .ok (.aload_n 0, 1) := by decide +kernel
theorem dX11_why_1 : decode cX11_why 1 = .ok (.iload_n 1, 1) := by decide +kernel
theorem dX11_why_2 : decode cX11_why 2 = .ok (.iload_n 2, 1) := by decide +kernel
theorem dX11_why_3 : decode cX11_why 3 = .ok (.invokevirtual 195, 3) := by decide +kernel
theorem dX11_why_6 : decode cX11_why 6 = .ok (.ifCond .ne 5, 3) := by decide +kernel
theorem dX11_why_9 : decode cX11_why 9 = .ok (.iconst (-1), 1) := by decide +kernel
theorem dX11_why_10 : decode cX11_why 10 = .ok (.ireturn, 1) := by decide +kernel
theorem dX11_why_11 : decode cX11_why 11 = .ok (.aload_n 0, 1) := by decide +kernel
theorem dX11_why_12 : decode cX11_why 12 = .ok (.iload_n 1, 1) := by decide +kernel
theorem dX11_why_13 : decode cX11_why 13 = .ok (.iload_n 2, 1) := by decide +kernel
theorem dX11_why_14 : decode cX11_why 14 = .ok (.invokevirtual 207, 3) := by decide +kernel
theorem dX11_why_17 : decode cX11_why 17 = .ok (.ifCond .eq 7, 3) := by decide +kernel
theorem dX11_why_20 : decode cX11_why 20 = .ok (.iconst 0, 1) := by decide +kernel
theorem dX11_why_21 : decode cX11_why 21 = .ok (.goto 5, 3) := by decide +kernel
theorem dX11_why_24 : decode cX11_why 24 = .ok (.bipush 16, 2) := by decide +kernel
theorem dX11_why_26 : decode cX11_why 26 = .ok (.istore_n 3, 1) := by decide +kernel
theorem dX11_why_27 : decode cX11_why 27 = .ok (.iconst 0, 1) := by decide +kernel
theorem dX11_why_28 : decode cX11_why 28 = .ok (.istore 4, 2) := by decide +kernel
theorem dX11_why_30 : decode cX11_why 30 = .ok (.iload 4, 2) := by decide +kernel
theorem dX11_why_32 : decode cX11_why 32 = .ok (.iconst 4, 1) := by decide +kernel
theorem dX11_why_33 : decode cX11_why 33 = .ok (.if_icmp .ge 33, 3) := by decide +kernel
theorem dX11_why_36 : decode cX11_why 36 = .ok (.iload_n 3, 1) := by decide +kernel
theorem dX11_why_37 : decode cX11_why 37 = .ok (.aload_n 0, 1) := by decide +kernel
theorem dX11_why_38 : decode cX11_why 38 = .ok (.iload_n 1, 1) := by decide +kernel
theorem dX11_why_39 : decode cX11_why 39 = .ok (.iload_n 2, 1) := by decide +kernel
theorem dX11_why_40 : decode cX11_why 40 = .ok (.iload 4, 2) := by decide +kernel
theorem dX11_why_42 : decode cX11_why 42 = .ok (.invokevirtual 210, 3) := by decide +kernel
theorem dX11_why_45 : decode cX11_why 45 = .ok (.bipush (-4), 2) := by decide +kernel
theorem dX11_why_47 : decode cX11_why 47 = .ok (.if_icmp .ne 10, 3) := by decide +kernel
theorem dX11_why_50 : decode cX11_why 50 = .ok (.iconst 1, 1) := by decide +kernel
theorem dX11_why_51 : decode cX11_why 51 = .ok (.iload 4, 2) := by decide +kernel
theorem dX11_why_53 : decode cX11_why 53 = .ok (.ishl, 1) := by decide +kernel
theorem dX11_why_54 : decode cX11_why 54 = .ok (.goto 4, 3) := by decide +kernel
theorem dX11_why_57 : decode cX11_why 57 = .ok (.iconst 0, 1) := by decide +kernel
theorem dX11_why_58 : decode cX11_why 58 = .ok (.ior, 1) := by decide +kernel
theorem dX11_why_59 : decode cX11_why 59 = .ok (.istore_n 3, 1) := by decide +kernel
theorem dX11_why_60 : decode cX11_why 60 = .ok (.iinc 4 1, 3) := by decide +kernel
theorem dX11_why_63 : decode cX11_why 63 = .ok (.goto (-33), 3) := by decide +kernel
theorem dX11_why_66 : decode cX11_why 66 = .ok (.iload_n 3, 1) := by decide +kernel
theorem dX11_why_67 : decode cX11_why 67 = .ok (.ireturn, 1) := by decide +kernel
theorem dX11_layCosts_0 : decode cX11_layCosts 0 = .ok (.iconst 0, 1) := by decide +kernel
theorem dX11_layCosts_1 : decode cX11_layCosts 1 = .ok (.istore_n 2, 1) := by decide +kernel
theorem dX11_layCosts_2 : decode cX11_layCosts 2 = .ok (.iload_n 2, 1) := by decide +kernel
theorem dX11_layCosts_3 : decode cX11_layCosts 3 = .ok (.aload_n 0, 1) := by decide +kernel
theorem dX11_layCosts_4 : decode cX11_layCosts 4 = .ok (.iconst 0, 1) := by decide +kernel
theorem dX11_layCosts_5 : decode cX11_layCosts 5 = .ok (.iconst 0, 1) := by decide +kernel
theorem dX11_layCosts_6 : decode cX11_layCosts 6 = .ok (.invokevirtual 164, 3) := by decide +kernel
theorem dX11_layCosts_9 : decode cX11_layCosts 9 = .ok (.if_icmp .ge 45, 3) := by decide +kernel
theorem dX11_layCosts_12 : decode cX11_layCosts 12 = .ok (.iconst 0, 1) := by decide +kernel
theorem dX11_layCosts_13 : decode cX11_layCosts 13 = .ok (.istore_n 3, 1) := by decide +kernel
theorem dX11_layCosts_14 : decode cX11_layCosts 14 = .ok (.iload_n 3, 1) := by decide +kernel
theorem dX11_layCosts_15 : decode cX11_layCosts 15 = .ok (.aload_n 0, 1) := by decide +kernel
theorem dX11_layCosts_16 : decode cX11_layCosts 16 = .ok (.iconst 1, 1) := by decide +kernel
theorem dX11_layCosts_17 : decode cX11_layCosts 17 = .ok (.iconst 0, 1) := by decide +kernel
theorem dX11_layCosts_18 : decode cX11_layCosts 18 = .ok (.invokevirtual 164, 3) := by decide +kernel
theorem dX11_layCosts_21 : decode cX11_layCosts 21 = .ok (.if_icmp .ge 27, 3) := by decide +kernel
theorem dX11_layCosts_24 : decode cX11_layCosts 24 = .ok (.aload_n 0, 1) := by decide +kernel
theorem dX11_layCosts_25 : decode cX11_layCosts 25 = .ok (.getfield 34, 3) := by decide +kernel
theorem dX11_layCosts_28 : decode cX11_layCosts 28 = .ok (.bipush 10, 2) := by decide +kernel
theorem dX11_layCosts_30 : decode cX11_layCosts 30 = .ok (.iload_n 2, 1) := by decide +kernel
theorem dX11_layCosts_31 : decode cX11_layCosts 31 = .ok (.imul, 1) := by decide +kernel
theorem dX11_layCosts_32 : decode cX11_layCosts 32 = .ok (.iload_n 3, 1) := by decide +kernel
theorem dX11_layCosts_33 : decode cX11_layCosts 33 = .ok (.iadd, 1) := by decide +kernel
theorem dX11_layCosts_34 : decode cX11_layCosts 34 = .ok (.aload_n 0, 1) := by decide +kernel
theorem dX11_layCosts_35 : decode cX11_layCosts 35 = .ok (.iload_n 2, 1) := by decide +kernel
theorem dX11_layCosts_36 : decode cX11_layCosts 36 = .ok (.iload_n 3, 1) := by decide +kernel
theorem dX11_layCosts_37 : decode cX11_layCosts 37 = .ok (.iload_n 1, 1) := by decide +kernel
theorem dX11_layCosts_38 : decode cX11_layCosts 38 = .ok (.invokevirtual 216, 3) := by decide +kernel
theorem dX11_layCosts_41 : decode cX11_layCosts 41 = .ok (.iastore, 1) := by decide +kernel
theorem dX11_layCosts_42 : decode cX11_layCosts 42 = .ok (.iinc 3 1, 3) := by decide +kernel
theorem dX11_layCosts_45 : decode cX11_layCosts 45 = .ok (.goto (-31), 3) := by decide +kernel
theorem dX11_layCosts_48 : decode cX11_layCosts 48 = .ok (.iinc 2 1, 3) := by decide +kernel
theorem dX11_layCosts_51 : decode cX11_layCosts 51 = .ok (.goto (-49), 3) := by decide +kernel
theorem dX11_layCosts_54 : decode cX11_layCosts 54 = .ok (.return_, 1) := by decide +kernel
theorem dX11_bitsOf_0 : decode cX11_bitsOf 0 = .ok (.iconst 0, 1) := by decide +kernel
theorem dX11_bitsOf_1 : decode cX11_bitsOf 1 = .ok (.istore_n 1, 1) := by decide +kernel
theorem dX11_bitsOf_2 : decode cX11_bitsOf 2 = .ok (.iconst 0, 1) := by decide +kernel
theorem dX11_bitsOf_3 : decode cX11_bitsOf 3 = .ok (.istore_n 2, 1) := by decide +kernel
theorem dX11_bitsOf_4 : decode cX11_bitsOf 4 = .ok (.iload_n 2, 1) := by decide +kernel
theorem dX11_bitsOf_5 : decode cX11_bitsOf 5 = .ok (.bipush 10, 2) := by decide +kernel
theorem dX11_bitsOf_7 : decode cX11_bitsOf 7 = .ok (.if_icmp .ge 17, 3) := by decide +kernel
theorem dX11_bitsOf_10 : decode cX11_bitsOf 10 = .ok (.iload_n 1, 1) := by decide +kernel
theorem dX11_bitsOf_11 : decode cX11_bitsOf 11 = .ok (.iload_n 0, 1) := by decide +kernel
theorem dX11_bitsOf_12 : decode cX11_bitsOf 12 = .ok (.iload_n 2, 1) := by decide +kernel
theorem dX11_bitsOf_13 : decode cX11_bitsOf 13 = .ok (.ishr, 1) := by decide +kernel
theorem dX11_bitsOf_14 : decode cX11_bitsOf 14 = .ok (.iconst 1, 1) := by decide +kernel
theorem dX11_bitsOf_15 : decode cX11_bitsOf 15 = .ok (.iand, 1) := by decide +kernel
theorem dX11_bitsOf_16 : decode cX11_bitsOf 16 = .ok (.iadd, 1) := by decide +kernel
theorem dX11_bitsOf_17 : decode cX11_bitsOf 17 = .ok (.istore_n 1, 1) := by decide +kernel
theorem dX11_bitsOf_18 : decode cX11_bitsOf 18 = .ok (.iinc 2 1, 3) := by decide +kernel
theorem dX11_bitsOf_21 : decode cX11_bitsOf 21 = .ok (.goto (-17), 3) := by decide +kernel
theorem dX11_bitsOf_24 : decode cX11_bitsOf 24 = .ok (.iload_n 1, 1) := by decide +kernel
theorem dX11_bitsOf_25 : decode cX11_bitsOf 25 = .ok (.ireturn, 1) := by decide +kernel
theorem dX11_may_0 : decode cX11_may 0 = .ok (.iload_n 2, 1) := by decide +kernel
theorem dX11_may_1 : decode cX11_may 1 = .ok (.ifCond .ge 20, 3) := by decide +kernel
theorem dX11_may_4 : decode cX11_may 4 = .ok (.iload 5, 2) := by decide +kernel
theorem dX11_may_6 : decode cX11_may 6 = .ok (.iconst 1, 1) := by decide +kernel
theorem dX11_may_7 : decode cX11_may 7 = .ok (.if_icmp .ne 8, 3) := by decide +kernel
theorem dX11_may_10 : decode cX11_may 10 = .ok (.iload_n 1, 1) := by decide +kernel
theorem dX11_may_11 : decode cX11_may 11 = .ok (.iload_n 3, 1) := by decide +kernel
theorem dX11_may_12 : decode cX11_may 12 = .ok (.if_icmp .eq 7, 3) := by decide +kernel
theorem dX11_may_15 : decode cX11_may 15 = .ok (.iconst 1, 1) := by decide +kernel
theorem dX11_may_16 : decode cX11_may 16 = .ok (.goto 4, 3) := by decide +kernel
theorem dX11_may_19 : decode cX11_may 19 = .ok (.iconst 0, 1) := by decide +kernel
theorem dX11_may_20 : decode cX11_may 20 = .ok (.ireturn, 1) := by decide +kernel
theorem dX11_may_21 : decode cX11_may 21 = .ok (.iload_n 1, 1) := by decide +kernel
theorem dX11_may_22 : decode cX11_may 22 = .ok (.iload_n 3, 1) := by decide +kernel
theorem dX11_may_23 : decode cX11_may 23 = .ok (.if_icmp .ne 13, 3) := by decide +kernel
theorem dX11_may_26 : decode cX11_may 26 = .ok (.iload_n 2, 1) := by decide +kernel
theorem dX11_may_27 : decode cX11_may 27 = .ok (.iload 4, 2) := by decide +kernel
theorem dX11_may_29 : decode cX11_may 29 = .ok (.if_icmp .ne 7, 3) := by decide +kernel
theorem dX11_may_32 : decode cX11_may 32 = .ok (.iconst 1, 1) := by decide +kernel
theorem dX11_may_33 : decode cX11_may 33 = .ok (.goto 4, 3) := by decide +kernel
theorem dX11_may_36 : decode cX11_may 36 = .ok (.iconst 0, 1) := by decide +kernel
theorem dX11_may_37 : decode cX11_may 37 = .ok (.istore 6, 2) := by decide +kernel
theorem dX11_may_39 : decode cX11_may 39 = .ok (.aload_n 0, 1) := by decide +kernel
theorem dX11_may_40 : decode cX11_may 40 = .ok (.getfield 34, 3) := by decide +kernel
theorem dX11_may_43 : decode cX11_may 43 = .ok (.bipush 10, 2) := by decide +kernel
theorem dX11_may_45 : decode cX11_may 45 = .ok (.iload_n 1, 1) := by decide +kernel
theorem dX11_may_46 : decode cX11_may 46 = .ok (.imul, 1) := by decide +kernel
theorem dX11_may_47 : decode cX11_may 47 = .ok (.iload_n 2, 1) := by decide +kernel
theorem dX11_may_48 : decode cX11_may 48 = .ok (.iadd, 1) := by decide +kernel
theorem dX11_may_49 : decode cX11_may 49 = .ok (.iaload, 1) := by decide +kernel
theorem dX11_may_50 : decode cX11_may 50 = .ok (.bipush (-4), 2) := by decide +kernel
theorem dX11_may_52 : decode cX11_may 52 = .ok (.if_icmp .eq 63, 3) := by decide +kernel
theorem dX11_may_55 : decode cX11_may 55 = .ok (.iload 5, 2) := by decide +kernel
theorem dX11_may_57 : decode cX11_may 57 = .ok (.iconst 1, 1) := by decide +kernel
theorem dX11_may_58 : decode cX11_may 58 = .ok (.if_icmp .ne 19, 3) := by decide +kernel
theorem dX11_may_61 : decode cX11_may 61 = .ok (.iload 6, 2) := by decide +kernel
theorem dX11_may_63 : decode cX11_may 63 = .ok (.ifCond .ne 14, 3) := by decide +kernel
theorem dX11_may_66 : decode cX11_may 66 = .ok (.iload_n 1, 1) := by decide +kernel
theorem dX11_may_67 : decode cX11_may 67 = .ok (.iload_n 3, 1) := by decide +kernel
theorem dX11_may_68 : decode cX11_may 68 = .ok (.if_icmp .eq 47, 3) := by decide +kernel
theorem dX11_may_71 : decode cX11_may 71 = .ok (.iload_n 2, 1) := by decide +kernel
theorem dX11_may_72 : decode cX11_may 72 = .ok (.iload 4, 2) := by decide +kernel
theorem dX11_may_74 : decode cX11_may 74 = .ok (.if_icmp .eq 41, 3) := by decide +kernel
theorem dX11_may_77 : decode cX11_may 77 = .ok (.iload 5, 2) := by decide +kernel
theorem dX11_may_79 : decode cX11_may 79 = .ok (.iconst 2, 1) := by decide +kernel
theorem dX11_may_80 : decode cX11_may 80 = .ok (.if_icmp .ne 8, 3) := by decide +kernel
theorem dX11_may_83 : decode cX11_may 83 = .ok (.iload 6, 2) := by decide +kernel
theorem dX11_may_85 : decode cX11_may 85 = .ok (.ifCond .ne 30, 3) := by decide +kernel
theorem dX11_may_88 : decode cX11_may 88 = .ok (.iload 5, 2) := by decide +kernel
theorem dX11_may_90 : decode cX11_may 90 = .ok (.iconst 3, 1) := by decide +kernel
theorem dX11_may_91 : decode cX11_may 91 = .ok (.if_icmp .ne 8, 3) := by decide +kernel
theorem dX11_may_94 : decode cX11_may 94 = .ok (.iload_n 1, 1) := by decide +kernel
theorem dX11_may_95 : decode cX11_may 95 = .ok (.iload_n 3, 1) := by decide +kernel
theorem dX11_may_96 : decode cX11_may 96 = .ok (.if_icmp .eq 19, 3) := by decide +kernel
theorem dX11_may_99 : decode cX11_may 99 = .ok (.iload 5, 2) := by decide +kernel
theorem dX11_may_101 : decode cX11_may 101 = .ok (.iconst 4, 1) := by decide +kernel
theorem dX11_may_102 : decode cX11_may 102 = .ok (.if_icmp .ne 9, 3) := by decide +kernel
theorem dX11_may_105 : decode cX11_may 105 = .ok (.iload_n 2, 1) := by decide +kernel
theorem dX11_may_106 : decode cX11_may 106 = .ok (.iload 4, 2) := by decide +kernel
theorem dX11_may_108 : decode cX11_may 108 = .ok (.if_icmp .eq 7, 3) := by decide +kernel
theorem dX11_may_111 : decode cX11_may 111 = .ok (.iconst 1, 1) := by decide +kernel
theorem dX11_may_112 : decode cX11_may 112 = .ok (.goto 4, 3) := by decide +kernel
theorem dX11_may_115 : decode cX11_may 115 = .ok (.iconst 0, 1) := by decide +kernel
theorem dX11_may_116 : decode cX11_may 116 = .ok (.ireturn, 1) := by decide +kernel
theorem dX11_layEnd_0 : decode cX11_layEnd 0 = .ok (.aload_n 0, 1) := by decide +kernel
theorem dX11_layEnd_1 : decode cX11_layEnd 1 = .ok (.iconst 0, 1) := by decide +kernel
theorem dX11_layEnd_2 : decode cX11_layEnd 2 = .ok (.iconst 0, 1) := by decide +kernel
theorem dX11_layEnd_3 : decode cX11_layEnd 3 = .ok (.invokevirtual 164, 3) := by decide +kernel
theorem dX11_layEnd_6 : decode cX11_layEnd 6 = .ok (.istore_n 1, 1) := by decide +kernel
theorem dX11_layEnd_7 : decode cX11_layEnd 7 = .ok (.aload_n 0, 1) := by decide +kernel
theorem dX11_layEnd_8 : decode cX11_layEnd 8 = .ok (.iconst 1, 1) := by decide +kernel
theorem dX11_layEnd_9 : decode cX11_layEnd 9 = .ok (.iconst 0, 1) := by decide +kernel
theorem dX11_layEnd_10 : decode cX11_layEnd 10 = .ok (.invokevirtual 164, 3) := by decide +kernel
theorem dX11_layEnd_13 : decode cX11_layEnd 13 = .ok (.istore_n 2, 1) := by decide +kernel
theorem dX11_layEnd_14 : decode cX11_layEnd 14 = .ok (.iconst 0, 1) := by decide +kernel
theorem dX11_layEnd_15 : decode cX11_layEnd 15 = .ok (.istore_n 3, 1) := by decide +kernel
theorem dX11_layEnd_16 : decode cX11_layEnd 16 = .ok (.iload_n 3, 1) := by decide +kernel
theorem dX11_layEnd_17 : decode cX11_layEnd 17 = .ok (.iconst 1, 1) := by decide +kernel
theorem dX11_layEnd_18 : decode cX11_layEnd 18 = .ok (.iload_n 2, 1) := by decide +kernel
theorem dX11_layEnd_19 : decode cX11_layEnd 19 = .ok (.ishl, 1) := by decide +kernel
theorem dX11_layEnd_20 : decode cX11_layEnd 20 = .ok (.if_icmp .ge 71, 3) := by decide +kernel
theorem dX11_layEnd_23 : decode cX11_layEnd 23 = .ok (.sipush 1024, 3) := by decide +kernel
theorem dX11_layEnd_26 : decode cX11_layEnd 26 = .ok (.iload_n 1, 1) := by decide +kernel
theorem dX11_layEnd_27 : decode cX11_layEnd 27 = .ok (.imul, 1) := by decide +kernel
theorem dX11_layEnd_28 : decode cX11_layEnd 28 = .ok (.iload_n 3, 1) := by decide +kernel
theorem dX11_layEnd_29 : decode cX11_layEnd 29 = .ok (.iadd, 1) := by decide +kernel
theorem dX11_layEnd_30 : decode cX11_layEnd 30 = .ok (.istore 4, 2) := by decide +kernel
theorem dX11_layEnd_32 : decode cX11_layEnd 32 = .ok (.aload_n 0, 1) := by decide +kernel
theorem dX11_layEnd_33 : decode cX11_layEnd 33 = .ok (.getfield 37, 3) := by decide +kernel
theorem dX11_layEnd_36 : decode cX11_layEnd 36 = .ok (.iload 4, 2) := by decide +kernel
theorem dX11_layEnd_38 : decode cX11_layEnd 38 = .ok (.aload_n 0, 1) := by decide +kernel
theorem dX11_layEnd_39 : decode cX11_layEnd 39 = .ok (.getfield 22, 3) := by decide +kernel
theorem dX11_layEnd_42 : decode cX11_layEnd 42 = .ok (.bipush 8, 2) := by decide +kernel
theorem dX11_layEnd_44 : decode cX11_layEnd 44 = .ok (.iaload, 1) := by decide +kernel
theorem dX11_layEnd_45 : decode cX11_layEnd 45 = .ok (.iload_n 2, 1) := by decide +kernel
theorem dX11_layEnd_46 : decode cX11_layEnd 46 = .ok (.iload_n 3, 1) := by decide +kernel
theorem dX11_layEnd_47 : decode cX11_layEnd 47 = .ok (.invokestatic 219, 3) := by decide +kernel
theorem dX11_layEnd_50 : decode cX11_layEnd 50 = .ok (.isub, 1) := by decide +kernel
theorem dX11_layEnd_51 : decode cX11_layEnd 51 = .ok (.imul, 1) := by decide +kernel
theorem dX11_layEnd_52 : decode cX11_layEnd 52 = .ok (.iastore, 1) := by decide +kernel
theorem dX11_layEnd_53 : decode cX11_layEnd 53 = .ok (.aload_n 0, 1) := by decide +kernel
theorem dX11_layEnd_54 : decode cX11_layEnd 54 = .ok (.getfield 40, 3) := by decide +kernel
theorem dX11_layEnd_57 : decode cX11_layEnd 57 = .ok (.iload 4, 2) := by decide +kernel
theorem dX11_layEnd_59 : decode cX11_layEnd 59 = .ok (.lconst 1, 1) := by decide +kernel
theorem dX11_layEnd_60 : decode cX11_layEnd 60 = .ok (.lastore, 1) := by decide +kernel
theorem dX11_layEnd_61 : decode cX11_layEnd 61 = .ok (.aload_n 0, 1) := by decide +kernel
theorem dX11_layEnd_62 : decode cX11_layEnd 62 = .ok (.getfield 44, 3) := by decide +kernel
theorem dX11_layEnd_65 : decode cX11_layEnd 65 = .ok (.iload 4, 2) := by decide +kernel
theorem dX11_layEnd_67 : decode cX11_layEnd 67 = .ok (.lconst 1, 1) := by decide +kernel
theorem dX11_layEnd_68 : decode cX11_layEnd 68 = .ok (.lastore, 1) := by decide +kernel
theorem dX11_layEnd_69 : decode cX11_layEnd 69 = .ok (.aload_n 0, 1) := by decide +kernel
theorem dX11_layEnd_70 : decode cX11_layEnd 70 = .ok (.getfield 47, 3) := by decide +kernel
theorem dX11_layEnd_73 : decode cX11_layEnd 73 = .ok (.iload 4, 2) := by decide +kernel
theorem dX11_layEnd_75 : decode cX11_layEnd 75 = .ok (.iconst 0, 1) := by decide +kernel
theorem dX11_layEnd_76 : decode cX11_layEnd 76 = .ok (.iastore, 1) := by decide +kernel
theorem dX11_layEnd_77 : decode cX11_layEnd 77 = .ok (.aload_n 0, 1) := by decide +kernel
theorem dX11_layEnd_78 : decode cX11_layEnd 78 = .ok (.getfield 50, 3) := by decide +kernel
theorem dX11_layEnd_81 : decode cX11_layEnd 81 = .ok (.iload 4, 2) := by decide +kernel
theorem dX11_layEnd_83 : decode cX11_layEnd 83 = .ok (.iconst 0, 1) := by decide +kernel
theorem dX11_layEnd_84 : decode cX11_layEnd 84 = .ok (.iastore, 1) := by decide +kernel
theorem dX11_layEnd_85 : decode cX11_layEnd 85 = .ok (.iinc 3 1, 3) := by decide +kernel
theorem dX11_layEnd_88 : decode cX11_layEnd 88 = .ok (.goto (-72), 3) := by decide +kernel
theorem dX11_layEnd_91 : decode cX11_layEnd 91 = .ok (.return_, 1) := by decide +kernel
theorem dX11_takeIn_0 : decode cX11_takeIn 0 = .ok (.iload_n 3, 1) := by decide +kernel
theorem dX11_takeIn_1 : decode cX11_takeIn 1 = .ok (.aload_n 0, 1) := by decide +kernel
theorem dX11_takeIn_2 : decode cX11_takeIn 2 = .ok (.getfield 37, 3) := by decide +kernel
theorem dX11_takeIn_5 : decode cX11_takeIn 5 = .ok (.iload_n 2, 1) := by decide +kernel
theorem dX11_takeIn_6 : decode cX11_takeIn 6 = .ok (.iaload, 1) := by decide +kernel
theorem dX11_takeIn_7 : decode cX11_takeIn 7 = .ok (.iadd, 1) := by decide +kernel
theorem dX11_takeIn_8 : decode cX11_takeIn 8 = .ok (.istore 5, 2) := by decide +kernel
theorem dX11_takeIn_10 : decode cX11_takeIn 10 = .ok (.aload_n 0, 1) := by decide +kernel
theorem dX11_takeIn_11 : decode cX11_takeIn 11 = .ok (.getfield 40, 3) := by decide +kernel
theorem dX11_takeIn_14 : decode cX11_takeIn 14 = .ok (.iload_n 1, 1) := by decide +kernel
theorem dX11_takeIn_15 : decode cX11_takeIn 15 = .ok (.dup2, 1) := by decide +kernel
theorem dX11_takeIn_16 : decode cX11_takeIn 16 = .ok (.laload, 1) := by decide +kernel
theorem dX11_takeIn_17 : decode cX11_takeIn 17 = .ok (.aload_n 0, 1) := by decide +kernel
theorem dX11_takeIn_18 : decode cX11_takeIn 18 = .ok (.getfield 40, 3) := by decide +kernel
theorem dX11_takeIn_21 : decode cX11_takeIn 21 = .ok (.iload_n 2, 1) := by decide +kernel
theorem dX11_takeIn_22 : decode cX11_takeIn 22 = .ok (.laload, 1) := by decide +kernel
theorem dX11_takeIn_23 : decode cX11_takeIn 23 = .ok (.ladd, 1) := by decide +kernel
theorem dX11_takeIn_24 : decode cX11_takeIn 24 = .ok (.lastore, 1) := by decide +kernel
theorem dX11_takeIn_25 : decode cX11_takeIn 25 = .ok (.aload_n 0, 1) := by decide +kernel
theorem dX11_takeIn_26 : decode cX11_takeIn 26 = .ok (.getfield 40, 3) := by decide +kernel
theorem dX11_takeIn_29 : decode cX11_takeIn 29 = .ok (.iload_n 2, 1) := by decide +kernel
theorem dX11_takeIn_30 : decode cX11_takeIn 30 = .ok (.laload, 1) := by decide +kernel
theorem dX11_takeIn_31 : decode cX11_takeIn 31 = .ok (.lconst 0, 1) := by decide +kernel
theorem dX11_takeIn_32 : decode cX11_takeIn 32 = .ok (.lcmp, 1) := by decide +kernel
theorem dX11_takeIn_33 : decode cX11_takeIn 33 = .ok (.ifCond .le 67, 3) := by decide +kernel
theorem dX11_takeIn_36 : decode cX11_takeIn 36 = .ok (.iload 5, 2) := by decide +kernel
theorem dX11_takeIn_38 : decode cX11_takeIn 38 = .ok (.aload_n 0, 1) := by decide +kernel
theorem dX11_takeIn_39 : decode cX11_takeIn 39 = .ok (.getfield 37, 3) := by decide +kernel
theorem dX11_takeIn_42 : decode cX11_takeIn 42 = .ok (.iload_n 1, 1) := by decide +kernel
theorem dX11_takeIn_43 : decode cX11_takeIn 43 = .ok (.iaload, 1) := by decide +kernel
theorem dX11_takeIn_44 : decode cX11_takeIn 44 = .ok (.if_icmp .ge 56, 3) := by decide +kernel
theorem dX11_takeIn_47 : decode cX11_takeIn 47 = .ok (.aload_n 0, 1) := by decide +kernel
theorem dX11_takeIn_48 : decode cX11_takeIn 48 = .ok (.getfield 37, 3) := by decide +kernel
theorem dX11_takeIn_51 : decode cX11_takeIn 51 = .ok (.iload_n 1, 1) := by decide +kernel
theorem dX11_takeIn_52 : decode cX11_takeIn 52 = .ok (.iload 5, 2) := by decide +kernel
theorem dX11_takeIn_54 : decode cX11_takeIn 54 = .ok (.iastore, 1) := by decide +kernel
theorem dX11_takeIn_55 : decode cX11_takeIn 55 = .ok (.aload_n 0, 1) := by decide +kernel
theorem dX11_takeIn_56 : decode cX11_takeIn 56 = .ok (.getfield 44, 3) := by decide +kernel
theorem dX11_takeIn_59 : decode cX11_takeIn 59 = .ok (.iload_n 1, 1) := by decide +kernel
theorem dX11_takeIn_60 : decode cX11_takeIn 60 = .ok (.aload_n 0, 1) := by decide +kernel
theorem dX11_takeIn_61 : decode cX11_takeIn 61 = .ok (.getfield 44, 3) := by decide +kernel
theorem dX11_takeIn_64 : decode cX11_takeIn 64 = .ok (.iload_n 2, 1) := by decide +kernel
theorem dX11_takeIn_65 : decode cX11_takeIn 65 = .ok (.laload, 1) := by decide +kernel
theorem dX11_takeIn_66 : decode cX11_takeIn 66 = .ok (.lastore, 1) := by decide +kernel
theorem dX11_takeIn_67 : decode cX11_takeIn 67 = .ok (.aload_n 0, 1) := by decide +kernel
theorem dX11_takeIn_68 : decode cX11_takeIn 68 = .ok (.getfield 47, 3) := by decide +kernel
theorem dX11_takeIn_71 : decode cX11_takeIn 71 = .ok (.iload_n 1, 1) := by decide +kernel
theorem dX11_takeIn_72 : decode cX11_takeIn 72 = .ok (.aload_n 0, 1) := by decide +kernel
theorem dX11_takeIn_73 : decode cX11_takeIn 73 = .ok (.getfield 47, 3) := by decide +kernel
theorem dX11_takeIn_76 : decode cX11_takeIn 76 = .ok (.iload_n 2, 1) := by decide +kernel
theorem dX11_takeIn_77 : decode cX11_takeIn 77 = .ok (.iaload, 1) := by decide +kernel
theorem dX11_takeIn_78 : decode cX11_takeIn 78 = .ok (.iload 4, 2) := by decide +kernel
theorem dX11_takeIn_80 : decode cX11_takeIn 80 = .ok (.iadd, 1) := by decide +kernel
theorem dX11_takeIn_81 : decode cX11_takeIn 81 = .ok (.iastore, 1) := by decide +kernel
theorem dX11_takeIn_82 : decode cX11_takeIn 82 = .ok (.aload_n 0, 1) := by decide +kernel
theorem dX11_takeIn_83 : decode cX11_takeIn 83 = .ok (.getfield 50, 3) := by decide +kernel
theorem dX11_takeIn_86 : decode cX11_takeIn 86 = .ok (.iload_n 1, 1) := by decide +kernel
theorem dX11_takeIn_87 : decode cX11_takeIn 87 = .ok (.aload_n 0, 1) := by decide +kernel
theorem dX11_takeIn_88 : decode cX11_takeIn 88 = .ok (.getfield 50, 3) := by decide +kernel
theorem dX11_takeIn_91 : decode cX11_takeIn 91 = .ok (.iload_n 2, 1) := by decide +kernel
theorem dX11_takeIn_92 : decode cX11_takeIn 92 = .ok (.iaload, 1) := by decide +kernel
theorem dX11_takeIn_93 : decode cX11_takeIn 93 = .ok (.iload 4, 2) := by decide +kernel
theorem dX11_takeIn_95 : decode cX11_takeIn 95 = .ok (.iadd, 1) := by decide +kernel
theorem dX11_takeIn_96 : decode cX11_takeIn 96 = .ok (.iastore, 1) := by decide +kernel
theorem dX11_takeIn_97 : decode cX11_takeIn 97 = .ok (.goto 118, 3) := by decide +kernel
theorem dX11_takeIn_100 : decode cX11_takeIn 100 = .ok (.aload_n 0, 1) := by decide +kernel
theorem dX11_takeIn_101 : decode cX11_takeIn 101 = .ok (.getfield 40, 3) := by decide +kernel
theorem dX11_takeIn_104 : decode cX11_takeIn 104 = .ok (.iload_n 2, 1) := by decide +kernel
theorem dX11_takeIn_105 : decode cX11_takeIn 105 = .ok (.laload, 1) := by decide +kernel
theorem dX11_takeIn_106 : decode cX11_takeIn 106 = .ok (.lconst 0, 1) := by decide +kernel
theorem dX11_takeIn_107 : decode cX11_takeIn 107 = .ok (.lcmp, 1) := by decide +kernel
theorem dX11_takeIn_108 : decode cX11_takeIn 108 = .ok (.ifCond .le 107, 3) := by decide +kernel
theorem dX11_takeIn_111 : decode cX11_takeIn 111 = .ok (.iload 5, 2) := by decide +kernel
theorem dX11_takeIn_113 : decode cX11_takeIn 113 = .ok (.aload_n 0, 1) := by decide +kernel
theorem dX11_takeIn_114 : decode cX11_takeIn 114 = .ok (.getfield 37, 3) := by decide +kernel
theorem dX11_takeIn_117 : decode cX11_takeIn 117 = .ok (.iload_n 1, 1) := by decide +kernel
theorem dX11_takeIn_118 : decode cX11_takeIn 118 = .ok (.iaload, 1) := by decide +kernel
theorem dX11_takeIn_119 : decode cX11_takeIn 119 = .ok (.if_icmp .ne 96, 3) := by decide +kernel
theorem dX11_takeIn_122 : decode cX11_takeIn 122 = .ok (.aload_n 0, 1) := by decide +kernel
theorem dX11_takeIn_123 : decode cX11_takeIn 123 = .ok (.getfield 44, 3) := by decide +kernel
theorem dX11_takeIn_126 : decode cX11_takeIn 126 = .ok (.iload_n 1, 1) := by decide +kernel
theorem dX11_takeIn_127 : decode cX11_takeIn 127 = .ok (.dup2, 1) := by decide +kernel
theorem dX11_takeIn_128 : decode cX11_takeIn 128 = .ok (.laload, 1) := by decide +kernel
theorem dX11_takeIn_129 : decode cX11_takeIn 129 = .ok (.aload_n 0, 1) := by decide +kernel
theorem dX11_takeIn_130 : decode cX11_takeIn 130 = .ok (.getfield 44, 3) := by decide +kernel
theorem dX11_takeIn_133 : decode cX11_takeIn 133 = .ok (.iload_n 2, 1) := by decide +kernel
theorem dX11_takeIn_134 : decode cX11_takeIn 134 = .ok (.laload, 1) := by decide +kernel
theorem dX11_takeIn_135 : decode cX11_takeIn 135 = .ok (.ladd, 1) := by decide +kernel
theorem dX11_takeIn_136 : decode cX11_takeIn 136 = .ok (.lastore, 1) := by decide +kernel
theorem dX11_takeIn_137 : decode cX11_takeIn 137 = .ok (.aload_n 0, 1) := by decide +kernel
theorem dX11_takeIn_138 : decode cX11_takeIn 138 = .ok (.getfield 47, 3) := by decide +kernel
theorem dX11_takeIn_141 : decode cX11_takeIn 141 = .ok (.iload_n 2, 1) := by decide +kernel
theorem dX11_takeIn_142 : decode cX11_takeIn 142 = .ok (.iaload, 1) := by decide +kernel
theorem dX11_takeIn_143 : decode cX11_takeIn 143 = .ok (.iload 4, 2) := by decide +kernel
theorem dX11_takeIn_145 : decode cX11_takeIn 145 = .ok (.iadd, 1) := by decide +kernel
theorem dX11_takeIn_146 : decode cX11_takeIn 146 = .ok (.istore 6, 2) := by decide +kernel
theorem dX11_takeIn_148 : decode cX11_takeIn 148 = .ok (.aload_n 0, 1) := by decide +kernel
theorem dX11_takeIn_149 : decode cX11_takeIn 149 = .ok (.getfield 50, 3) := by decide +kernel
theorem dX11_takeIn_152 : decode cX11_takeIn 152 = .ok (.iload_n 2, 1) := by decide +kernel
theorem dX11_takeIn_153 : decode cX11_takeIn 153 = .ok (.iaload, 1) := by decide +kernel
theorem dX11_takeIn_154 : decode cX11_takeIn 154 = .ok (.iload 4, 2) := by decide +kernel
theorem dX11_takeIn_156 : decode cX11_takeIn 156 = .ok (.iadd, 1) := by decide +kernel
theorem dX11_takeIn_157 : decode cX11_takeIn 157 = .ok (.istore 7, 2) := by decide +kernel
theorem dX11_takeIn_159 : decode cX11_takeIn 159 = .ok (.aload_n 0, 1) := by decide +kernel
theorem dX11_takeIn_160 : decode cX11_takeIn 160 = .ok (.getfield 47, 3) := by decide +kernel
theorem dX11_takeIn_163 : decode cX11_takeIn 163 = .ok (.iload_n 1, 1) := by decide +kernel
theorem dX11_takeIn_164 : decode cX11_takeIn 164 = .ok (.iload 6, 2) := by decide +kernel
theorem dX11_takeIn_166 : decode cX11_takeIn 166 = .ok (.aload_n 0, 1) := by decide +kernel
theorem dX11_takeIn_167 : decode cX11_takeIn 167 = .ok (.getfield 47, 3) := by decide +kernel
theorem dX11_takeIn_170 : decode cX11_takeIn 170 = .ok (.iload_n 1, 1) := by decide +kernel
theorem dX11_takeIn_171 : decode cX11_takeIn 171 = .ok (.iaload, 1) := by decide +kernel
theorem dX11_takeIn_172 : decode cX11_takeIn 172 = .ok (.if_icmp .ge 8, 3) := by decide +kernel
theorem dX11_takeIn_175 : decode cX11_takeIn 175 = .ok (.iload 6, 2) := by decide +kernel
theorem dX11_takeIn_177 : decode cX11_takeIn 177 = .ok (.goto 9, 3) := by decide +kernel
theorem dX11_takeIn_180 : decode cX11_takeIn 180 = .ok (.aload_n 0, 1) := by decide +kernel
theorem dX11_takeIn_181 : decode cX11_takeIn 181 = .ok (.getfield 47, 3) := by decide +kernel
theorem dX11_takeIn_184 : decode cX11_takeIn 184 = .ok (.iload_n 1, 1) := by decide +kernel
theorem dX11_takeIn_185 : decode cX11_takeIn 185 = .ok (.iaload, 1) := by decide +kernel
theorem dX11_takeIn_186 : decode cX11_takeIn 186 = .ok (.iastore, 1) := by decide +kernel
theorem dX11_takeIn_187 : decode cX11_takeIn 187 = .ok (.aload_n 0, 1) := by decide +kernel
theorem dX11_takeIn_188 : decode cX11_takeIn 188 = .ok (.getfield 50, 3) := by decide +kernel
theorem dX11_takeIn_191 : decode cX11_takeIn 191 = .ok (.iload_n 1, 1) := by decide +kernel
theorem dX11_takeIn_192 : decode cX11_takeIn 192 = .ok (.iload 7, 2) := by decide +kernel
theorem dX11_takeIn_194 : decode cX11_takeIn 194 = .ok (.aload_n 0, 1) := by decide +kernel
theorem dX11_takeIn_195 : decode cX11_takeIn 195 = .ok (.getfield 50, 3) := by decide +kernel
theorem dX11_takeIn_198 : decode cX11_takeIn 198 = .ok (.iload_n 1, 1) := by decide +kernel
theorem dX11_takeIn_199 : decode cX11_takeIn 199 = .ok (.iaload, 1) := by decide +kernel
theorem dX11_takeIn_200 : decode cX11_takeIn 200 = .ok (.if_icmp .le 8, 3) := by decide +kernel
theorem dX11_takeIn_203 : decode cX11_takeIn 203 = .ok (.iload 7, 2) := by decide +kernel
theorem dX11_takeIn_205 : decode cX11_takeIn 205 = .ok (.goto 9, 3) := by decide +kernel
theorem dX11_takeIn_208 : decode cX11_takeIn 208 = .ok (.aload_n 0, 1) := by decide +kernel
theorem dX11_takeIn_209 : decode cX11_takeIn 209 = .ok (.getfield 50, 3) := by decide +kernel
theorem dX11_takeIn_212 : decode cX11_takeIn 212 = .ok (.iload_n 1, 1) := by decide +kernel
theorem dX11_takeIn_213 : decode cX11_takeIn 213 = .ok (.iaload, 1) := by decide +kernel
theorem dX11_takeIn_214 : decode cX11_takeIn 214 = .ok (.iastore, 1) := by decide +kernel
theorem dX11_takeIn_215 : decode cX11_takeIn 215 = .ok (.return_, 1) := by decide +kernel
theorem dX11_layPairings_0 : decode cX11_layPairings 0 = .ok (.aload_n 0, 1) := by decide +kernel
theorem dX11_layPairings_1 : decode cX11_layPairings 1 = .ok (.invokevirtual 222, 3) := by decide +kernel
theorem dX11_layPairings_4 : decode cX11_layPairings 4 = .ok (.aload_n 0, 1) := by decide +kernel
theorem dX11_layPairings_5 : decode cX11_layPairings 5 = .ok (.iconst 1, 1) := by decide +kernel
theorem dX11_layPairings_6 : decode cX11_layPairings 6 = .ok (.iconst 0, 1) := by decide +kernel
theorem dX11_layPairings_7 : decode cX11_layPairings 7 = .ok (.invokevirtual 164, 3) := by decide +kernel
theorem dX11_layPairings_10 : decode cX11_layPairings 10 = .ok (.istore 4, 2) := by decide +kernel
theorem dX11_layPairings_12 : decode cX11_layPairings 12 = .ok (.aload_n 0, 1) := by decide +kernel
theorem dX11_layPairings_13 : decode cX11_layPairings 13 = .ok (.iconst 0, 1) := by decide +kernel
theorem dX11_layPairings_14 : decode cX11_layPairings 14 = .ok (.iconst (-1), 1) := by decide +kernel
theorem dX11_layPairings_15 : decode cX11_layPairings 15 = .ok (.invokevirtual 164, 3) := by decide +kernel
theorem dX11_layPairings_18 : decode cX11_layPairings 18 = .ok (.istore 5, 2) := by decide +kernel
theorem dX11_layPairings_20 : decode cX11_layPairings 20 = .ok (.iload 5, 2) := by decide +kernel
theorem dX11_layPairings_22 : decode cX11_layPairings 22 = .ok (.ifCond .lt 177, 3) := by decide +kernel
theorem dX11_layPairings_25 : decode cX11_layPairings 25 = .ok (.iconst 0, 1) := by decide +kernel
theorem dX11_layPairings_26 : decode cX11_layPairings 26 = .ok (.istore 6, 2) := by decide +kernel
theorem dX11_layPairings_28 : decode cX11_layPairings 28 = .ok (.iload 6, 2) := by decide +kernel
theorem dX11_layPairings_30 : decode cX11_layPairings 30 = .ok (.iconst 1, 1) := by decide +kernel
theorem dX11_layPairings_31 : decode cX11_layPairings 31 = .ok (.iload 4, 2) := by decide +kernel
theorem dX11_layPairings_33 : decode cX11_layPairings 33 = .ok (.ishl, 1) := by decide +kernel
theorem dX11_layPairings_34 : decode cX11_layPairings 34 = .ok (.if_icmp .ge 159, 3) := by decide +kernel
theorem dX11_layPairings_37 : decode cX11_layPairings 37 = .ok (.sipush 1024, 3) := by decide +kernel
theorem dX11_layPairings_40 : decode cX11_layPairings 40 = .ok (.iload 5, 2) := by decide +kernel
theorem dX11_layPairings_42 : decode cX11_layPairings 42 = .ok (.imul, 1) := by decide +kernel
theorem dX11_layPairings_43 : decode cX11_layPairings 43 = .ok (.iload 6, 2) := by decide +kernel
theorem dX11_layPairings_45 : decode cX11_layPairings 45 = .ok (.iadd, 1) := by decide +kernel
theorem dX11_layPairings_46 : decode cX11_layPairings 46 = .ok (.istore 7, 2) := by decide +kernel
theorem dX11_layPairings_48 : decode cX11_layPairings 48 = .ok (.aload_n 0, 1) := by decide +kernel
theorem dX11_layPairings_49 : decode cX11_layPairings 49 = .ok (.getfield 37, 3) := by decide +kernel
theorem dX11_layPairings_52 : decode cX11_layPairings 52 = .ok (.iload 7, 2) := by decide +kernel
theorem dX11_layPairings_54 : decode cX11_layPairings 54 = .ok (.ldc 225, 2) := by decide +kernel
theorem dX11_layPairings_56 : decode cX11_layPairings 56 = .ok (.iastore, 1) := by decide +kernel
theorem dX11_layPairings_57 : decode cX11_layPairings 57 = .ok (.aload_n 0, 1) := by decide +kernel
theorem dX11_layPairings_58 : decode cX11_layPairings 58 = .ok (.getfield 40, 3) := by decide +kernel
theorem dX11_layPairings_61 : decode cX11_layPairings 61 = .ok (.iload 7, 2) := by decide +kernel
theorem dX11_layPairings_63 : decode cX11_layPairings 63 = .ok (.lconst 0, 1) := by decide +kernel
theorem dX11_layPairings_64 : decode cX11_layPairings 64 = .ok (.lastore, 1) := by decide +kernel
theorem dX11_layPairings_65 : decode cX11_layPairings 65 = .ok (.aload_n 0, 1) := by decide +kernel
theorem dX11_layPairings_66 : decode cX11_layPairings 66 = .ok (.getfield 44, 3) := by decide +kernel
theorem dX11_layPairings_69 : decode cX11_layPairings 69 = .ok (.iload 7, 2) := by decide +kernel
theorem dX11_layPairings_71 : decode cX11_layPairings 71 = .ok (.lconst 0, 1) := by decide +kernel
theorem dX11_layPairings_72 : decode cX11_layPairings 72 = .ok (.lastore, 1) := by decide +kernel
theorem dX11_layPairings_73 : decode cX11_layPairings 73 = .ok (.aload_n 0, 1) := by decide +kernel
theorem dX11_layPairings_74 : decode cX11_layPairings 74 = .ok (.iload 5, 2) := by decide +kernel
theorem dX11_layPairings_76 : decode cX11_layPairings 76 = .ok (.iconst (-1), 1) := by decide +kernel
theorem dX11_layPairings_77 : decode cX11_layPairings 77 = .ok (.iload_n 1, 1) := by decide +kernel
theorem dX11_layPairings_78 : decode cX11_layPairings 78 = .ok (.iload_n 2, 1) := by decide +kernel
theorem dX11_layPairings_79 : decode cX11_layPairings 79 = .ok (.iload_n 3, 1) := by decide +kernel
theorem dX11_layPairings_80 : decode cX11_layPairings 80 = .ok (.invokevirtual 226, 3) := by decide +kernel
theorem dX11_layPairings_83 : decode cX11_layPairings 83 = .ok (.ifCond .eq 28, 3) := by decide +kernel
theorem dX11_layPairings_86 : decode cX11_layPairings 86 = .ok (.aload_n 0, 1) := by decide +kernel
theorem dX11_layPairings_87 : decode cX11_layPairings 87 = .ok (.iload 7, 2) := by decide +kernel
theorem dX11_layPairings_89 : decode cX11_layPairings 89 = .ok (.sipush 1024, 3) := by decide +kernel
theorem dX11_layPairings_92 : decode cX11_layPairings 92 = .ok (.iload 5, 2) := by decide +kernel
theorem dX11_layPairings_94 : decode cX11_layPairings 94 = .ok (.iconst 1, 1) := by decide +kernel
theorem dX11_layPairings_95 : decode cX11_layPairings 95 = .ok (.iadd, 1) := by decide +kernel
theorem dX11_layPairings_96 : decode cX11_layPairings 96 = .ok (.imul, 1) := by decide +kernel
theorem dX11_layPairings_97 : decode cX11_layPairings 97 = .ok (.iload 6, 2) := by decide +kernel
theorem dX11_layPairings_99 : decode cX11_layPairings 99 = .ok (.iadd, 1) := by decide +kernel
theorem dX11_layPairings_100 : decode cX11_layPairings 100 = .ok (.aload_n 0, 1) := by decide +kernel
theorem dX11_layPairings_101 : decode cX11_layPairings 101 = .ok (.getfield 22, 3) := by decide +kernel
theorem dX11_layPairings_104 : decode cX11_layPairings 104 = .ok (.bipush 7, 2) := by decide +kernel
theorem dX11_layPairings_106 : decode cX11_layPairings 106 = .ok (.iaload, 1) := by decide +kernel
theorem dX11_layPairings_107 : decode cX11_layPairings 107 = .ok (.iconst 0, 1) := by decide +kernel
theorem dX11_layPairings_108 : decode cX11_layPairings 108 = .ok (.invokevirtual 230, 3) := by decide +kernel
theorem dX11_layPairings_111 : decode cX11_layPairings 111 = .ok (.iconst 0, 1) := by decide +kernel
theorem dX11_layPairings_112 : decode cX11_layPairings 112 = .ok (.istore 8, 2) := by decide +kernel
theorem dX11_layPairings_114 : decode cX11_layPairings 114 = .ok (.iload 8, 2) := by decide +kernel
theorem dX11_layPairings_116 : decode cX11_layPairings 116 = .ok (.iload 4, 2) := by decide +kernel
theorem dX11_layPairings_118 : decode cX11_layPairings 118 = .ok (.if_icmp .ge 69, 3) := by decide +kernel
theorem dX11_layPairings_121 : decode cX11_layPairings 121 = .ok (.iload 6, 2) := by decide +kernel
theorem dX11_layPairings_123 : decode cX11_layPairings 123 = .ok (.iload 8, 2) := by decide +kernel
theorem dX11_layPairings_125 : decode cX11_layPairings 125 = .ok (.ishr, 1) := by decide +kernel
theorem dX11_layPairings_126 : decode cX11_layPairings 126 = .ok (.iconst 1, 1) := by decide +kernel
theorem dX11_layPairings_127 : decode cX11_layPairings 127 = .ok (.iand, 1) := by decide +kernel
theorem dX11_layPairings_128 : decode cX11_layPairings 128 = .ok (.ifCond .ne 53, 3) := by decide +kernel
theorem dX11_layPairings_131 : decode cX11_layPairings 131 = .ok (.aload_n 0, 1) := by decide +kernel
theorem dX11_layPairings_132 : decode cX11_layPairings 132 = .ok (.iload 5, 2) := by decide +kernel
theorem dX11_layPairings_134 : decode cX11_layPairings 134 = .ok (.iload 8, 2) := by decide +kernel
theorem dX11_layPairings_136 : decode cX11_layPairings 136 = .ok (.iload_n 1, 1) := by decide +kernel
theorem dX11_layPairings_137 : decode cX11_layPairings 137 = .ok (.iload_n 2, 1) := by decide +kernel
theorem dX11_layPairings_138 : decode cX11_layPairings 138 = .ok (.iload_n 3, 1) := by decide +kernel
theorem dX11_layPairings_139 : decode cX11_layPairings 139 = .ok (.invokevirtual 226, 3) := by decide +kernel
theorem dX11_layPairings_142 : decode cX11_layPairings 142 = .ok (.ifCond .eq 39, 3) := by decide +kernel
theorem dX11_layPairings_145 : decode cX11_layPairings 145 = .ok (.aload_n 0, 1) := by decide +kernel
theorem dX11_layPairings_146 : decode cX11_layPairings 146 = .ok (.iload 7, 2) := by decide +kernel
theorem dX11_layPairings_148 : decode cX11_layPairings 148 = .ok (.sipush 1024, 3) := by decide +kernel
theorem dX11_layPairings_151 : decode cX11_layPairings 151 = .ok (.iload 5, 2) := by decide +kernel
theorem dX11_layPairings_153 : decode cX11_layPairings 153 = .ok (.iconst 1, 1) := by decide +kernel
theorem dX11_layPairings_154 : decode cX11_layPairings 154 = .ok (.iadd, 1) := by decide +kernel
theorem dX11_layPairings_155 : decode cX11_layPairings 155 = .ok (.imul, 1) := by decide +kernel
theorem dX11_layPairings_156 : decode cX11_layPairings 156 = .ok (.iload 6, 2) := by decide +kernel
theorem dX11_layPairings_158 : decode cX11_layPairings 158 = .ok (.iconst 1, 1) := by decide +kernel
theorem dX11_layPairings_159 : decode cX11_layPairings 159 = .ok (.iload 8, 2) := by decide +kernel
theorem dX11_layPairings_161 : decode cX11_layPairings 161 = .ok (.ishl, 1) := by decide +kernel
theorem dX11_layPairings_162 : decode cX11_layPairings 162 = .ok (.ior, 1) := by decide +kernel
theorem dX11_layPairings_163 : decode cX11_layPairings 163 = .ok (.iadd, 1) := by decide +kernel
theorem dX11_layPairings_164 : decode cX11_layPairings 164 = .ok (.aload_n 0, 1) := by decide +kernel
theorem dX11_layPairings_165 : decode cX11_layPairings 165 = .ok (.getfield 34, 3) := by decide +kernel
theorem dX11_layPairings_168 : decode cX11_layPairings 168 = .ok (.bipush 10, 2) := by decide +kernel
theorem dX11_layPairings_170 : decode cX11_layPairings 170 = .ok (.iload 5, 2) := by decide +kernel
theorem dX11_layPairings_172 : decode cX11_layPairings 172 = .ok (.imul, 1) := by decide +kernel
theorem dX11_layPairings_173 : decode cX11_layPairings 173 = .ok (.iload 8, 2) := by decide +kernel
theorem dX11_layPairings_175 : decode cX11_layPairings 175 = .ok (.iadd, 1) := by decide +kernel
theorem dX11_layPairings_176 : decode cX11_layPairings 176 = .ok (.iaload, 1) := by decide +kernel
theorem dX11_layPairings_177 : decode cX11_layPairings 177 = .ok (.iconst 1, 1) := by decide +kernel
theorem dX11_layPairings_178 : decode cX11_layPairings 178 = .ok (.invokevirtual 230, 3) := by decide +kernel
theorem dX11_layPairings_181 : decode cX11_layPairings 181 = .ok (.iinc 8 1, 3) := by decide +kernel
theorem dX11_layPairings_184 : decode cX11_layPairings 184 = .ok (.goto (-70), 3) := by decide +kernel
theorem dX11_layPairings_187 : decode cX11_layPairings 187 = .ok (.iinc 6 1, 3) := by decide +kernel
theorem dX11_layPairings_190 : decode cX11_layPairings 190 = .ok (.goto (-162), 3) := by decide +kernel
theorem dX11_layPairings_193 : decode cX11_layPairings 193 = .ok (.iinc 5 (-1), 3) := by decide +kernel
theorem dX11_layPairings_196 : decode cX11_layPairings 196 = .ok (.goto (-176), 3) := by decide +kernel
theorem dX11_layPairings_199 : decode cX11_layPairings 199 = .ok (.return_, 1) := by decide +kernel
theorem dX11_layAll_0 : decode cX11_layAll 0 = .ok (.aload_n 0, 1) := by decide +kernel
theorem dX11_layAll_1 : decode cX11_layAll 1 = .ok (.bipush 15, 2) := by decide +kernel
theorem dX11_layAll_3 : decode cX11_layAll 3 = .ok (.invokevirtual 233, 3) := by decide +kernel
theorem dX11_layAll_6 : decode cX11_layAll 6 = .ok (.aload_n 0, 1) := by decide +kernel
theorem dX11_layAll_7 : decode cX11_layAll 7 = .ok (.iconst 0, 1) := by decide +kernel
theorem dX11_layAll_8 : decode cX11_layAll 8 = .ok (.iconst 0, 1) := by decide +kernel
theorem dX11_layAll_9 : decode cX11_layAll 9 = .ok (.iconst 0, 1) := by decide +kernel
theorem dX11_layAll_10 : decode cX11_layAll 10 = .ok (.invokevirtual 236, 3) := by decide +kernel
theorem dX11_layAll_13 : decode cX11_layAll 13 = .ok (.return_, 1) := by decide +kernel
theorem dX11_best_0 : decode cX11_best 0 = .ok (.iload_n 1, 1) := by decide +kernel
theorem dX11_best_1 : decode cX11_best 1 = .ok (.i2l, 1) := by decide +kernel
theorem dX11_best_2 : decode cX11_best 2 = .ok (.lconst 0, 1) := by decide +kernel
theorem dX11_best_3 : decode cX11_best 3 = .ok (.ldc2_w 191, 3) := by decide +kernel
theorem dX11_best_6 : decode cX11_best 6 = .ok (.invokestatic 85, 3) := by decide +kernel
theorem dX11_best_9 : decode cX11_best 9 = .ok (.ifCond .ne 7, 3) := by decide +kernel
theorem dX11_best_12 : decode cX11_best 12 = .ok (.ldc2_w 240, 3) := by decide +kernel
theorem dX11_best_15 : decode cX11_best 15 = .ok (.lreturn, 1) := by decide +kernel
theorem dX11_best_16 : decode cX11_best 16 = .ok (.aload_n 0, 1) := by decide +kernel
theorem dX11_best_17 : decode cX11_best 17 = .ok (.invokevirtual 242, 3) := by decide +kernel
theorem dX11_best_20 : decode cX11_best 20 = .ok (.iload_n 1, 1) := by decide +kernel
theorem dX11_best_21 : decode cX11_best 21 = .ok (.ifCond .ne 13, 3) := by decide +kernel
theorem dX11_best_24 : decode cX11_best 24 = .ok (.aload_n 0, 1) := by decide +kernel
theorem dX11_best_25 : decode cX11_best 25 = .ok (.getfield 37, 3) := by decide +kernel
theorem dX11_best_28 : decode cX11_best 28 = .ok (.iconst 0, 1) := by decide +kernel
theorem dX11_best_29 : decode cX11_best 29 = .ok (.iaload, 1) := by decide +kernel
theorem dX11_best_30 : decode cX11_best 30 = .ok (.i2l, 1) := by decide +kernel
theorem dX11_best_31 : decode cX11_best 31 = .ok (.goto 61, 3) := by decide +kernel
theorem dX11_best_34 : decode cX11_best 34 = .ok (.iload_n 1, 1) := by decide +kernel
theorem dX11_best_35 : decode cX11_best 35 = .ok (.iconst 1, 1) := by decide +kernel
theorem dX11_best_36 : decode cX11_best 36 = .ok (.if_icmp .ne 12, 3) := by decide +kernel
theorem dX11_best_39 : decode cX11_best 39 = .ok (.aload_n 0, 1) := by decide +kernel
theorem dX11_best_40 : decode cX11_best 40 = .ok (.getfield 44, 3) := by decide +kernel
theorem dX11_best_43 : decode cX11_best 43 = .ok (.iconst 0, 1) := by decide +kernel
theorem dX11_best_44 : decode cX11_best 44 = .ok (.laload, 1) := by decide +kernel
theorem dX11_best_45 : decode cX11_best 45 = .ok (.goto 47, 3) := by decide +kernel
theorem dX11_best_48 : decode cX11_best 48 = .ok (.iload_n 1, 1) := by decide +kernel
theorem dX11_best_49 : decode cX11_best 49 = .ok (.iconst 2, 1) := by decide +kernel
theorem dX11_best_50 : decode cX11_best 50 = .ok (.if_icmp .ne 12, 3) := by decide +kernel
theorem dX11_best_53 : decode cX11_best 53 = .ok (.aload_n 0, 1) := by decide +kernel
theorem dX11_best_54 : decode cX11_best 54 = .ok (.getfield 40, 3) := by decide +kernel
theorem dX11_best_57 : decode cX11_best 57 = .ok (.iconst 0, 1) := by decide +kernel
theorem dX11_best_58 : decode cX11_best 58 = .ok (.laload, 1) := by decide +kernel
theorem dX11_best_59 : decode cX11_best 59 = .ok (.goto 33, 3) := by decide +kernel
theorem dX11_best_62 : decode cX11_best 62 = .ok (.aload_n 0, 1) := by decide +kernel
theorem dX11_best_63 : decode cX11_best 63 = .ok (.getfield 22, 3) := by decide +kernel
theorem dX11_best_66 : decode cX11_best 66 = .ok (.bipush 7, 2) := by decide +kernel
theorem dX11_best_68 : decode cX11_best 68 = .ok (.iaload, 1) := by decide +kernel
theorem dX11_best_69 : decode cX11_best 69 = .ok (.aload_n 0, 1) := by decide +kernel
theorem dX11_best_70 : decode cX11_best 70 = .ok (.iconst 0, 1) := by decide +kernel
theorem dX11_best_71 : decode cX11_best 71 = .ok (.iconst 0, 1) := by decide +kernel
theorem dX11_best_72 : decode cX11_best 72 = .ok (.invokevirtual 164, 3) := by decide +kernel
theorem dX11_best_75 : decode cX11_best 75 = .ok (.imul, 1) := by decide +kernel
theorem dX11_best_76 : decode cX11_best 76 = .ok (.aload_n 0, 1) := by decide +kernel
theorem dX11_best_77 : decode cX11_best 77 = .ok (.getfield 22, 3) := by decide +kernel
theorem dX11_best_80 : decode cX11_best 80 = .ok (.bipush 8, 2) := by decide +kernel
theorem dX11_best_82 : decode cX11_best 82 = .ok (.iaload, 1) := by decide +kernel
theorem dX11_best_83 : decode cX11_best 83 = .ok (.aload_n 0, 1) := by decide +kernel
theorem dX11_best_84 : decode cX11_best 84 = .ok (.iconst 1, 1) := by decide +kernel
theorem dX11_best_85 : decode cX11_best 85 = .ok (.iconst 0, 1) := by decide +kernel
theorem dX11_best_86 : decode cX11_best 86 = .ok (.invokevirtual 164, 3) := by decide +kernel
theorem dX11_best_89 : decode cX11_best 89 = .ok (.imul, 1) := by decide +kernel
theorem dX11_best_90 : decode cX11_best 90 = .ok (.iadd, 1) := by decide +kernel
theorem dX11_best_91 : decode cX11_best 91 = .ok (.i2l, 1) := by decide +kernel
theorem dX11_best_92 : decode cX11_best 92 = .ok (.lreturn, 1) := by decide +kernel
theorem dX11_layFirst_0 : decode cX11_layFirst 0 = .ok (.iconst 0, 1) := by decide +kernel
theorem dX11_layFirst_1 : decode cX11_layFirst 1 = .ok (.istore_n 2, 1) := by decide +kernel
theorem dX11_layFirst_2 : decode cX11_layFirst 2 = .ok (.iconst 0, 1) := by decide +kernel
theorem dX11_layFirst_3 : decode cX11_layFirst 3 = .ok (.istore_n 3, 1) := by decide +kernel
theorem dX11_layFirst_4 : decode cX11_layFirst 4 = .ok (.iload_n 3, 1) := by decide +kernel
theorem dX11_layFirst_5 : decode cX11_layFirst 5 = .ok (.bipush 10, 2) := by decide +kernel
theorem dX11_layFirst_7 : decode cX11_layFirst 7 = .ok (.if_icmp .ge 167, 3) := by decide +kernel
theorem dX11_layFirst_10 : decode cX11_layFirst 10 = .ok (.aload_n 1, 1) := by decide +kernel
theorem dX11_layFirst_11 : decode cX11_layFirst 11 = .ok (.iload_n 3, 1) := by decide +kernel
theorem dX11_layFirst_12 : decode cX11_layFirst 12 = .ok (.bipush (-4), 2) := by decide +kernel
theorem dX11_layFirst_14 : decode cX11_layFirst 14 = .ok (.iastore, 1) := by decide +kernel
theorem dX11_layFirst_15 : decode cX11_layFirst 15 = .ok (.iconst 0, 1) := by decide +kernel
theorem dX11_layFirst_16 : decode cX11_layFirst 16 = .ok (.istore 4, 2) := by decide +kernel
theorem dX11_layFirst_18 : decode cX11_layFirst 18 = .ok (.iload 4, 2) := by decide +kernel
theorem dX11_layFirst_20 : decode cX11_layFirst 20 = .ok (.aload_n 0, 1) := by decide +kernel
theorem dX11_layFirst_21 : decode cX11_layFirst 21 = .ok (.iconst 1, 1) := by decide +kernel
theorem dX11_layFirst_22 : decode cX11_layFirst 22 = .ok (.iconst 0, 1) := by decide +kernel
theorem dX11_layFirst_23 : decode cX11_layFirst 23 = .ok (.invokevirtual 164, 3) := by decide +kernel
theorem dX11_layFirst_26 : decode cX11_layFirst 26 = .ok (.if_icmp .ge 122, 3) := by decide +kernel
theorem dX11_layFirst_29 : decode cX11_layFirst 29 = .ok (.iload_n 3, 1) := by decide +kernel
theorem dX11_layFirst_30 : decode cX11_layFirst 30 = .ok (.aload_n 0, 1) := by decide +kernel
theorem dX11_layFirst_31 : decode cX11_layFirst 31 = .ok (.iconst 0, 1) := by decide +kernel
theorem dX11_layFirst_32 : decode cX11_layFirst 32 = .ok (.iconst 0, 1) := by decide +kernel
theorem dX11_layFirst_33 : decode cX11_layFirst 33 = .ok (.invokevirtual 164, 3) := by decide +kernel
theorem dX11_layFirst_36 : decode cX11_layFirst 36 = .ok (.if_icmp .ge 112, 3) := by decide +kernel
theorem dX11_layFirst_39 : decode cX11_layFirst 39 = .ok (.aload_n 1, 1) := by decide +kernel
theorem dX11_layFirst_40 : decode cX11_layFirst 40 = .ok (.iload_n 3, 1) := by decide +kernel
theorem dX11_layFirst_41 : decode cX11_layFirst 41 = .ok (.iaload, 1) := by decide +kernel
theorem dX11_layFirst_42 : decode cX11_layFirst 42 = .ok (.bipush (-4), 2) := by decide +kernel
theorem dX11_layFirst_44 : decode cX11_layFirst 44 = .ok (.if_icmp .ne 104, 3) := by decide +kernel
theorem dX11_layFirst_47 : decode cX11_layFirst 47 = .ok (.iload_n 2, 1) := by decide +kernel
theorem dX11_layFirst_48 : decode cX11_layFirst 48 = .ok (.iload 4, 2) := by decide +kernel
theorem dX11_layFirst_50 : decode cX11_layFirst 50 = .ok (.ishr, 1) := by decide +kernel
theorem dX11_layFirst_51 : decode cX11_layFirst 51 = .ok (.iconst 1, 1) := by decide +kernel
theorem dX11_layFirst_52 : decode cX11_layFirst 52 = .ok (.iand, 1) := by decide +kernel
theorem dX11_layFirst_53 : decode cX11_layFirst 53 = .ok (.ifCond .ne 24, 3) := by decide +kernel
theorem dX11_layFirst_56 : decode cX11_layFirst 56 = .ok (.aload_n 0, 1) := by decide +kernel
theorem dX11_layFirst_57 : decode cX11_layFirst 57 = .ok (.getfield 34, 3) := by decide +kernel
theorem dX11_layFirst_60 : decode cX11_layFirst 60 = .ok (.bipush 10, 2) := by decide +kernel
theorem dX11_layFirst_62 : decode cX11_layFirst 62 = .ok (.iload_n 3, 1) := by decide +kernel
theorem dX11_layFirst_63 : decode cX11_layFirst 63 = .ok (.imul, 1) := by decide +kernel
theorem dX11_layFirst_64 : decode cX11_layFirst 64 = .ok (.iload 4, 2) := by decide +kernel
theorem dX11_layFirst_66 : decode cX11_layFirst 66 = .ok (.iadd, 1) := by decide +kernel
theorem dX11_layFirst_67 : decode cX11_layFirst 67 = .ok (.iaload, 1) := by decide +kernel
theorem dX11_layFirst_68 : decode cX11_layFirst 68 = .ok (.bipush (-4), 2) := by decide +kernel
theorem dX11_layFirst_70 : decode cX11_layFirst 70 = .ok (.if_icmp .eq 7, 3) := by decide +kernel
theorem dX11_layFirst_73 : decode cX11_layFirst 73 = .ok (.iconst 1, 1) := by decide +kernel
theorem dX11_layFirst_74 : decode cX11_layFirst 74 = .ok (.goto 4, 3) := by decide +kernel
theorem dX11_layFirst_77 : decode cX11_layFirst 77 = .ok (.iconst 0, 1) := by decide +kernel
theorem dX11_layFirst_78 : decode cX11_layFirst 78 = .ok (.istore 5, 2) := by decide +kernel
theorem dX11_layFirst_80 : decode cX11_layFirst 80 = .ok (.aload_n 1, 1) := by decide +kernel
theorem dX11_layFirst_81 : decode cX11_layFirst 81 = .ok (.iload_n 3, 1) := by decide +kernel
theorem dX11_layFirst_82 : decode cX11_layFirst 82 = .ok (.iload 5, 2) := by decide +kernel
theorem dX11_layFirst_84 : decode cX11_layFirst 84 = .ok (.ifCond .eq 55, 3) := by decide +kernel
theorem dX11_layFirst_87 : decode cX11_layFirst 87 = .ok (.aload_n 0, 1) := by decide +kernel
theorem dX11_layFirst_88 : decode cX11_layFirst 88 = .ok (.getfield 34, 3) := by decide +kernel
theorem dX11_layFirst_91 : decode cX11_layFirst 91 = .ok (.bipush 10, 2) := by decide +kernel
theorem dX11_layFirst_93 : decode cX11_layFirst 93 = .ok (.iload_n 3, 1) := by decide +kernel
theorem dX11_layFirst_94 : decode cX11_layFirst 94 = .ok (.imul, 1) := by decide +kernel
theorem dX11_layFirst_95 : decode cX11_layFirst 95 = .ok (.iload 4, 2) := by decide +kernel
theorem dX11_layFirst_97 : decode cX11_layFirst 97 = .ok (.iadd, 1) := by decide +kernel
theorem dX11_layFirst_98 : decode cX11_layFirst 98 = .ok (.iaload, 1) := by decide +kernel
theorem dX11_layFirst_99 : decode cX11_layFirst 99 = .ok (.aload_n 0, 1) := by decide +kernel
theorem dX11_layFirst_100 : decode cX11_layFirst 100 = .ok (.getfield 37, 3) := by decide +kernel
theorem dX11_layFirst_103 : decode cX11_layFirst 103 = .ok (.sipush 1024, 3) := by decide +kernel
theorem dX11_layFirst_106 : decode cX11_layFirst 106 = .ok (.iload_n 3, 1) := by decide +kernel
theorem dX11_layFirst_107 : decode cX11_layFirst 107 = .ok (.iconst 1, 1) := by decide +kernel
theorem dX11_layFirst_108 : decode cX11_layFirst 108 = .ok (.iadd, 1) := by decide +kernel
theorem dX11_layFirst_109 : decode cX11_layFirst 109 = .ok (.imul, 1) := by decide +kernel
theorem dX11_layFirst_110 : decode cX11_layFirst 110 = .ok (.iload_n 2, 1) := by decide +kernel
theorem dX11_layFirst_111 : decode cX11_layFirst 111 = .ok (.iconst 1, 1) := by decide +kernel
theorem dX11_layFirst_112 : decode cX11_layFirst 112 = .ok (.iload 4, 2) := by decide +kernel
theorem dX11_layFirst_114 : decode cX11_layFirst 114 = .ok (.ishl, 1) := by decide +kernel
theorem dX11_layFirst_115 : decode cX11_layFirst 115 = .ok (.ior, 1) := by decide +kernel
theorem dX11_layFirst_116 : decode cX11_layFirst 116 = .ok (.iadd, 1) := by decide +kernel
theorem dX11_layFirst_117 : decode cX11_layFirst 117 = .ok (.iaload, 1) := by decide +kernel
theorem dX11_layFirst_118 : decode cX11_layFirst 118 = .ok (.iadd, 1) := by decide +kernel
theorem dX11_layFirst_119 : decode cX11_layFirst 119 = .ok (.aload_n 0, 1) := by decide +kernel
theorem dX11_layFirst_120 : decode cX11_layFirst 120 = .ok (.getfield 37, 3) := by decide +kernel
theorem dX11_layFirst_123 : decode cX11_layFirst 123 = .ok (.sipush 1024, 3) := by decide +kernel
theorem dX11_layFirst_126 : decode cX11_layFirst 126 = .ok (.iload_n 3, 1) := by decide +kernel
theorem dX11_layFirst_127 : decode cX11_layFirst 127 = .ok (.imul, 1) := by decide +kernel
theorem dX11_layFirst_128 : decode cX11_layFirst 128 = .ok (.iload_n 2, 1) := by decide +kernel
theorem dX11_layFirst_129 : decode cX11_layFirst 129 = .ok (.iadd, 1) := by decide +kernel
theorem dX11_layFirst_130 : decode cX11_layFirst 130 = .ok (.iaload, 1) := by decide +kernel
theorem dX11_layFirst_131 : decode cX11_layFirst 131 = .ok (.if_icmp .ne 8, 3) := by decide +kernel
theorem dX11_layFirst_134 : decode cX11_layFirst 134 = .ok (.iload 4, 2) := by decide +kernel
theorem dX11_layFirst_136 : decode cX11_layFirst 136 = .ok (.goto 5, 3) := by decide +kernel
theorem dX11_layFirst_139 : decode cX11_layFirst 139 = .ok (.bipush (-4), 2) := by decide +kernel
theorem dX11_layFirst_141 : decode cX11_layFirst 141 = .ok (.iastore, 1) := by decide +kernel
theorem dX11_layFirst_142 : decode cX11_layFirst 142 = .ok (.iinc 4 1, 3) := by decide +kernel
theorem dX11_layFirst_145 : decode cX11_layFirst 145 = .ok (.goto (-127), 3) := by decide +kernel
theorem dX11_layFirst_148 : decode cX11_layFirst 148 = .ok (.iload_n 2, 1) := by decide +kernel
theorem dX11_layFirst_149 : decode cX11_layFirst 149 = .ok (.aload_n 1, 1) := by decide +kernel
theorem dX11_layFirst_150 : decode cX11_layFirst 150 = .ok (.iload_n 3, 1) := by decide +kernel
theorem dX11_layFirst_151 : decode cX11_layFirst 151 = .ok (.iaload, 1) := by decide +kernel
theorem dX11_layFirst_152 : decode cX11_layFirst 152 = .ok (.bipush (-4), 2) := by decide +kernel
theorem dX11_layFirst_154 : decode cX11_layFirst 154 = .ok (.if_icmp .ne 7, 3) := by decide +kernel
theorem dX11_layFirst_157 : decode cX11_layFirst 157 = .ok (.iconst 0, 1) := by decide +kernel
theorem dX11_layFirst_158 : decode cX11_layFirst 158 = .ok (.goto 8, 3) := by decide +kernel
theorem dX11_layFirst_161 : decode cX11_layFirst 161 = .ok (.iconst 1, 1) := by decide +kernel
theorem dX11_layFirst_162 : decode cX11_layFirst 162 = .ok (.aload_n 1, 1) := by decide +kernel
theorem dX11_layFirst_163 : decode cX11_layFirst 163 = .ok (.iload_n 3, 1) := by decide +kernel
theorem dX11_layFirst_164 : decode cX11_layFirst 164 = .ok (.iaload, 1) := by decide +kernel
theorem dX11_layFirst_165 : decode cX11_layFirst 165 = .ok (.ishl, 1) := by decide +kernel
theorem dX11_layFirst_166 : decode cX11_layFirst 166 = .ok (.ior, 1) := by decide +kernel
theorem dX11_layFirst_167 : decode cX11_layFirst 167 = .ok (.istore_n 2, 1) := by decide +kernel
theorem dX11_layFirst_168 : decode cX11_layFirst 168 = .ok (.iinc 3 1, 3) := by decide +kernel
theorem dX11_layFirst_171 : decode cX11_layFirst 171 = .ok (.goto (-167), 3) := by decide +kernel
theorem dX11_layFirst_174 : decode cX11_layFirst 174 = .ok (.return_, 1) := by decide +kernel
theorem dX11_first_0 : decode cX11_first 0 = .ok (.aload_n 0, 1) := by decide +kernel
theorem dX11_first_1 : decode cX11_first 1 = .ok (.iconst 0, 1) := by decide +kernel
theorem dX11_first_2 : decode cX11_first 2 = .ok (.iload_n 1, 1) := by decide +kernel
theorem dX11_first_3 : decode cX11_first 3 = .ok (.invokevirtual 177, 3) := by decide +kernel
theorem dX11_first_6 : decode cX11_first 6 = .ok (.ifCond .ne 5, 3) := by decide +kernel
theorem dX11_first_9 : decode cX11_first 9 = .ok (.iconst (-1), 1) := by decide +kernel
theorem dX11_first_10 : decode cX11_first 10 = .ok (.ireturn, 1) := by decide +kernel
theorem dX11_first_11 : decode cX11_first 11 = .ok (.aload_n 0, 1) := by decide +kernel
theorem dX11_first_12 : decode cX11_first 12 = .ok (.invokevirtual 242, 3) := by decide +kernel
theorem dX11_first_15 : decode cX11_first 15 = .ok (.aload_n 0, 1) := by decide +kernel
theorem dX11_first_16 : decode cX11_first 16 = .ok (.aload_n 0, 1) := by decide +kernel
theorem dX11_first_17 : decode cX11_first 17 = .ok (.getfield 53, 3) := by decide +kernel
theorem dX11_first_20 : decode cX11_first 20 = .ok (.invokevirtual 245, 3) := by decide +kernel
theorem dX11_first_23 : decode cX11_first 23 = .ok (.aload_n 0, 1) := by decide +kernel
theorem dX11_first_24 : decode cX11_first 24 = .ok (.getfield 53, 3) := by decide +kernel
theorem dX11_first_27 : decode cX11_first 27 = .ok (.iload_n 1, 1) := by decide +kernel
theorem dX11_first_28 : decode cX11_first 28 = .ok (.iaload, 1) := by decide +kernel
theorem dX11_first_29 : decode cX11_first 29 = .ok (.ireturn, 1) := by decide +kernel
theorem dX11_sureOf_0 : decode cX11_sureOf 0 = .ok (.aload_n 0, 1) := by decide +kernel
theorem dX11_sureOf_1 : decode cX11_sureOf 1 = .ok (.iconst 0, 1) := by decide +kernel
theorem dX11_sureOf_2 : decode cX11_sureOf 2 = .ok (.iconst 0, 1) := by decide +kernel
theorem dX11_sureOf_3 : decode cX11_sureOf 3 = .ok (.iconst 0, 1) := by decide +kernel
theorem dX11_sureOf_4 : decode cX11_sureOf 4 = .ok (.invokevirtual 236, 3) := by decide +kernel
theorem dX11_sureOf_7 : decode cX11_sureOf 7 = .ok (.aload_n 0, 1) := by decide +kernel
theorem dX11_sureOf_8 : decode cX11_sureOf 8 = .ok (.getfield 37, 3) := by decide +kernel
theorem dX11_sureOf_11 : decode cX11_sureOf 11 = .ok (.iconst 0, 1) := by decide +kernel
theorem dX11_sureOf_12 : decode cX11_sureOf 12 = .ok (.iaload, 1) := by decide +kernel
theorem dX11_sureOf_13 : decode cX11_sureOf 13 = .ok (.istore_n 3, 1) := by decide +kernel
theorem dX11_sureOf_14 : decode cX11_sureOf 14 = .ok (.aload_n 0, 1) := by decide +kernel
theorem dX11_sureOf_15 : decode cX11_sureOf 15 = .ok (.iload_n 1, 1) := by decide +kernel
theorem dX11_sureOf_16 : decode cX11_sureOf 16 = .ok (.iload_n 2, 1) := by decide +kernel
theorem dX11_sureOf_17 : decode cX11_sureOf 17 = .ok (.iconst 1, 1) := by decide +kernel
theorem dX11_sureOf_18 : decode cX11_sureOf 18 = .ok (.invokevirtual 236, 3) := by decide +kernel
theorem dX11_sureOf_21 : decode cX11_sureOf 21 = .ok (.aload_n 0, 1) := by decide +kernel
theorem dX11_sureOf_22 : decode cX11_sureOf 22 = .ok (.getfield 34, 3) := by decide +kernel
theorem dX11_sureOf_25 : decode cX11_sureOf 25 = .ok (.bipush 10, 2) := by decide +kernel
theorem dX11_sureOf_27 : decode cX11_sureOf 27 = .ok (.iload_n 1, 1) := by decide +kernel
theorem dX11_sureOf_28 : decode cX11_sureOf 28 = .ok (.imul, 1) := by decide +kernel
theorem dX11_sureOf_29 : decode cX11_sureOf 29 = .ok (.iload_n 2, 1) := by decide +kernel
theorem dX11_sureOf_30 : decode cX11_sureOf 30 = .ok (.iadd, 1) := by decide +kernel
theorem dX11_sureOf_31 : decode cX11_sureOf 31 = .ok (.iaload, 1) := by decide +kernel
theorem dX11_sureOf_32 : decode cX11_sureOf 32 = .ok (.bipush (-4), 2) := by decide +kernel
theorem dX11_sureOf_34 : decode cX11_sureOf 34 = .ok (.if_icmp .eq 13, 3) := by decide +kernel
theorem dX11_sureOf_37 : decode cX11_sureOf 37 = .ok (.aload_n 0, 1) := by decide +kernel
theorem dX11_sureOf_38 : decode cX11_sureOf 38 = .ok (.getfield 37, 3) := by decide +kernel
theorem dX11_sureOf_41 : decode cX11_sureOf 41 = .ok (.iconst 0, 1) := by decide +kernel
theorem dX11_sureOf_42 : decode cX11_sureOf 42 = .ok (.iaload, 1) := by decide +kernel
theorem dX11_sureOf_43 : decode cX11_sureOf 43 = .ok (.iload_n 3, 1) := by decide +kernel
theorem dX11_sureOf_44 : decode cX11_sureOf 44 = .ok (.if_icmp .eq 5, 3) := by decide +kernel
theorem dX11_sureOf_47 : decode cX11_sureOf 47 = .ok (.iconst 0, 1) := by decide +kernel
theorem dX11_sureOf_48 : decode cX11_sureOf 48 = .ok (.ireturn, 1) := by decide +kernel
theorem dX11_sureOf_49 : decode cX11_sureOf 49 = .ok (.aload_n 0, 1) := by decide +kernel
theorem dX11_sureOf_50 : decode cX11_sureOf 50 = .ok (.iload_n 1, 1) := by decide +kernel
theorem dX11_sureOf_51 : decode cX11_sureOf 51 = .ok (.iload_n 2, 1) := by decide +kernel
theorem dX11_sureOf_52 : decode cX11_sureOf 52 = .ok (.iconst 2, 1) := by decide +kernel
theorem dX11_sureOf_53 : decode cX11_sureOf 53 = .ok (.invokevirtual 236, 3) := by decide +kernel
theorem dX11_sureOf_56 : decode cX11_sureOf 56 = .ok (.aload_n 0, 1) := by decide +kernel
theorem dX11_sureOf_57 : decode cX11_sureOf 57 = .ok (.getfield 37, 3) := by decide +kernel
theorem dX11_sureOf_60 : decode cX11_sureOf 60 = .ok (.iconst 0, 1) := by decide +kernel
theorem dX11_sureOf_61 : decode cX11_sureOf 61 = .ok (.iaload, 1) := by decide +kernel
theorem dX11_sureOf_62 : decode cX11_sureOf 62 = .ok (.iload_n 3, 1) := by decide +kernel
theorem dX11_sureOf_63 : decode cX11_sureOf 63 = .ok (.if_icmp .le 7, 3) := by decide +kernel
theorem dX11_sureOf_66 : decode cX11_sureOf 66 = .ok (.iconst 2, 1) := by decide +kernel
theorem dX11_sureOf_67 : decode cX11_sureOf 67 = .ok (.goto 4, 3) := by decide +kernel
theorem dX11_sureOf_70 : decode cX11_sureOf 70 = .ok (.iconst 1, 1) := by decide +kernel
theorem dX11_sureOf_71 : decode cX11_sureOf 71 = .ok (.ireturn, 1) := by decide +kernel
theorem dX11_sure_0 : decode cX11_sure 0 = .ok (.aload_n 0, 1) := by decide +kernel
theorem dX11_sure_1 : decode cX11_sure 1 = .ok (.iload_n 1, 1) := by decide +kernel
theorem dX11_sure_2 : decode cX11_sure 2 = .ok (.iload_n 2, 1) := by decide +kernel
theorem dX11_sure_3 : decode cX11_sure 3 = .ok (.invokevirtual 195, 3) := by decide +kernel
theorem dX11_sure_6 : decode cX11_sure 6 = .ok (.ifCond .ne 5, 3) := by decide +kernel
theorem dX11_sure_9 : decode cX11_sure 9 = .ok (.iconst (-1), 1) := by decide +kernel
theorem dX11_sure_10 : decode cX11_sure 10 = .ok (.ireturn, 1) := by decide +kernel
theorem dX11_sure_11 : decode cX11_sure 11 = .ok (.aload_n 0, 1) := by decide +kernel
theorem dX11_sure_12 : decode cX11_sure 12 = .ok (.bipush 15, 2) := by decide +kernel
theorem dX11_sure_14 : decode cX11_sure 14 = .ok (.invokevirtual 233, 3) := by decide +kernel
theorem dX11_sure_17 : decode cX11_sure 17 = .ok (.aload_n 0, 1) := by decide +kernel
theorem dX11_sure_18 : decode cX11_sure 18 = .ok (.iload_n 1, 1) := by decide +kernel
theorem dX11_sure_19 : decode cX11_sure 19 = .ok (.iload_n 2, 1) := by decide +kernel
theorem dX11_sure_20 : decode cX11_sure 20 = .ok (.invokevirtual 249, 3) := by decide +kernel
theorem dX11_sure_23 : decode cX11_sure 23 = .ok (.ireturn, 1) := by decide +kernel
theorem dX11_lowest_0 : decode cX11_lowest 0 = .ok (.lload_n 0, 1) := by decide +kernel
theorem dX11_lowest_1 : decode cX11_lowest 1 = .ok (.lstore 5, 2) := by decide +kernel
theorem dX11_lowest_3 : decode cX11_lowest 3 = .ok (.lload_n 2, 1) := by decide +kernel
theorem dX11_lowest_4 : decode cX11_lowest 4 = .ok (.lstore 7, 2) := by decide +kernel
theorem dX11_lowest_6 : decode cX11_lowest 6 = .ok (.lload 7, 2) := by decide +kernel
theorem dX11_lowest_8 : decode cX11_lowest 8 = .ok (.lconst 0, 1) := by decide +kernel
theorem dX11_lowest_9 : decode cX11_lowest 9 = .ok (.lcmp, 1) := by decide +kernel
theorem dX11_lowest_10 : decode cX11_lowest 10 = .ok (.ifCond .eq 21, 3) := by decide +kernel
theorem dX11_lowest_13 : decode cX11_lowest 13 = .ok (.lload 5, 2) := by decide +kernel
theorem dX11_lowest_15 : decode cX11_lowest 15 = .ok (.lload 7, 2) := by decide +kernel
theorem dX11_lowest_17 : decode cX11_lowest 17 = .ok (.lrem, 1) := by decide +kernel
theorem dX11_lowest_18 : decode cX11_lowest 18 = .ok (.lstore 9, 2) := by decide +kernel
theorem dX11_lowest_20 : decode cX11_lowest 20 = .ok (.lload 7, 2) := by decide +kernel
theorem dX11_lowest_22 : decode cX11_lowest 22 = .ok (.lstore 5, 2) := by decide +kernel
theorem dX11_lowest_24 : decode cX11_lowest 24 = .ok (.lload 9, 2) := by decide +kernel
theorem dX11_lowest_26 : decode cX11_lowest 26 = .ok (.lstore 7, 2) := by decide +kernel
theorem dX11_lowest_28 : decode cX11_lowest 28 = .ok (.goto (-22), 3) := by decide +kernel
theorem dX11_lowest_31 : decode cX11_lowest 31 = .ok (.iload 4, 2) := by decide +kernel
theorem dX11_lowest_33 : decode cX11_lowest 33 = .ok (.ifCond .ne 7, 3) := by decide +kernel
theorem dX11_lowest_36 : decode cX11_lowest 36 = .ok (.lload_n 0, 1) := by decide +kernel
theorem dX11_lowest_37 : decode cX11_lowest 37 = .ok (.goto 4, 3) := by decide +kernel
theorem dX11_lowest_40 : decode cX11_lowest 40 = .ok (.lload_n 2, 1) := by decide +kernel
theorem dX11_lowest_41 : decode cX11_lowest 41 = .ok (.lload 5, 2) := by decide +kernel
theorem dX11_lowest_43 : decode cX11_lowest 43 = .ok (.ldiv, 1) := by decide +kernel
theorem dX11_lowest_44 : decode cX11_lowest 44 = .ok (.lreturn, 1) := by decide +kernel
theorem dX11_share_0 : decode cX11_share 0 = .ok (.aload_n 0, 1) := by decide +kernel
theorem dX11_share_1 : decode cX11_share 1 = .ok (.iload_n 1, 1) := by decide +kernel
theorem dX11_share_2 : decode cX11_share 2 = .ok (.iload_n 2, 1) := by decide +kernel
theorem dX11_share_3 : decode cX11_share 3 = .ok (.invokevirtual 195, 3) := by decide +kernel
theorem dX11_share_6 : decode cX11_share 6 = .ok (.ifCond .eq 13, 3) := by decide +kernel
theorem dX11_share_9 : decode cX11_share 9 = .ok (.iload_n 3, 1) := by decide +kernel
theorem dX11_share_10 : decode cX11_share 10 = .ok (.i2l, 1) := by decide +kernel
theorem dX11_share_11 : decode cX11_share 11 = .ok (.lconst 0, 1) := by decide +kernel
theorem dX11_share_12 : decode cX11_share 12 = .ok (.lconst 1, 1) := by decide +kernel
theorem dX11_share_13 : decode cX11_share 13 = .ok (.invokestatic 85, 3) := by decide +kernel
theorem dX11_share_16 : decode cX11_share 16 = .ok (.ifCond .ne 7, 3) := by decide +kernel
theorem dX11_share_19 : decode cX11_share 19 = .ok (.ldc2_w 240, 3) := by decide +kernel
theorem dX11_share_22 : decode cX11_share 22 = .ok (.lreturn, 1) := by decide +kernel
theorem dX11_share_23 : decode cX11_share 23 = .ok (.aload_n 0, 1) := by decide +kernel
theorem dX11_share_24 : decode cX11_share 24 = .ok (.invokevirtual 242, 3) := by decide +kernel
theorem dX11_share_27 : decode cX11_share 27 = .ok (.aload_n 0, 1) := by decide +kernel
theorem dX11_share_28 : decode cX11_share 28 = .ok (.getfield 40, 3) := by decide +kernel
theorem dX11_share_31 : decode cX11_share 31 = .ok (.iconst 0, 1) := by decide +kernel
theorem dX11_share_32 : decode cX11_share 32 = .ok (.laload, 1) := by decide +kernel
theorem dX11_share_33 : decode cX11_share 33 = .ok (.lstore 4, 2) := by decide +kernel
theorem dX11_share_35 : decode cX11_share 35 = .ok (.aload_n 0, 1) := by decide +kernel
theorem dX11_share_36 : decode cX11_share 36 = .ok (.iload_n 1, 1) := by decide +kernel
theorem dX11_share_37 : decode cX11_share 37 = .ok (.iload_n 2, 1) := by decide +kernel
theorem dX11_share_38 : decode cX11_share 38 = .ok (.iconst 1, 1) := by decide +kernel
theorem dX11_share_39 : decode cX11_share 39 = .ok (.invokevirtual 236, 3) := by decide +kernel
theorem dX11_share_42 : decode cX11_share 42 = .ok (.aload_n 0, 1) := by decide +kernel
theorem dX11_share_43 : decode cX11_share 43 = .ok (.getfield 34, 3) := by decide +kernel
theorem dX11_share_46 : decode cX11_share 46 = .ok (.bipush 10, 2) := by decide +kernel
theorem dX11_share_48 : decode cX11_share 48 = .ok (.iload_n 1, 1) := by decide +kernel
theorem dX11_share_49 : decode cX11_share 49 = .ok (.imul, 1) := by decide +kernel
theorem dX11_share_50 : decode cX11_share 50 = .ok (.iload_n 2, 1) := by decide +kernel
theorem dX11_share_51 : decode cX11_share 51 = .ok (.iadd, 1) := by decide +kernel
theorem dX11_share_52 : decode cX11_share 52 = .ok (.iaload, 1) := by decide +kernel
theorem dX11_share_53 : decode cX11_share 53 = .ok (.bipush (-4), 2) := by decide +kernel
theorem dX11_share_55 : decode cX11_share 55 = .ok (.if_icmp .ne 7, 3) := by decide +kernel
theorem dX11_share_58 : decode cX11_share 58 = .ok (.lconst 0, 1) := by decide +kernel
theorem dX11_share_59 : decode cX11_share 59 = .ok (.goto 9, 3) := by decide +kernel
theorem dX11_share_62 : decode cX11_share 62 = .ok (.aload_n 0, 1) := by decide +kernel
theorem dX11_share_63 : decode cX11_share 63 = .ok (.getfield 40, 3) := by decide +kernel
theorem dX11_share_66 : decode cX11_share 66 = .ok (.iconst 0, 1) := by decide +kernel
theorem dX11_share_67 : decode cX11_share 67 = .ok (.laload, 1) := by decide +kernel
theorem dX11_share_68 : decode cX11_share 68 = .ok (.lload 4, 2) := by decide +kernel
theorem dX11_share_70 : decode cX11_share 70 = .ok (.iload_n 3, 1) := by decide +kernel
theorem dX11_share_71 : decode cX11_share 71 = .ok (.invokestatic 252, 3) := by decide +kernel
theorem dX11_share_74 : decode cX11_share 74 = .ok (.lreturn, 1) := by decide +kernel
theorem dX11_ifMust_0 : decode cX11_ifMust 0 = .ok (.aload_n 0, 1) := by decide +kernel
theorem dX11_ifMust_1 : decode cX11_ifMust 1 = .ok (.iload_n 1, 1) := by decide +kernel
theorem dX11_ifMust_2 : decode cX11_ifMust 2 = .ok (.iload_n 2, 1) := by decide +kernel
theorem dX11_ifMust_3 : decode cX11_ifMust 3 = .ok (.invokevirtual 195, 3) := by decide +kernel
theorem dX11_ifMust_6 : decode cX11_ifMust 6 = .ok (.ifCond .ne 5, 3) := by decide +kernel
theorem dX11_ifMust_9 : decode cX11_ifMust 9 = .ok (.iconst (-1), 1) := by decide +kernel
theorem dX11_ifMust_10 : decode cX11_ifMust 10 = .ok (.ireturn, 1) := by decide +kernel
theorem dX11_ifMust_11 : decode cX11_ifMust 11 = .ok (.aload_n 0, 1) := by decide +kernel
theorem dX11_ifMust_12 : decode cX11_ifMust 12 = .ok (.invokevirtual 242, 3) := by decide +kernel
theorem dX11_ifMust_15 : decode cX11_ifMust 15 = .ok (.aload_n 0, 1) := by decide +kernel
theorem dX11_ifMust_16 : decode cX11_ifMust 16 = .ok (.getfield 37, 3) := by decide +kernel
theorem dX11_ifMust_19 : decode cX11_ifMust 19 = .ok (.iconst 0, 1) := by decide +kernel
theorem dX11_ifMust_20 : decode cX11_ifMust 20 = .ok (.iaload, 1) := by decide +kernel
theorem dX11_ifMust_21 : decode cX11_ifMust 21 = .ok (.istore 4, 2) := by decide +kernel
theorem dX11_ifMust_23 : decode cX11_ifMust 23 = .ok (.iload_n 3, 1) := by decide +kernel
theorem dX11_ifMust_24 : decode cX11_ifMust 24 = .ok (.ifCond .eq 22, 3) := by decide +kernel
theorem dX11_ifMust_27 : decode cX11_ifMust 27 = .ok (.aload_n 0, 1) := by decide +kernel
theorem dX11_ifMust_28 : decode cX11_ifMust 28 = .ok (.getfield 34, 3) := by decide +kernel
theorem dX11_ifMust_31 : decode cX11_ifMust 31 = .ok (.bipush 10, 2) := by decide +kernel
theorem dX11_ifMust_33 : decode cX11_ifMust 33 = .ok (.iload_n 1, 1) := by decide +kernel
theorem dX11_ifMust_34 : decode cX11_ifMust 34 = .ok (.imul, 1) := by decide +kernel
theorem dX11_ifMust_35 : decode cX11_ifMust 35 = .ok (.iload_n 2, 1) := by decide +kernel
theorem dX11_ifMust_36 : decode cX11_ifMust 36 = .ok (.iadd, 1) := by decide +kernel
theorem dX11_ifMust_37 : decode cX11_ifMust 37 = .ok (.iaload, 1) := by decide +kernel
theorem dX11_ifMust_38 : decode cX11_ifMust 38 = .ok (.bipush (-4), 2) := by decide +kernel
theorem dX11_ifMust_40 : decode cX11_ifMust 40 = .ok (.if_icmp .ne 6, 3) := by decide +kernel
theorem dX11_ifMust_43 : decode cX11_ifMust 43 = .ok (.bipush (-4), 2) := by decide +kernel
theorem dX11_ifMust_45 : decode cX11_ifMust 45 = .ok (.ireturn, 1) := by decide +kernel
theorem dX11_ifMust_46 : decode cX11_ifMust 46 = .ok (.aload_n 0, 1) := by decide +kernel
theorem dX11_ifMust_47 : decode cX11_ifMust 47 = .ok (.iload_n 1, 1) := by decide +kernel
theorem dX11_ifMust_48 : decode cX11_ifMust 48 = .ok (.iload_n 2, 1) := by decide +kernel
theorem dX11_ifMust_49 : decode cX11_ifMust 49 = .ok (.iload_n 3, 1) := by decide +kernel
theorem dX11_ifMust_50 : decode cX11_ifMust 50 = .ok (.ifCond .eq 7, 3) := by decide +kernel
theorem dX11_ifMust_53 : decode cX11_ifMust 53 = .ok (.iconst 1, 1) := by decide +kernel
theorem dX11_ifMust_54 : decode cX11_ifMust 54 = .ok (.goto 4, 3) := by decide +kernel
theorem dX11_ifMust_57 : decode cX11_ifMust 57 = .ok (.iconst 2, 1) := by decide +kernel
theorem dX11_ifMust_58 : decode cX11_ifMust 58 = .ok (.invokevirtual 236, 3) := by decide +kernel
theorem dX11_ifMust_61 : decode cX11_ifMust 61 = .ok (.aload_n 0, 1) := by decide +kernel
theorem dX11_ifMust_62 : decode cX11_ifMust 62 = .ok (.getfield 37, 3) := by decide +kernel
theorem dX11_ifMust_65 : decode cX11_ifMust 65 = .ok (.iconst 0, 1) := by decide +kernel
theorem dX11_ifMust_66 : decode cX11_ifMust 66 = .ok (.iaload, 1) := by decide +kernel
theorem dX11_ifMust_67 : decode cX11_ifMust 67 = .ok (.iload 4, 2) := by decide +kernel
theorem dX11_ifMust_69 : decode cX11_ifMust 69 = .ok (.isub, 1) := by decide +kernel
theorem dX11_ifMust_70 : decode cX11_ifMust 70 = .ok (.ireturn, 1) := by decide +kernel
theorem dX11_alone_0 : decode cX11_alone 0 = .ok (.iload_n 1, 1) := by decide +kernel
theorem dX11_alone_1 : decode cX11_alone 1 = .ok (.invokestatic 161, 3) := by decide +kernel
theorem dX11_alone_4 : decode cX11_alone 4 = .ok (.ifCond .eq 15, 3) := by decide +kernel
theorem dX11_alone_7 : decode cX11_alone 7 = .ok (.iload_n 2, 1) := by decide +kernel
theorem dX11_alone_8 : decode cX11_alone 8 = .ok (.i2l, 1) := by decide +kernel
theorem dX11_alone_9 : decode cX11_alone 9 = .ok (.lconst 0, 1) := by decide +kernel
theorem dX11_alone_10 : decode cX11_alone 10 = .ok (.ldc2_w 185, 3) := by decide +kernel
theorem dX11_alone_13 : decode cX11_alone 13 = .ok (.invokestatic 85, 3) := by decide +kernel
theorem dX11_alone_16 : decode cX11_alone 16 = .ok (.ifCond .ne 5, 3) := by decide +kernel
theorem dX11_alone_19 : decode cX11_alone 19 = .ok (.iconst (-1), 1) := by decide +kernel
theorem dX11_alone_20 : decode cX11_alone 20 = .ok (.ireturn, 1) := by decide +kernel
theorem dX11_alone_21 : decode cX11_alone 21 = .ok (.aload_n 0, 1) := by decide +kernel
theorem dX11_alone_22 : decode cX11_alone 22 = .ok (.invokevirtual 242, 3) := by decide +kernel
theorem dX11_alone_25 : decode cX11_alone 25 = .ok (.aload_n 0, 1) := by decide +kernel
theorem dX11_alone_26 : decode cX11_alone 26 = .ok (.getfield 37, 3) := by decide +kernel
theorem dX11_alone_29 : decode cX11_alone 29 = .ok (.iconst 0, 1) := by decide +kernel
theorem dX11_alone_30 : decode cX11_alone 30 = .ok (.iaload, 1) := by decide +kernel
theorem dX11_alone_31 : decode cX11_alone 31 = .ok (.istore_n 3, 1) := by decide +kernel
theorem dX11_alone_32 : decode cX11_alone 32 = .ok (.aload_n 0, 1) := by decide +kernel
theorem dX11_alone_33 : decode cX11_alone 33 = .ok (.getfield 44, 3) := by decide +kernel
theorem dX11_alone_36 : decode cX11_alone 36 = .ok (.iconst 0, 1) := by decide +kernel
theorem dX11_alone_37 : decode cX11_alone 37 = .ok (.laload, 1) := by decide +kernel
theorem dX11_alone_38 : decode cX11_alone 38 = .ok (.lstore 4, 2) := by decide +kernel
theorem dX11_alone_40 : decode cX11_alone 40 = .ok (.aload_n 0, 1) := by decide +kernel
theorem dX11_alone_41 : decode cX11_alone 41 = .ok (.getfield 40, 3) := by decide +kernel
theorem dX11_alone_44 : decode cX11_alone 44 = .ok (.iconst 0, 1) := by decide +kernel
theorem dX11_alone_45 : decode cX11_alone 45 = .ok (.laload, 1) := by decide +kernel
theorem dX11_alone_46 : decode cX11_alone 46 = .ok (.lstore 6, 2) := by decide +kernel
theorem dX11_alone_48 : decode cX11_alone 48 = .ok (.iconst 0, 1) := by decide +kernel
theorem dX11_alone_49 : decode cX11_alone 49 = .ok (.istore 8, 2) := by decide +kernel
theorem dX11_alone_51 : decode cX11_alone 51 = .ok (.iconst 0, 1) := by decide +kernel
theorem dX11_alone_52 : decode cX11_alone 52 = .ok (.istore 9, 2) := by decide +kernel
theorem dX11_alone_54 : decode cX11_alone 54 = .ok (.iload 9, 2) := by decide +kernel
theorem dX11_alone_56 : decode cX11_alone 56 = .ok (.aload_n 0, 1) := by decide +kernel
theorem dX11_alone_57 : decode cX11_alone 57 = .ok (.iload_n 1, 1) := by decide +kernel
theorem dX11_alone_58 : decode cX11_alone 58 = .ok (.iconst 0, 1) := by decide +kernel
theorem dX11_alone_59 : decode cX11_alone 59 = .ok (.invokevirtual 164, 3) := by decide +kernel
theorem dX11_alone_62 : decode cX11_alone 62 = .ok (.if_icmp .ge 103, 3) := by decide +kernel
theorem dX11_alone_65 : decode cX11_alone 65 = .ok (.aload_n 0, 1) := by decide +kernel
theorem dX11_alone_66 : decode cX11_alone 66 = .ok (.iload 9, 2) := by decide +kernel
theorem dX11_alone_68 : decode cX11_alone 68 = .ok (.iload 9, 2) := by decide +kernel
theorem dX11_alone_70 : decode cX11_alone 70 = .ok (.iload_n 1, 1) := by decide +kernel
theorem dX11_alone_71 : decode cX11_alone 71 = .ok (.ifCond .ne 7, 3) := by decide +kernel
theorem dX11_alone_74 : decode cX11_alone 74 = .ok (.iconst 3, 1) := by decide +kernel
theorem dX11_alone_75 : decode cX11_alone 75 = .ok (.goto 4, 3) := by decide +kernel
theorem dX11_alone_78 : decode cX11_alone 78 = .ok (.iconst 4, 1) := by decide +kernel
theorem dX11_alone_79 : decode cX11_alone 79 = .ok (.invokevirtual 236, 3) := by decide +kernel
theorem dX11_alone_82 : decode cX11_alone 82 = .ok (.iload_n 2, 1) := by decide +kernel
theorem dX11_alone_83 : decode cX11_alone 83 = .ok (.iconst 2, 1) := by decide +kernel
theorem dX11_alone_84 : decode cX11_alone 84 = .ok (.if_icmp .ne 23, 3) := by decide +kernel
theorem dX11_alone_87 : decode cX11_alone 87 = .ok (.aload_n 0, 1) := by decide +kernel
theorem dX11_alone_88 : decode cX11_alone 88 = .ok (.getfield 40, 3) := by decide +kernel
theorem dX11_alone_91 : decode cX11_alone 91 = .ok (.iconst 0, 1) := by decide +kernel
theorem dX11_alone_92 : decode cX11_alone 92 = .ok (.laload, 1) := by decide +kernel
theorem dX11_alone_93 : decode cX11_alone 93 = .ok (.lload 6, 2) := by decide +kernel
theorem dX11_alone_95 : decode cX11_alone 95 = .ok (.lcmp, 1) := by decide +kernel
theorem dX11_alone_96 : decode cX11_alone 96 = .ok (.ifCond .ne 7, 3) := by decide +kernel
theorem dX11_alone_99 : decode cX11_alone 99 = .ok (.iconst 1, 1) := by decide +kernel
theorem dX11_alone_100 : decode cX11_alone 100 = .ok (.goto 39, 3) := by decide +kernel
theorem dX11_alone_103 : decode cX11_alone 103 = .ok (.iconst 0, 1) := by decide +kernel
theorem dX11_alone_104 : decode cX11_alone 104 = .ok (.goto 35, 3) := by decide +kernel
theorem dX11_alone_107 : decode cX11_alone 107 = .ok (.aload_n 0, 1) := by decide +kernel
theorem dX11_alone_108 : decode cX11_alone 108 = .ok (.getfield 37, 3) := by decide +kernel
theorem dX11_alone_111 : decode cX11_alone 111 = .ok (.iconst 0, 1) := by decide +kernel
theorem dX11_alone_112 : decode cX11_alone 112 = .ok (.iaload, 1) := by decide +kernel
theorem dX11_alone_113 : decode cX11_alone 113 = .ok (.iload_n 3, 1) := by decide +kernel
theorem dX11_alone_114 : decode cX11_alone 114 = .ok (.if_icmp .ne 24, 3) := by decide +kernel
theorem dX11_alone_117 : decode cX11_alone 117 = .ok (.iload_n 2, 1) := by decide +kernel
theorem dX11_alone_118 : decode cX11_alone 118 = .ok (.iconst 1, 1) := by decide +kernel
theorem dX11_alone_119 : decode cX11_alone 119 = .ok (.if_icmp .eq 15, 3) := by decide +kernel
theorem dX11_alone_122 : decode cX11_alone 122 = .ok (.aload_n 0, 1) := by decide +kernel
theorem dX11_alone_123 : decode cX11_alone 123 = .ok (.getfield 44, 3) := by decide +kernel
theorem dX11_alone_126 : decode cX11_alone 126 = .ok (.iconst 0, 1) := by decide +kernel
theorem dX11_alone_127 : decode cX11_alone 127 = .ok (.laload, 1) := by decide +kernel
theorem dX11_alone_128 : decode cX11_alone 128 = .ok (.lload 4, 2) := by decide +kernel
theorem dX11_alone_130 : decode cX11_alone 130 = .ok (.lcmp, 1) := by decide +kernel
theorem dX11_alone_131 : decode cX11_alone 131 = .ok (.ifCond .ne 7, 3) := by decide +kernel
theorem dX11_alone_134 : decode cX11_alone 134 = .ok (.iconst 1, 1) := by decide +kernel
theorem dX11_alone_135 : decode cX11_alone 135 = .ok (.goto 4, 3) := by decide +kernel
theorem dX11_alone_138 : decode cX11_alone 138 = .ok (.iconst 0, 1) := by decide +kernel
theorem dX11_alone_139 : decode cX11_alone 139 = .ok (.istore 10, 2) := by decide +kernel
theorem dX11_alone_141 : decode cX11_alone 141 = .ok (.iload 8, 2) := by decide +kernel
theorem dX11_alone_143 : decode cX11_alone 143 = .ok (.iload 10, 2) := by decide +kernel
theorem dX11_alone_145 : decode cX11_alone 145 = .ok (.ifCond .eq 10, 3) := by decide +kernel
theorem dX11_alone_148 : decode cX11_alone 148 = .ok (.iconst 1, 1) := by decide +kernel
theorem dX11_alone_149 : decode cX11_alone 149 = .ok (.iload 9, 2) := by decide +kernel
theorem dX11_alone_151 : decode cX11_alone 151 = .ok (.ishl, 1) := by decide +kernel
theorem dX11_alone_152 : decode cX11_alone 152 = .ok (.goto 4, 3) := by decide +kernel
theorem dX11_alone_155 : decode cX11_alone 155 = .ok (.iconst 0, 1) := by decide +kernel
theorem dX11_alone_156 : decode cX11_alone 156 = .ok (.ior, 1) := by decide +kernel
theorem dX11_alone_157 : decode cX11_alone 157 = .ok (.istore 8, 2) := by decide +kernel
theorem dX11_alone_159 : decode cX11_alone 159 = .ok (.iinc 9 1, 3) := by decide +kernel
theorem dX11_alone_162 : decode cX11_alone 162 = .ok (.goto (-108), 3) := by decide +kernel
theorem dX11_alone_165 : decode cX11_alone 165 = .ok (.iload 8, 2) := by decide +kernel
theorem dX11_alone_167 : decode cX11_alone 167 = .ok (.ireturn, 1) := by decide +kernel
theorem dX11_many_0 : decode cX11_many 0 = .ok (.iload_n 1, 1) := by decide +kernel
theorem dX11_many_1 : decode cX11_many 1 = .ok (.i2l, 1) := by decide +kernel
theorem dX11_many_2 : decode cX11_many 2 = .ok (.lconst 0, 1) := by decide +kernel
theorem dX11_many_3 : decode cX11_many 3 = .ok (.lconst 1, 1) := by decide +kernel
theorem dX11_many_4 : decode cX11_many 4 = .ok (.invokestatic 85, 3) := by decide +kernel
theorem dX11_many_7 : decode cX11_many 7 = .ok (.ifCond .ne 5, 3) := by decide +kernel
theorem dX11_many_10 : decode cX11_many 10 = .ok (.iconst (-1), 1) := by decide +kernel
theorem dX11_many_11 : decode cX11_many 11 = .ok (.ireturn, 1) := by decide +kernel
theorem dX11_many_12 : decode cX11_many 12 = .ok (.aload_n 0, 1) := by decide +kernel
theorem dX11_many_13 : decode cX11_many 13 = .ok (.invokevirtual 242, 3) := by decide +kernel
theorem dX11_many_16 : decode cX11_many 16 = .ok (.iload_n 1, 1) := by decide +kernel
theorem dX11_many_17 : decode cX11_many 17 = .ok (.ifCond .ne 12, 3) := by decide +kernel
theorem dX11_many_20 : decode cX11_many 20 = .ok (.aload_n 0, 1) := by decide +kernel
theorem dX11_many_21 : decode cX11_many 21 = .ok (.getfield 47, 3) := by decide +kernel
theorem dX11_many_24 : decode cX11_many 24 = .ok (.iconst 0, 1) := by decide +kernel
theorem dX11_many_25 : decode cX11_many 25 = .ok (.iaload, 1) := by decide +kernel
theorem dX11_many_26 : decode cX11_many 26 = .ok (.goto 9, 3) := by decide +kernel
theorem dX11_many_29 : decode cX11_many 29 = .ok (.aload_n 0, 1) := by decide +kernel
theorem dX11_many_30 : decode cX11_many 30 = .ok (.getfield 50, 3) := by decide +kernel
theorem dX11_many_33 : decode cX11_many 33 = .ok (.iconst 0, 1) := by decide +kernel
theorem dX11_many_34 : decode cX11_many 34 = .ok (.iaload, 1) := by decide +kernel
theorem dX11_many_35 : decode cX11_many 35 = .ok (.ireturn, 1) := by decide +kernel
theorem dX11_ways_0 : decode cX11_ways 0 = .ok (.iload_n 1, 1) := by decide +kernel
theorem dX11_ways_1 : decode cX11_ways 1 = .ok (.i2l, 1) := by decide +kernel
theorem dX11_ways_2 : decode cX11_ways 2 = .ok (.lconst 0, 1) := by decide +kernel
theorem dX11_ways_3 : decode cX11_ways 3 = .ok (.ldc2_w 187, 3) := by decide +kernel
theorem dX11_ways_6 : decode cX11_ways 6 = .ok (.invokestatic 85, 3) := by decide +kernel
theorem dX11_ways_9 : decode cX11_ways 9 = .ok (.ifCond .ne 7, 3) := by decide +kernel
theorem dX11_ways_12 : decode cX11_ways 12 = .ok (.ldc2_w 240, 3) := by decide +kernel
theorem dX11_ways_15 : decode cX11_ways 15 = .ok (.lreturn, 1) := by decide +kernel
theorem dX11_ways_16 : decode cX11_ways 16 = .ok (.aload_n 0, 1) := by decide +kernel
theorem dX11_ways_17 : decode cX11_ways 17 = .ok (.bipush 15, 2) := by decide +kernel
theorem dX11_ways_19 : decode cX11_ways 19 = .ok (.invokevirtual 233, 3) := by decide +kernel
theorem dX11_ways_22 : decode cX11_ways 22 = .ok (.aload_n 0, 1) := by decide +kernel
theorem dX11_ways_23 : decode cX11_ways 23 = .ok (.iconst 1, 1) := by decide +kernel
theorem dX11_ways_24 : decode cX11_ways 24 = .ok (.iconst 0, 1) := by decide +kernel
theorem dX11_ways_25 : decode cX11_ways 25 = .ok (.invokevirtual 164, 3) := by decide +kernel
theorem dX11_ways_28 : decode cX11_ways 28 = .ok (.istore_n 2, 1) := by decide +kernel
theorem dX11_ways_29 : decode cX11_ways 29 = .ok (.iconst 0, 1) := by decide +kernel
theorem dX11_ways_30 : decode cX11_ways 30 = .ok (.istore_n 3, 1) := by decide +kernel
theorem dX11_ways_31 : decode cX11_ways 31 = .ok (.iload_n 3, 1) := by decide +kernel
theorem dX11_ways_32 : decode cX11_ways 32 = .ok (.iconst 1, 1) := by decide +kernel
theorem dX11_ways_33 : decode cX11_ways 33 = .ok (.iload_n 2, 1) := by decide +kernel
theorem dX11_ways_34 : decode cX11_ways 34 = .ok (.ishl, 1) := by decide +kernel
theorem dX11_ways_35 : decode cX11_ways 35 = .ok (.if_icmp .ge 24, 3) := by decide +kernel
theorem dX11_ways_38 : decode cX11_ways 38 = .ok (.aload_n 0, 1) := by decide +kernel
theorem dX11_ways_39 : decode cX11_ways 39 = .ok (.getfield 59, 3) := by decide +kernel
theorem dX11_ways_42 : decode cX11_ways 42 = .ok (.iload_n 3, 1) := by decide +kernel
theorem dX11_ways_43 : decode cX11_ways 43 = .ok (.iload_n 3, 1) := by decide +kernel
theorem dX11_ways_44 : decode cX11_ways 44 = .ok (.ifCond .ne 7, 3) := by decide +kernel
theorem dX11_ways_47 : decode cX11_ways 47 = .ok (.lconst 1, 1) := by decide +kernel
theorem dX11_ways_48 : decode cX11_ways 48 = .ok (.goto 4, 3) := by decide +kernel
theorem dX11_ways_51 : decode cX11_ways 51 = .ok (.lconst 0, 1) := by decide +kernel
theorem dX11_ways_52 : decode cX11_ways 52 = .ok (.lastore, 1) := by decide +kernel
theorem dX11_ways_53 : decode cX11_ways 53 = .ok (.iinc 3 1, 3) := by decide +kernel
theorem dX11_ways_56 : decode cX11_ways 56 = .ok (.goto (-25), 3) := by decide +kernel
theorem dX11_ways_59 : decode cX11_ways 59 = .ok (.iconst 0, 1) := by decide +kernel
theorem dX11_ways_60 : decode cX11_ways 60 = .ok (.istore_n 3, 1) := by decide +kernel
theorem dX11_ways_61 : decode cX11_ways 61 = .ok (.iload_n 3, 1) := by decide +kernel
theorem dX11_ways_62 : decode cX11_ways 62 = .ok (.aload_n 0, 1) := by decide +kernel
theorem dX11_ways_63 : decode cX11_ways 63 = .ok (.iconst 0, 1) := by decide +kernel
theorem dX11_ways_64 : decode cX11_ways 64 = .ok (.iconst 0, 1) := by decide +kernel
theorem dX11_ways_65 : decode cX11_ways 65 = .ok (.invokevirtual 164, 3) := by decide +kernel
theorem dX11_ways_68 : decode cX11_ways 68 = .ok (.if_icmp .ge 110, 3) := by decide +kernel
theorem dX11_ways_71 : decode cX11_ways 71 = .ok (.iconst 1, 1) := by decide +kernel
theorem dX11_ways_72 : decode cX11_ways 72 = .ok (.iload_n 2, 1) := by decide +kernel
theorem dX11_ways_73 : decode cX11_ways 73 = .ok (.ishl, 1) := by decide +kernel
theorem dX11_ways_74 : decode cX11_ways 74 = .ok (.iconst 1, 1) := by decide +kernel
theorem dX11_ways_75 : decode cX11_ways 75 = .ok (.isub, 1) := by decide +kernel
theorem dX11_ways_76 : decode cX11_ways 76 = .ok (.istore 4, 2) := by decide +kernel
theorem dX11_ways_78 : decode cX11_ways 78 = .ok (.iload 4, 2) := by decide +kernel
theorem dX11_ways_80 : decode cX11_ways 80 = .ok (.ifCond .lt 92, 3) := by decide +kernel
theorem dX11_ways_83 : decode cX11_ways 83 = .ok (.iconst 0, 1) := by decide +kernel
theorem dX11_ways_84 : decode cX11_ways 84 = .ok (.istore 5, 2) := by decide +kernel
theorem dX11_ways_86 : decode cX11_ways 86 = .ok (.iload 5, 2) := by decide +kernel
theorem dX11_ways_88 : decode cX11_ways 88 = .ok (.iload_n 2, 1) := by decide +kernel
theorem dX11_ways_89 : decode cX11_ways 89 = .ok (.if_icmp .ge 77, 3) := by decide +kernel
theorem dX11_ways_92 : decode cX11_ways 92 = .ok (.iload 4, 2) := by decide +kernel
theorem dX11_ways_94 : decode cX11_ways 94 = .ok (.iload 5, 2) := by decide +kernel
theorem dX11_ways_96 : decode cX11_ways 96 = .ok (.ishr, 1) := by decide +kernel
theorem dX11_ways_97 : decode cX11_ways 97 = .ok (.iconst 1, 1) := by decide +kernel
theorem dX11_ways_98 : decode cX11_ways 98 = .ok (.iand, 1) := by decide +kernel
theorem dX11_ways_99 : decode cX11_ways 99 = .ok (.iconst 1, 1) := by decide +kernel
theorem dX11_ways_100 : decode cX11_ways 100 = .ok (.if_icmp .ne 24, 3) := by decide +kernel
theorem dX11_ways_103 : decode cX11_ways 103 = .ok (.aload_n 0, 1) := by decide +kernel
theorem dX11_ways_104 : decode cX11_ways 104 = .ok (.getfield 34, 3) := by decide +kernel
theorem dX11_ways_107 : decode cX11_ways 107 = .ok (.bipush 10, 2) := by decide +kernel
theorem dX11_ways_109 : decode cX11_ways 109 = .ok (.iload_n 3, 1) := by decide +kernel
theorem dX11_ways_110 : decode cX11_ways 110 = .ok (.imul, 1) := by decide +kernel
theorem dX11_ways_111 : decode cX11_ways 111 = .ok (.iload 5, 2) := by decide +kernel
theorem dX11_ways_113 : decode cX11_ways 113 = .ok (.iadd, 1) := by decide +kernel
theorem dX11_ways_114 : decode cX11_ways 114 = .ok (.iaload, 1) := by decide +kernel
theorem dX11_ways_115 : decode cX11_ways 115 = .ok (.bipush (-4), 2) := by decide +kernel
theorem dX11_ways_117 : decode cX11_ways 117 = .ok (.if_icmp .eq 7, 3) := by decide +kernel
theorem dX11_ways_120 : decode cX11_ways 120 = .ok (.iconst 1, 1) := by decide +kernel
theorem dX11_ways_121 : decode cX11_ways 121 = .ok (.goto 4, 3) := by decide +kernel
theorem dX11_ways_124 : decode cX11_ways 124 = .ok (.iconst 0, 1) := by decide +kernel
theorem dX11_ways_125 : decode cX11_ways 125 = .ok (.istore 6, 2) := by decide +kernel
theorem dX11_ways_127 : decode cX11_ways 127 = .ok (.aload_n 0, 1) := by decide +kernel
theorem dX11_ways_128 : decode cX11_ways 128 = .ok (.getfield 59, 3) := by decide +kernel
theorem dX11_ways_131 : decode cX11_ways 131 = .ok (.iload 4, 2) := by decide +kernel
theorem dX11_ways_133 : decode cX11_ways 133 = .ok (.dup2, 1) := by decide +kernel
theorem dX11_ways_134 : decode cX11_ways 134 = .ok (.laload, 1) := by decide +kernel
theorem dX11_ways_135 : decode cX11_ways 135 = .ok (.iload 6, 2) := by decide +kernel
theorem dX11_ways_137 : decode cX11_ways 137 = .ok (.ifCond .eq 20, 3) := by decide +kernel
theorem dX11_ways_140 : decode cX11_ways 140 = .ok (.aload_n 0, 1) := by decide +kernel
theorem dX11_ways_141 : decode cX11_ways 141 = .ok (.getfield 59, 3) := by decide +kernel
theorem dX11_ways_144 : decode cX11_ways 144 = .ok (.iload 4, 2) := by decide +kernel
theorem dX11_ways_146 : decode cX11_ways 146 = .ok (.iconst 1, 1) := by decide +kernel
theorem dX11_ways_147 : decode cX11_ways 147 = .ok (.iload 5, 2) := by decide +kernel
theorem dX11_ways_149 : decode cX11_ways 149 = .ok (.ishl, 1) := by decide +kernel
theorem dX11_ways_150 : decode cX11_ways 150 = .ok (.iconst (-1), 1) := by decide +kernel
theorem dX11_ways_151 : decode cX11_ways 151 = .ok (.ixor, 1) := by decide +kernel
theorem dX11_ways_152 : decode cX11_ways 152 = .ok (.iand, 1) := by decide +kernel
theorem dX11_ways_153 : decode cX11_ways 153 = .ok (.laload, 1) := by decide +kernel
theorem dX11_ways_154 : decode cX11_ways 154 = .ok (.goto 4, 3) := by decide +kernel
theorem dX11_ways_157 : decode cX11_ways 157 = .ok (.lconst 0, 1) := by decide +kernel
theorem dX11_ways_158 : decode cX11_ways 158 = .ok (.ladd, 1) := by decide +kernel
theorem dX11_ways_159 : decode cX11_ways 159 = .ok (.lastore, 1) := by decide +kernel
theorem dX11_ways_160 : decode cX11_ways 160 = .ok (.iinc 5 1, 3) := by decide +kernel
theorem dX11_ways_163 : decode cX11_ways 163 = .ok (.goto (-77), 3) := by decide +kernel
theorem dX11_ways_166 : decode cX11_ways 166 = .ok (.iinc 4 (-1), 3) := by decide +kernel
theorem dX11_ways_169 : decode cX11_ways 169 = .ok (.goto (-91), 3) := by decide +kernel
theorem dX11_ways_172 : decode cX11_ways 172 = .ok (.iinc 3 1, 3) := by decide +kernel
theorem dX11_ways_175 : decode cX11_ways 175 = .ok (.goto (-114), 3) := by decide +kernel
theorem dX11_ways_178 : decode cX11_ways 178 = .ok (.lconst 0, 1) := by decide +kernel
theorem dX11_ways_179 : decode cX11_ways 179 = .ok (.lstore_n 3, 1) := by decide +kernel
theorem dX11_ways_180 : decode cX11_ways 180 = .ok (.iconst 0, 1) := by decide +kernel
theorem dX11_ways_181 : decode cX11_ways 181 = .ok (.istore 5, 2) := by decide +kernel
theorem dX11_ways_183 : decode cX11_ways 183 = .ok (.iload 5, 2) := by decide +kernel
theorem dX11_ways_185 : decode cX11_ways 185 = .ok (.iconst 1, 1) := by decide +kernel
theorem dX11_ways_186 : decode cX11_ways 186 = .ok (.iload_n 2, 1) := by decide +kernel
theorem dX11_ways_187 : decode cX11_ways 187 = .ok (.ishl, 1) := by decide +kernel
theorem dX11_ways_188 : decode cX11_ways 188 = .ok (.if_icmp .ge 32, 3) := by decide +kernel
theorem dX11_ways_191 : decode cX11_ways 191 = .ok (.lload_n 3, 1) := by decide +kernel
theorem dX11_ways_192 : decode cX11_ways 192 = .ok (.iload 5, 2) := by decide +kernel
theorem dX11_ways_194 : decode cX11_ways 194 = .ok (.invokestatic 219, 3) := by decide +kernel
theorem dX11_ways_197 : decode cX11_ways 197 = .ok (.iload_n 1, 1) := by decide +kernel
theorem dX11_ways_198 : decode cX11_ways 198 = .ok (.if_icmp .ne 13, 3) := by decide +kernel
theorem dX11_ways_201 : decode cX11_ways 201 = .ok (.aload_n 0, 1) := by decide +kernel
theorem dX11_ways_202 : decode cX11_ways 202 = .ok (.getfield 59, 3) := by decide +kernel
theorem dX11_ways_205 : decode cX11_ways 205 = .ok (.iload 5, 2) := by decide +kernel
theorem dX11_ways_207 : decode cX11_ways 207 = .ok (.laload, 1) := by decide +kernel
theorem dX11_ways_208 : decode cX11_ways 208 = .ok (.goto 4, 3) := by decide +kernel
theorem dX11_ways_211 : decode cX11_ways 211 = .ok (.lconst 0, 1) := by decide +kernel
theorem dX11_ways_212 : decode cX11_ways 212 = .ok (.ladd, 1) := by decide +kernel
theorem dX11_ways_213 : decode cX11_ways 213 = .ok (.lstore_n 3, 1) := by decide +kernel
theorem dX11_ways_214 : decode cX11_ways 214 = .ok (.iinc 5 1, 3) := by decide +kernel
theorem dX11_ways_217 : decode cX11_ways 217 = .ok (.goto (-34), 3) := by decide +kernel
theorem dX11_ways_220 : decode cX11_ways 220 = .ok (.lload_n 3, 1) := by decide +kernel
theorem dX11_ways_221 : decode cX11_ways 221 = .ok (.lreturn, 1) := by decide +kernel
theorem dX11_toldOf_0 : decode cX11_toldOf 0 = .ok (.aload_n 0, 1) := by decide +kernel
theorem dX11_toldOf_1 : decode cX11_toldOf 1 = .ok (.getfield 31, 3) := by decide +kernel
theorem dX11_toldOf_4 : decode cX11_toldOf 4 = .ok (.sipush 190, 3) := by decide +kernel
theorem dX11_toldOf_7 : decode cX11_toldOf 7 = .ok (.iload_n 1, 1) := by decide +kernel
theorem dX11_toldOf_8 : decode cX11_toldOf 8 = .ok (.iadd, 1) := by decide +kernel
theorem dX11_toldOf_9 : decode cX11_toldOf 9 = .ok (.iaload, 1) := by decide +kernel
theorem dX11_toldOf_10 : decode cX11_toldOf 10 = .ok (.ifCond .ne 8, 3) := by decide +kernel
theorem dX11_toldOf_13 : decode cX11_toldOf 13 = .ok (.bipush (-4), 2) := by decide +kernel
theorem dX11_toldOf_15 : decode cX11_toldOf 15 = .ok (.goto 15, 3) := by decide +kernel
theorem dX11_toldOf_18 : decode cX11_toldOf 18 = .ok (.aload_n 0, 1) := by decide +kernel
theorem dX11_toldOf_19 : decode cX11_toldOf 19 = .ok (.getfield 31, 3) := by decide +kernel
theorem dX11_toldOf_22 : decode cX11_toldOf 22 = .ok (.sipush 190, 3) := by decide +kernel
theorem dX11_toldOf_25 : decode cX11_toldOf 25 = .ok (.iload_n 1, 1) := by decide +kernel
theorem dX11_toldOf_26 : decode cX11_toldOf 26 = .ok (.iadd, 1) := by decide +kernel
theorem dX11_toldOf_27 : decode cX11_toldOf 27 = .ok (.iaload, 1) := by decide +kernel
theorem dX11_toldOf_28 : decode cX11_toldOf 28 = .ok (.iconst 1, 1) := by decide +kernel
theorem dX11_toldOf_29 : decode cX11_toldOf 29 = .ok (.isub, 1) := by decide +kernel
theorem dX11_toldOf_30 : decode cX11_toldOf 30 = .ok (.ireturn, 1) := by decide +kernel
theorem dX11_tell_0 : decode cX11_tell 0 = .ok (.iload_n 1, 1) := by decide +kernel
theorem dX11_tell_1 : decode cX11_tell 1 = .ok (.i2l, 1) := by decide +kernel
theorem dX11_tell_2 : decode cX11_tell 2 = .ok (.lconst 0, 1) := by decide +kernel
theorem dX11_tell_3 : decode cX11_tell 3 = .ok (.ldc2_w 151, 3) := by decide +kernel
theorem dX11_tell_6 : decode cX11_tell 6 = .ok (.invokestatic 85, 3) := by decide +kernel
theorem dX11_tell_9 : decode cX11_tell 9 = .ok (.ifCond .eq 21, 3) := by decide +kernel
theorem dX11_tell_12 : decode cX11_tell 12 = .ok (.iload_n 2, 1) := by decide +kernel
theorem dX11_tell_13 : decode cX11_tell 13 = .ok (.i2l, 1) := by decide +kernel
theorem dX11_tell_14 : decode cX11_tell 14 = .ok (.lconst 0, 1) := by decide +kernel
theorem dX11_tell_15 : decode cX11_tell 15 = .ok (.ldc2_w 151, 3) := by decide +kernel
theorem dX11_tell_18 : decode cX11_tell 18 = .ok (.invokestatic 85, 3) := by decide +kernel
theorem dX11_tell_21 : decode cX11_tell 21 = .ok (.ifCond .ne 11, 3) := by decide +kernel
theorem dX11_tell_24 : decode cX11_tell 24 = .ok (.iload_n 2, 1) := by decide +kernel
theorem dX11_tell_25 : decode cX11_tell 25 = .ok (.bipush (-4), 2) := by decide +kernel
theorem dX11_tell_27 : decode cX11_tell 27 = .ok (.if_icmp .eq 5, 3) := by decide +kernel
theorem dX11_tell_30 : decode cX11_tell 30 = .ok (.iconst (-1), 1) := by decide +kernel
theorem dX11_tell_31 : decode cX11_tell 31 = .ok (.ireturn, 1) := by decide +kernel
theorem dX11_tell_32 : decode cX11_tell 32 = .ok (.aload_n 0, 1) := by decide +kernel
theorem dX11_tell_33 : decode cX11_tell 33 = .ok (.iload_n 1, 1) := by decide +kernel
theorem dX11_tell_34 : decode cX11_tell 34 = .ok (.invokevirtual 256, 3) := by decide +kernel
theorem dX11_tell_37 : decode cX11_tell 37 = .ok (.istore_n 3, 1) := by decide +kernel
theorem dX11_tell_38 : decode cX11_tell 38 = .ok (.aload_n 0, 1) := by decide +kernel
theorem dX11_tell_39 : decode cX11_tell 39 = .ok (.getfield 31, 3) := by decide +kernel
theorem dX11_tell_42 : decode cX11_tell 42 = .ok (.sipush 190, 3) := by decide +kernel
theorem dX11_tell_45 : decode cX11_tell 45 = .ok (.iload_n 1, 1) := by decide +kernel
theorem dX11_tell_46 : decode cX11_tell 46 = .ok (.iadd, 1) := by decide +kernel
theorem dX11_tell_47 : decode cX11_tell 47 = .ok (.iload_n 2, 1) := by decide +kernel
theorem dX11_tell_48 : decode cX11_tell 48 = .ok (.bipush (-4), 2) := by decide +kernel
theorem dX11_tell_50 : decode cX11_tell 50 = .ok (.if_icmp .ne 7, 3) := by decide +kernel
theorem dX11_tell_53 : decode cX11_tell 53 = .ok (.iconst 0, 1) := by decide +kernel
theorem dX11_tell_54 : decode cX11_tell 54 = .ok (.goto 6, 3) := by decide +kernel
theorem dX11_tell_57 : decode cX11_tell 57 = .ok (.iload_n 2, 1) := by decide +kernel
theorem dX11_tell_58 : decode cX11_tell 58 = .ok (.iconst 1, 1) := by decide +kernel
theorem dX11_tell_59 : decode cX11_tell 59 = .ok (.iadd, 1) := by decide +kernel
theorem dX11_tell_60 : decode cX11_tell 60 = .ok (.iastore, 1) := by decide +kernel
theorem dX11_tell_61 : decode cX11_tell 61 = .ok (.iload_n 3, 1) := by decide +kernel
theorem dX11_tell_62 : decode cX11_tell 62 = .ok (.ireturn, 1) := by decide +kernel
theorem dX11_adopt_0 : decode cX11_adopt 0 = .ok (.aload_n 0, 1) := by decide +kernel
theorem dX11_adopt_1 : decode cX11_adopt 1 = .ok (.invokevirtual 242, 3) := by decide +kernel
theorem dX11_adopt_4 : decode cX11_adopt 4 = .ok (.aload_n 0, 1) := by decide +kernel
theorem dX11_adopt_5 : decode cX11_adopt 5 = .ok (.aload_n 0, 1) := by decide +kernel
theorem dX11_adopt_6 : decode cX11_adopt 6 = .ok (.getfield 53, 3) := by decide +kernel
theorem dX11_adopt_9 : decode cX11_adopt 9 = .ok (.invokevirtual 245, 3) := by decide +kernel
theorem dX11_adopt_12 : decode cX11_adopt 12 = .ok (.iconst 0, 1) := by decide +kernel
theorem dX11_adopt_13 : decode cX11_adopt 13 = .ok (.istore_n 1, 1) := by decide +kernel
theorem dX11_adopt_14 : decode cX11_adopt 14 = .ok (.iconst 0, 1) := by decide +kernel
theorem dX11_adopt_15 : decode cX11_adopt 15 = .ok (.istore_n 2, 1) := by decide +kernel
theorem dX11_adopt_16 : decode cX11_adopt 16 = .ok (.iload_n 2, 1) := by decide +kernel
theorem dX11_adopt_17 : decode cX11_adopt 17 = .ok (.bipush 10, 2) := by decide +kernel
theorem dX11_adopt_19 : decode cX11_adopt 19 = .ok (.if_icmp .ge 61, 3) := by decide +kernel
theorem dX11_adopt_22 : decode cX11_adopt 22 = .ok (.aload_n 0, 1) := by decide +kernel
theorem dX11_adopt_23 : decode cX11_adopt 23 = .ok (.getfield 31, 3) := by decide +kernel
theorem dX11_adopt_26 : decode cX11_adopt 26 = .ok (.sipush 190, 3) := by decide +kernel
theorem dX11_adopt_29 : decode cX11_adopt 29 = .ok (.iload_n 2, 1) := by decide +kernel
theorem dX11_adopt_30 : decode cX11_adopt 30 = .ok (.iadd, 1) := by decide +kernel
theorem dX11_adopt_31 : decode cX11_adopt 31 = .ok (.aload_n 0, 1) := by decide +kernel
theorem dX11_adopt_32 : decode cX11_adopt 32 = .ok (.getfield 53, 3) := by decide +kernel
theorem dX11_adopt_35 : decode cX11_adopt 35 = .ok (.iload_n 2, 1) := by decide +kernel
theorem dX11_adopt_36 : decode cX11_adopt 36 = .ok (.iaload, 1) := by decide +kernel
theorem dX11_adopt_37 : decode cX11_adopt 37 = .ok (.bipush (-4), 2) := by decide +kernel
theorem dX11_adopt_39 : decode cX11_adopt 39 = .ok (.if_icmp .ne 7, 3) := by decide +kernel
theorem dX11_adopt_42 : decode cX11_adopt 42 = .ok (.iconst 0, 1) := by decide +kernel
theorem dX11_adopt_43 : decode cX11_adopt 43 = .ok (.goto 11, 3) := by decide +kernel
theorem dX11_adopt_46 : decode cX11_adopt 46 = .ok (.aload_n 0, 1) := by decide +kernel
theorem dX11_adopt_47 : decode cX11_adopt 47 = .ok (.getfield 53, 3) := by decide +kernel
theorem dX11_adopt_50 : decode cX11_adopt 50 = .ok (.iload_n 2, 1) := by decide +kernel
theorem dX11_adopt_51 : decode cX11_adopt 51 = .ok (.iaload, 1) := by decide +kernel
theorem dX11_adopt_52 : decode cX11_adopt 52 = .ok (.iconst 1, 1) := by decide +kernel
theorem dX11_adopt_53 : decode cX11_adopt 53 = .ok (.iadd, 1) := by decide +kernel
theorem dX11_adopt_54 : decode cX11_adopt 54 = .ok (.iastore, 1) := by decide +kernel
theorem dX11_adopt_55 : decode cX11_adopt 55 = .ok (.iload_n 1, 1) := by decide +kernel
theorem dX11_adopt_56 : decode cX11_adopt 56 = .ok (.aload_n 0, 1) := by decide +kernel
theorem dX11_adopt_57 : decode cX11_adopt 57 = .ok (.getfield 53, 3) := by decide +kernel
theorem dX11_adopt_60 : decode cX11_adopt 60 = .ok (.iload_n 2, 1) := by decide +kernel
theorem dX11_adopt_61 : decode cX11_adopt 61 = .ok (.iaload, 1) := by decide +kernel
theorem dX11_adopt_62 : decode cX11_adopt 62 = .ok (.bipush (-4), 2) := by decide +kernel
theorem dX11_adopt_64 : decode cX11_adopt 64 = .ok (.if_icmp .ne 7, 3) := by decide +kernel
theorem dX11_adopt_67 : decode cX11_adopt 67 = .ok (.iconst 0, 1) := by decide +kernel
theorem dX11_adopt_68 : decode cX11_adopt 68 = .ok (.goto 4, 3) := by decide +kernel
theorem dX11_adopt_71 : decode cX11_adopt 71 = .ok (.iconst 1, 1) := by decide +kernel
theorem dX11_adopt_72 : decode cX11_adopt 72 = .ok (.iadd, 1) := by decide +kernel
theorem dX11_adopt_73 : decode cX11_adopt 73 = .ok (.istore_n 1, 1) := by decide +kernel
theorem dX11_adopt_74 : decode cX11_adopt 74 = .ok (.iinc 2 1, 3) := by decide +kernel
theorem dX11_adopt_77 : decode cX11_adopt 77 = .ok (.goto (-61), 3) := by decide +kernel
theorem dX11_adopt_80 : decode cX11_adopt 80 = .ok (.iload_n 1, 1) := by decide +kernel
theorem dX11_adopt_81 : decode cX11_adopt 81 = .ok (.ireturn, 1) := by decide +kernel
theorem dX11_whyWrong_0 : decode cX11_whyWrong 0 = .ok (.aload_n 0, 1) := by decide +kernel
theorem dX11_whyWrong_1 : decode cX11_whyWrong 1 = .ok (.iload_n 1, 1) := by decide +kernel
theorem dX11_whyWrong_2 : decode cX11_whyWrong 2 = .ok (.invokevirtual 256, 3) := by decide +kernel
theorem dX11_whyWrong_5 : decode cX11_whyWrong 5 = .ok (.istore_n 2, 1) := by decide +kernel
theorem dX11_whyWrong_6 : decode cX11_whyWrong 6 = .ok (.iload_n 2, 1) := by decide +kernel
theorem dX11_whyWrong_7 : decode cX11_whyWrong 7 = .ok (.bipush (-4), 2) := by decide +kernel
theorem dX11_whyWrong_9 : decode cX11_whyWrong 9 = .ok (.if_icmp .ne 5, 3) := by decide +kernel
theorem dX11_whyWrong_12 : decode cX11_whyWrong 12 = .ok (.iconst 0, 1) := by decide +kernel
theorem dX11_whyWrong_13 : decode cX11_whyWrong 13 = .ok (.ireturn, 1) := by decide +kernel
theorem dX11_whyWrong_14 : decode cX11_whyWrong 14 = .ok (.aload_n 0, 1) := by decide +kernel
theorem dX11_whyWrong_15 : decode cX11_whyWrong 15 = .ok (.iconst 1, 1) := by decide +kernel
theorem dX11_whyWrong_16 : decode cX11_whyWrong 16 = .ok (.iload_n 2, 1) := by decide +kernel
theorem dX11_whyWrong_17 : decode cX11_whyWrong 17 = .ok (.invokevirtual 177, 3) := by decide +kernel
theorem dX11_whyWrong_20 : decode cX11_whyWrong 20 = .ok (.ifCond .ne 5, 3) := by decide +kernel
theorem dX11_whyWrong_23 : decode cX11_whyWrong 23 = .ok (.iconst 1, 1) := by decide +kernel
theorem dX11_whyWrong_24 : decode cX11_whyWrong 24 = .ok (.ireturn, 1) := by decide +kernel
theorem dX11_whyWrong_25 : decode cX11_whyWrong 25 = .ok (.iconst 0, 1) := by decide +kernel
theorem dX11_whyWrong_26 : decode cX11_whyWrong 26 = .ok (.istore_n 3, 1) := by decide +kernel
theorem dX11_whyWrong_27 : decode cX11_whyWrong 27 = .ok (.iload_n 3, 1) := by decide +kernel
theorem dX11_whyWrong_28 : decode cX11_whyWrong 28 = .ok (.iload_n 1, 1) := by decide +kernel
theorem dX11_whyWrong_29 : decode cX11_whyWrong 29 = .ok (.if_icmp .ge 20, 3) := by decide +kernel
theorem dX11_whyWrong_32 : decode cX11_whyWrong 32 = .ok (.aload_n 0, 1) := by decide +kernel
theorem dX11_whyWrong_33 : decode cX11_whyWrong 33 = .ok (.iload_n 3, 1) := by decide +kernel
theorem dX11_whyWrong_34 : decode cX11_whyWrong 34 = .ok (.invokevirtual 256, 3) := by decide +kernel
theorem dX11_whyWrong_37 : decode cX11_whyWrong 37 = .ok (.iload_n 2, 1) := by decide +kernel
theorem dX11_whyWrong_38 : decode cX11_whyWrong 38 = .ok (.if_icmp .ne 5, 3) := by decide +kernel
theorem dX11_whyWrong_41 : decode cX11_whyWrong 41 = .ok (.iconst 2, 1) := by decide +kernel
theorem dX11_whyWrong_42 : decode cX11_whyWrong 42 = .ok (.ireturn, 1) := by decide +kernel
theorem dX11_whyWrong_43 : decode cX11_whyWrong 43 = .ok (.iinc 3 1, 3) := by decide +kernel
theorem dX11_whyWrong_46 : decode cX11_whyWrong 46 = .ok (.goto (-19), 3) := by decide +kernel
theorem dX11_whyWrong_49 : decode cX11_whyWrong 49 = .ok (.aload_n 0, 1) := by decide +kernel
theorem dX11_whyWrong_50 : decode cX11_whyWrong 50 = .ok (.iload_n 1, 1) := by decide +kernel
theorem dX11_whyWrong_51 : decode cX11_whyWrong 51 = .ok (.iload_n 2, 1) := by decide +kernel
theorem dX11_whyWrong_52 : decode cX11_whyWrong 52 = .ok (.bipush 15, 2) := by decide +kernel
theorem dX11_whyWrong_54 : decode cX11_whyWrong 54 = .ok (.invokevirtual 216, 3) := by decide +kernel
theorem dX11_whyWrong_57 : decode cX11_whyWrong 57 = .ok (.bipush (-4), 2) := by decide +kernel
theorem dX11_whyWrong_59 : decode cX11_whyWrong 59 = .ok (.if_icmp .ne 7, 3) := by decide +kernel
theorem dX11_whyWrong_62 : decode cX11_whyWrong 62 = .ok (.iconst 3, 1) := by decide +kernel
theorem dX11_whyWrong_63 : decode cX11_whyWrong 63 = .ok (.goto 4, 3) := by decide +kernel
theorem dX11_whyWrong_66 : decode cX11_whyWrong 66 = .ok (.iconst 0, 1) := by decide +kernel
theorem dX11_whyWrong_67 : decode cX11_whyWrong 67 = .ok (.ireturn, 1) := by decide +kernel
theorem dX11_judge_0 : decode cX11_judge 0 = .ok (.iload_n 1, 1) := by decide +kernel
theorem dX11_judge_1 : decode cX11_judge 1 = .ok (.i2l, 1) := by decide +kernel
theorem dX11_judge_2 : decode cX11_judge 2 = .ok (.lconst 0, 1) := by decide +kernel
theorem dX11_judge_3 : decode cX11_judge 3 = .ok (.ldc2_w 191, 3) := by decide +kernel
theorem dX11_judge_6 : decode cX11_judge 6 = .ok (.invokestatic 85, 3) := by decide +kernel
theorem dX11_judge_9 : decode cX11_judge 9 = .ok (.ifCond .ne 5, 3) := by decide +kernel
theorem dX11_judge_12 : decode cX11_judge 12 = .ok (.iconst (-1), 1) := by decide +kernel
theorem dX11_judge_13 : decode cX11_judge 13 = .ok (.ireturn, 1) := by decide +kernel
theorem dX11_judge_14 : decode cX11_judge 14 = .ok (.aload_n 0, 1) := by decide +kernel
theorem dX11_judge_15 : decode cX11_judge 15 = .ok (.getfield 22, 3) := by decide +kernel
theorem dX11_judge_18 : decode cX11_judge 18 = .ok (.bipush 8, 2) := by decide +kernel
theorem dX11_judge_20 : decode cX11_judge 20 = .ok (.iaload, 1) := by decide +kernel
theorem dX11_judge_21 : decode cX11_judge 21 = .ok (.aload_n 0, 1) := by decide +kernel
theorem dX11_judge_22 : decode cX11_judge 22 = .ok (.iconst 1, 1) := by decide +kernel
theorem dX11_judge_23 : decode cX11_judge 23 = .ok (.iconst 0, 1) := by decide +kernel
theorem dX11_judge_24 : decode cX11_judge 24 = .ok (.invokevirtual 164, 3) := by decide +kernel
theorem dX11_judge_27 : decode cX11_judge 27 = .ok (.imul, 1) := by decide +kernel
theorem dX11_judge_28 : decode cX11_judge 28 = .ok (.istore_n 2, 1) := by decide +kernel
theorem dX11_judge_29 : decode cX11_judge 29 = .ok (.iconst 0, 1) := by decide +kernel
theorem dX11_judge_30 : decode cX11_judge 30 = .ok (.istore_n 3, 1) := by decide +kernel
theorem dX11_judge_31 : decode cX11_judge 31 = .ok (.iload_n 3, 1) := by decide +kernel
theorem dX11_judge_32 : decode cX11_judge 32 = .ok (.aload_n 0, 1) := by decide +kernel
theorem dX11_judge_33 : decode cX11_judge 33 = .ok (.iconst 0, 1) := by decide +kernel
theorem dX11_judge_34 : decode cX11_judge 34 = .ok (.iconst 0, 1) := by decide +kernel
theorem dX11_judge_35 : decode cX11_judge 35 = .ok (.invokevirtual 164, 3) := by decide +kernel
theorem dX11_judge_38 : decode cX11_judge 38 = .ok (.if_icmp .ge 86, 3) := by decide +kernel
theorem dX11_judge_41 : decode cX11_judge 41 = .ok (.aload_n 0, 1) := by decide +kernel
theorem dX11_judge_42 : decode cX11_judge 42 = .ok (.iload_n 3, 1) := by decide +kernel
theorem dX11_judge_43 : decode cX11_judge 43 = .ok (.invokevirtual 259, 3) := by decide +kernel
theorem dX11_judge_46 : decode cX11_judge 46 = .ok (.istore 4, 2) := by decide +kernel
theorem dX11_judge_48 : decode cX11_judge 48 = .ok (.iload 4, 2) := by decide +kernel
theorem dX11_judge_50 : decode cX11_judge 50 = .ok (.ifCond .le 24, 3) := by decide +kernel
theorem dX11_judge_53 : decode cX11_judge 53 = .ok (.iload_n 1, 1) := by decide +kernel
theorem dX11_judge_54 : decode cX11_judge 54 = .ok (.ifCond .ne 7, 3) := by decide +kernel
theorem dX11_judge_57 : decode cX11_judge 57 = .ok (.iload_n 3, 1) := by decide +kernel
theorem dX11_judge_58 : decode cX11_judge 58 = .ok (.goto 15, 3) := by decide +kernel
theorem dX11_judge_61 : decode cX11_judge 61 = .ok (.iload_n 1, 1) := by decide +kernel
theorem dX11_judge_62 : decode cX11_judge 62 = .ok (.iconst 1, 1) := by decide +kernel
theorem dX11_judge_63 : decode cX11_judge 63 = .ok (.if_icmp .ne 8, 3) := by decide +kernel
theorem dX11_judge_66 : decode cX11_judge 66 = .ok (.iload 4, 2) := by decide +kernel
theorem dX11_judge_68 : decode cX11_judge 68 = .ok (.goto 5, 3) := by decide +kernel
theorem dX11_judge_71 : decode cX11_judge 71 = .ok (.bipush (-4), 2) := by decide +kernel
theorem dX11_judge_73 : decode cX11_judge 73 = .ok (.ireturn, 1) := by decide +kernel
theorem dX11_judge_74 : decode cX11_judge 74 = .ok (.aload_n 0, 1) := by decide +kernel
theorem dX11_judge_75 : decode cX11_judge 75 = .ok (.iload_n 3, 1) := by decide +kernel
theorem dX11_judge_76 : decode cX11_judge 76 = .ok (.invokevirtual 256, 3) := by decide +kernel
theorem dX11_judge_79 : decode cX11_judge 79 = .ok (.istore 5, 2) := by decide +kernel
theorem dX11_judge_81 : decode cX11_judge 81 = .ok (.iload_n 2, 1) := by decide +kernel
theorem dX11_judge_82 : decode cX11_judge 82 = .ok (.iload 5, 2) := by decide +kernel
theorem dX11_judge_84 : decode cX11_judge 84 = .ok (.bipush (-4), 2) := by decide +kernel
theorem dX11_judge_86 : decode cX11_judge 86 = .ok (.if_icmp .ne 13, 3) := by decide +kernel
theorem dX11_judge_89 : decode cX11_judge 89 = .ok (.aload_n 0, 1) := by decide +kernel
theorem dX11_judge_90 : decode cX11_judge 90 = .ok (.getfield 22, 3) := by decide +kernel
theorem dX11_judge_93 : decode cX11_judge 93 = .ok (.bipush 7, 2) := by decide +kernel
theorem dX11_judge_95 : decode cX11_judge 95 = .ok (.iaload, 1) := by decide +kernel
theorem dX11_judge_96 : decode cX11_judge 96 = .ok (.goto 20, 3) := by decide +kernel
theorem dX11_judge_99 : decode cX11_judge 99 = .ok (.aload_n 0, 1) := by decide +kernel
theorem dX11_judge_100 : decode cX11_judge 100 = .ok (.iload_n 3, 1) := by decide +kernel
theorem dX11_judge_101 : decode cX11_judge 101 = .ok (.iload 5, 2) := by decide +kernel
theorem dX11_judge_103 : decode cX11_judge 103 = .ok (.bipush 15, 2) := by decide +kernel
theorem dX11_judge_105 : decode cX11_judge 105 = .ok (.invokevirtual 216, 3) := by decide +kernel
theorem dX11_judge_108 : decode cX11_judge 108 = .ok (.aload_n 0, 1) := by decide +kernel
theorem dX11_judge_109 : decode cX11_judge 109 = .ok (.getfield 22, 3) := by decide +kernel
theorem dX11_judge_112 : decode cX11_judge 112 = .ok (.bipush 8, 2) := by decide +kernel
theorem dX11_judge_114 : decode cX11_judge 114 = .ok (.iaload, 1) := by decide +kernel
theorem dX11_judge_115 : decode cX11_judge 115 = .ok (.isub, 1) := by decide +kernel
theorem dX11_judge_116 : decode cX11_judge 116 = .ok (.iadd, 1) := by decide +kernel
theorem dX11_judge_117 : decode cX11_judge 117 = .ok (.istore_n 2, 1) := by decide +kernel
theorem dX11_judge_118 : decode cX11_judge 118 = .ok (.iinc 3 1, 3) := by decide +kernel
theorem dX11_judge_121 : decode cX11_judge 121 = .ok (.goto (-90), 3) := by decide +kernel
theorem dX11_judge_124 : decode cX11_judge 124 = .ok (.iload_n 1, 1) := by decide +kernel
theorem dX11_judge_125 : decode cX11_judge 125 = .ok (.iconst 2, 1) := by decide +kernel
theorem dX11_judge_126 : decode cX11_judge 126 = .ok (.if_icmp .ge 14, 3) := by decide +kernel
theorem dX11_judge_129 : decode cX11_judge 129 = .ok (.iload_n 1, 1) := by decide +kernel
theorem dX11_judge_130 : decode cX11_judge 130 = .ok (.ifCond .ne 8, 3) := by decide +kernel
theorem dX11_judge_133 : decode cX11_judge 133 = .ok (.bipush (-4), 2) := by decide +kernel
theorem dX11_judge_135 : decode cX11_judge 135 = .ok (.goto 4, 3) := by decide +kernel
theorem dX11_judge_138 : decode cX11_judge 138 = .ok (.iconst 0, 1) := by decide +kernel
theorem dX11_judge_139 : decode cX11_judge 139 = .ok (.ireturn, 1) := by decide +kernel
theorem dX11_judge_140 : decode cX11_judge 140 = .ok (.aload_n 0, 1) := by decide +kernel
theorem dX11_judge_141 : decode cX11_judge 141 = .ok (.invokevirtual 242, 3) := by decide +kernel
theorem dX11_judge_144 : decode cX11_judge 144 = .ok (.iload_n 1, 1) := by decide +kernel
theorem dX11_judge_145 : decode cX11_judge 145 = .ok (.iconst 2, 1) := by decide +kernel
theorem dX11_judge_146 : decode cX11_judge 146 = .ok (.if_icmp .ne 7, 3) := by decide +kernel
theorem dX11_judge_149 : decode cX11_judge 149 = .ok (.iload_n 2, 1) := by decide +kernel
theorem dX11_judge_150 : decode cX11_judge 150 = .ok (.goto 11, 3) := by decide +kernel
theorem dX11_judge_153 : decode cX11_judge 153 = .ok (.iload_n 2, 1) := by decide +kernel
theorem dX11_judge_154 : decode cX11_judge 154 = .ok (.aload_n 0, 1) := by decide +kernel
theorem dX11_judge_155 : decode cX11_judge 155 = .ok (.getfield 37, 3) := by decide +kernel
theorem dX11_judge_158 : decode cX11_judge 158 = .ok (.iconst 0, 1) := by decide +kernel
theorem dX11_judge_159 : decode cX11_judge 159 = .ok (.iaload, 1) := by decide +kernel
theorem dX11_judge_160 : decode cX11_judge 160 = .ok (.isub, 1) := by decide +kernel
theorem dX11_judge_161 : decode cX11_judge 161 = .ok (.ireturn, 1) := by decide +kernel
theorem dX11_prices_0 : decode cX11_prices 0 = .ok (.iload_n 1, 1) := by decide +kernel
theorem dX11_prices_1 : decode cX11_prices 1 = .ok (.i2l, 1) := by decide +kernel
theorem dX11_prices_2 : decode cX11_prices 2 = .ok (.lconst 0, 1) := by decide +kernel
theorem dX11_prices_3 : decode cX11_prices 3 = .ok (.ldc2_w 191, 3) := by decide +kernel
theorem dX11_prices_6 : decode cX11_prices 6 = .ok (.invokestatic 85, 3) := by decide +kernel
theorem dX11_prices_9 : decode cX11_prices 9 = .ok (.ifCond .eq 28, 3) := by decide +kernel
theorem dX11_prices_12 : decode cX11_prices 12 = .ok (.iload_n 2, 1) := by decide +kernel
theorem dX11_prices_13 : decode cX11_prices 13 = .ok (.i2l, 1) := by decide +kernel
theorem dX11_prices_14 : decode cX11_prices 14 = .ok (.lconst 0, 1) := by decide +kernel
theorem dX11_prices_15 : decode cX11_prices 15 = .ok (.ldc2_w 185, 3) := by decide +kernel
theorem dX11_prices_18 : decode cX11_prices 18 = .ok (.invokestatic 85, 3) := by decide +kernel
theorem dX11_prices_21 : decode cX11_prices 21 = .ok (.ifCond .eq 16, 3) := by decide +kernel
theorem dX11_prices_24 : decode cX11_prices 24 = .ok (.iload 4, 2) := by decide +kernel
theorem dX11_prices_26 : decode cX11_prices 26 = .ok (.i2l, 1) := by decide +kernel
theorem dX11_prices_27 : decode cX11_prices 27 = .ok (.lconst 0, 1) := by decide +kernel
theorem dX11_prices_28 : decode cX11_prices 28 = .ok (.ldc2_w 262, 3) := by decide +kernel
theorem dX11_prices_31 : decode cX11_prices 31 = .ok (.invokestatic 85, 3) := by decide +kernel
theorem dX11_prices_34 : decode cX11_prices 34 = .ok (.ifCond .ne 7, 3) := by decide +kernel
theorem dX11_prices_37 : decode cX11_prices 37 = .ok (.ldc_w 264, 3) := by decide +kernel
theorem dX11_prices_40 : decode cX11_prices 40 = .ok (.ireturn, 1) := by decide +kernel
theorem dX11_prices_41 : decode cX11_prices 41 = .ok (.aload_n 0, 1) := by decide +kernel
theorem dX11_prices_42 : decode cX11_prices 42 = .ok (.getfield 72, 3) := by decide +kernel
theorem dX11_prices_45 : decode cX11_prices 45 = .ok (.iload_n 1, 1) := by decide +kernel
theorem dX11_prices_46 : decode cX11_prices 46 = .ok (.iaload, 1) := by decide +kernel
theorem dX11_prices_47 : decode cX11_prices 47 = .ok (.bipush (-4), 2) := by decide +kernel
theorem dX11_prices_49 : decode cX11_prices 49 = .ok (.if_icmp .eq 13, 3) := by decide +kernel
theorem dX11_prices_52 : decode cX11_prices 52 = .ok (.aload_n 0, 1) := by decide +kernel
theorem dX11_prices_53 : decode cX11_prices 53 = .ok (.getfield 72, 3) := by decide +kernel
theorem dX11_prices_56 : decode cX11_prices 56 = .ok (.iload_n 1, 1) := by decide +kernel
theorem dX11_prices_57 : decode cX11_prices 57 = .ok (.iaload, 1) := by decide +kernel
theorem dX11_prices_58 : decode cX11_prices 58 = .ok (.iload_n 2, 1) := by decide +kernel
theorem dX11_prices_59 : decode cX11_prices 59 = .ok (.if_icmp .eq 24, 3) := by decide +kernel
theorem dX11_prices_62 : decode cX11_prices 62 = .ok (.ldc_w 265, 3) := by decide +kernel
theorem dX11_prices_65 : decode cX11_prices 65 = .ok (.aload_n 0, 1) := by decide +kernel
theorem dX11_prices_66 : decode cX11_prices 66 = .ok (.getfield 72, 3) := by decide +kernel
theorem dX11_prices_69 : decode cX11_prices 69 = .ok (.iload_n 1, 1) := by decide +kernel
theorem dX11_prices_70 : decode cX11_prices 70 = .ok (.iaload, 1) := by decide +kernel
theorem dX11_prices_71 : decode cX11_prices 71 = .ok (.bipush (-4), 2) := by decide +kernel
theorem dX11_prices_73 : decode cX11_prices 73 = .ok (.if_icmp .ne 7, 3) := by decide +kernel
theorem dX11_prices_76 : decode cX11_prices 76 = .ok (.iconst 1, 1) := by decide +kernel
theorem dX11_prices_77 : decode cX11_prices 77 = .ok (.goto 4, 3) := by decide +kernel
theorem dX11_prices_80 : decode cX11_prices 80 = .ok (.iconst 3, 1) := by decide +kernel
theorem dX11_prices_81 : decode cX11_prices 81 = .ok (.isub, 1) := by decide +kernel
theorem dX11_prices_82 : decode cX11_prices 82 = .ok (.ireturn, 1) := by decide +kernel
theorem dX11_prices_83 : decode cX11_prices 83 = .ok (.aload_n 0, 1) := by decide +kernel
theorem dX11_prices_84 : decode cX11_prices 84 = .ok (.iconst 0, 1) := by decide +kernel
theorem dX11_prices_85 : decode cX11_prices 85 = .ok (.iconst 0, 1) := by decide +kernel
theorem dX11_prices_86 : decode cX11_prices 86 = .ok (.invokevirtual 164, 3) := by decide +kernel
theorem dX11_prices_89 : decode cX11_prices 89 = .ok (.istore 5, 2) := by decide +kernel
theorem dX11_prices_91 : decode cX11_prices 91 = .ok (.iload 5, 2) := by decide +kernel
theorem dX11_prices_93 : decode cX11_prices 93 = .ok (.aload_n 0, 1) := by decide +kernel
theorem dX11_prices_94 : decode cX11_prices 94 = .ok (.iconst 1, 1) := by decide +kernel
theorem dX11_prices_95 : decode cX11_prices 95 = .ok (.iconst 0, 1) := by decide +kernel
theorem dX11_prices_96 : decode cX11_prices 96 = .ok (.invokevirtual 164, 3) := by decide +kernel
theorem dX11_prices_99 : decode cX11_prices 99 = .ok (.iadd, 1) := by decide +kernel
theorem dX11_prices_100 : decode cX11_prices 100 = .ok (.istore 6, 2) := by decide +kernel
theorem dX11_prices_102 : decode cX11_prices 102 = .ok (.iconst 0, 1) := by decide +kernel
theorem dX11_prices_103 : decode cX11_prices 103 = .ok (.istore 7, 2) := by decide +kernel
theorem dX11_prices_105 : decode cX11_prices 105 = .ok (.iload 7, 2) := by decide +kernel
theorem dX11_prices_107 : decode cX11_prices 107 = .ok (.iload 6, 2) := by decide +kernel
theorem dX11_prices_109 : decode cX11_prices 109 = .ok (.if_icmp .ge 69, 3) := by decide +kernel
theorem dX11_prices_112 : decode cX11_prices 112 = .ok (.iload_n 3, 1) := by decide +kernel
theorem dX11_prices_113 : decode cX11_prices 113 = .ok (.i2l, 1) := by decide +kernel
theorem dX11_prices_114 : decode cX11_prices 114 = .ok (.iload 7, 2) := by decide +kernel
theorem dX11_prices_116 : decode cX11_prices 116 = .ok (.i2l, 1) := by decide +kernel
theorem dX11_prices_117 : decode cX11_prices 117 = .ok (.ladd, 1) := by decide +kernel
theorem dX11_prices_118 : decode cX11_prices 118 = .ok (.lconst 0, 1) := by decide +kernel
theorem dX11_prices_119 : decode cX11_prices 119 = .ok (.aload_n 0, 1) := by decide +kernel
theorem dX11_prices_120 : decode cX11_prices 120 = .ok (.getfield 75, 3) := by decide +kernel
theorem dX11_prices_123 : decode cX11_prices 123 = .ok (.iload_n 1, 1) := by decide +kernel
theorem dX11_prices_124 : decode cX11_prices 124 = .ok (.iaload, 1) := by decide +kernel
theorem dX11_prices_125 : decode cX11_prices 125 = .ok (.iconst 1, 1) := by decide +kernel
theorem dX11_prices_126 : decode cX11_prices 126 = .ok (.isub, 1) := by decide +kernel
theorem dX11_prices_127 : decode cX11_prices 127 = .ok (.i2l, 1) := by decide +kernel
theorem dX11_prices_128 : decode cX11_prices 128 = .ok (.invokestatic 85, 3) := by decide +kernel
theorem dX11_prices_131 : decode cX11_prices 131 = .ok (.ifCond .ne 7, 3) := by decide +kernel
theorem dX11_prices_134 : decode cX11_prices 134 = .ok (.ldc_w 266, 3) := by decide +kernel
theorem dX11_prices_137 : decode cX11_prices 137 = .ok (.ireturn, 1) := by decide +kernel
theorem dX11_prices_138 : decode cX11_prices 138 = .ok (.aload_n 0, 1) := by decide +kernel
theorem dX11_prices_139 : decode cX11_prices 139 = .ok (.getfield 78, 3) := by decide +kernel
theorem dX11_prices_142 : decode cX11_prices 142 = .ok (.bipush 64, 2) := by decide +kernel
theorem dX11_prices_144 : decode cX11_prices 144 = .ok (.iload_n 1, 1) := by decide +kernel
theorem dX11_prices_145 : decode cX11_prices 145 = .ok (.imul, 1) := by decide +kernel
theorem dX11_prices_146 : decode cX11_prices 146 = .ok (.iload_n 3, 1) := by decide +kernel
theorem dX11_prices_147 : decode cX11_prices 147 = .ok (.iadd, 1) := by decide +kernel
theorem dX11_prices_148 : decode cX11_prices 148 = .ok (.iload 7, 2) := by decide +kernel
theorem dX11_prices_150 : decode cX11_prices 150 = .ok (.iadd, 1) := by decide +kernel
theorem dX11_prices_151 : decode cX11_prices 151 = .ok (.iaload, 1) := by decide +kernel
theorem dX11_prices_152 : decode cX11_prices 152 = .ok (.i2l, 1) := by decide +kernel
theorem dX11_prices_153 : decode cX11_prices 153 = .ok (.ldc2_w 267, 3) := by decide +kernel
theorem dX11_prices_156 : decode cX11_prices 156 = .ok (.ldc2_w 167, 3) := by decide +kernel
theorem dX11_prices_159 : decode cX11_prices 159 = .ok (.invokestatic 85, 3) := by decide +kernel
theorem dX11_prices_162 : decode cX11_prices 162 = .ok (.ifCond .ne 10, 3) := by decide +kernel
theorem dX11_prices_165 : decode cX11_prices 165 = .ok (.ldc_w 269, 3) := by decide +kernel
theorem dX11_prices_168 : decode cX11_prices 168 = .ok (.iload 7, 2) := by decide +kernel
theorem dX11_prices_170 : decode cX11_prices 170 = .ok (.isub, 1) := by decide +kernel
theorem dX11_prices_171 : decode cX11_prices 171 = .ok (.ireturn, 1) := by decide +kernel
theorem dX11_prices_172 : decode cX11_prices 172 = .ok (.iinc 7 1, 3) := by decide +kernel
theorem dX11_prices_175 : decode cX11_prices 175 = .ok (.goto (-70), 3) := by decide +kernel
theorem dX11_prices_178 : decode cX11_prices 178 = .ok (.aload_n 0, 1) := by decide +kernel
theorem dX11_prices_179 : decode cX11_prices 179 = .ok (.invokevirtual 242, 3) := by decide +kernel
theorem dX11_prices_182 : decode cX11_prices 182 = .ok (.bipush 64, 2) := by decide +kernel
theorem dX11_prices_184 : decode cX11_prices 184 = .ok (.iload_n 1, 1) := by decide +kernel
theorem dX11_prices_185 : decode cX11_prices 185 = .ok (.imul, 1) := by decide +kernel
theorem dX11_prices_186 : decode cX11_prices 186 = .ok (.iload_n 3, 1) := by decide +kernel
theorem dX11_prices_187 : decode cX11_prices 187 = .ok (.iadd, 1) := by decide +kernel
theorem dX11_prices_188 : decode cX11_prices 188 = .ok (.istore 7, 2) := by decide +kernel
theorem dX11_prices_190 : decode cX11_prices 190 = .ok (.bipush (-4), 2) := by decide +kernel
theorem dX11_prices_192 : decode cX11_prices 192 = .ok (.istore 8, 2) := by decide +kernel
theorem dX11_prices_194 : decode cX11_prices 194 = .ok (.bipush (-4), 2) := by decide +kernel
theorem dX11_prices_196 : decode cX11_prices 196 = .ok (.istore 9, 2) := by decide +kernel
theorem dX11_prices_198 : decode cX11_prices 198 = .ok (.iconst 0, 1) := by decide +kernel
theorem dX11_prices_199 : decode cX11_prices 199 = .ok (.istore 10, 2) := by decide +kernel
theorem dX11_prices_201 : decode cX11_prices 201 = .ok (.iload 6, 2) := by decide +kernel
theorem dX11_prices_203 : decode cX11_prices 203 = .ok (.iconst 1, 1) := by decide +kernel
theorem dX11_prices_204 : decode cX11_prices 204 = .ok (.isub, 1) := by decide +kernel
theorem dX11_prices_205 : decode cX11_prices 205 = .ok (.istore 11, 2) := by decide +kernel
theorem dX11_prices_207 : decode cX11_prices 207 = .ok (.iload 11, 2) := by decide +kernel
theorem dX11_prices_209 : decode cX11_prices 209 = .ok (.ifCond .lt 147, 3) := by decide +kernel
theorem dX11_prices_212 : decode cX11_prices 212 = .ok (.aload_n 0, 1) := by decide +kernel
theorem dX11_prices_213 : decode cX11_prices 213 = .ok (.getfield 78, 3) := by decide +kernel
theorem dX11_prices_216 : decode cX11_prices 216 = .ok (.iload 7, 2) := by decide +kernel
theorem dX11_prices_218 : decode cX11_prices 218 = .ok (.iload 11, 2) := by decide +kernel
theorem dX11_prices_220 : decode cX11_prices 220 = .ok (.iadd, 1) := by decide +kernel
theorem dX11_prices_221 : decode cX11_prices 221 = .ok (.iaload, 1) := by decide +kernel
theorem dX11_prices_222 : decode cX11_prices 222 = .ok (.istore 12, 2) := by decide +kernel
theorem dX11_prices_224 : decode cX11_prices 224 = .ok (.iload 10, 2) := by decide +kernel
theorem dX11_prices_226 : decode cX11_prices 226 = .ok (.iload 12, 2) := by decide +kernel
theorem dX11_prices_228 : decode cX11_prices 228 = .ok (.iadd, 1) := by decide +kernel
theorem dX11_prices_229 : decode cX11_prices 229 = .ok (.istore 10, 2) := by decide +kernel
theorem dX11_prices_231 : decode cX11_prices 231 = .ok (.iload 12, 2) := by decide +kernel
theorem dX11_prices_233 : decode cX11_prices 233 = .ok (.aload_n 0, 1) := by decide +kernel
theorem dX11_prices_234 : decode cX11_prices 234 = .ok (.getfield 22, 3) := by decide +kernel
theorem dX11_prices_237 : decode cX11_prices 237 = .ok (.iload 11, 2) := by decide +kernel
theorem dX11_prices_239 : decode cX11_prices 239 = .ok (.iload 5, 2) := by decide +kernel
theorem dX11_prices_241 : decode cX11_prices 241 = .ok (.if_icmp .ge 8, 3) := by decide +kernel
theorem dX11_prices_244 : decode cX11_prices 244 = .ok (.bipush 7, 2) := by decide +kernel
theorem dX11_prices_246 : decode cX11_prices 246 = .ok (.goto 5, 3) := by decide +kernel
theorem dX11_prices_249 : decode cX11_prices 249 = .ok (.bipush 8, 2) := by decide +kernel
theorem dX11_prices_251 : decode cX11_prices 251 = .ok (.iaload, 1) := by decide +kernel
theorem dX11_prices_252 : decode cX11_prices 252 = .ok (.if_icmp .le 8, 3) := by decide +kernel
theorem dX11_prices_255 : decode cX11_prices 255 = .ok (.iload 11, 2) := by decide +kernel
theorem dX11_prices_257 : decode cX11_prices 257 = .ok (.goto 5, 3) := by decide +kernel
theorem dX11_prices_260 : decode cX11_prices 260 = .ok (.iload 9, 2) := by decide +kernel
theorem dX11_prices_262 : decode cX11_prices 262 = .ok (.istore 9, 2) := by decide +kernel
theorem dX11_prices_264 : decode cX11_prices 264 = .ok (.iconst 0, 1) := by decide +kernel
theorem dX11_prices_265 : decode cX11_prices 265 = .ok (.istore 13, 2) := by decide +kernel
theorem dX11_prices_267 : decode cX11_prices 267 = .ok (.iload 13, 2) := by decide +kernel
theorem dX11_prices_269 : decode cX11_prices 269 = .ok (.aload_n 0, 1) := by decide +kernel
theorem dX11_prices_270 : decode cX11_prices 270 = .ok (.iconst 1, 1) := by decide +kernel
theorem dX11_prices_271 : decode cX11_prices 271 = .ok (.iconst 0, 1) := by decide +kernel
theorem dX11_prices_272 : decode cX11_prices 272 = .ok (.invokevirtual 164, 3) := by decide +kernel
theorem dX11_prices_275 : decode cX11_prices 275 = .ok (.if_icmp .ge 75, 3) := by decide +kernel
theorem dX11_prices_278 : decode cX11_prices 278 = .ok (.iload 11, 2) := by decide +kernel
theorem dX11_prices_280 : decode cX11_prices 280 = .ok (.iload 5, 2) := by decide +kernel
theorem dX11_prices_282 : decode cX11_prices 282 = .ok (.if_icmp .ge 68, 3) := by decide +kernel
theorem dX11_prices_285 : decode cX11_prices 285 = .ok (.aload_n 0, 1) := by decide +kernel
theorem dX11_prices_286 : decode cX11_prices 286 = .ok (.getfield 34, 3) := by decide +kernel
theorem dX11_prices_289 : decode cX11_prices 289 = .ok (.bipush 10, 2) := by decide +kernel
theorem dX11_prices_291 : decode cX11_prices 291 = .ok (.iload 11, 2) := by decide +kernel
theorem dX11_prices_293 : decode cX11_prices 293 = .ok (.imul, 1) := by decide +kernel
theorem dX11_prices_294 : decode cX11_prices 294 = .ok (.iload 13, 2) := by decide +kernel
theorem dX11_prices_296 : decode cX11_prices 296 = .ok (.iadd, 1) := by decide +kernel
theorem dX11_prices_297 : decode cX11_prices 297 = .ok (.iaload, 1) := by decide +kernel
theorem dX11_prices_298 : decode cX11_prices 298 = .ok (.bipush (-4), 2) := by decide +kernel
theorem dX11_prices_300 : decode cX11_prices 300 = .ok (.if_icmp .eq 40, 3) := by decide +kernel
theorem dX11_prices_303 : decode cX11_prices 303 = .ok (.iload 12, 2) := by decide +kernel
theorem dX11_prices_305 : decode cX11_prices 305 = .ok (.aload_n 0, 1) := by decide +kernel
theorem dX11_prices_306 : decode cX11_prices 306 = .ok (.getfield 78, 3) := by decide +kernel
theorem dX11_prices_309 : decode cX11_prices 309 = .ok (.iload 7, 2) := by decide +kernel
theorem dX11_prices_311 : decode cX11_prices 311 = .ok (.iload 5, 2) := by decide +kernel
theorem dX11_prices_313 : decode cX11_prices 313 = .ok (.iadd, 1) := by decide +kernel
theorem dX11_prices_314 : decode cX11_prices 314 = .ok (.iload 13, 2) := by decide +kernel
theorem dX11_prices_316 : decode cX11_prices 316 = .ok (.iadd, 1) := by decide +kernel
theorem dX11_prices_317 : decode cX11_prices 317 = .ok (.iaload, 1) := by decide +kernel
theorem dX11_prices_318 : decode cX11_prices 318 = .ok (.iadd, 1) := by decide +kernel
theorem dX11_prices_319 : decode cX11_prices 319 = .ok (.aload_n 0, 1) := by decide +kernel
theorem dX11_prices_320 : decode cX11_prices 320 = .ok (.getfield 34, 3) := by decide +kernel
theorem dX11_prices_323 : decode cX11_prices 323 = .ok (.bipush 10, 2) := by decide +kernel
theorem dX11_prices_325 : decode cX11_prices 325 = .ok (.iload 11, 2) := by decide +kernel
theorem dX11_prices_327 : decode cX11_prices 327 = .ok (.imul, 1) := by decide +kernel
theorem dX11_prices_328 : decode cX11_prices 328 = .ok (.iload 13, 2) := by decide +kernel
theorem dX11_prices_330 : decode cX11_prices 330 = .ok (.iadd, 1) := by decide +kernel
theorem dX11_prices_331 : decode cX11_prices 331 = .ok (.iaload, 1) := by decide +kernel
theorem dX11_prices_332 : decode cX11_prices 332 = .ok (.if_icmp .le 8, 3) := by decide +kernel
theorem dX11_prices_335 : decode cX11_prices 335 = .ok (.iload 11, 2) := by decide +kernel
theorem dX11_prices_337 : decode cX11_prices 337 = .ok (.goto 5, 3) := by decide +kernel
theorem dX11_prices_340 : decode cX11_prices 340 = .ok (.iload 8, 2) := by decide +kernel
theorem dX11_prices_342 : decode cX11_prices 342 = .ok (.istore 8, 2) := by decide +kernel
theorem dX11_prices_344 : decode cX11_prices 344 = .ok (.iinc 13 1, 3) := by decide +kernel
theorem dX11_prices_347 : decode cX11_prices 347 = .ok (.goto (-80), 3) := by decide +kernel
theorem dX11_prices_350 : decode cX11_prices 350 = .ok (.iinc 11 (-1), 3) := by decide +kernel
theorem dX11_prices_353 : decode cX11_prices 353 = .ok (.goto (-146), 3) := by decide +kernel
theorem dX11_prices_356 : decode cX11_prices 356 = .ok (.iload 8, 2) := by decide +kernel
theorem dX11_prices_358 : decode cX11_prices 358 = .ok (.bipush (-4), 2) := by decide +kernel
theorem dX11_prices_360 : decode cX11_prices 360 = .ok (.if_icmp .ne 14, 3) := by decide +kernel
theorem dX11_prices_363 : decode cX11_prices 363 = .ok (.iload 9, 2) := by decide +kernel
theorem dX11_prices_365 : decode cX11_prices 365 = .ok (.bipush (-4), 2) := by decide +kernel
theorem dX11_prices_367 : decode cX11_prices 367 = .ok (.if_icmp .ne 7, 3) := by decide +kernel
theorem dX11_prices_370 : decode cX11_prices 370 = .ok (.iconst 1, 1) := by decide +kernel
theorem dX11_prices_371 : decode cX11_prices 371 = .ok (.goto 4, 3) := by decide +kernel
theorem dX11_prices_374 : decode cX11_prices 374 = .ok (.iconst 0, 1) := by decide +kernel
theorem dX11_prices_375 : decode cX11_prices 375 = .ok (.istore 11, 2) := by decide +kernel
theorem dX11_prices_377 : decode cX11_prices 377 = .ok (.iload 4, 2) := by decide +kernel
theorem dX11_prices_379 : decode cX11_prices 379 = .ok (.ifCond .ne 16, 3) := by decide +kernel
theorem dX11_prices_382 : decode cX11_prices 382 = .ok (.iload 11, 2) := by decide +kernel
theorem dX11_prices_384 : decode cX11_prices 384 = .ok (.ifCond .eq 7, 3) := by decide +kernel
theorem dX11_prices_387 : decode cX11_prices 387 = .ok (.iconst 1, 1) := by decide +kernel
theorem dX11_prices_388 : decode cX11_prices 388 = .ok (.goto 59, 3) := by decide +kernel
theorem dX11_prices_391 : decode cX11_prices 391 = .ok (.iconst 0, 1) := by decide +kernel
theorem dX11_prices_392 : decode cX11_prices 392 = .ok (.goto 55, 3) := by decide +kernel
theorem dX11_prices_395 : decode cX11_prices 395 = .ok (.iload 4, 2) := by decide +kernel
theorem dX11_prices_397 : decode cX11_prices 397 = .ok (.iconst 1, 1) := by decide +kernel
theorem dX11_prices_398 : decode cX11_prices 398 = .ok (.if_icmp .ne 8, 3) := by decide +kernel
theorem dX11_prices_401 : decode cX11_prices 401 = .ok (.iload 8, 2) := by decide +kernel
theorem dX11_prices_403 : decode cX11_prices 403 = .ok (.goto 44, 3) := by decide +kernel
theorem dX11_prices_406 : decode cX11_prices 406 = .ok (.iload 4, 2) := by decide +kernel
theorem dX11_prices_408 : decode cX11_prices 408 = .ok (.iconst 2, 1) := by decide +kernel
theorem dX11_prices_409 : decode cX11_prices 409 = .ok (.if_icmp .ne 8, 3) := by decide +kernel
theorem dX11_prices_412 : decode cX11_prices 412 = .ok (.iload 9, 2) := by decide +kernel
theorem dX11_prices_414 : decode cX11_prices 414 = .ok (.goto 33, 3) := by decide +kernel
theorem dX11_prices_417 : decode cX11_prices 417 = .ok (.iload 11, 2) := by decide +kernel
theorem dX11_prices_419 : decode cX11_prices 419 = .ok (.ifCond .ne 8, 3) := by decide +kernel
theorem dX11_prices_422 : decode cX11_prices 422 = .ok (.bipush (-4), 2) := by decide +kernel
theorem dX11_prices_424 : decode cX11_prices 424 = .ok (.goto 23, 3) := by decide +kernel
theorem dX11_prices_427 : decode cX11_prices 427 = .ok (.iload 4, 2) := by decide +kernel
theorem dX11_prices_429 : decode cX11_prices 429 = .ok (.iconst 3, 1) := by decide +kernel
theorem dX11_prices_430 : decode cX11_prices 430 = .ok (.if_icmp .ne 8, 3) := by decide +kernel
theorem dX11_prices_433 : decode cX11_prices 433 = .ok (.iload 10, 2) := by decide +kernel
theorem dX11_prices_435 : decode cX11_prices 435 = .ok (.goto 12, 3) := by decide +kernel
theorem dX11_prices_438 : decode cX11_prices 438 = .ok (.aload_n 0, 1) := by decide +kernel
theorem dX11_prices_439 : decode cX11_prices 439 = .ok (.getfield 37, 3) := by decide +kernel
theorem dX11_prices_442 : decode cX11_prices 442 = .ok (.iconst 0, 1) := by decide +kernel
theorem dX11_prices_443 : decode cX11_prices 443 = .ok (.iaload, 1) := by decide +kernel
theorem dX11_prices_444 : decode cX11_prices 444 = .ok (.iload 10, 2) := by decide +kernel
theorem dX11_prices_446 : decode cX11_prices 446 = .ok (.isub, 1) := by decide +kernel
theorem dX11_prices_447 : decode cX11_prices 447 = .ok (.ireturn, 1) := by decide +kernel
theorem dX11_times_0 : decode cX11_times 0 = .ok (.iload_n 1, 1) := by decide +kernel
theorem dX11_times_1 : decode cX11_times 1 = .ok (.i2l, 1) := by decide +kernel
theorem dX11_times_2 : decode cX11_times 2 = .ok (.lconst 0, 1) := by decide +kernel
theorem dX11_times_3 : decode cX11_times 3 = .ok (.ldc2_w 171, 3) := by decide +kernel
theorem dX11_times_6 : decode cX11_times 6 = .ok (.invokestatic 85, 3) := by decide +kernel
theorem dX11_times_9 : decode cX11_times 9 = .ok (.ifCond .ne 7, 3) := by decide +kernel
theorem dX11_times_12 : decode cX11_times 12 = .ok (.sipush (-10000), 3) := by decide +kernel
theorem dX11_times_15 : decode cX11_times 15 = .ok (.ireturn, 1) := by decide +kernel
theorem dX11_times_16 : decode cX11_times 16 = .ok (.aload_n 0, 1) := by decide +kernel
theorem dX11_times_17 : decode cX11_times 17 = .ok (.invokevirtual 242, 3) := by decide +kernel
theorem dX11_times_20 : decode cX11_times 20 = .ok (.aload_n 0, 1) := by decide +kernel
theorem dX11_times_21 : decode cX11_times 21 = .ok (.aload_n 0, 1) := by decide +kernel
theorem dX11_times_22 : decode cX11_times 22 = .ok (.getfield 53, 3) := by decide +kernel
theorem dX11_times_25 : decode cX11_times 25 = .ok (.invokevirtual 245, 3) := by decide +kernel
theorem dX11_times_28 : decode cX11_times 28 = .ok (.iconst 0, 1) := by decide +kernel
theorem dX11_times_29 : decode cX11_times 29 = .ok (.istore_n 2, 1) := by decide +kernel
theorem dX11_times_30 : decode cX11_times 30 = .ok (.iconst 0, 1) := by decide +kernel
theorem dX11_times_31 : decode cX11_times 31 = .ok (.istore_n 3, 1) := by decide +kernel
theorem dX11_times_32 : decode cX11_times 32 = .ok (.iconst 0, 1) := by decide +kernel
theorem dX11_times_33 : decode cX11_times 33 = .ok (.istore 4, 2) := by decide +kernel
theorem dX11_times_35 : decode cX11_times 35 = .ok (.iconst 0, 1) := by decide +kernel
theorem dX11_times_36 : decode cX11_times 36 = .ok (.istore 5, 2) := by decide +kernel
theorem dX11_times_38 : decode cX11_times 38 = .ok (.iconst 0, 1) := by decide +kernel
theorem dX11_times_39 : decode cX11_times 39 = .ok (.istore 6, 2) := by decide +kernel
theorem dX11_times_41 : decode cX11_times 41 = .ok (.iload 6, 2) := by decide +kernel
theorem dX11_times_43 : decode cX11_times 43 = .ok (.aload_n 0, 1) := by decide +kernel
theorem dX11_times_44 : decode cX11_times 44 = .ok (.iconst 0, 1) := by decide +kernel
theorem dX11_times_45 : decode cX11_times 45 = .ok (.iconst 0, 1) := by decide +kernel
theorem dX11_times_46 : decode cX11_times 46 = .ok (.invokevirtual 164, 3) := by decide +kernel
theorem dX11_times_49 : decode cX11_times 49 = .ok (.if_icmp .ge 99, 3) := by decide +kernel
theorem dX11_times_52 : decode cX11_times 52 = .ok (.aload_n 0, 1) := by decide +kernel
theorem dX11_times_53 : decode cX11_times 53 = .ok (.getfield 53, 3) := by decide +kernel
theorem dX11_times_56 : decode cX11_times 56 = .ok (.iload 6, 2) := by decide +kernel
theorem dX11_times_58 : decode cX11_times 58 = .ok (.iaload, 1) := by decide +kernel
theorem dX11_times_59 : decode cX11_times 59 = .ok (.istore 7, 2) := by decide +kernel
theorem dX11_times_61 : decode cX11_times 61 = .ok (.iload 7, 2) := by decide +kernel
theorem dX11_times_63 : decode cX11_times 63 = .ok (.bipush (-4), 2) := by decide +kernel
theorem dX11_times_65 : decode cX11_times 65 = .ok (.if_icmp .eq 77, 3) := by decide +kernel
theorem dX11_times_68 : decode cX11_times 68 = .ok (.iload_n 1, 1) := by decide +kernel
theorem dX11_times_69 : decode cX11_times 69 = .ok (.iconst 5, 1) := by decide +kernel
theorem dX11_times_70 : decode cX11_times 70 = .ok (.if_icmp .lt 15, 3) := by decide +kernel
theorem dX11_times_73 : decode cX11_times 73 = .ok (.aload_n 0, 1) := by decide +kernel
theorem dX11_times_74 : decode cX11_times 74 = .ok (.iload 6, 2) := by decide +kernel
theorem dX11_times_76 : decode cX11_times 76 = .ok (.iload 7, 2) := by decide +kernel
theorem dX11_times_78 : decode cX11_times 78 = .ok (.invokevirtual 249, 3) := by decide +kernel
theorem dX11_times_81 : decode cX11_times 81 = .ok (.iconst 2, 1) := by decide +kernel
theorem dX11_times_82 : decode cX11_times 82 = .ok (.if_icmp .ne 60, 3) := by decide +kernel
theorem dX11_times_85 : decode cX11_times 85 = .ok (.aload_n 0, 1) := by decide +kernel
theorem dX11_times_86 : decode cX11_times 86 = .ok (.iload 6, 2) := by decide +kernel
theorem dX11_times_88 : decode cX11_times 88 = .ok (.iload 7, 2) := by decide +kernel
theorem dX11_times_90 : decode cX11_times 90 = .ok (.invokevirtual 198, 3) := by decide +kernel
theorem dX11_times_93 : decode cX11_times 93 = .ok (.istore 8, 2) := by decide +kernel
theorem dX11_times_95 : decode cX11_times 95 = .ok (.iload_n 2, 1) := by decide +kernel
theorem dX11_times_96 : decode cX11_times 96 = .ok (.ifCond .eq 9, 3) := by decide +kernel
theorem dX11_times_99 : decode cX11_times 99 = .ok (.iload 8, 2) := by decide +kernel
theorem dX11_times_101 : decode cX11_times 101 = .ok (.iload_n 3, 1) := by decide +kernel
theorem dX11_times_102 : decode cX11_times 102 = .ok (.if_icmp .ge 8, 3) := by decide +kernel
theorem dX11_times_105 : decode cX11_times 105 = .ok (.iload 8, 2) := by decide +kernel
theorem dX11_times_107 : decode cX11_times 107 = .ok (.goto 4, 3) := by decide +kernel
theorem dX11_times_110 : decode cX11_times 110 = .ok (.iload_n 3, 1) := by decide +kernel
theorem dX11_times_111 : decode cX11_times 111 = .ok (.istore_n 3, 1) := by decide +kernel
theorem dX11_times_112 : decode cX11_times 112 = .ok (.iload_n 2, 1) := by decide +kernel
theorem dX11_times_113 : decode cX11_times 113 = .ok (.ifCond .eq 10, 3) := by decide +kernel
theorem dX11_times_116 : decode cX11_times 116 = .ok (.iload 8, 2) := by decide +kernel
theorem dX11_times_118 : decode cX11_times 118 = .ok (.iload 4, 2) := by decide +kernel
theorem dX11_times_120 : decode cX11_times 120 = .ok (.if_icmp .le 8, 3) := by decide +kernel
theorem dX11_times_123 : decode cX11_times 123 = .ok (.iload 8, 2) := by decide +kernel
theorem dX11_times_125 : decode cX11_times 125 = .ok (.goto 5, 3) := by decide +kernel
theorem dX11_times_128 : decode cX11_times 128 = .ok (.iload 4, 2) := by decide +kernel
theorem dX11_times_130 : decode cX11_times 130 = .ok (.istore 4, 2) := by decide +kernel
theorem dX11_times_132 : decode cX11_times 132 = .ok (.iload 5, 2) := by decide +kernel
theorem dX11_times_134 : decode cX11_times 134 = .ok (.iload 8, 2) := by decide +kernel
theorem dX11_times_136 : decode cX11_times 136 = .ok (.iadd, 1) := by decide +kernel
theorem dX11_times_137 : decode cX11_times 137 = .ok (.istore 5, 2) := by decide +kernel
theorem dX11_times_139 : decode cX11_times 139 = .ok (.iinc 2 1, 3) := by decide +kernel
theorem dX11_times_142 : decode cX11_times 142 = .ok (.iinc 6 1, 3) := by decide +kernel
theorem dX11_times_145 : decode cX11_times 145 = .ok (.goto (-104), 3) := by decide +kernel
theorem dX11_times_148 : decode cX11_times 148 = .ok (.iload_n 1, 1) := by decide +kernel
theorem dX11_times_149 : decode cX11_times 149 = .ok (.ifCond .ne 5, 3) := by decide +kernel
theorem dX11_times_152 : decode cX11_times 152 = .ok (.iload_n 2, 1) := by decide +kernel
theorem dX11_times_153 : decode cX11_times 153 = .ok (.ireturn, 1) := by decide +kernel
theorem dX11_times_154 : decode cX11_times 154 = .ok (.iload_n 2, 1) := by decide +kernel
theorem dX11_times_155 : decode cX11_times 155 = .ok (.ifCond .ne 9, 3) := by decide +kernel
theorem dX11_times_158 : decode cX11_times 158 = .ok (.sipush (-10004), 3) := by decide +kernel
theorem dX11_times_161 : decode cX11_times 161 = .ok (.goto 36, 3) := by decide +kernel
theorem dX11_times_164 : decode cX11_times 164 = .ok (.iload_n 1, 1) := by decide +kernel
theorem dX11_times_165 : decode cX11_times 165 = .ok (.iconst 1, 1) := by decide +kernel
theorem dX11_times_166 : decode cX11_times 166 = .ok (.if_icmp .ne 7, 3) := by decide +kernel
theorem dX11_times_169 : decode cX11_times 169 = .ok (.iload_n 3, 1) := by decide +kernel
theorem dX11_times_170 : decode cX11_times 170 = .ok (.goto 27, 3) := by decide +kernel
theorem dX11_times_173 : decode cX11_times 173 = .ok (.iload_n 1, 1) := by decide +kernel
theorem dX11_times_174 : decode cX11_times 174 = .ok (.iconst 2, 1) := by decide +kernel
theorem dX11_times_175 : decode cX11_times 175 = .ok (.if_icmp .ne 8, 3) := by decide +kernel
theorem dX11_times_178 : decode cX11_times 178 = .ok (.iload 4, 2) := by decide +kernel
theorem dX11_times_180 : decode cX11_times 180 = .ok (.goto 17, 3) := by decide +kernel
theorem dX11_times_183 : decode cX11_times 183 = .ok (.iload 5, 2) := by decide +kernel
theorem dX11_times_185 : decode cX11_times 185 = .ok (.i2l, 1) := by decide +kernel
theorem dX11_times_186 : decode cX11_times 186 = .ok (.iload_n 2, 1) := by decide +kernel
theorem dX11_times_187 : decode cX11_times 187 = .ok (.i2l, 1) := by decide +kernel
theorem dX11_times_188 : decode cX11_times 188 = .ok (.iload_n 1, 1) := by decide +kernel
theorem dX11_times_189 : decode cX11_times 189 = .ok (.iconst 1, 1) := by decide +kernel
theorem dX11_times_190 : decode cX11_times 190 = .ok (.iadd, 1) := by decide +kernel
theorem dX11_times_191 : decode cX11_times 191 = .ok (.iconst 2, 1) := by decide +kernel
theorem dX11_times_192 : decode cX11_times 192 = .ok (.irem, 1) := by decide +kernel
theorem dX11_times_193 : decode cX11_times 193 = .ok (.invokestatic 252, 3) := by decide +kernel
theorem dX11_times_196 : decode cX11_times 196 = .ok (.l2i, 1) := by decide +kernel
theorem dX11_times_197 : decode cX11_times 197 = .ok (.ireturn, 1) := by decide +kernel
theorem dX11_size_0 : decode cX11_size 0 = .ok (.iload_n 0, 1) := by decide +kernel
theorem dX11_size_1 : decode cX11_size 1 = .ok (.ifCond .ge 8, 3) := by decide +kernel
theorem dX11_size_4 : decode cX11_size 4 = .ok (.iload_n 0, 1) := by decide +kernel
theorem dX11_size_5 : decode cX11_size 5 = .ok (.ineg, 1) := by decide +kernel
theorem dX11_size_6 : decode cX11_size 6 = .ok (.goto 4, 3) := by decide +kernel
theorem dX11_size_9 : decode cX11_size 9 = .ok (.iload_n 0, 1) := by decide +kernel
theorem dX11_size_10 : decode cX11_size 10 = .ok (.ireturn, 1) := by decide +kernel
theorem dX11_clock_0 : decode cX11_clock 0 = .ok (.iload_n 1, 1) := by decide +kernel
theorem dX11_clock_1 : decode cX11_clock 1 = .ok (.i2l, 1) := by decide +kernel
theorem dX11_clock_2 : decode cX11_clock 2 = .ok (.lconst 0, 1) := by decide +kernel
theorem dX11_clock_3 : decode cX11_clock 3 = .ok (.lconst 1, 1) := by decide +kernel
theorem dX11_clock_4 : decode cX11_clock 4 = .ok (.invokestatic 85, 3) := by decide +kernel
theorem dX11_clock_7 : decode cX11_clock 7 = .ok (.ifCond .ne 7, 3) := by decide +kernel
theorem dX11_clock_10 : decode cX11_clock 10 = .ok (.sipush (-1000), 3) := by decide +kernel
theorem dX11_clock_13 : decode cX11_clock 13 = .ok (.ireturn, 1) := by decide +kernel
theorem dX11_clock_14 : decode cX11_clock 14 = .ok (.aload_n 0, 1) := by decide +kernel
theorem dX11_clock_15 : decode cX11_clock 15 = .ok (.getfield 22, 3) := by decide +kernel
theorem dX11_clock_18 : decode cX11_clock 18 = .ok (.bipush 9, 2) := by decide +kernel
theorem dX11_clock_20 : decode cX11_clock 20 = .ok (.iaload, 1) := by decide +kernel
theorem dX11_clock_21 : decode cX11_clock 21 = .ok (.istore_n 2, 1) := by decide +kernel
theorem dX11_clock_22 : decode cX11_clock 22 = .ok (.iconst 0, 1) := by decide +kernel
theorem dX11_clock_23 : decode cX11_clock 23 = .ok (.istore_n 3, 1) := by decide +kernel
theorem dX11_clock_24 : decode cX11_clock 24 = .ok (.ldc 225, 2) := by decide +kernel
theorem dX11_clock_26 : decode cX11_clock 26 = .ok (.istore 4, 2) := by decide +kernel
theorem dX11_clock_28 : decode cX11_clock 28 = .ok (.bipush (-30), 2) := by decide +kernel
theorem dX11_clock_30 : decode cX11_clock 30 = .ok (.istore 5, 2) := by decide +kernel
theorem dX11_clock_32 : decode cX11_clock 32 = .ok (.iload 5, 2) := by decide +kernel
theorem dX11_clock_34 : decode cX11_clock 34 = .ok (.bipush 31, 2) := by decide +kernel
theorem dX11_clock_36 : decode cX11_clock 36 = .ok (.if_icmp .ge 97, 3) := by decide +kernel
theorem dX11_clock_39 : decode cX11_clock 39 = .ok (.aload_n 0, 1) := by decide +kernel
theorem dX11_clock_40 : decode cX11_clock 40 = .ok (.getfield 22, 3) := by decide +kernel
theorem dX11_clock_43 : decode cX11_clock 43 = .ok (.bipush 9, 2) := by decide +kernel
theorem dX11_clock_45 : decode cX11_clock 45 = .ok (.iload 5, 2) := by decide +kernel
theorem dX11_clock_47 : decode cX11_clock 47 = .ok (.iastore, 1) := by decide +kernel
theorem dX11_clock_48 : decode cX11_clock 48 = .ok (.aload_n 0, 1) := by decide +kernel
theorem dX11_clock_49 : decode cX11_clock 49 = .ok (.invokevirtual 242, 3) := by decide +kernel
theorem dX11_clock_52 : decode cX11_clock 52 = .ok (.aload_n 0, 1) := by decide +kernel
theorem dX11_clock_53 : decode cX11_clock 53 = .ok (.getfield 37, 3) := by decide +kernel
theorem dX11_clock_56 : decode cX11_clock 56 = .ok (.iconst 0, 1) := by decide +kernel
theorem dX11_clock_57 : decode cX11_clock 57 = .ok (.iaload, 1) := by decide +kernel
theorem dX11_clock_58 : decode cX11_clock 58 = .ok (.iload 4, 2) := by decide +kernel
theorem dX11_clock_60 : decode cX11_clock 60 = .ok (.if_icmp .lt 30, 3) := by decide +kernel
theorem dX11_clock_63 : decode cX11_clock 63 = .ok (.aload_n 0, 1) := by decide +kernel
theorem dX11_clock_64 : decode cX11_clock 64 = .ok (.getfield 37, 3) := by decide +kernel
theorem dX11_clock_67 : decode cX11_clock 67 = .ok (.iconst 0, 1) := by decide +kernel
theorem dX11_clock_68 : decode cX11_clock 68 = .ok (.iaload, 1) := by decide +kernel
theorem dX11_clock_69 : decode cX11_clock 69 = .ok (.iload 4, 2) := by decide +kernel
theorem dX11_clock_71 : decode cX11_clock 71 = .ok (.if_icmp .ne 23, 3) := by decide +kernel
theorem dX11_clock_74 : decode cX11_clock 74 = .ok (.iload 5, 2) := by decide +kernel
theorem dX11_clock_76 : decode cX11_clock 76 = .ok (.iload_n 2, 1) := by decide +kernel
theorem dX11_clock_77 : decode cX11_clock 77 = .ok (.isub, 1) := by decide +kernel
theorem dX11_clock_78 : decode cX11_clock 78 = .ok (.invokestatic 270, 3) := by decide +kernel
theorem dX11_clock_81 : decode cX11_clock 81 = .ok (.iload_n 3, 1) := by decide +kernel
theorem dX11_clock_82 : decode cX11_clock 82 = .ok (.iload_n 2, 1) := by decide +kernel
theorem dX11_clock_83 : decode cX11_clock 83 = .ok (.isub, 1) := by decide +kernel
theorem dX11_clock_84 : decode cX11_clock 84 = .ok (.invokestatic 270, 3) := by decide +kernel
theorem dX11_clock_87 : decode cX11_clock 87 = .ok (.if_icmp .ge 7, 3) := by decide +kernel
theorem dX11_clock_90 : decode cX11_clock 90 = .ok (.iconst 1, 1) := by decide +kernel
theorem dX11_clock_91 : decode cX11_clock 91 = .ok (.goto 4, 3) := by decide +kernel
theorem dX11_clock_94 : decode cX11_clock 94 = .ok (.iconst 0, 1) := by decide +kernel
theorem dX11_clock_95 : decode cX11_clock 95 = .ok (.istore 6, 2) := by decide +kernel
theorem dX11_clock_97 : decode cX11_clock 97 = .ok (.iload 6, 2) := by decide +kernel
theorem dX11_clock_99 : decode cX11_clock 99 = .ok (.ifCond .eq 8, 3) := by decide +kernel
theorem dX11_clock_102 : decode cX11_clock 102 = .ok (.iload 5, 2) := by decide +kernel
theorem dX11_clock_104 : decode cX11_clock 104 = .ok (.goto 4, 3) := by decide +kernel
theorem dX11_clock_107 : decode cX11_clock 107 = .ok (.iload_n 3, 1) := by decide +kernel
theorem dX11_clock_108 : decode cX11_clock 108 = .ok (.istore_n 3, 1) := by decide +kernel
theorem dX11_clock_109 : decode cX11_clock 109 = .ok (.iload 6, 2) := by decide +kernel
theorem dX11_clock_111 : decode cX11_clock 111 = .ok (.ifCond .eq 12, 3) := by decide +kernel
theorem dX11_clock_114 : decode cX11_clock 114 = .ok (.aload_n 0, 1) := by decide +kernel
theorem dX11_clock_115 : decode cX11_clock 115 = .ok (.getfield 37, 3) := by decide +kernel
theorem dX11_clock_118 : decode cX11_clock 118 = .ok (.iconst 0, 1) := by decide +kernel
theorem dX11_clock_119 : decode cX11_clock 119 = .ok (.iaload, 1) := by decide +kernel
theorem dX11_clock_120 : decode cX11_clock 120 = .ok (.goto 5, 3) := by decide +kernel
theorem dX11_clock_123 : decode cX11_clock 123 = .ok (.iload 4, 2) := by decide +kernel
theorem dX11_clock_125 : decode cX11_clock 125 = .ok (.istore 4, 2) := by decide +kernel
theorem dX11_clock_127 : decode cX11_clock 127 = .ok (.iinc 5 1, 3) := by decide +kernel
theorem dX11_clock_130 : decode cX11_clock 130 = .ok (.goto (-98), 3) := by decide +kernel
theorem dX11_clock_133 : decode cX11_clock 133 = .ok (.aload_n 0, 1) := by decide +kernel
theorem dX11_clock_134 : decode cX11_clock 134 = .ok (.getfield 22, 3) := by decide +kernel
theorem dX11_clock_137 : decode cX11_clock 137 = .ok (.bipush 9, 2) := by decide +kernel
theorem dX11_clock_139 : decode cX11_clock 139 = .ok (.iload_n 2, 1) := by decide +kernel
theorem dX11_clock_140 : decode cX11_clock 140 = .ok (.iastore, 1) := by decide +kernel
theorem dX11_clock_141 : decode cX11_clock 141 = .ok (.iload_n 1, 1) := by decide +kernel
theorem dX11_clock_142 : decode cX11_clock 142 = .ok (.ifCond .ne 7, 3) := by decide +kernel
theorem dX11_clock_145 : decode cX11_clock 145 = .ok (.iload_n 3, 1) := by decide +kernel
theorem dX11_clock_146 : decode cX11_clock 146 = .ok (.goto 5, 3) := by decide +kernel
theorem dX11_clock_149 : decode cX11_clock 149 = .ok (.iload 4, 2) := by decide +kernel
theorem dX11_clock_151 : decode cX11_clock 151 = .ok (.ireturn, 1) := by decide +kernel
theorem dX11_didPass_0 : decode cX11_didPass 0 = .ok (.aload_n 0, 1) := by decide +kernel
theorem dX11_didPass_1 : decode cX11_didPass 1 = .ok (.getfield 53, 3) := by decide +kernel
theorem dX11_didPass_4 : decode cX11_didPass 4 = .ok (.iload_n 1, 1) := by decide +kernel
theorem dX11_didPass_5 : decode cX11_didPass 5 = .ok (.iaload, 1) := by decide +kernel
theorem dX11_didPass_6 : decode cX11_didPass 6 = .ok (.bipush (-4), 2) := by decide +kernel
theorem dX11_didPass_8 : decode cX11_didPass 8 = .ok (.if_icmp .eq 62, 3) := by decide +kernel
theorem dX11_didPass_11 : decode cX11_didPass 11 = .ok (.aload_n 0, 1) := by decide +kernel
theorem dX11_didPass_12 : decode cX11_didPass 12 = .ok (.getfield 53, 3) := by decide +kernel
theorem dX11_didPass_15 : decode cX11_didPass 15 = .ok (.iload_n 2, 1) := by decide +kernel
theorem dX11_didPass_16 : decode cX11_didPass 16 = .ok (.iaload, 1) := by decide +kernel
theorem dX11_didPass_17 : decode cX11_didPass 17 = .ok (.bipush (-4), 2) := by decide +kernel
theorem dX11_didPass_19 : decode cX11_didPass 19 = .ok (.if_icmp .eq 51, 3) := by decide +kernel
theorem dX11_didPass_22 : decode cX11_didPass 22 = .ok (.aload_n 0, 1) := by decide +kernel
theorem dX11_didPass_23 : decode cX11_didPass 23 = .ok (.iconst 0, 1) := by decide +kernel
theorem dX11_didPass_24 : decode cX11_didPass 24 = .ok (.iload_n 1, 1) := by decide +kernel
theorem dX11_didPass_25 : decode cX11_didPass 25 = .ok (.iconst 0, 1) := by decide +kernel
theorem dX11_didPass_26 : decode cX11_didPass 26 = .ok (.invokevirtual 181, 3) := by decide +kernel
theorem dX11_didPass_29 : decode cX11_didPass 29 = .ok (.aload_n 0, 1) := by decide +kernel
theorem dX11_didPass_30 : decode cX11_didPass 30 = .ok (.iconst 0, 1) := by decide +kernel
theorem dX11_didPass_31 : decode cX11_didPass 31 = .ok (.iload_n 2, 1) := by decide +kernel
theorem dX11_didPass_32 : decode cX11_didPass 32 = .ok (.iconst 0, 1) := by decide +kernel
theorem dX11_didPass_33 : decode cX11_didPass 33 = .ok (.invokevirtual 181, 3) := by decide +kernel
theorem dX11_didPass_36 : decode cX11_didPass 36 = .ok (.if_icmp .le 34, 3) := by decide +kernel
theorem dX11_didPass_39 : decode cX11_didPass 39 = .ok (.aload_n 0, 1) := by decide +kernel
theorem dX11_didPass_40 : decode cX11_didPass 40 = .ok (.iconst 1, 1) := by decide +kernel
theorem dX11_didPass_41 : decode cX11_didPass 41 = .ok (.aload_n 0, 1) := by decide +kernel
theorem dX11_didPass_42 : decode cX11_didPass 42 = .ok (.getfield 53, 3) := by decide +kernel
theorem dX11_didPass_45 : decode cX11_didPass 45 = .ok (.iload_n 1, 1) := by decide +kernel
theorem dX11_didPass_46 : decode cX11_didPass 46 = .ok (.iaload, 1) := by decide +kernel
theorem dX11_didPass_47 : decode cX11_didPass 47 = .ok (.iconst 0, 1) := by decide +kernel
theorem dX11_didPass_48 : decode cX11_didPass 48 = .ok (.invokevirtual 181, 3) := by decide +kernel
theorem dX11_didPass_51 : decode cX11_didPass 51 = .ok (.aload_n 0, 1) := by decide +kernel
theorem dX11_didPass_52 : decode cX11_didPass 52 = .ok (.iconst 1, 1) := by decide +kernel
theorem dX11_didPass_53 : decode cX11_didPass 53 = .ok (.aload_n 0, 1) := by decide +kernel
theorem dX11_didPass_54 : decode cX11_didPass 54 = .ok (.getfield 53, 3) := by decide +kernel
theorem dX11_didPass_57 : decode cX11_didPass 57 = .ok (.iload_n 2, 1) := by decide +kernel
theorem dX11_didPass_58 : decode cX11_didPass 58 = .ok (.iaload, 1) := by decide +kernel
theorem dX11_didPass_59 : decode cX11_didPass 59 = .ok (.iconst 0, 1) := by decide +kernel
theorem dX11_didPass_60 : decode cX11_didPass 60 = .ok (.invokevirtual 181, 3) := by decide +kernel
theorem dX11_didPass_63 : decode cX11_didPass 63 = .ok (.if_icmp .ge 7, 3) := by decide +kernel
theorem dX11_didPass_66 : decode cX11_didPass 66 = .ok (.iconst 1, 1) := by decide +kernel
theorem dX11_didPass_67 : decode cX11_didPass 67 = .ok (.goto 4, 3) := by decide +kernel
theorem dX11_didPass_70 : decode cX11_didPass 70 = .ok (.iconst 0, 1) := by decide +kernel
theorem dX11_didPass_71 : decode cX11_didPass 71 = .ok (.ireturn, 1) := by decide +kernel
theorem dX11_isCalm_0 : decode cX11_isCalm 0 = .ok (.iconst 1, 1) := by decide +kernel
theorem dX11_isCalm_1 : decode cX11_isCalm 1 = .ok (.istore_n 2, 1) := by decide +kernel
theorem dX11_isCalm_2 : decode cX11_isCalm 2 = .ok (.iconst 0, 1) := by decide +kernel
theorem dX11_isCalm_3 : decode cX11_isCalm 3 = .ok (.istore_n 3, 1) := by decide +kernel
theorem dX11_isCalm_4 : decode cX11_isCalm 4 = .ok (.iload_n 3, 1) := by decide +kernel
theorem dX11_isCalm_5 : decode cX11_isCalm 5 = .ok (.aload_n 0, 1) := by decide +kernel
theorem dX11_isCalm_6 : decode cX11_isCalm 6 = .ok (.iconst 0, 1) := by decide +kernel
theorem dX11_isCalm_7 : decode cX11_isCalm 7 = .ok (.iconst 0, 1) := by decide +kernel
theorem dX11_isCalm_8 : decode cX11_isCalm 8 = .ok (.invokevirtual 164, 3) := by decide +kernel
theorem dX11_isCalm_11 : decode cX11_isCalm 11 = .ok (.if_icmp .ge 68, 3) := by decide +kernel
theorem dX11_isCalm_14 : decode cX11_isCalm 14 = .ok (.iconst 0, 1) := by decide +kernel
theorem dX11_isCalm_15 : decode cX11_isCalm 15 = .ok (.istore 4, 2) := by decide +kernel
theorem dX11_isCalm_17 : decode cX11_isCalm 17 = .ok (.iload 4, 2) := by decide +kernel
theorem dX11_isCalm_19 : decode cX11_isCalm 19 = .ok (.aload_n 0, 1) := by decide +kernel
theorem dX11_isCalm_20 : decode cX11_isCalm 20 = .ok (.iconst 0, 1) := by decide +kernel
theorem dX11_isCalm_21 : decode cX11_isCalm 21 = .ok (.iconst 0, 1) := by decide +kernel
theorem dX11_isCalm_22 : decode cX11_isCalm 22 = .ok (.invokevirtual 164, 3) := by decide +kernel
theorem dX11_isCalm_25 : decode cX11_isCalm 25 = .ok (.if_icmp .ge 48, 3) := by decide +kernel
theorem dX11_isCalm_28 : decode cX11_isCalm 28 = .ok (.iload_n 2, 1) := by decide +kernel
theorem dX11_isCalm_29 : decode cX11_isCalm 29 = .ok (.ifCond .eq 36, 3) := by decide +kernel
theorem dX11_isCalm_32 : decode cX11_isCalm 32 = .ok (.iload_n 1, 1) := by decide +kernel
theorem dX11_isCalm_33 : decode cX11_isCalm 33 = .ok (.iload_n 3, 1) := by decide +kernel
theorem dX11_isCalm_34 : decode cX11_isCalm 34 = .ok (.ishr, 1) := by decide +kernel
theorem dX11_isCalm_35 : decode cX11_isCalm 35 = .ok (.iconst 1, 1) := by decide +kernel
theorem dX11_isCalm_36 : decode cX11_isCalm 36 = .ok (.iand, 1) := by decide +kernel
theorem dX11_isCalm_37 : decode cX11_isCalm 37 = .ok (.iconst 1, 1) := by decide +kernel
theorem dX11_isCalm_38 : decode cX11_isCalm 38 = .ok (.if_icmp .eq 23, 3) := by decide +kernel
theorem dX11_isCalm_41 : decode cX11_isCalm 41 = .ok (.iload_n 1, 1) := by decide +kernel
theorem dX11_isCalm_42 : decode cX11_isCalm 42 = .ok (.iload 4, 2) := by decide +kernel
theorem dX11_isCalm_44 : decode cX11_isCalm 44 = .ok (.ishr, 1) := by decide +kernel
theorem dX11_isCalm_45 : decode cX11_isCalm 45 = .ok (.iconst 1, 1) := by decide +kernel
theorem dX11_isCalm_46 : decode cX11_isCalm 46 = .ok (.iand, 1) := by decide +kernel
theorem dX11_isCalm_47 : decode cX11_isCalm 47 = .ok (.iconst 1, 1) := by decide +kernel
theorem dX11_isCalm_48 : decode cX11_isCalm 48 = .ok (.if_icmp .eq 13, 3) := by decide +kernel
theorem dX11_isCalm_51 : decode cX11_isCalm 51 = .ok (.aload_n 0, 1) := by decide +kernel
theorem dX11_isCalm_52 : decode cX11_isCalm 52 = .ok (.iload_n 3, 1) := by decide +kernel
theorem dX11_isCalm_53 : decode cX11_isCalm 53 = .ok (.iload 4, 2) := by decide +kernel
theorem dX11_isCalm_55 : decode cX11_isCalm 55 = .ok (.invokevirtual 273, 3) := by decide +kernel
theorem dX11_isCalm_58 : decode cX11_isCalm 58 = .ok (.ifCond .ne 7, 3) := by decide +kernel
theorem dX11_isCalm_61 : decode cX11_isCalm 61 = .ok (.iconst 1, 1) := by decide +kernel
theorem dX11_isCalm_62 : decode cX11_isCalm 62 = .ok (.goto 4, 3) := by decide +kernel
theorem dX11_isCalm_65 : decode cX11_isCalm 65 = .ok (.iconst 0, 1) := by decide +kernel
theorem dX11_isCalm_66 : decode cX11_isCalm 66 = .ok (.istore_n 2, 1) := by decide +kernel
theorem dX11_isCalm_67 : decode cX11_isCalm 67 = .ok (.iinc 4 1, 3) := by decide +kernel
theorem dX11_isCalm_70 : decode cX11_isCalm 70 = .ok (.goto (-53), 3) := by decide +kernel
theorem dX11_isCalm_73 : decode cX11_isCalm 73 = .ok (.iinc 3 1, 3) := by decide +kernel
theorem dX11_isCalm_76 : decode cX11_isCalm 76 = .ok (.goto (-72), 3) := by decide +kernel
theorem dX11_isCalm_79 : decode cX11_isCalm 79 = .ok (.iload_n 2, 1) := by decide +kernel
theorem dX11_isCalm_80 : decode cX11_isCalm 80 = .ok (.ireturn, 1) := by decide +kernel
theorem dX11_passed_0 : decode cX11_passed 0 = .ok (.iload_n 1, 1) := by decide +kernel
theorem dX11_passed_1 : decode cX11_passed 1 = .ok (.i2l, 1) := by decide +kernel
theorem dX11_passed_2 : decode cX11_passed 2 = .ok (.lconst 0, 1) := by decide +kernel
theorem dX11_passed_3 : decode cX11_passed 3 = .ok (.ldc2_w 185, 3) := by decide +kernel
theorem dX11_passed_6 : decode cX11_passed 6 = .ok (.invokestatic 85, 3) := by decide +kernel
theorem dX11_passed_9 : decode cX11_passed 9 = .ok (.ifCond .ne 5, 3) := by decide +kernel
theorem dX11_passed_12 : decode cX11_passed 12 = .ok (.iconst (-1), 1) := by decide +kernel
theorem dX11_passed_13 : decode cX11_passed 13 = .ok (.ireturn, 1) := by decide +kernel
theorem dX11_passed_14 : decode cX11_passed 14 = .ok (.aload_n 0, 1) := by decide +kernel
theorem dX11_passed_15 : decode cX11_passed 15 = .ok (.invokevirtual 242, 3) := by decide +kernel
theorem dX11_passed_18 : decode cX11_passed 18 = .ok (.aload_n 0, 1) := by decide +kernel
theorem dX11_passed_19 : decode cX11_passed 19 = .ok (.aload_n 0, 1) := by decide +kernel
theorem dX11_passed_20 : decode cX11_passed 20 = .ok (.getfield 53, 3) := by decide +kernel
theorem dX11_passed_23 : decode cX11_passed 23 = .ok (.invokevirtual 245, 3) := by decide +kernel
theorem dX11_passed_26 : decode cX11_passed 26 = .ok (.iconst 0, 1) := by decide +kernel
theorem dX11_passed_27 : decode cX11_passed 27 = .ok (.istore_n 2, 1) := by decide +kernel
theorem dX11_passed_28 : decode cX11_passed 28 = .ok (.bipush (-4), 2) := by decide +kernel
theorem dX11_passed_30 : decode cX11_passed 30 = .ok (.istore_n 3, 1) := by decide +kernel
theorem dX11_passed_31 : decode cX11_passed 31 = .ok (.iconst 0, 1) := by decide +kernel
theorem dX11_passed_32 : decode cX11_passed 32 = .ok (.istore 4, 2) := by decide +kernel
theorem dX11_passed_34 : decode cX11_passed 34 = .ok (.iconst 0, 1) := by decide +kernel
theorem dX11_passed_35 : decode cX11_passed 35 = .ok (.istore 5, 2) := by decide +kernel
theorem dX11_passed_37 : decode cX11_passed 37 = .ok (.iload 5, 2) := by decide +kernel
theorem dX11_passed_39 : decode cX11_passed 39 = .ok (.aload_n 0, 1) := by decide +kernel
theorem dX11_passed_40 : decode cX11_passed 40 = .ok (.iconst 0, 1) := by decide +kernel
theorem dX11_passed_41 : decode cX11_passed 41 = .ok (.iconst 0, 1) := by decide +kernel
theorem dX11_passed_42 : decode cX11_passed 42 = .ok (.invokevirtual 164, 3) := by decide +kernel
theorem dX11_passed_45 : decode cX11_passed 45 = .ok (.if_icmp .ge 88, 3) := by decide +kernel
theorem dX11_passed_48 : decode cX11_passed 48 = .ok (.iconst 0, 1) := by decide +kernel
theorem dX11_passed_49 : decode cX11_passed 49 = .ok (.istore 6, 2) := by decide +kernel
theorem dX11_passed_51 : decode cX11_passed 51 = .ok (.iconst 0, 1) := by decide +kernel
theorem dX11_passed_52 : decode cX11_passed 52 = .ok (.istore 7, 2) := by decide +kernel
theorem dX11_passed_54 : decode cX11_passed 54 = .ok (.iload 7, 2) := by decide +kernel
theorem dX11_passed_56 : decode cX11_passed 56 = .ok (.aload_n 0, 1) := by decide +kernel
theorem dX11_passed_57 : decode cX11_passed 57 = .ok (.iconst 0, 1) := by decide +kernel
theorem dX11_passed_58 : decode cX11_passed 58 = .ok (.iconst 0, 1) := by decide +kernel
theorem dX11_passed_59 : decode cX11_passed 59 = .ok (.invokevirtual 164, 3) := by decide +kernel
theorem dX11_passed_62 : decode cX11_passed 62 = .ok (.if_icmp .ge 30, 3) := by decide +kernel
theorem dX11_passed_65 : decode cX11_passed 65 = .ok (.iload 6, 2) := by decide +kernel
theorem dX11_passed_67 : decode cX11_passed 67 = .ok (.aload_n 0, 1) := by decide +kernel
theorem dX11_passed_68 : decode cX11_passed 68 = .ok (.iload 5, 2) := by decide +kernel
theorem dX11_passed_70 : decode cX11_passed 70 = .ok (.iload 7, 2) := by decide +kernel
theorem dX11_passed_72 : decode cX11_passed 72 = .ok (.invokevirtual 273, 3) := by decide +kernel
theorem dX11_passed_75 : decode cX11_passed 75 = .ok (.ifCond .eq 7, 3) := by decide +kernel
theorem dX11_passed_78 : decode cX11_passed 78 = .ok (.iconst 1, 1) := by decide +kernel
theorem dX11_passed_79 : decode cX11_passed 79 = .ok (.goto 4, 3) := by decide +kernel
theorem dX11_passed_82 : decode cX11_passed 82 = .ok (.iconst 0, 1) := by decide +kernel
theorem dX11_passed_83 : decode cX11_passed 83 = .ok (.iadd, 1) := by decide +kernel
theorem dX11_passed_84 : decode cX11_passed 84 = .ok (.istore 6, 2) := by decide +kernel
theorem dX11_passed_86 : decode cX11_passed 86 = .ok (.iinc 7 1, 3) := by decide +kernel
theorem dX11_passed_89 : decode cX11_passed 89 = .ok (.goto (-35), 3) := by decide +kernel
theorem dX11_passed_92 : decode cX11_passed 92 = .ok (.iload_n 2, 1) := by decide +kernel
theorem dX11_passed_93 : decode cX11_passed 93 = .ok (.iload 6, 2) := by decide +kernel
theorem dX11_passed_95 : decode cX11_passed 95 = .ok (.iadd, 1) := by decide +kernel
theorem dX11_passed_96 : decode cX11_passed 96 = .ok (.istore_n 2, 1) := by decide +kernel
theorem dX11_passed_97 : decode cX11_passed 97 = .ok (.iload 6, 2) := by decide +kernel
theorem dX11_passed_99 : decode cX11_passed 99 = .ok (.iload 4, 2) := by decide +kernel
theorem dX11_passed_101 : decode cX11_passed 101 = .ok (.if_icmp .le 8, 3) := by decide +kernel
theorem dX11_passed_104 : decode cX11_passed 104 = .ok (.iload 5, 2) := by decide +kernel
theorem dX11_passed_106 : decode cX11_passed 106 = .ok (.goto 4, 3) := by decide +kernel
theorem dX11_passed_109 : decode cX11_passed 109 = .ok (.iload_n 3, 1) := by decide +kernel
theorem dX11_passed_110 : decode cX11_passed 110 = .ok (.istore_n 3, 1) := by decide +kernel
theorem dX11_passed_111 : decode cX11_passed 111 = .ok (.iload 6, 2) := by decide +kernel
theorem dX11_passed_113 : decode cX11_passed 113 = .ok (.iload 4, 2) := by decide +kernel
theorem dX11_passed_115 : decode cX11_passed 115 = .ok (.if_icmp .le 8, 3) := by decide +kernel
theorem dX11_passed_118 : decode cX11_passed 118 = .ok (.iload 6, 2) := by decide +kernel
theorem dX11_passed_120 : decode cX11_passed 120 = .ok (.goto 5, 3) := by decide +kernel
theorem dX11_passed_123 : decode cX11_passed 123 = .ok (.iload 4, 2) := by decide +kernel
theorem dX11_passed_125 : decode cX11_passed 125 = .ok (.istore 4, 2) := by decide +kernel
theorem dX11_passed_127 : decode cX11_passed 127 = .ok (.iinc 5 1, 3) := by decide +kernel
theorem dX11_passed_130 : decode cX11_passed 130 = .ok (.goto (-93), 3) := by decide +kernel
theorem dX11_passed_133 : decode cX11_passed 133 = .ok (.iload_n 1, 1) := by decide +kernel
theorem dX11_passed_134 : decode cX11_passed 134 = .ok (.iconst 1, 1) := by decide +kernel
theorem dX11_passed_135 : decode cX11_passed 135 = .ok (.if_icmp .eq 13, 3) := by decide +kernel
theorem dX11_passed_138 : decode cX11_passed 138 = .ok (.iload_n 1, 1) := by decide +kernel
theorem dX11_passed_139 : decode cX11_passed 139 = .ok (.ifCond .ne 7, 3) := by decide +kernel
theorem dX11_passed_142 : decode cX11_passed 142 = .ok (.iload_n 2, 1) := by decide +kernel
theorem dX11_passed_143 : decode cX11_passed 143 = .ok (.goto 4, 3) := by decide +kernel
theorem dX11_passed_146 : decode cX11_passed 146 = .ok (.iload_n 3, 1) := by decide +kernel
theorem dX11_passed_147 : decode cX11_passed 147 = .ok (.ireturn, 1) := by decide +kernel
theorem dX11_passed_148 : decode cX11_passed 148 = .ok (.bipush 10, 2) := by decide +kernel
theorem dX11_passed_150 : decode cX11_passed 150 = .ok (.istore 5, 2) := by decide +kernel
theorem dX11_passed_152 : decode cX11_passed 152 = .ok (.iconst 0, 1) := by decide +kernel
theorem dX11_passed_153 : decode cX11_passed 153 = .ok (.istore 6, 2) := by decide +kernel
theorem dX11_passed_155 : decode cX11_passed 155 = .ok (.iload 6, 2) := by decide +kernel
theorem dX11_passed_157 : decode cX11_passed 157 = .ok (.iconst 1, 1) := by decide +kernel
theorem dX11_passed_158 : decode cX11_passed 158 = .ok (.aload_n 0, 1) := by decide +kernel
theorem dX11_passed_159 : decode cX11_passed 159 = .ok (.iconst 0, 1) := by decide +kernel
theorem dX11_passed_160 : decode cX11_passed 160 = .ok (.iconst 0, 1) := by decide +kernel
theorem dX11_passed_161 : decode cX11_passed 161 = .ok (.invokevirtual 164, 3) := by decide +kernel
theorem dX11_passed_164 : decode cX11_passed 164 = .ok (.ishl, 1) := by decide +kernel
theorem dX11_passed_165 : decode cX11_passed 165 = .ok (.if_icmp .ge 40, 3) := by decide +kernel
theorem dX11_passed_168 : decode cX11_passed 168 = .ok (.iload 6, 2) := by decide +kernel
theorem dX11_passed_170 : decode cX11_passed 170 = .ok (.invokestatic 219, 3) := by decide +kernel
theorem dX11_passed_173 : decode cX11_passed 173 = .ok (.iload 5, 2) := by decide +kernel
theorem dX11_passed_175 : decode cX11_passed 175 = .ok (.if_icmp .ge 20, 3) := by decide +kernel
theorem dX11_passed_178 : decode cX11_passed 178 = .ok (.aload_n 0, 1) := by decide +kernel
theorem dX11_passed_179 : decode cX11_passed 179 = .ok (.iload 6, 2) := by decide +kernel
theorem dX11_passed_181 : decode cX11_passed 181 = .ok (.invokevirtual 276, 3) := by decide +kernel
theorem dX11_passed_184 : decode cX11_passed 184 = .ok (.ifCond .eq 11, 3) := by decide +kernel
theorem dX11_passed_187 : decode cX11_passed 187 = .ok (.iload 6, 2) := by decide +kernel
theorem dX11_passed_189 : decode cX11_passed 189 = .ok (.invokestatic 219, 3) := by decide +kernel
theorem dX11_passed_192 : decode cX11_passed 192 = .ok (.goto 5, 3) := by decide +kernel
theorem dX11_passed_195 : decode cX11_passed 195 = .ok (.iload 5, 2) := by decide +kernel
theorem dX11_passed_197 : decode cX11_passed 197 = .ok (.istore 5, 2) := by decide +kernel
theorem dX11_passed_199 : decode cX11_passed 199 = .ok (.iinc 6 1, 3) := by decide +kernel
theorem dX11_passed_202 : decode cX11_passed 202 = .ok (.goto (-47), 3) := by decide +kernel
theorem dX11_passed_205 : decode cX11_passed 205 = .ok (.iload 5, 2) := by decide +kernel
theorem dX11_passed_207 : decode cX11_passed 207 = .ok (.ireturn, 1) := by decide +kernel
theorem dX11_readAs_0 : decode cX11_readAs 0 = .ok (.iconst 0, 1) := by decide +kernel
theorem dX11_readAs_1 : decode cX11_readAs 1 = .ok (.istore_n 3, 1) := by decide +kernel
theorem dX11_readAs_2 : decode cX11_readAs 2 = .ok (.iconst 0, 1) := by decide +kernel
theorem dX11_readAs_3 : decode cX11_readAs 3 = .ok (.istore 4, 2) := by decide +kernel
theorem dX11_readAs_5 : decode cX11_readAs 5 = .ok (.iload 4, 2) := by decide +kernel
theorem dX11_readAs_7 : decode cX11_readAs 7 = .ok (.aload_n 0, 1) := by decide +kernel
theorem dX11_readAs_8 : decode cX11_readAs 8 = .ok (.iconst 0, 1) := by decide +kernel
theorem dX11_readAs_9 : decode cX11_readAs 9 = .ok (.iconst 0, 1) := by decide +kernel
theorem dX11_readAs_10 : decode cX11_readAs 10 = .ok (.invokevirtual 164, 3) := by decide +kernel
theorem dX11_readAs_13 : decode cX11_readAs 13 = .ok (.if_icmp .ge 103, 3) := by decide +kernel
theorem dX11_readAs_16 : decode cX11_readAs 16 = .ok (.iconst 1, 1) := by decide +kernel
theorem dX11_readAs_17 : decode cX11_readAs 17 = .ok (.istore 5, 2) := by decide +kernel
theorem dX11_readAs_19 : decode cX11_readAs 19 = .ok (.iload 5, 2) := by decide +kernel
theorem dX11_readAs_21 : decode cX11_readAs 21 = .ok (.iconst 4, 1) := by decide +kernel
theorem dX11_readAs_22 : decode cX11_readAs 22 = .ok (.if_icmp .gt 88, 3) := by decide +kernel
theorem dX11_readAs_25 : decode cX11_readAs 25 = .ok (.aload_n 0, 1) := by decide +kernel
theorem dX11_readAs_26 : decode cX11_readAs 26 = .ok (.getfield 53, 3) := by decide +kernel
theorem dX11_readAs_29 : decode cX11_readAs 29 = .ok (.iload 4, 2) := by decide +kernel
theorem dX11_readAs_31 : decode cX11_readAs 31 = .ok (.iaload, 1) := by decide +kernel
theorem dX11_readAs_32 : decode cX11_readAs 32 = .ok (.bipush (-4), 2) := by decide +kernel
theorem dX11_readAs_34 : decode cX11_readAs 34 = .ok (.if_icmp .eq 76, 3) := by decide +kernel
theorem dX11_readAs_37 : decode cX11_readAs 37 = .ok (.aload_n 0, 1) := by decide +kernel
theorem dX11_readAs_38 : decode cX11_readAs 38 = .ok (.iconst 0, 1) := by decide +kernel
theorem dX11_readAs_39 : decode cX11_readAs 39 = .ok (.iload 4, 2) := by decide +kernel
theorem dX11_readAs_41 : decode cX11_readAs 41 = .ok (.iload 5, 2) := by decide +kernel
theorem dX11_readAs_43 : decode cX11_readAs 43 = .ok (.invokevirtual 181, 3) := by decide +kernel
theorem dX11_readAs_46 : decode cX11_readAs 46 = .ok (.istore 6, 2) := by decide +kernel
theorem dX11_readAs_48 : decode cX11_readAs 48 = .ok (.aload_n 0, 1) := by decide +kernel
theorem dX11_readAs_49 : decode cX11_readAs 49 = .ok (.iconst 1, 1) := by decide +kernel
theorem dX11_readAs_50 : decode cX11_readAs 50 = .ok (.aload_n 0, 1) := by decide +kernel
theorem dX11_readAs_51 : decode cX11_readAs 51 = .ok (.getfield 53, 3) := by decide +kernel
theorem dX11_readAs_54 : decode cX11_readAs 54 = .ok (.iload 4, 2) := by decide +kernel
theorem dX11_readAs_56 : decode cX11_readAs 56 = .ok (.iaload, 1) := by decide +kernel
theorem dX11_readAs_57 : decode cX11_readAs 57 = .ok (.iload 5, 2) := by decide +kernel
theorem dX11_readAs_59 : decode cX11_readAs 59 = .ok (.invokevirtual 181, 3) := by decide +kernel
theorem dX11_readAs_62 : decode cX11_readAs 62 = .ok (.istore 7, 2) := by decide +kernel
theorem dX11_readAs_64 : decode cX11_readAs 64 = .ok (.iload_n 3, 1) := by decide +kernel
theorem dX11_readAs_65 : decode cX11_readAs 65 = .ok (.iload 6, 2) := by decide +kernel
theorem dX11_readAs_67 : decode cX11_readAs 67 = .ok (.ifCond .le 34, 3) := by decide +kernel
theorem dX11_readAs_70 : decode cX11_readAs 70 = .ok (.iload 7, 2) := by decide +kernel
theorem dX11_readAs_72 : decode cX11_readAs 72 = .ok (.ifCond .le 29, 3) := by decide +kernel
theorem dX11_readAs_75 : decode cX11_readAs 75 = .ok (.iload 6, 2) := by decide +kernel
theorem dX11_readAs_77 : decode cX11_readAs 77 = .ok (.invokestatic 201, 3) := by decide +kernel
theorem dX11_readAs_80 : decode cX11_readAs 80 = .ok (.iconst 1, 1) := by decide +kernel
theorem dX11_readAs_81 : decode cX11_readAs 81 = .ok (.isub, 1) := by decide +kernel
theorem dX11_readAs_82 : decode cX11_readAs 82 = .ok (.iload_n 1, 1) := by decide +kernel
theorem dX11_readAs_83 : decode cX11_readAs 83 = .ok (.if_icmp .ne 18, 3) := by decide +kernel
theorem dX11_readAs_86 : decode cX11_readAs 86 = .ok (.iload 7, 2) := by decide +kernel
theorem dX11_readAs_88 : decode cX11_readAs 88 = .ok (.invokestatic 201, 3) := by decide +kernel
theorem dX11_readAs_91 : decode cX11_readAs 91 = .ok (.iconst 1, 1) := by decide +kernel
theorem dX11_readAs_92 : decode cX11_readAs 92 = .ok (.isub, 1) := by decide +kernel
theorem dX11_readAs_93 : decode cX11_readAs 93 = .ok (.iload_n 2, 1) := by decide +kernel
theorem dX11_readAs_94 : decode cX11_readAs 94 = .ok (.if_icmp .ne 7, 3) := by decide +kernel
theorem dX11_readAs_97 : decode cX11_readAs 97 = .ok (.iconst 1, 1) := by decide +kernel
theorem dX11_readAs_98 : decode cX11_readAs 98 = .ok (.goto 4, 3) := by decide +kernel
theorem dX11_readAs_101 : decode cX11_readAs 101 = .ok (.iconst 0, 1) := by decide +kernel
theorem dX11_readAs_102 : decode cX11_readAs 102 = .ok (.iadd, 1) := by decide +kernel
theorem dX11_readAs_103 : decode cX11_readAs 103 = .ok (.istore_n 3, 1) := by decide +kernel
theorem dX11_readAs_104 : decode cX11_readAs 104 = .ok (.iinc 5 1, 3) := by decide +kernel
theorem dX11_readAs_107 : decode cX11_readAs 107 = .ok (.goto (-88), 3) := by decide +kernel
theorem dX11_readAs_110 : decode cX11_readAs 110 = .ok (.iinc 4 1, 3) := by decide +kernel
theorem dX11_readAs_113 : decode cX11_readAs 113 = .ok (.goto (-108), 3) := by decide +kernel
theorem dX11_readAs_116 : decode cX11_readAs 116 = .ok (.iload_n 3, 1) := by decide +kernel
theorem dX11_readAs_117 : decode cX11_readAs 117 = .ok (.ireturn, 1) := by decide +kernel
theorem dX11_reads_0 : decode cX11_reads 0 = .ok (.iload_n 1, 1) := by decide +kernel
theorem dX11_reads_1 : decode cX11_reads 1 = .ok (.invokestatic 153, 3) := by decide +kernel
theorem dX11_reads_4 : decode cX11_reads 4 = .ok (.ifCond .eq 10, 3) := by decide +kernel
theorem dX11_reads_7 : decode cX11_reads 7 = .ok (.iload_n 2, 1) := by decide +kernel
theorem dX11_reads_8 : decode cX11_reads 8 = .ok (.invokestatic 153, 3) := by decide +kernel
theorem dX11_reads_11 : decode cX11_reads 11 = .ok (.ifCond .ne 5, 3) := by decide +kernel
theorem dX11_reads_14 : decode cX11_reads 14 = .ok (.iconst (-1), 1) := by decide +kernel
theorem dX11_reads_15 : decode cX11_reads 15 = .ok (.ireturn, 1) := by decide +kernel
theorem dX11_reads_16 : decode cX11_reads 16 = .ok (.aload_n 0, 1) := by decide +kernel
theorem dX11_reads_17 : decode cX11_reads 17 = .ok (.invokevirtual 242, 3) := by decide +kernel
theorem dX11_reads_20 : decode cX11_reads 20 = .ok (.aload_n 0, 1) := by decide +kernel
theorem dX11_reads_21 : decode cX11_reads 21 = .ok (.aload_n 0, 1) := by decide +kernel
theorem dX11_reads_22 : decode cX11_reads 22 = .ok (.getfield 53, 3) := by decide +kernel
theorem dX11_reads_25 : decode cX11_reads 25 = .ok (.invokevirtual 245, 3) := by decide +kernel
theorem dX11_reads_28 : decode cX11_reads 28 = .ok (.aload_n 0, 1) := by decide +kernel
theorem dX11_reads_29 : decode cX11_reads 29 = .ok (.iload_n 1, 1) := by decide +kernel
theorem dX11_reads_30 : decode cX11_reads 30 = .ok (.iload_n 2, 1) := by decide +kernel
theorem dX11_reads_31 : decode cX11_reads 31 = .ok (.invokevirtual 279, 3) := by decide +kernel
theorem dX11_reads_34 : decode cX11_reads 34 = .ok (.ireturn, 1) := by decide +kernel
theorem dX11_blamed_0 : decode cX11_blamed 0 = .ok (.aload_n 0, 1) := by decide +kernel
theorem dX11_blamed_1 : decode cX11_blamed 1 = .ok (.invokevirtual 242, 3) := by decide +kernel
theorem dX11_blamed_4 : decode cX11_blamed 4 = .ok (.aload_n 0, 1) := by decide +kernel
theorem dX11_blamed_5 : decode cX11_blamed 5 = .ok (.aload_n 0, 1) := by decide +kernel
theorem dX11_blamed_6 : decode cX11_blamed 6 = .ok (.getfield 53, 3) := by decide +kernel
theorem dX11_blamed_9 : decode cX11_blamed 9 = .ok (.invokevirtual 245, 3) := by decide +kernel
theorem dX11_blamed_12 : decode cX11_blamed 12 = .ok (.bipush (-4), 2) := by decide +kernel
theorem dX11_blamed_14 : decode cX11_blamed 14 = .ok (.istore_n 1, 1) := by decide +kernel
theorem dX11_blamed_15 : decode cX11_blamed 15 = .ok (.iconst 0, 1) := by decide +kernel
theorem dX11_blamed_16 : decode cX11_blamed 16 = .ok (.istore_n 2, 1) := by decide +kernel
theorem dX11_blamed_17 : decode cX11_blamed 17 = .ok (.iconst 0, 1) := by decide +kernel
theorem dX11_blamed_18 : decode cX11_blamed 18 = .ok (.istore_n 3, 1) := by decide +kernel
theorem dX11_blamed_19 : decode cX11_blamed 19 = .ok (.iload_n 3, 1) := by decide +kernel
theorem dX11_blamed_20 : decode cX11_blamed 20 = .ok (.bipush 64, 2) := by decide +kernel
theorem dX11_blamed_22 : decode cX11_blamed 22 = .ok (.if_icmp .ge 63, 3) := by decide +kernel
theorem dX11_blamed_25 : decode cX11_blamed 25 = .ok (.iload_n 3, 1) := by decide +kernel
theorem dX11_blamed_26 : decode cX11_blamed 26 = .ok (.bipush 8, 2) := by decide +kernel
theorem dX11_blamed_28 : decode cX11_blamed 28 = .ok (.idiv, 1) := by decide +kernel
theorem dX11_blamed_29 : decode cX11_blamed 29 = .ok (.iload_n 3, 1) := by decide +kernel
theorem dX11_blamed_30 : decode cX11_blamed 30 = .ok (.bipush 8, 2) := by decide +kernel
theorem dX11_blamed_32 : decode cX11_blamed 32 = .ok (.irem, 1) := by decide +kernel
theorem dX11_blamed_33 : decode cX11_blamed 33 = .ok (.if_icmp .ne 7, 3) := by decide +kernel
theorem dX11_blamed_36 : decode cX11_blamed 36 = .ok (.iconst 0, 1) := by decide +kernel
theorem dX11_blamed_37 : decode cX11_blamed 37 = .ok (.goto 15, 3) := by decide +kernel
theorem dX11_blamed_40 : decode cX11_blamed 40 = .ok (.aload_n 0, 1) := by decide +kernel
theorem dX11_blamed_41 : decode cX11_blamed 41 = .ok (.iload_n 3, 1) := by decide +kernel
theorem dX11_blamed_42 : decode cX11_blamed 42 = .ok (.bipush 8, 2) := by decide +kernel
theorem dX11_blamed_44 : decode cX11_blamed 44 = .ok (.idiv, 1) := by decide +kernel
theorem dX11_blamed_45 : decode cX11_blamed 45 = .ok (.iload_n 3, 1) := by decide +kernel
theorem dX11_blamed_46 : decode cX11_blamed 46 = .ok (.bipush 8, 2) := by decide +kernel
theorem dX11_blamed_48 : decode cX11_blamed 48 = .ok (.irem, 1) := by decide +kernel
theorem dX11_blamed_49 : decode cX11_blamed 49 = .ok (.invokevirtual 279, 3) := by decide +kernel
theorem dX11_blamed_52 : decode cX11_blamed 52 = .ok (.istore 4, 2) := by decide +kernel
theorem dX11_blamed_54 : decode cX11_blamed 54 = .ok (.iload 4, 2) := by decide +kernel
theorem dX11_blamed_56 : decode cX11_blamed 56 = .ok (.iload_n 2, 1) := by decide +kernel
theorem dX11_blamed_57 : decode cX11_blamed 57 = .ok (.if_icmp .le 7, 3) := by decide +kernel
theorem dX11_blamed_60 : decode cX11_blamed 60 = .ok (.iload_n 3, 1) := by decide +kernel
theorem dX11_blamed_61 : decode cX11_blamed 61 = .ok (.goto 4, 3) := by decide +kernel
theorem dX11_blamed_64 : decode cX11_blamed 64 = .ok (.iload_n 1, 1) := by decide +kernel
theorem dX11_blamed_65 : decode cX11_blamed 65 = .ok (.istore_n 1, 1) := by decide +kernel
theorem dX11_blamed_66 : decode cX11_blamed 66 = .ok (.iload 4, 2) := by decide +kernel
theorem dX11_blamed_68 : decode cX11_blamed 68 = .ok (.iload_n 2, 1) := by decide +kernel
theorem dX11_blamed_69 : decode cX11_blamed 69 = .ok (.if_icmp .le 8, 3) := by decide +kernel
theorem dX11_blamed_72 : decode cX11_blamed 72 = .ok (.iload 4, 2) := by decide +kernel
theorem dX11_blamed_74 : decode cX11_blamed 74 = .ok (.goto 4, 3) := by decide +kernel
theorem dX11_blamed_77 : decode cX11_blamed 77 = .ok (.iload_n 2, 1) := by decide +kernel
theorem dX11_blamed_78 : decode cX11_blamed 78 = .ok (.istore_n 2, 1) := by decide +kernel
theorem dX11_blamed_79 : decode cX11_blamed 79 = .ok (.iinc 3 1, 3) := by decide +kernel
theorem dX11_blamed_82 : decode cX11_blamed 82 = .ok (.goto (-63), 3) := by decide +kernel
theorem dX11_blamed_85 : decode cX11_blamed 85 = .ok (.iload_n 1, 1) := by decide +kernel
theorem dX11_blamed_86 : decode cX11_blamed 86 = .ok (.ireturn, 1) := by decide +kernel
theorem dX11_blame_0 : decode cX11_blame 0 = .ok (.iload_n 1, 1) := by decide +kernel
theorem dX11_blame_1 : decode cX11_blame 1 = .ok (.i2l, 1) := by decide +kernel
theorem dX11_blame_2 : decode cX11_blame 2 = .ok (.lconst 0, 1) := by decide +kernel
theorem dX11_blame_3 : decode cX11_blame 3 = .ok (.ldc2_w 185, 3) := by decide +kernel
theorem dX11_blame_6 : decode cX11_blame 6 = .ok (.invokestatic 85, 3) := by decide +kernel
theorem dX11_blame_9 : decode cX11_blame 9 = .ok (.ifCond .ne 5, 3) := by decide +kernel
theorem dX11_blame_12 : decode cX11_blame 12 = .ok (.iconst (-1), 1) := by decide +kernel
theorem dX11_blame_13 : decode cX11_blame 13 = .ok (.ireturn, 1) := by decide +kernel
theorem dX11_blame_14 : decode cX11_blame 14 = .ok (.aload_n 0, 1) := by decide +kernel
theorem dX11_blame_15 : decode cX11_blame 15 = .ok (.invokevirtual 282, 3) := by decide +kernel
theorem dX11_blame_18 : decode cX11_blame 18 = .ok (.istore_n 2, 1) := by decide +kernel
theorem dX11_blame_19 : decode cX11_blame 19 = .ok (.iload_n 2, 1) := by decide +kernel
theorem dX11_blame_20 : decode cX11_blame 20 = .ok (.bipush (-4), 2) := by decide +kernel
theorem dX11_blame_22 : decode cX11_blame 22 = .ok (.if_icmp .ne 8, 3) := by decide +kernel
theorem dX11_blame_25 : decode cX11_blame 25 = .ok (.bipush (-4), 2) := by decide +kernel
theorem dX11_blame_27 : decode cX11_blame 27 = .ok (.goto 38, 3) := by decide +kernel
theorem dX11_blame_30 : decode cX11_blame 30 = .ok (.iload_n 1, 1) := by decide +kernel
theorem dX11_blame_31 : decode cX11_blame 31 = .ok (.ifCond .ne 10, 3) := by decide +kernel
theorem dX11_blame_34 : decode cX11_blame 34 = .ok (.iload_n 2, 1) := by decide +kernel
theorem dX11_blame_35 : decode cX11_blame 35 = .ok (.bipush 8, 2) := by decide +kernel
theorem dX11_blame_37 : decode cX11_blame 37 = .ok (.idiv, 1) := by decide +kernel
theorem dX11_blame_38 : decode cX11_blame 38 = .ok (.goto 27, 3) := by decide +kernel
theorem dX11_blame_41 : decode cX11_blame 41 = .ok (.iload_n 1, 1) := by decide +kernel
theorem dX11_blame_42 : decode cX11_blame 42 = .ok (.iconst 1, 1) := by decide +kernel
theorem dX11_blame_43 : decode cX11_blame 43 = .ok (.if_icmp .ne 10, 3) := by decide +kernel
theorem dX11_blame_46 : decode cX11_blame 46 = .ok (.iload_n 2, 1) := by decide +kernel
theorem dX11_blame_47 : decode cX11_blame 47 = .ok (.bipush 8, 2) := by decide +kernel
theorem dX11_blame_49 : decode cX11_blame 49 = .ok (.irem, 1) := by decide +kernel
theorem dX11_blame_50 : decode cX11_blame 50 = .ok (.goto 15, 3) := by decide +kernel
theorem dX11_blame_53 : decode cX11_blame 53 = .ok (.aload_n 0, 1) := by decide +kernel
theorem dX11_blame_54 : decode cX11_blame 54 = .ok (.iload_n 2, 1) := by decide +kernel
theorem dX11_blame_55 : decode cX11_blame 55 = .ok (.bipush 8, 2) := by decide +kernel
theorem dX11_blame_57 : decode cX11_blame 57 = .ok (.idiv, 1) := by decide +kernel
theorem dX11_blame_58 : decode cX11_blame 58 = .ok (.iload_n 2, 1) := by decide +kernel
theorem dX11_blame_59 : decode cX11_blame 59 = .ok (.bipush 8, 2) := by decide +kernel
theorem dX11_blame_61 : decode cX11_blame 61 = .ok (.irem, 1) := by decide +kernel
theorem dX11_blame_62 : decode cX11_blame 62 = .ok (.invokevirtual 279, 3) := by decide +kernel
theorem dX11_blame_65 : decode cX11_blame 65 = .ok (.ireturn, 1) := by decide +kernel
theorem dX11_learn_0 : decode cX11_learn 0 = .ok (.iload_n 1, 1) := by decide +kernel
theorem dX11_learn_1 : decode cX11_learn 1 = .ok (.i2l, 1) := by decide +kernel
theorem dX11_learn_2 : decode cX11_learn 2 = .ok (.lconst 0, 1) := by decide +kernel
theorem dX11_learn_3 : decode cX11_learn 3 = .ok (.ldc2_w 285, 3) := by decide +kernel
theorem dX11_learn_6 : decode cX11_learn 6 = .ok (.invokestatic 85, 3) := by decide +kernel
theorem dX11_learn_9 : decode cX11_learn 9 = .ok (.ifCond .ne 5, 3) := by decide +kernel
theorem dX11_learn_12 : decode cX11_learn 12 = .ok (.iconst (-1), 1) := by decide +kernel
theorem dX11_learn_13 : decode cX11_learn 13 = .ok (.ireturn, 1) := by decide +kernel
theorem dX11_learn_14 : decode cX11_learn 14 = .ok (.aload_n 0, 1) := by decide +kernel
theorem dX11_learn_15 : decode cX11_learn 15 = .ok (.invokevirtual 282, 3) := by decide +kernel
theorem dX11_learn_18 : decode cX11_learn 18 = .ok (.istore_n 2, 1) := by decide +kernel
theorem dX11_learn_19 : decode cX11_learn 19 = .ok (.iload_n 2, 1) := by decide +kernel
theorem dX11_learn_20 : decode cX11_learn 20 = .ok (.bipush (-4), 2) := by decide +kernel
theorem dX11_learn_22 : decode cX11_learn 22 = .ok (.if_icmp .ne 6, 3) := by decide +kernel
theorem dX11_learn_25 : decode cX11_learn 25 = .ok (.bipush (-2), 2) := by decide +kernel
theorem dX11_learn_27 : decode cX11_learn 27 = .ok (.ireturn, 1) := by decide +kernel
theorem dX11_learn_28 : decode cX11_learn 28 = .ok (.aload_n 0, 1) := by decide +kernel
theorem dX11_learn_29 : decode cX11_learn 29 = .ok (.getfield 31, 3) := by decide +kernel
theorem dX11_learn_32 : decode cX11_learn 32 = .ok (.iload_n 2, 1) := by decide +kernel
theorem dX11_learn_33 : decode cX11_learn 33 = .ok (.iaload, 1) := by decide +kernel
theorem dX11_learn_34 : decode cX11_learn 34 = .ok (.ifCond .ne 8, 3) := by decide +kernel
theorem dX11_learn_37 : decode cX11_learn 37 = .ok (.bipush (-4), 2) := by decide +kernel
theorem dX11_learn_39 : decode cX11_learn 39 = .ok (.goto 11, 3) := by decide +kernel
theorem dX11_learn_42 : decode cX11_learn 42 = .ok (.aload_n 0, 1) := by decide +kernel
theorem dX11_learn_43 : decode cX11_learn 43 = .ok (.getfield 31, 3) := by decide +kernel
theorem dX11_learn_46 : decode cX11_learn 46 = .ok (.iload_n 2, 1) := by decide +kernel
theorem dX11_learn_47 : decode cX11_learn 47 = .ok (.iaload, 1) := by decide +kernel
theorem dX11_learn_48 : decode cX11_learn 48 = .ok (.iconst 1, 1) := by decide +kernel
theorem dX11_learn_49 : decode cX11_learn 49 = .ok (.isub, 1) := by decide +kernel
theorem dX11_learn_50 : decode cX11_learn 50 = .ok (.istore_n 3, 1) := by decide +kernel
theorem dX11_learn_51 : decode cX11_learn 51 = .ok (.aload_n 0, 1) := by decide +kernel
theorem dX11_learn_52 : decode cX11_learn 52 = .ok (.getfield 31, 3) := by decide +kernel
theorem dX11_learn_55 : decode cX11_learn 55 = .ok (.iload_n 2, 1) := by decide +kernel
theorem dX11_learn_56 : decode cX11_learn 56 = .ok (.iload_n 1, 1) := by decide +kernel
theorem dX11_learn_57 : decode cX11_learn 57 = .ok (.iconst 1, 1) := by decide +kernel
theorem dX11_learn_58 : decode cX11_learn 58 = .ok (.iadd, 1) := by decide +kernel
theorem dX11_learn_59 : decode cX11_learn 59 = .ok (.iastore, 1) := by decide +kernel
theorem dX11_learn_60 : decode cX11_learn 60 = .ok (.iload_n 3, 1) := by decide +kernel
theorem dX11_learn_61 : decode cX11_learn 61 = .ok (.ireturn, 1) := by decide +kernel
theorem dX11_enough_0 : decode cX11_enough 0 = .ok (.iload_n 1, 1) := by decide +kernel
theorem dX11_enough_1 : decode cX11_enough 1 = .ok (.i2l, 1) := by decide +kernel
theorem dX11_enough_2 : decode cX11_enough 2 = .ok (.lconst 0, 1) := by decide +kernel
theorem dX11_enough_3 : decode cX11_enough 3 = .ok (.lconst 1, 1) := by decide +kernel
theorem dX11_enough_4 : decode cX11_enough 4 = .ok (.invokestatic 85, 3) := by decide +kernel
theorem dX11_enough_7 : decode cX11_enough 7 = .ok (.ifCond .ne 5, 3) := by decide +kernel
theorem dX11_enough_10 : decode cX11_enough 10 = .ok (.iconst (-1), 1) := by decide +kernel
theorem dX11_enough_11 : decode cX11_enough 11 = .ok (.ireturn, 1) := by decide +kernel
theorem dX11_enough_12 : decode cX11_enough 12 = .ok (.aload_n 0, 1) := by decide +kernel
theorem dX11_enough_13 : decode cX11_enough 13 = .ok (.invokevirtual 242, 3) := by decide +kernel
theorem dX11_enough_16 : decode cX11_enough 16 = .ok (.aload_n 0, 1) := by decide +kernel
theorem dX11_enough_17 : decode cX11_enough 17 = .ok (.aload_n 0, 1) := by decide +kernel
theorem dX11_enough_18 : decode cX11_enough 18 = .ok (.getfield 53, 3) := by decide +kernel
theorem dX11_enough_21 : decode cX11_enough 21 = .ok (.invokevirtual 245, 3) := by decide +kernel
theorem dX11_enough_24 : decode cX11_enough 24 = .ok (.bipush (-4), 2) := by decide +kernel
theorem dX11_enough_26 : decode cX11_enough 26 = .ok (.istore_n 2, 1) := by decide +kernel
theorem dX11_enough_27 : decode cX11_enough 27 = .ok (.iconst 0, 1) := by decide +kernel
theorem dX11_enough_28 : decode cX11_enough 28 = .ok (.istore_n 3, 1) := by decide +kernel
theorem dX11_enough_29 : decode cX11_enough 29 = .ok (.iload_n 3, 1) := by decide +kernel
theorem dX11_enough_30 : decode cX11_enough 30 = .ok (.bipush 15, 2) := by decide +kernel
theorem dX11_enough_32 : decode cX11_enough 32 = .ok (.if_icmp .gt 120, 3) := by decide +kernel
theorem dX11_enough_35 : decode cX11_enough 35 = .ok (.iload_n 2, 1) := by decide +kernel
theorem dX11_enough_36 : decode cX11_enough 36 = .ok (.bipush (-4), 2) := by decide +kernel
theorem dX11_enough_38 : decode cX11_enough 38 = .ok (.if_icmp .eq 14, 3) := by decide +kernel
theorem dX11_enough_41 : decode cX11_enough 41 = .ok (.iload_n 3, 1) := by decide +kernel
theorem dX11_enough_42 : decode cX11_enough 42 = .ok (.invokestatic 219, 3) := by decide +kernel
theorem dX11_enough_45 : decode cX11_enough 45 = .ok (.iload_n 2, 1) := by decide +kernel
theorem dX11_enough_46 : decode cX11_enough 46 = .ok (.invokestatic 219, 3) := by decide +kernel
theorem dX11_enough_49 : decode cX11_enough 49 = .ok (.if_icmp .ge 97, 3) := by decide +kernel
theorem dX11_enough_52 : decode cX11_enough 52 = .ok (.aload_n 0, 1) := by decide +kernel
theorem dX11_enough_53 : decode cX11_enough 53 = .ok (.iload_n 3, 1) := by decide +kernel
theorem dX11_enough_54 : decode cX11_enough 54 = .ok (.invokevirtual 233, 3) := by decide +kernel
theorem dX11_enough_57 : decode cX11_enough 57 = .ok (.aload_n 0, 1) := by decide +kernel
theorem dX11_enough_58 : decode cX11_enough 58 = .ok (.iconst 0, 1) := by decide +kernel
theorem dX11_enough_59 : decode cX11_enough 59 = .ok (.iconst 0, 1) := by decide +kernel
theorem dX11_enough_60 : decode cX11_enough 60 = .ok (.iconst 0, 1) := by decide +kernel
theorem dX11_enough_61 : decode cX11_enough 61 = .ok (.invokevirtual 236, 3) := by decide +kernel
theorem dX11_enough_64 : decode cX11_enough 64 = .ok (.aload_n 0, 1) := by decide +kernel
theorem dX11_enough_65 : decode cX11_enough 65 = .ok (.aload_n 0, 1) := by decide +kernel
theorem dX11_enough_66 : decode cX11_enough 66 = .ok (.getfield 56, 3) := by decide +kernel
theorem dX11_enough_69 : decode cX11_enough 69 = .ok (.invokevirtual 245, 3) := by decide +kernel
theorem dX11_enough_72 : decode cX11_enough 72 = .ok (.aload_n 0, 1) := by decide +kernel
theorem dX11_enough_73 : decode cX11_enough 73 = .ok (.getfield 44, 3) := by decide +kernel
theorem dX11_enough_76 : decode cX11_enough 76 = .ok (.iconst 0, 1) := by decide +kernel
theorem dX11_enough_77 : decode cX11_enough 77 = .ok (.laload, 1) := by decide +kernel
theorem dX11_enough_78 : decode cX11_enough 78 = .ok (.lconst 1, 1) := by decide +kernel
theorem dX11_enough_79 : decode cX11_enough 79 = .ok (.lcmp, 1) := by decide +kernel
theorem dX11_enough_80 : decode cX11_enough 80 = .ok (.ifCond .ne 7, 3) := by decide +kernel
theorem dX11_enough_83 : decode cX11_enough 83 = .ok (.iconst 1, 1) := by decide +kernel
theorem dX11_enough_84 : decode cX11_enough 84 = .ok (.goto 4, 3) := by decide +kernel
theorem dX11_enough_87 : decode cX11_enough 87 = .ok (.iconst 0, 1) := by decide +kernel
theorem dX11_enough_88 : decode cX11_enough 88 = .ok (.istore 4, 2) := by decide +kernel
theorem dX11_enough_90 : decode cX11_enough 90 = .ok (.iconst 0, 1) := by decide +kernel
theorem dX11_enough_91 : decode cX11_enough 91 = .ok (.istore 5, 2) := by decide +kernel
theorem dX11_enough_93 : decode cX11_enough 93 = .ok (.iload 5, 2) := by decide +kernel
theorem dX11_enough_95 : decode cX11_enough 95 = .ok (.bipush 10, 2) := by decide +kernel
theorem dX11_enough_97 : decode cX11_enough 97 = .ok (.if_icmp .ge 38, 3) := by decide +kernel
theorem dX11_enough_100 : decode cX11_enough 100 = .ok (.iload 4, 2) := by decide +kernel
theorem dX11_enough_102 : decode cX11_enough 102 = .ok (.ifCond .eq 24, 3) := by decide +kernel
theorem dX11_enough_105 : decode cX11_enough 105 = .ok (.aload_n 0, 1) := by decide +kernel
theorem dX11_enough_106 : decode cX11_enough 106 = .ok (.getfield 53, 3) := by decide +kernel
theorem dX11_enough_109 : decode cX11_enough 109 = .ok (.iload 5, 2) := by decide +kernel
theorem dX11_enough_111 : decode cX11_enough 111 = .ok (.iaload, 1) := by decide +kernel
theorem dX11_enough_112 : decode cX11_enough 112 = .ok (.aload_n 0, 1) := by decide +kernel
theorem dX11_enough_113 : decode cX11_enough 113 = .ok (.getfield 56, 3) := by decide +kernel
theorem dX11_enough_116 : decode cX11_enough 116 = .ok (.iload 5, 2) := by decide +kernel
theorem dX11_enough_118 : decode cX11_enough 118 = .ok (.iaload, 1) := by decide +kernel
theorem dX11_enough_119 : decode cX11_enough 119 = .ok (.if_icmp .ne 7, 3) := by decide +kernel
theorem dX11_enough_122 : decode cX11_enough 122 = .ok (.iconst 1, 1) := by decide +kernel
theorem dX11_enough_123 : decode cX11_enough 123 = .ok (.goto 4, 3) := by decide +kernel
theorem dX11_enough_126 : decode cX11_enough 126 = .ok (.iconst 0, 1) := by decide +kernel
theorem dX11_enough_127 : decode cX11_enough 127 = .ok (.istore 4, 2) := by decide +kernel
theorem dX11_enough_129 : decode cX11_enough 129 = .ok (.iinc 5 1, 3) := by decide +kernel
theorem dX11_enough_132 : decode cX11_enough 132 = .ok (.goto (-39), 3) := by decide +kernel
theorem dX11_enough_135 : decode cX11_enough 135 = .ok (.iload 4, 2) := by decide +kernel
theorem dX11_enough_137 : decode cX11_enough 137 = .ok (.ifCond .eq 7, 3) := by decide +kernel
theorem dX11_enough_140 : decode cX11_enough 140 = .ok (.iload_n 3, 1) := by decide +kernel
theorem dX11_enough_141 : decode cX11_enough 141 = .ok (.goto 4, 3) := by decide +kernel
theorem dX11_enough_144 : decode cX11_enough 144 = .ok (.iload_n 2, 1) := by decide +kernel
theorem dX11_enough_145 : decode cX11_enough 145 = .ok (.istore_n 2, 1) := by decide +kernel
theorem dX11_enough_146 : decode cX11_enough 146 = .ok (.iinc 3 1, 3) := by decide +kernel
theorem dX11_enough_149 : decode cX11_enough 149 = .ok (.goto (-120), 3) := by decide +kernel
theorem dX11_enough_152 : decode cX11_enough 152 = .ok (.iload_n 2, 1) := by decide +kernel
theorem dX11_enough_153 : decode cX11_enough 153 = .ok (.bipush (-4), 2) := by decide +kernel
theorem dX11_enough_155 : decode cX11_enough 155 = .ok (.if_icmp .ne 8, 3) := by decide +kernel
theorem dX11_enough_158 : decode cX11_enough 158 = .ok (.bipush (-4), 2) := by decide +kernel
theorem dX11_enough_160 : decode cX11_enough 160 = .ok (.goto 15, 3) := by decide +kernel
theorem dX11_enough_163 : decode cX11_enough 163 = .ok (.iload_n 1, 1) := by decide +kernel
theorem dX11_enough_164 : decode cX11_enough 164 = .ok (.ifCond .ne 10, 3) := by decide +kernel
theorem dX11_enough_167 : decode cX11_enough 167 = .ok (.iload_n 2, 1) := by decide +kernel
theorem dX11_enough_168 : decode cX11_enough 168 = .ok (.invokestatic 219, 3) := by decide +kernel
theorem dX11_enough_171 : decode cX11_enough 171 = .ok (.goto 4, 3) := by decide +kernel
theorem dX11_enough_174 : decode cX11_enough 174 = .ok (.iload_n 2, 1) := by decide +kernel
theorem dX11_enough_175 : decode cX11_enough 175 = .ok (.ireturn, 1) := by decide +kernel
theorem dX11_areOne_0 : decode cX11_areOne 0 = .ok (.aload_n 0, 1) := by decide +kernel
theorem dX11_areOne_1 : decode cX11_areOne 1 = .ok (.iload_n 1, 1) := by decide +kernel
theorem dX11_areOne_2 : decode cX11_areOne 2 = .ok (.iload_n 2, 1) := by decide +kernel
theorem dX11_areOne_3 : decode cX11_areOne 3 = .ok (.iconst 5, 1) := by decide +kernel
theorem dX11_areOne_4 : decode cX11_areOne 4 = .ok (.invokevirtual 181, 3) := by decide +kernel
theorem dX11_areOne_7 : decode cX11_areOne 7 = .ok (.aload_n 0, 1) := by decide +kernel
theorem dX11_areOne_8 : decode cX11_areOne 8 = .ok (.iload_n 1, 1) := by decide +kernel
theorem dX11_areOne_9 : decode cX11_areOne 9 = .ok (.iload_n 3, 1) := by decide +kernel
theorem dX11_areOne_10 : decode cX11_areOne 10 = .ok (.iconst 5, 1) := by decide +kernel
theorem dX11_areOne_11 : decode cX11_areOne 11 = .ok (.invokevirtual 181, 3) := by decide +kernel
theorem dX11_areOne_14 : decode cX11_areOne 14 = .ok (.invokestatic 213, 3) := by decide +kernel
theorem dX11_areOne_17 : decode cX11_areOne 17 = .ok (.ifCond .ne 7, 3) := by decide +kernel
theorem dX11_areOne_20 : decode cX11_areOne 20 = .ok (.iconst 1, 1) := by decide +kernel
theorem dX11_areOne_21 : decode cX11_areOne 21 = .ok (.goto 4, 3) := by decide +kernel
theorem dX11_areOne_24 : decode cX11_areOne 24 = .ok (.iconst 0, 1) := by decide +kernel
theorem dX11_areOne_25 : decode cX11_areOne 25 = .ok (.istore 4, 2) := by decide +kernel
theorem dX11_areOne_27 : decode cX11_areOne 27 = .ok (.iconst 1, 1) := by decide +kernel
theorem dX11_areOne_28 : decode cX11_areOne 28 = .ok (.istore 5, 2) := by decide +kernel
theorem dX11_areOne_30 : decode cX11_areOne 30 = .ok (.iload 5, 2) := by decide +kernel
theorem dX11_areOne_32 : decode cX11_areOne 32 = .ok (.iconst 4, 1) := by decide +kernel
theorem dX11_areOne_33 : decode cX11_areOne 33 = .ok (.if_icmp .gt 68, 3) := by decide +kernel
theorem dX11_areOne_36 : decode cX11_areOne 36 = .ok (.aload_n 0, 1) := by decide +kernel
theorem dX11_areOne_37 : decode cX11_areOne 37 = .ok (.iload_n 1, 1) := by decide +kernel
theorem dX11_areOne_38 : decode cX11_areOne 38 = .ok (.iload_n 2, 1) := by decide +kernel
theorem dX11_areOne_39 : decode cX11_areOne 39 = .ok (.iload 5, 2) := by decide +kernel
theorem dX11_areOne_41 : decode cX11_areOne 41 = .ok (.invokevirtual 181, 3) := by decide +kernel
theorem dX11_areOne_44 : decode cX11_areOne 44 = .ok (.istore 6, 2) := by decide +kernel
theorem dX11_areOne_46 : decode cX11_areOne 46 = .ok (.aload_n 0, 1) := by decide +kernel
theorem dX11_areOne_47 : decode cX11_areOne 47 = .ok (.iload_n 1, 1) := by decide +kernel
theorem dX11_areOne_48 : decode cX11_areOne 48 = .ok (.iload_n 3, 1) := by decide +kernel
theorem dX11_areOne_49 : decode cX11_areOne 49 = .ok (.iload 5, 2) := by decide +kernel
theorem dX11_areOne_51 : decode cX11_areOne 51 = .ok (.invokevirtual 181, 3) := by decide +kernel
theorem dX11_areOne_54 : decode cX11_areOne 54 = .ok (.istore 7, 2) := by decide +kernel
theorem dX11_areOne_56 : decode cX11_areOne 56 = .ok (.iload 4, 2) := by decide +kernel
theorem dX11_areOne_58 : decode cX11_areOne 58 = .ok (.ifCond .eq 34, 3) := by decide +kernel
theorem dX11_areOne_61 : decode cX11_areOne 61 = .ok (.iload 6, 2) := by decide +kernel
theorem dX11_areOne_63 : decode cX11_areOne 63 = .ok (.ifCond .eq 25, 3) := by decide +kernel
theorem dX11_areOne_66 : decode cX11_areOne 66 = .ok (.iload 7, 2) := by decide +kernel
theorem dX11_areOne_68 : decode cX11_areOne 68 = .ok (.ifCond .eq 20, 3) := by decide +kernel
theorem dX11_areOne_71 : decode cX11_areOne 71 = .ok (.iload 6, 2) := by decide +kernel
theorem dX11_areOne_73 : decode cX11_areOne 73 = .ok (.iload 7, 2) := by decide +kernel
theorem dX11_areOne_75 : decode cX11_areOne 75 = .ok (.invokestatic 204, 3) := by decide +kernel
theorem dX11_areOne_78 : decode cX11_areOne 78 = .ok (.ifCond .ne 10, 3) := by decide +kernel
theorem dX11_areOne_81 : decode cX11_areOne 81 = .ok (.iload 6, 2) := by decide +kernel
theorem dX11_areOne_83 : decode cX11_areOne 83 = .ok (.iload 7, 2) := by decide +kernel
theorem dX11_areOne_85 : decode cX11_areOne 85 = .ok (.if_icmp .ne 7, 3) := by decide +kernel
theorem dX11_areOne_88 : decode cX11_areOne 88 = .ok (.iconst 1, 1) := by decide +kernel
theorem dX11_areOne_89 : decode cX11_areOne 89 = .ok (.goto 4, 3) := by decide +kernel
theorem dX11_areOne_92 : decode cX11_areOne 92 = .ok (.iconst 0, 1) := by decide +kernel
theorem dX11_areOne_93 : decode cX11_areOne 93 = .ok (.istore 4, 2) := by decide +kernel
theorem dX11_areOne_95 : decode cX11_areOne 95 = .ok (.iinc 5 1, 3) := by decide +kernel
theorem dX11_areOne_98 : decode cX11_areOne 98 = .ok (.goto (-68), 3) := by decide +kernel
theorem dX11_areOne_101 : decode cX11_areOne 101 = .ok (.iload 4, 2) := by decide +kernel
theorem dX11_areOne_103 : decode cX11_areOne 103 = .ok (.ireturn, 1) := by decide +kernel
theorem dX11_round_0 : decode cX11_round 0 = .ok (.aload_n 0, 1) := by decide +kernel
theorem dX11_round_1 : decode cX11_round 1 = .ok (.iload_n 1, 1) := by decide +kernel
theorem dX11_round_2 : decode cX11_round 2 = .ok (.iload_n 2, 1) := by decide +kernel
theorem dX11_round_3 : decode cX11_round 3 = .ok (.invokevirtual 177, 3) := by decide +kernel
theorem dX11_round_6 : decode cX11_round 6 = .ok (.ifCond .eq 35, 3) := by decide +kernel
theorem dX11_round_9 : decode cX11_round 9 = .ok (.aload_n 0, 1) := by decide +kernel
theorem dX11_round_10 : decode cX11_round 10 = .ok (.iload_n 1, 1) := by decide +kernel
theorem dX11_round_11 : decode cX11_round 11 = .ok (.iload_n 3, 1) := by decide +kernel
theorem dX11_round_12 : decode cX11_round 12 = .ok (.invokevirtual 177, 3) := by decide +kernel
theorem dX11_round_15 : decode cX11_round 15 = .ok (.ifCond .eq 26, 3) := by decide +kernel
theorem dX11_round_18 : decode cX11_round 18 = .ok (.iload_n 2, 1) := by decide +kernel
theorem dX11_round_19 : decode cX11_round 19 = .ok (.iload_n 3, 1) := by decide +kernel
theorem dX11_round_20 : decode cX11_round 20 = .ok (.if_icmp .eq 21, 3) := by decide +kernel
theorem dX11_round_23 : decode cX11_round 23 = .ok (.aload_n 0, 1) := by decide +kernel
theorem dX11_round_24 : decode cX11_round 24 = .ok (.iload_n 1, 1) := by decide +kernel
theorem dX11_round_25 : decode cX11_round 25 = .ok (.iload_n 2, 1) := by decide +kernel
theorem dX11_round_26 : decode cX11_round 26 = .ok (.iload_n 3, 1) := by decide +kernel
theorem dX11_round_27 : decode cX11_round 27 = .ok (.invokevirtual 287, 3) := by decide +kernel
theorem dX11_round_30 : decode cX11_round 30 = .ok (.ifCond .eq 7, 3) := by decide +kernel
theorem dX11_round_33 : decode cX11_round 33 = .ok (.iconst 1, 1) := by decide +kernel
theorem dX11_round_34 : decode cX11_round 34 = .ok (.goto 8, 3) := by decide +kernel
theorem dX11_round_37 : decode cX11_round 37 = .ok (.iconst 0, 1) := by decide +kernel
theorem dX11_round_38 : decode cX11_round 38 = .ok (.goto 4, 3) := by decide +kernel
theorem dX11_round_41 : decode cX11_round 41 = .ok (.iconst (-1), 1) := by decide +kernel
theorem dX11_round_42 : decode cX11_round 42 = .ok (.ireturn, 1) := by decide +kernel
theorem dX11_isOneCar_0 : decode cX11_isOneCar 0 = .ok (.iconst 1, 1) := by decide +kernel
theorem dX11_isOneCar_1 : decode cX11_isOneCar 1 = .ok (.istore_n 3, 1) := by decide +kernel
theorem dX11_isOneCar_2 : decode cX11_isOneCar 2 = .ok (.iconst 0, 1) := by decide +kernel
theorem dX11_isOneCar_3 : decode cX11_isOneCar 3 = .ok (.istore 4, 2) := by decide +kernel
theorem dX11_isOneCar_5 : decode cX11_isOneCar 5 = .ok (.iload 4, 2) := by decide +kernel
theorem dX11_isOneCar_7 : decode cX11_isOneCar 7 = .ok (.bipush 10, 2) := by decide +kernel
theorem dX11_isOneCar_9 : decode cX11_isOneCar 9 = .ok (.if_icmp .ge 68, 3) := by decide +kernel
theorem dX11_isOneCar_12 : decode cX11_isOneCar 12 = .ok (.iload 4, 2) := by decide +kernel
theorem dX11_isOneCar_14 : decode cX11_isOneCar 14 = .ok (.iconst 1, 1) := by decide +kernel
theorem dX11_isOneCar_15 : decode cX11_isOneCar 15 = .ok (.iadd, 1) := by decide +kernel
theorem dX11_isOneCar_16 : decode cX11_isOneCar 16 = .ok (.istore 5, 2) := by decide +kernel
theorem dX11_isOneCar_18 : decode cX11_isOneCar 18 = .ok (.iload 5, 2) := by decide +kernel
theorem dX11_isOneCar_20 : decode cX11_isOneCar 20 = .ok (.bipush 10, 2) := by decide +kernel
theorem dX11_isOneCar_22 : decode cX11_isOneCar 22 = .ok (.if_icmp .ge 49, 3) := by decide +kernel
theorem dX11_isOneCar_25 : decode cX11_isOneCar 25 = .ok (.iload_n 3, 1) := by decide +kernel
theorem dX11_isOneCar_26 : decode cX11_isOneCar 26 = .ok (.ifCond .eq 45, 3) := by decide +kernel
theorem dX11_isOneCar_29 : decode cX11_isOneCar 29 = .ok (.iload_n 2, 1) := by decide +kernel
theorem dX11_isOneCar_30 : decode cX11_isOneCar 30 = .ok (.iload 4, 2) := by decide +kernel
theorem dX11_isOneCar_32 : decode cX11_isOneCar 32 = .ok (.ishr, 1) := by decide +kernel
theorem dX11_isOneCar_33 : decode cX11_isOneCar 33 = .ok (.iconst 1, 1) := by decide +kernel
theorem dX11_isOneCar_34 : decode cX11_isOneCar 34 = .ok (.iand, 1) := by decide +kernel
theorem dX11_isOneCar_35 : decode cX11_isOneCar 35 = .ok (.ifCond .eq 24, 3) := by decide +kernel
theorem dX11_isOneCar_38 : decode cX11_isOneCar 38 = .ok (.iload_n 2, 1) := by decide +kernel
theorem dX11_isOneCar_39 : decode cX11_isOneCar 39 = .ok (.iload 5, 2) := by decide +kernel
theorem dX11_isOneCar_41 : decode cX11_isOneCar 41 = .ok (.ishr, 1) := by decide +kernel
theorem dX11_isOneCar_42 : decode cX11_isOneCar 42 = .ok (.iconst 1, 1) := by decide +kernel
theorem dX11_isOneCar_43 : decode cX11_isOneCar 43 = .ok (.iand, 1) := by decide +kernel
theorem dX11_isOneCar_44 : decode cX11_isOneCar 44 = .ok (.ifCond .eq 15, 3) := by decide +kernel
theorem dX11_isOneCar_47 : decode cX11_isOneCar 47 = .ok (.aload_n 0, 1) := by decide +kernel
theorem dX11_isOneCar_48 : decode cX11_isOneCar 48 = .ok (.iload_n 1, 1) := by decide +kernel
theorem dX11_isOneCar_49 : decode cX11_isOneCar 49 = .ok (.iload 4, 2) := by decide +kernel
theorem dX11_isOneCar_51 : decode cX11_isOneCar 51 = .ok (.iload 5, 2) := by decide +kernel
theorem dX11_isOneCar_53 : decode cX11_isOneCar 53 = .ok (.invokevirtual 287, 3) := by decide +kernel
theorem dX11_isOneCar_56 : decode cX11_isOneCar 56 = .ok (.ifCond .eq 7, 3) := by decide +kernel
theorem dX11_isOneCar_59 : decode cX11_isOneCar 59 = .ok (.iconst 1, 1) := by decide +kernel
theorem dX11_isOneCar_60 : decode cX11_isOneCar 60 = .ok (.goto 4, 3) := by decide +kernel
theorem dX11_isOneCar_63 : decode cX11_isOneCar 63 = .ok (.iconst 0, 1) := by decide +kernel
theorem dX11_isOneCar_64 : decode cX11_isOneCar 64 = .ok (.istore_n 3, 1) := by decide +kernel
theorem dX11_isOneCar_65 : decode cX11_isOneCar 65 = .ok (.iinc 5 1, 3) := by decide +kernel
theorem dX11_isOneCar_68 : decode cX11_isOneCar 68 = .ok (.goto (-50), 3) := by decide +kernel
theorem dX11_isOneCar_71 : decode cX11_isOneCar 71 = .ok (.iinc 4 1, 3) := by decide +kernel
theorem dX11_isOneCar_74 : decode cX11_isOneCar 74 = .ok (.goto (-69), 3) := by decide +kernel
theorem dX11_isOneCar_77 : decode cX11_isOneCar 77 = .ok (.iload_n 3, 1) := by decide +kernel
theorem dX11_isOneCar_78 : decode cX11_isOneCar 78 = .ok (.ireturn, 1) := by decide +kernel
theorem dX11_cars_0 : decode cX11_cars 0 = .ok (.iload_n 1, 1) := by decide +kernel
theorem dX11_cars_1 : decode cX11_cars 1 = .ok (.invokestatic 161, 3) := by decide +kernel
theorem dX11_cars_4 : decode cX11_cars 4 = .ok (.ifCond .eq 13, 3) := by decide +kernel
theorem dX11_cars_7 : decode cX11_cars 7 = .ok (.iload_n 2, 1) := by decide +kernel
theorem dX11_cars_8 : decode cX11_cars 8 = .ok (.i2l, 1) := by decide +kernel
theorem dX11_cars_9 : decode cX11_cars 9 = .ok (.lconst 0, 1) := by decide +kernel
theorem dX11_cars_10 : decode cX11_cars 10 = .ok (.lconst 1, 1) := by decide +kernel
theorem dX11_cars_11 : decode cX11_cars 11 = .ok (.invokestatic 85, 3) := by decide +kernel
theorem dX11_cars_14 : decode cX11_cars 14 = .ok (.ifCond .ne 5, 3) := by decide +kernel
theorem dX11_cars_17 : decode cX11_cars 17 = .ok (.iconst (-1), 1) := by decide +kernel
theorem dX11_cars_18 : decode cX11_cars 18 = .ok (.ireturn, 1) := by decide +kernel
theorem dX11_cars_19 : decode cX11_cars 19 = .ok (.aload_n 0, 1) := by decide +kernel
theorem dX11_cars_20 : decode cX11_cars 20 = .ok (.iload_n 1, 1) := by decide +kernel
theorem dX11_cars_21 : decode cX11_cars 21 = .ok (.iconst 0, 1) := by decide +kernel
theorem dX11_cars_22 : decode cX11_cars 22 = .ok (.invokevirtual 164, 3) := by decide +kernel
theorem dX11_cars_25 : decode cX11_cars 25 = .ok (.istore_n 3, 1) := by decide +kernel
theorem dX11_cars_26 : decode cX11_cars 26 = .ok (.iload_n 2, 1) := by decide +kernel
theorem dX11_cars_27 : decode cX11_cars 27 = .ok (.ifCond .ne 5, 3) := by decide +kernel
theorem dX11_cars_30 : decode cX11_cars 30 = .ok (.iload_n 3, 1) := by decide +kernel
theorem dX11_cars_31 : decode cX11_cars 31 = .ok (.ireturn, 1) := by decide +kernel
theorem dX11_cars_32 : decode cX11_cars 32 = .ok (.iconst 0, 1) := by decide +kernel
theorem dX11_cars_33 : decode cX11_cars 33 = .ok (.istore 4, 2) := by decide +kernel
theorem dX11_cars_35 : decode cX11_cars 35 = .ok (.iload 4, 2) := by decide +kernel
theorem dX11_cars_37 : decode cX11_cars 37 = .ok (.iconst 1, 1) := by decide +kernel
theorem dX11_cars_38 : decode cX11_cars 38 = .ok (.iload_n 3, 1) := by decide +kernel
theorem dX11_cars_39 : decode cX11_cars 39 = .ok (.ishl, 1) := by decide +kernel
theorem dX11_cars_40 : decode cX11_cars 40 = .ok (.if_icmp .ge 23, 3) := by decide +kernel
theorem dX11_cars_43 : decode cX11_cars 43 = .ok (.aload_n 0, 1) := by decide +kernel
theorem dX11_cars_44 : decode cX11_cars 44 = .ok (.getfield 65, 3) := by decide +kernel
theorem dX11_cars_47 : decode cX11_cars 47 = .ok (.iload 4, 2) := by decide +kernel
theorem dX11_cars_49 : decode cX11_cars 49 = .ok (.aload_n 0, 1) := by decide +kernel
theorem dX11_cars_50 : decode cX11_cars 50 = .ok (.iload_n 1, 1) := by decide +kernel
theorem dX11_cars_51 : decode cX11_cars 51 = .ok (.iload 4, 2) := by decide +kernel
theorem dX11_cars_53 : decode cX11_cars 53 = .ok (.invokevirtual 291, 3) := by decide +kernel
theorem dX11_cars_56 : decode cX11_cars 56 = .ok (.bastore, 1) := by decide +kernel
theorem dX11_cars_57 : decode cX11_cars 57 = .ok (.iinc 4 1, 3) := by decide +kernel
theorem dX11_cars_60 : decode cX11_cars 60 = .ok (.goto (-25), 3) := by decide +kernel
theorem dX11_cars_63 : decode cX11_cars 63 = .ok (.iconst 1, 1) := by decide +kernel
theorem dX11_cars_64 : decode cX11_cars 64 = .ok (.istore 4, 2) := by decide +kernel
theorem dX11_cars_66 : decode cX11_cars 66 = .ok (.iload 4, 2) := by decide +kernel
theorem dX11_cars_68 : decode cX11_cars 68 = .ok (.iconst 1, 1) := by decide +kernel
theorem dX11_cars_69 : decode cX11_cars 69 = .ok (.iload_n 3, 1) := by decide +kernel
theorem dX11_cars_70 : decode cX11_cars 70 = .ok (.ishl, 1) := by decide +kernel
theorem dX11_cars_71 : decode cX11_cars 71 = .ok (.if_icmp .ge 117, 3) := by decide +kernel
theorem dX11_cars_74 : decode cX11_cars 74 = .ok (.iload 4, 2) := by decide +kernel
theorem dX11_cars_76 : decode cX11_cars 76 = .ok (.iload 4, 2) := by decide +kernel
theorem dX11_cars_78 : decode cX11_cars 78 = .ok (.ineg, 1) := by decide +kernel
theorem dX11_cars_79 : decode cX11_cars 79 = .ok (.iand, 1) := by decide +kernel
theorem dX11_cars_80 : decode cX11_cars 80 = .ok (.istore 5, 2) := by decide +kernel
theorem dX11_cars_82 : decode cX11_cars 82 = .ok (.aload_n 0, 1) := by decide +kernel
theorem dX11_cars_83 : decode cX11_cars 83 = .ok (.getfield 62, 3) := by decide +kernel
theorem dX11_cars_86 : decode cX11_cars 86 = .ok (.iload 4, 2) := by decide +kernel
theorem dX11_cars_88 : decode cX11_cars 88 = .ok (.bipush 11, 2) := by decide +kernel
theorem dX11_cars_90 : decode cX11_cars 90 = .ok (.iastore, 1) := by decide +kernel
theorem dX11_cars_91 : decode cX11_cars 91 = .ok (.iload 4, 2) := by decide +kernel
theorem dX11_cars_93 : decode cX11_cars 93 = .ok (.istore 6, 2) := by decide +kernel
theorem dX11_cars_95 : decode cX11_cars 95 = .ok (.iload 6, 2) := by decide +kernel
theorem dX11_cars_97 : decode cX11_cars 97 = .ok (.ifCond .le 85, 3) := by decide +kernel
theorem dX11_cars_100 : decode cX11_cars 100 = .ok (.iload 6, 2) := by decide +kernel
theorem dX11_cars_102 : decode cX11_cars 102 = .ok (.iload 5, 2) := by decide +kernel
theorem dX11_cars_104 : decode cX11_cars 104 = .ok (.iand, 1) := by decide +kernel
theorem dX11_cars_105 : decode cX11_cars 105 = .ok (.ifCond .eq 30, 3) := by decide +kernel
theorem dX11_cars_108 : decode cX11_cars 108 = .ok (.aload_n 0, 1) := by decide +kernel
theorem dX11_cars_109 : decode cX11_cars 109 = .ok (.getfield 65, 3) := by decide +kernel
theorem dX11_cars_112 : decode cX11_cars 112 = .ok (.iload 6, 2) := by decide +kernel
theorem dX11_cars_114 : decode cX11_cars 114 = .ok (.baload, 1) := by decide +kernel
theorem dX11_cars_115 : decode cX11_cars 115 = .ok (.ifCond .eq 20, 3) := by decide +kernel
theorem dX11_cars_118 : decode cX11_cars 118 = .ok (.iconst 1, 1) := by decide +kernel
theorem dX11_cars_119 : decode cX11_cars 119 = .ok (.aload_n 0, 1) := by decide +kernel
theorem dX11_cars_120 : decode cX11_cars 120 = .ok (.getfield 62, 3) := by decide +kernel
theorem dX11_cars_123 : decode cX11_cars 123 = .ok (.iload 4, 2) := by decide +kernel
theorem dX11_cars_125 : decode cX11_cars 125 = .ok (.iload 6, 2) := by decide +kernel
theorem dX11_cars_127 : decode cX11_cars 127 = .ok (.iconst (-1), 1) := by decide +kernel
theorem dX11_cars_128 : decode cX11_cars 128 = .ok (.ixor, 1) := by decide +kernel
theorem dX11_cars_129 : decode cX11_cars 129 = .ok (.iand, 1) := by decide +kernel
theorem dX11_cars_130 : decode cX11_cars 130 = .ok (.iaload, 1) := by decide +kernel
theorem dX11_cars_131 : decode cX11_cars 131 = .ok (.iadd, 1) := by decide +kernel
theorem dX11_cars_132 : decode cX11_cars 132 = .ok (.goto 5, 3) := by decide +kernel
theorem dX11_cars_135 : decode cX11_cars 135 = .ok (.bipush 11, 2) := by decide +kernel
theorem dX11_cars_137 : decode cX11_cars 137 = .ok (.istore 7, 2) := by decide +kernel
theorem dX11_cars_139 : decode cX11_cars 139 = .ok (.aload_n 0, 1) := by decide +kernel
theorem dX11_cars_140 : decode cX11_cars 140 = .ok (.getfield 62, 3) := by decide +kernel
theorem dX11_cars_143 : decode cX11_cars 143 = .ok (.iload 4, 2) := by decide +kernel
theorem dX11_cars_145 : decode cX11_cars 145 = .ok (.iload 7, 2) := by decide +kernel
theorem dX11_cars_147 : decode cX11_cars 147 = .ok (.aload_n 0, 1) := by decide +kernel
theorem dX11_cars_148 : decode cX11_cars 148 = .ok (.getfield 62, 3) := by decide +kernel
theorem dX11_cars_151 : decode cX11_cars 151 = .ok (.iload 4, 2) := by decide +kernel
theorem dX11_cars_153 : decode cX11_cars 153 = .ok (.iaload, 1) := by decide +kernel
theorem dX11_cars_154 : decode cX11_cars 154 = .ok (.if_icmp .ge 8, 3) := by decide +kernel
theorem dX11_cars_157 : decode cX11_cars 157 = .ok (.iload 7, 2) := by decide +kernel
theorem dX11_cars_159 : decode cX11_cars 159 = .ok (.goto 10, 3) := by decide +kernel
theorem dX11_cars_162 : decode cX11_cars 162 = .ok (.aload_n 0, 1) := by decide +kernel
theorem dX11_cars_163 : decode cX11_cars 163 = .ok (.getfield 62, 3) := by decide +kernel
theorem dX11_cars_166 : decode cX11_cars 166 = .ok (.iload 4, 2) := by decide +kernel
theorem dX11_cars_168 : decode cX11_cars 168 = .ok (.iaload, 1) := by decide +kernel
theorem dX11_cars_169 : decode cX11_cars 169 = .ok (.iastore, 1) := by decide +kernel
theorem dX11_cars_170 : decode cX11_cars 170 = .ok (.iload 6, 2) := by decide +kernel
theorem dX11_cars_172 : decode cX11_cars 172 = .ok (.iconst 1, 1) := by decide +kernel
theorem dX11_cars_173 : decode cX11_cars 173 = .ok (.isub, 1) := by decide +kernel
theorem dX11_cars_174 : decode cX11_cars 174 = .ok (.iload 4, 2) := by decide +kernel
theorem dX11_cars_176 : decode cX11_cars 176 = .ok (.iand, 1) := by decide +kernel
theorem dX11_cars_177 : decode cX11_cars 177 = .ok (.istore 6, 2) := by decide +kernel
theorem dX11_cars_179 : decode cX11_cars 179 = .ok (.goto (-84), 3) := by decide +kernel
theorem dX11_cars_182 : decode cX11_cars 182 = .ok (.iinc 4 1, 3) := by decide +kernel
theorem dX11_cars_185 : decode cX11_cars 185 = .ok (.goto (-119), 3) := by decide +kernel
theorem dX11_cars_188 : decode cX11_cars 188 = .ok (.iload_n 3, 1) := by decide +kernel
theorem dX11_cars_189 : decode cX11_cars 189 = .ok (.ifCond .ne 7, 3) := by decide +kernel
theorem dX11_cars_192 : decode cX11_cars 192 = .ok (.iconst 0, 1) := by decide +kernel
theorem dX11_cars_193 : decode cX11_cars 193 = .ok (.goto 13, 3) := by decide +kernel
theorem dX11_cars_196 : decode cX11_cars 196 = .ok (.aload_n 0, 1) := by decide +kernel
theorem dX11_cars_197 : decode cX11_cars 197 = .ok (.getfield 62, 3) := by decide +kernel
theorem dX11_cars_200 : decode cX11_cars 200 = .ok (.iconst 1, 1) := by decide +kernel
theorem dX11_cars_201 : decode cX11_cars 201 = .ok (.iload_n 3, 1) := by decide +kernel
theorem dX11_cars_202 : decode cX11_cars 202 = .ok (.ishl, 1) := by decide +kernel
theorem dX11_cars_203 : decode cX11_cars 203 = .ok (.iconst 1, 1) := by decide +kernel
theorem dX11_cars_204 : decode cX11_cars 204 = .ok (.isub, 1) := by decide +kernel
theorem dX11_cars_205 : decode cX11_cars 205 = .ok (.iaload, 1) := by decide +kernel
theorem dX11_cars_206 : decode cX11_cars 206 = .ok (.ireturn, 1) := by decide +kernel
theorem dX11_keep_0 : decode cX11_keep 0 = .ok (.iload_n 1, 1) := by decide +kernel
theorem dX11_keep_1 : decode cX11_keep 1 = .ok (.i2l, 1) := by decide +kernel
theorem dX11_keep_2 : decode cX11_keep 2 = .ok (.lconst 0, 1) := by decide +kernel
theorem dX11_keep_3 : decode cX11_keep 3 = .ok (.lconst 1, 1) := by decide +kernel
theorem dX11_keep_4 : decode cX11_keep 4 = .ok (.invokestatic 85, 3) := by decide +kernel
theorem dX11_keep_7 : decode cX11_keep 7 = .ok (.ifCond .ne 5, 3) := by decide +kernel
theorem dX11_keep_10 : decode cX11_keep 10 = .ok (.iconst (-1), 1) := by decide +kernel
theorem dX11_keep_11 : decode cX11_keep 11 = .ok (.ireturn, 1) := by decide +kernel
theorem dX11_keep_12 : decode cX11_keep 12 = .ok (.iconst 0, 1) := by decide +kernel
theorem dX11_keep_13 : decode cX11_keep 13 = .ok (.istore_n 2, 1) := by decide +kernel
theorem dX11_keep_14 : decode cX11_keep 14 = .ok (.iload_n 2, 1) := by decide +kernel
theorem dX11_keep_15 : decode cX11_keep 15 = .ok (.sipush 220, 3) := by decide +kernel
theorem dX11_keep_18 : decode cX11_keep 18 = .ok (.if_icmp .ge 29, 3) := by decide +kernel
theorem dX11_keep_21 : decode cX11_keep 21 = .ok (.aload_n 0, 1) := by decide +kernel
theorem dX11_keep_22 : decode cX11_keep 22 = .ok (.getfield 31, 3) := by decide +kernel
theorem dX11_keep_25 : decode cX11_keep 25 = .ok (.sipush 220, 3) := by decide +kernel
theorem dX11_keep_28 : decode cX11_keep 28 = .ok (.iload_n 1, 1) := by decide +kernel
theorem dX11_keep_29 : decode cX11_keep 29 = .ok (.iconst 1, 1) := by decide +kernel
theorem dX11_keep_30 : decode cX11_keep 30 = .ok (.iadd, 1) := by decide +kernel
theorem dX11_keep_31 : decode cX11_keep 31 = .ok (.imul, 1) := by decide +kernel
theorem dX11_keep_32 : decode cX11_keep 32 = .ok (.iload_n 2, 1) := by decide +kernel
theorem dX11_keep_33 : decode cX11_keep 33 = .ok (.iadd, 1) := by decide +kernel
theorem dX11_keep_34 : decode cX11_keep 34 = .ok (.aload_n 0, 1) := by decide +kernel
theorem dX11_keep_35 : decode cX11_keep 35 = .ok (.getfield 31, 3) := by decide +kernel
theorem dX11_keep_38 : decode cX11_keep 38 = .ok (.iload_n 2, 1) := by decide +kernel
theorem dX11_keep_39 : decode cX11_keep 39 = .ok (.iaload, 1) := by decide +kernel
theorem dX11_keep_40 : decode cX11_keep 40 = .ok (.iastore, 1) := by decide +kernel
theorem dX11_keep_41 : decode cX11_keep 41 = .ok (.iinc 2 1, 3) := by decide +kernel
theorem dX11_keep_44 : decode cX11_keep 44 = .ok (.goto (-30), 3) := by decide +kernel
theorem dX11_keep_47 : decode cX11_keep 47 = .ok (.iconst 0, 1) := by decide +kernel
theorem dX11_keep_48 : decode cX11_keep 48 = .ok (.istore_n 2, 1) := by decide +kernel
theorem dX11_keep_49 : decode cX11_keep 49 = .ok (.iload_n 2, 1) := by decide +kernel
theorem dX11_keep_50 : decode cX11_keep 50 = .ok (.bipush 10, 2) := by decide +kernel
theorem dX11_keep_52 : decode cX11_keep 52 = .ok (.if_icmp .ge 28, 3) := by decide +kernel
theorem dX11_keep_55 : decode cX11_keep 55 = .ok (.aload_n 0, 1) := by decide +kernel
theorem dX11_keep_56 : decode cX11_keep 56 = .ok (.getfield 22, 3) := by decide +kernel
theorem dX11_keep_59 : decode cX11_keep 59 = .ok (.bipush 10, 2) := by decide +kernel
theorem dX11_keep_61 : decode cX11_keep 61 = .ok (.iload_n 1, 1) := by decide +kernel
theorem dX11_keep_62 : decode cX11_keep 62 = .ok (.iconst 1, 1) := by decide +kernel
theorem dX11_keep_63 : decode cX11_keep 63 = .ok (.iadd, 1) := by decide +kernel
theorem dX11_keep_64 : decode cX11_keep 64 = .ok (.imul, 1) := by decide +kernel
theorem dX11_keep_65 : decode cX11_keep 65 = .ok (.iload_n 2, 1) := by decide +kernel
theorem dX11_keep_66 : decode cX11_keep 66 = .ok (.iadd, 1) := by decide +kernel
theorem dX11_keep_67 : decode cX11_keep 67 = .ok (.aload_n 0, 1) := by decide +kernel
theorem dX11_keep_68 : decode cX11_keep 68 = .ok (.getfield 22, 3) := by decide +kernel
theorem dX11_keep_71 : decode cX11_keep 71 = .ok (.iload_n 2, 1) := by decide +kernel
theorem dX11_keep_72 : decode cX11_keep 72 = .ok (.iaload, 1) := by decide +kernel
theorem dX11_keep_73 : decode cX11_keep 73 = .ok (.iastore, 1) := by decide +kernel
theorem dX11_keep_74 : decode cX11_keep 74 = .ok (.iinc 2 1, 3) := by decide +kernel
theorem dX11_keep_77 : decode cX11_keep 77 = .ok (.goto (-28), 3) := by decide +kernel
theorem dX11_keep_80 : decode cX11_keep 80 = .ok (.aload_n 0, 1) := by decide +kernel
theorem dX11_keep_81 : decode cX11_keep 81 = .ok (.getfield 69, 3) := by decide +kernel
theorem dX11_keep_84 : decode cX11_keep 84 = .ok (.iload_n 1, 1) := by decide +kernel
theorem dX11_keep_85 : decode cX11_keep 85 = .ok (.baload, 1) := by decide +kernel
theorem dX11_keep_86 : decode cX11_keep 86 = .ok (.ifCond .eq 7, 3) := by decide +kernel
theorem dX11_keep_89 : decode cX11_keep 89 = .ok (.iconst 1, 1) := by decide +kernel
theorem dX11_keep_90 : decode cX11_keep 90 = .ok (.goto 4, 3) := by decide +kernel
theorem dX11_keep_93 : decode cX11_keep 93 = .ok (.iconst 0, 1) := by decide +kernel
theorem dX11_keep_94 : decode cX11_keep 94 = .ok (.istore_n 2, 1) := by decide +kernel
theorem dX11_keep_95 : decode cX11_keep 95 = .ok (.aload_n 0, 1) := by decide +kernel
theorem dX11_keep_96 : decode cX11_keep 96 = .ok (.getfield 69, 3) := by decide +kernel
theorem dX11_keep_99 : decode cX11_keep 99 = .ok (.iload_n 1, 1) := by decide +kernel
theorem dX11_keep_100 : decode cX11_keep 100 = .ok (.iconst 1, 1) := by decide +kernel
theorem dX11_keep_101 : decode cX11_keep 101 = .ok (.bastore, 1) := by decide +kernel
theorem dX11_keep_102 : decode cX11_keep 102 = .ok (.iload_n 2, 1) := by decide +kernel
theorem dX11_keep_103 : decode cX11_keep 103 = .ok (.ireturn, 1) := by decide +kernel
theorem dX11_back_0 : decode cX11_back 0 = .ok (.iload_n 1, 1) := by decide +kernel
theorem dX11_back_1 : decode cX11_back 1 = .ok (.i2l, 1) := by decide +kernel
theorem dX11_back_2 : decode cX11_back 2 = .ok (.lconst 0, 1) := by decide +kernel
theorem dX11_back_3 : decode cX11_back 3 = .ok (.lconst 1, 1) := by decide +kernel
theorem dX11_back_4 : decode cX11_back 4 = .ok (.invokestatic 85, 3) := by decide +kernel
theorem dX11_back_7 : decode cX11_back 7 = .ok (.ifCond .ne 5, 3) := by decide +kernel
theorem dX11_back_10 : decode cX11_back 10 = .ok (.iconst (-1), 1) := by decide +kernel
theorem dX11_back_11 : decode cX11_back 11 = .ok (.ireturn, 1) := by decide +kernel
theorem dX11_back_12 : decode cX11_back 12 = .ok (.aload_n 0, 1) := by decide +kernel
theorem dX11_back_13 : decode cX11_back 13 = .ok (.getfield 69, 3) := by decide +kernel
theorem dX11_back_16 : decode cX11_back 16 = .ok (.iload_n 1, 1) := by decide +kernel
theorem dX11_back_17 : decode cX11_back 17 = .ok (.baload, 1) := by decide +kernel
theorem dX11_back_18 : decode cX11_back 18 = .ok (.ifCond .ne 6, 3) := by decide +kernel
theorem dX11_back_21 : decode cX11_back 21 = .ok (.bipush (-2), 2) := by decide +kernel
theorem dX11_back_23 : decode cX11_back 23 = .ok (.ireturn, 1) := by decide +kernel
theorem dX11_back_24 : decode cX11_back 24 = .ok (.iconst 0, 1) := by decide +kernel
theorem dX11_back_25 : decode cX11_back 25 = .ok (.istore_n 2, 1) := by decide +kernel
theorem dX11_back_26 : decode cX11_back 26 = .ok (.iload_n 2, 1) := by decide +kernel
theorem dX11_back_27 : decode cX11_back 27 = .ok (.sipush 220, 3) := by decide +kernel
theorem dX11_back_30 : decode cX11_back 30 = .ok (.if_icmp .ge 29, 3) := by decide +kernel
theorem dX11_back_33 : decode cX11_back 33 = .ok (.aload_n 0, 1) := by decide +kernel
theorem dX11_back_34 : decode cX11_back 34 = .ok (.getfield 31, 3) := by decide +kernel
theorem dX11_back_37 : decode cX11_back 37 = .ok (.iload_n 2, 1) := by decide +kernel
theorem dX11_back_38 : decode cX11_back 38 = .ok (.aload_n 0, 1) := by decide +kernel
theorem dX11_back_39 : decode cX11_back 39 = .ok (.getfield 31, 3) := by decide +kernel
theorem dX11_back_42 : decode cX11_back 42 = .ok (.sipush 220, 3) := by decide +kernel
theorem dX11_back_45 : decode cX11_back 45 = .ok (.iload_n 1, 1) := by decide +kernel
theorem dX11_back_46 : decode cX11_back 46 = .ok (.iconst 1, 1) := by decide +kernel
theorem dX11_back_47 : decode cX11_back 47 = .ok (.iadd, 1) := by decide +kernel
theorem dX11_back_48 : decode cX11_back 48 = .ok (.imul, 1) := by decide +kernel
theorem dX11_back_49 : decode cX11_back 49 = .ok (.iload_n 2, 1) := by decide +kernel
theorem dX11_back_50 : decode cX11_back 50 = .ok (.iadd, 1) := by decide +kernel
theorem dX11_back_51 : decode cX11_back 51 = .ok (.iaload, 1) := by decide +kernel
theorem dX11_back_52 : decode cX11_back 52 = .ok (.iastore, 1) := by decide +kernel
theorem dX11_back_53 : decode cX11_back 53 = .ok (.iinc 2 1, 3) := by decide +kernel
theorem dX11_back_56 : decode cX11_back 56 = .ok (.goto (-30), 3) := by decide +kernel
theorem dX11_back_59 : decode cX11_back 59 = .ok (.iconst 0, 1) := by decide +kernel
theorem dX11_back_60 : decode cX11_back 60 = .ok (.istore_n 2, 1) := by decide +kernel
theorem dX11_back_61 : decode cX11_back 61 = .ok (.iload_n 2, 1) := by decide +kernel
theorem dX11_back_62 : decode cX11_back 62 = .ok (.bipush 10, 2) := by decide +kernel
theorem dX11_back_64 : decode cX11_back 64 = .ok (.if_icmp .ge 28, 3) := by decide +kernel
theorem dX11_back_67 : decode cX11_back 67 = .ok (.aload_n 0, 1) := by decide +kernel
theorem dX11_back_68 : decode cX11_back 68 = .ok (.getfield 22, 3) := by decide +kernel
theorem dX11_back_71 : decode cX11_back 71 = .ok (.iload_n 2, 1) := by decide +kernel
theorem dX11_back_72 : decode cX11_back 72 = .ok (.aload_n 0, 1) := by decide +kernel
theorem dX11_back_73 : decode cX11_back 73 = .ok (.getfield 22, 3) := by decide +kernel
theorem dX11_back_76 : decode cX11_back 76 = .ok (.bipush 10, 2) := by decide +kernel
theorem dX11_back_78 : decode cX11_back 78 = .ok (.iload_n 1, 1) := by decide +kernel
theorem dX11_back_79 : decode cX11_back 79 = .ok (.iconst 1, 1) := by decide +kernel
theorem dX11_back_80 : decode cX11_back 80 = .ok (.iadd, 1) := by decide +kernel
theorem dX11_back_81 : decode cX11_back 81 = .ok (.imul, 1) := by decide +kernel
theorem dX11_back_82 : decode cX11_back 82 = .ok (.iload_n 2, 1) := by decide +kernel
theorem dX11_back_83 : decode cX11_back 83 = .ok (.iadd, 1) := by decide +kernel
theorem dX11_back_84 : decode cX11_back 84 = .ok (.iaload, 1) := by decide +kernel
theorem dX11_back_85 : decode cX11_back 85 = .ok (.iastore, 1) := by decide +kernel
theorem dX11_back_86 : decode cX11_back 86 = .ok (.iinc 2 1, 3) := by decide +kernel
theorem dX11_back_89 : decode cX11_back 89 = .ok (.goto (-28), 3) := by decide +kernel
theorem dX11_back_92 : decode cX11_back 92 = .ok (.aload_n 0, 1) := by decide +kernel
theorem dX11_back_93 : decode cX11_back 93 = .ok (.iconst 0, 1) := by decide +kernel
theorem dX11_back_94 : decode cX11_back 94 = .ok (.iconst 0, 1) := by decide +kernel
theorem dX11_back_95 : decode cX11_back 95 = .ok (.invokevirtual 164, 3) := by decide +kernel
theorem dX11_back_98 : decode cX11_back 98 = .ok (.aload_n 0, 1) := by decide +kernel
theorem dX11_back_99 : decode cX11_back 99 = .ok (.iconst 1, 1) := by decide +kernel
theorem dX11_back_100 : decode cX11_back 100 = .ok (.iconst 0, 1) := by decide +kernel
theorem dX11_back_101 : decode cX11_back 101 = .ok (.invokevirtual 164, 3) := by decide +kernel
theorem dX11_back_104 : decode cX11_back 104 = .ok (.iadd, 1) := by decide +kernel
theorem dX11_back_105 : decode cX11_back 105 = .ok (.ireturn, 1) := by decide +kernel
theorem dX11_sheet_0 : decode cX11_sheet 0 = .ok (.iload_n 1, 1) := by decide +kernel
theorem dX11_sheet_1 : decode cX11_sheet 1 = .ok (.i2l, 1) := by decide +kernel
theorem dX11_sheet_2 : decode cX11_sheet 2 = .ok (.lconst 0, 1) := by decide +kernel
theorem dX11_sheet_3 : decode cX11_sheet 3 = .ok (.ldc2_w 191, 3) := by decide +kernel
theorem dX11_sheet_6 : decode cX11_sheet 6 = .ok (.invokestatic 85, 3) := by decide +kernel
theorem dX11_sheet_9 : decode cX11_sheet 9 = .ok (.ifCond .eq 21, 3) := by decide +kernel
theorem dX11_sheet_12 : decode cX11_sheet 12 = .ok (.iload_n 2, 1) := by decide +kernel
theorem dX11_sheet_13 : decode cX11_sheet 13 = .ok (.i2l, 1) := by decide +kernel
theorem dX11_sheet_14 : decode cX11_sheet 14 = .ok (.lconst 0, 1) := by decide +kernel
theorem dX11_sheet_15 : decode cX11_sheet 15 = .ok (.ldc2_w 185, 3) := by decide +kernel
theorem dX11_sheet_18 : decode cX11_sheet 18 = .ok (.invokestatic 85, 3) := by decide +kernel
theorem dX11_sheet_21 : decode cX11_sheet 21 = .ok (.ifCond .eq 9, 3) := by decide +kernel
theorem dX11_sheet_24 : decode cX11_sheet 24 = .ok (.iload_n 3, 1) := by decide +kernel
theorem dX11_sheet_25 : decode cX11_sheet 25 = .ok (.bipush 64, 2) := by decide +kernel
theorem dX11_sheet_27 : decode cX11_sheet 27 = .ok (.if_icmp .le 5, 3) := by decide +kernel
theorem dX11_sheet_30 : decode cX11_sheet 30 = .ok (.iconst (-1), 1) := by decide +kernel
theorem dX11_sheet_31 : decode cX11_sheet 31 = .ok (.ireturn, 1) := by decide +kernel
theorem dX11_sheet_32 : decode cX11_sheet 32 = .ok (.iload_n 3, 1) := by decide +kernel
theorem dX11_sheet_33 : decode cX11_sheet 33 = .ok (.ifCond .ge 6, 3) := by decide +kernel
theorem dX11_sheet_36 : decode cX11_sheet 36 = .ok (.bipush (-14), 2) := by decide +kernel
theorem dX11_sheet_38 : decode cX11_sheet 38 = .ok (.ireturn, 1) := by decide +kernel
theorem dX11_sheet_39 : decode cX11_sheet 39 = .ok (.aload_n 0, 1) := by decide +kernel
theorem dX11_sheet_40 : decode cX11_sheet 40 = .ok (.getfield 72, 3) := by decide +kernel
theorem dX11_sheet_43 : decode cX11_sheet 43 = .ok (.iload_n 1, 1) := by decide +kernel
theorem dX11_sheet_44 : decode cX11_sheet 44 = .ok (.iload_n 2, 1) := by decide +kernel
theorem dX11_sheet_45 : decode cX11_sheet 45 = .ok (.iastore, 1) := by decide +kernel
theorem dX11_sheet_46 : decode cX11_sheet 46 = .ok (.aload_n 0, 1) := by decide +kernel
theorem dX11_sheet_47 : decode cX11_sheet 47 = .ok (.getfield 75, 3) := by decide +kernel
theorem dX11_sheet_50 : decode cX11_sheet 50 = .ok (.iload_n 1, 1) := by decide +kernel
theorem dX11_sheet_51 : decode cX11_sheet 51 = .ok (.iload_n 3, 1) := by decide +kernel
theorem dX11_sheet_52 : decode cX11_sheet 52 = .ok (.iastore, 1) := by decide +kernel
theorem dX11_sheet_53 : decode cX11_sheet 53 = .ok (.iconst 0, 1) := by decide +kernel
theorem dX11_sheet_54 : decode cX11_sheet 54 = .ok (.istore 4, 2) := by decide +kernel
theorem dX11_sheet_56 : decode cX11_sheet 56 = .ok (.iload 4, 2) := by decide +kernel
theorem dX11_sheet_58 : decode cX11_sheet 58 = .ok (.bipush 64, 2) := by decide +kernel
theorem dX11_sheet_60 : decode cX11_sheet 60 = .ok (.if_icmp .ge 22, 3) := by decide +kernel
theorem dX11_sheet_63 : decode cX11_sheet 63 = .ok (.aload_n 0, 1) := by decide +kernel
theorem dX11_sheet_64 : decode cX11_sheet 64 = .ok (.getfield 78, 3) := by decide +kernel
theorem dX11_sheet_67 : decode cX11_sheet 67 = .ok (.bipush 64, 2) := by decide +kernel
theorem dX11_sheet_69 : decode cX11_sheet 69 = .ok (.iload_n 1, 1) := by decide +kernel
theorem dX11_sheet_70 : decode cX11_sheet 70 = .ok (.imul, 1) := by decide +kernel
theorem dX11_sheet_71 : decode cX11_sheet 71 = .ok (.iload 4, 2) := by decide +kernel
theorem dX11_sheet_73 : decode cX11_sheet 73 = .ok (.iadd, 1) := by decide +kernel
theorem dX11_sheet_74 : decode cX11_sheet 74 = .ok (.iconst 0, 1) := by decide +kernel
theorem dX11_sheet_75 : decode cX11_sheet 75 = .ok (.iastore, 1) := by decide +kernel
theorem dX11_sheet_76 : decode cX11_sheet 76 = .ok (.iinc 4 1, 3) := by decide +kernel
theorem dX11_sheet_79 : decode cX11_sheet 79 = .ok (.goto (-23), 3) := by decide +kernel
theorem dX11_sheet_82 : decode cX11_sheet 82 = .ok (.iconst 1, 1) := by decide +kernel
theorem dX11_sheet_83 : decode cX11_sheet 83 = .ok (.ireturn, 1) := by decide +kernel
theorem dX11_lay_0 : decode cX11_lay 0 = .ok (.iload_n 1, 1) := by decide +kernel
theorem dX11_lay_1 : decode cX11_lay 1 = .ok (.i2l, 1) := by decide +kernel
theorem dX11_lay_2 : decode cX11_lay 2 = .ok (.lconst 0, 1) := by decide +kernel
theorem dX11_lay_3 : decode cX11_lay 3 = .ok (.ldc2_w 191, 3) := by decide +kernel
theorem dX11_lay_6 : decode cX11_lay 6 = .ok (.invokestatic 85, 3) := by decide +kernel
theorem dX11_lay_9 : decode cX11_lay 9 = .ok (.ifCond .ne 5, 3) := by decide +kernel
theorem dX11_lay_12 : decode cX11_lay 12 = .ok (.iconst (-1), 1) := by decide +kernel
theorem dX11_lay_13 : decode cX11_lay 13 = .ok (.ireturn, 1) := by decide +kernel
theorem dX11_lay_14 : decode cX11_lay 14 = .ok (.aload_n 0, 1) := by decide +kernel
theorem dX11_lay_15 : decode cX11_lay 15 = .ok (.getfield 72, 3) := by decide +kernel
theorem dX11_lay_18 : decode cX11_lay 18 = .ok (.iload_n 1, 1) := by decide +kernel
theorem dX11_lay_19 : decode cX11_lay 19 = .ok (.iaload, 1) := by decide +kernel
theorem dX11_lay_20 : decode cX11_lay 20 = .ok (.bipush (-4), 2) := by decide +kernel
theorem dX11_lay_22 : decode cX11_lay 22 = .ok (.if_icmp .ne 6, 3) := by decide +kernel
theorem dX11_lay_25 : decode cX11_lay 25 = .ok (.bipush (-11), 2) := by decide +kernel
theorem dX11_lay_27 : decode cX11_lay 27 = .ok (.ireturn, 1) := by decide +kernel
theorem dX11_lay_28 : decode cX11_lay 28 = .ok (.iload_n 2, 1) := by decide +kernel
theorem dX11_lay_29 : decode cX11_lay 29 = .ok (.i2l, 1) := by decide +kernel
theorem dX11_lay_30 : decode cX11_lay 30 = .ok (.lconst 0, 1) := by decide +kernel
theorem dX11_lay_31 : decode cX11_lay 31 = .ok (.aload_n 0, 1) := by decide +kernel
theorem dX11_lay_32 : decode cX11_lay 32 = .ok (.getfield 75, 3) := by decide +kernel
theorem dX11_lay_35 : decode cX11_lay 35 = .ok (.iload_n 1, 1) := by decide +kernel
theorem dX11_lay_36 : decode cX11_lay 36 = .ok (.iaload, 1) := by decide +kernel
theorem dX11_lay_37 : decode cX11_lay 37 = .ok (.iconst 1, 1) := by decide +kernel
theorem dX11_lay_38 : decode cX11_lay 38 = .ok (.isub, 1) := by decide +kernel
theorem dX11_lay_39 : decode cX11_lay 39 = .ok (.i2l, 1) := by decide +kernel
theorem dX11_lay_40 : decode cX11_lay 40 = .ok (.invokestatic 85, 3) := by decide +kernel
theorem dX11_lay_43 : decode cX11_lay 43 = .ok (.ifCond .ne 6, 3) := by decide +kernel
theorem dX11_lay_46 : decode cX11_lay 46 = .ok (.bipush (-12), 2) := by decide +kernel
theorem dX11_lay_48 : decode cX11_lay 48 = .ok (.ireturn, 1) := by decide +kernel
theorem dX11_lay_49 : decode cX11_lay 49 = .ok (.aload_n 0, 1) := by decide +kernel
theorem dX11_lay_50 : decode cX11_lay 50 = .ok (.getfield 78, 3) := by decide +kernel
theorem dX11_lay_53 : decode cX11_lay 53 = .ok (.bipush 64, 2) := by decide +kernel
theorem dX11_lay_55 : decode cX11_lay 55 = .ok (.iload_n 1, 1) := by decide +kernel
theorem dX11_lay_56 : decode cX11_lay 56 = .ok (.imul, 1) := by decide +kernel
theorem dX11_lay_57 : decode cX11_lay 57 = .ok (.iload_n 2, 1) := by decide +kernel
theorem dX11_lay_58 : decode cX11_lay 58 = .ok (.iadd, 1) := by decide +kernel
theorem dX11_lay_59 : decode cX11_lay 59 = .ok (.aload_n 0, 1) := by decide +kernel
theorem dX11_lay_60 : decode cX11_lay 60 = .ok (.getfield 72, 3) := by decide +kernel
theorem dX11_lay_63 : decode cX11_lay 63 = .ok (.iload_n 1, 1) := by decide +kernel
theorem dX11_lay_64 : decode cX11_lay 64 = .ok (.iaload, 1) := by decide +kernel
theorem dX11_lay_65 : decode cX11_lay 65 = .ok (.ifCond .ne 13, 3) := by decide +kernel
theorem dX11_lay_68 : decode cX11_lay 68 = .ok (.iload_n 3, 1) := by decide +kernel
theorem dX11_lay_69 : decode cX11_lay 69 = .ok (.bipush 24, 2) := by decide +kernel
theorem dX11_lay_71 : decode cX11_lay 71 = .ok (.ishl, 1) := by decide +kernel
theorem dX11_lay_72 : decode cX11_lay 72 = .ok (.bipush 24, 2) := by decide +kernel
theorem dX11_lay_74 : decode cX11_lay 74 = .ok (.ishr, 1) := by decide +kernel
theorem dX11_lay_75 : decode cX11_lay 75 = .ok (.goto 24, 3) := by decide +kernel
theorem dX11_lay_78 : decode cX11_lay 78 = .ok (.aload_n 0, 1) := by decide +kernel
theorem dX11_lay_79 : decode cX11_lay 79 = .ok (.getfield 72, 3) := by decide +kernel
theorem dX11_lay_82 : decode cX11_lay 82 = .ok (.iload_n 1, 1) := by decide +kernel
theorem dX11_lay_83 : decode cX11_lay 83 = .ok (.iaload, 1) := by decide +kernel
theorem dX11_lay_84 : decode cX11_lay 84 = .ok (.iconst 1, 1) := by decide +kernel
theorem dX11_lay_85 : decode cX11_lay 85 = .ok (.if_icmp .ne 13, 3) := by decide +kernel
theorem dX11_lay_88 : decode cX11_lay 88 = .ok (.iload_n 3, 1) := by decide +kernel
theorem dX11_lay_89 : decode cX11_lay 89 = .ok (.bipush 16, 2) := by decide +kernel
theorem dX11_lay_91 : decode cX11_lay 91 = .ok (.ishl, 1) := by decide +kernel
theorem dX11_lay_92 : decode cX11_lay 92 = .ok (.bipush 16, 2) := by decide +kernel
theorem dX11_lay_94 : decode cX11_lay 94 = .ok (.ishr, 1) := by decide +kernel
theorem dX11_lay_95 : decode cX11_lay 95 = .ok (.goto 4, 3) := by decide +kernel
theorem dX11_lay_98 : decode cX11_lay 98 = .ok (.iload_n 3, 1) := by decide +kernel
theorem dX11_lay_99 : decode cX11_lay 99 = .ok (.iastore, 1) := by decide +kernel
theorem dX11_lay_100 : decode cX11_lay 100 = .ok (.iconst 1, 1) := by decide +kernel
theorem dX11_lay_101 : decode cX11_lay 101 = .ok (.ireturn, 1) := by decide +kernel
theorem dX11_isAsTold_0 : decode cX11_isAsTold 0 = .ok (.aload_n 0, 1) := by decide +kernel
theorem dX11_isAsTold_1 : decode cX11_isAsTold 1 = .ok (.getfield 78, 3) := by decide +kernel
theorem dX11_isAsTold_4 : decode cX11_isAsTold 4 = .ok (.iload_n 1, 1) := by decide +kernel
theorem dX11_isAsTold_5 : decode cX11_isAsTold 5 = .ok (.iaload, 1) := by decide +kernel
theorem dX11_isAsTold_6 : decode cX11_isAsTold 6 = .ok (.i2l, 1) := by decide +kernel
theorem dX11_isAsTold_7 : decode cX11_isAsTold 7 = .ok (.lconst 0, 1) := by decide +kernel
theorem dX11_isAsTold_8 : decode cX11_isAsTold 8 = .ok (.ldc2_w 167, 3) := by decide +kernel
theorem dX11_isAsTold_11 : decode cX11_isAsTold 11 = .ok (.invokestatic 85, 3) := by decide +kernel
theorem dX11_isAsTold_14 : decode cX11_isAsTold 14 = .ok (.ifCond .eq 26, 3) := by decide +kernel
theorem dX11_isAsTold_17 : decode cX11_isAsTold 17 = .ok (.aload_n 0, 1) := by decide +kernel
theorem dX11_isAsTold_18 : decode cX11_isAsTold 18 = .ok (.getfield 78, 3) := by decide +kernel
theorem dX11_isAsTold_21 : decode cX11_isAsTold 21 = .ok (.iload_n 1, 1) := by decide +kernel
theorem dX11_isAsTold_22 : decode cX11_isAsTold 22 = .ok (.iconst 5, 1) := by decide +kernel
theorem dX11_isAsTold_23 : decode cX11_isAsTold 23 = .ok (.iadd, 1) := by decide +kernel
theorem dX11_isAsTold_24 : decode cX11_isAsTold 24 = .ok (.iaload, 1) := by decide +kernel
theorem dX11_isAsTold_25 : decode cX11_isAsTold 25 = .ok (.i2l, 1) := by decide +kernel
theorem dX11_isAsTold_26 : decode cX11_isAsTold 26 = .ok (.lconst 0, 1) := by decide +kernel
theorem dX11_isAsTold_27 : decode cX11_isAsTold 27 = .ok (.ldc2_w 171, 3) := by decide +kernel
theorem dX11_isAsTold_30 : decode cX11_isAsTold 30 = .ok (.invokestatic 85, 3) := by decide +kernel
theorem dX11_isAsTold_33 : decode cX11_isAsTold 33 = .ok (.ifCond .eq 7, 3) := by decide +kernel
theorem dX11_isAsTold_36 : decode cX11_isAsTold 36 = .ok (.iconst 1, 1) := by decide +kernel
theorem dX11_isAsTold_37 : decode cX11_isAsTold 37 = .ok (.goto 4, 3) := by decide +kernel
theorem dX11_isAsTold_40 : decode cX11_isAsTold 40 = .ok (.iconst 0, 1) := by decide +kernel
theorem dX11_isAsTold_41 : decode cX11_isAsTold 41 = .ok (.istore_n 2, 1) := by decide +kernel
theorem dX11_isAsTold_42 : decode cX11_isAsTold 42 = .ok (.iconst 1, 1) := by decide +kernel
theorem dX11_isAsTold_43 : decode cX11_isAsTold 43 = .ok (.istore_n 3, 1) := by decide +kernel
theorem dX11_isAsTold_44 : decode cX11_isAsTold 44 = .ok (.iload_n 3, 1) := by decide +kernel
theorem dX11_isAsTold_45 : decode cX11_isAsTold 45 = .ok (.iconst 4, 1) := by decide +kernel
theorem dX11_isAsTold_46 : decode cX11_isAsTold 46 = .ok (.if_icmp .gt 38, 3) := by decide +kernel
theorem dX11_isAsTold_49 : decode cX11_isAsTold 49 = .ok (.iload_n 2, 1) := by decide +kernel
theorem dX11_isAsTold_50 : decode cX11_isAsTold 50 = .ok (.ifCond .eq 26, 3) := by decide +kernel
theorem dX11_isAsTold_53 : decode cX11_isAsTold 53 = .ok (.aload_n 0, 1) := by decide +kernel
theorem dX11_isAsTold_54 : decode cX11_isAsTold 54 = .ok (.getfield 78, 3) := by decide +kernel
theorem dX11_isAsTold_57 : decode cX11_isAsTold 57 = .ok (.iload_n 1, 1) := by decide +kernel
theorem dX11_isAsTold_58 : decode cX11_isAsTold 58 = .ok (.iload_n 3, 1) := by decide +kernel
theorem dX11_isAsTold_59 : decode cX11_isAsTold 59 = .ok (.iadd, 1) := by decide +kernel
theorem dX11_isAsTold_60 : decode cX11_isAsTold 60 = .ok (.iaload, 1) := by decide +kernel
theorem dX11_isAsTold_61 : decode cX11_isAsTold 61 = .ok (.i2l, 1) := by decide +kernel
theorem dX11_isAsTold_62 : decode cX11_isAsTold 62 = .ok (.lconst 0, 1) := by decide +kernel
theorem dX11_isAsTold_63 : decode cX11_isAsTold 63 = .ok (.ldc2_w 193, 3) := by decide +kernel
theorem dX11_isAsTold_66 : decode cX11_isAsTold 66 = .ok (.invokestatic 85, 3) := by decide +kernel
theorem dX11_isAsTold_69 : decode cX11_isAsTold 69 = .ok (.ifCond .eq 7, 3) := by decide +kernel
theorem dX11_isAsTold_72 : decode cX11_isAsTold 72 = .ok (.iconst 1, 1) := by decide +kernel
theorem dX11_isAsTold_73 : decode cX11_isAsTold 73 = .ok (.goto 4, 3) := by decide +kernel
theorem dX11_isAsTold_76 : decode cX11_isAsTold 76 = .ok (.iconst 0, 1) := by decide +kernel
theorem dX11_isAsTold_77 : decode cX11_isAsTold 77 = .ok (.istore_n 2, 1) := by decide +kernel
theorem dX11_isAsTold_78 : decode cX11_isAsTold 78 = .ok (.iinc 3 1, 3) := by decide +kernel
theorem dX11_isAsTold_81 : decode cX11_isAsTold 81 = .ok (.goto (-37), 3) := by decide +kernel
theorem dX11_isAsTold_84 : decode cX11_isAsTold 84 = .ok (.iload_n 2, 1) := by decide +kernel
theorem dX11_isAsTold_85 : decode cX11_isAsTold 85 = .ok (.ireturn, 1) := by decide +kernel
theorem dX11_read_0 : decode cX11_read 0 = .ok (.iload_n 1, 1) := by decide +kernel
theorem dX11_read_1 : decode cX11_read 1 = .ok (.i2l, 1) := by decide +kernel
theorem dX11_read_2 : decode cX11_read 2 = .ok (.lconst 0, 1) := by decide +kernel
theorem dX11_read_3 : decode cX11_read 3 = .ok (.ldc2_w 191, 3) := by decide +kernel
theorem dX11_read_6 : decode cX11_read 6 = .ok (.invokestatic 85, 3) := by decide +kernel
theorem dX11_read_9 : decode cX11_read 9 = .ok (.ifCond .eq 36, 3) := by decide +kernel
theorem dX11_read_12 : decode cX11_read 12 = .ok (.iload_n 2, 1) := by decide +kernel
theorem dX11_read_13 : decode cX11_read 13 = .ok (.i2l, 1) := by decide +kernel
theorem dX11_read_14 : decode cX11_read 14 = .ok (.lconst 0, 1) := by decide +kernel
theorem dX11_read_15 : decode cX11_read 15 = .ok (.ldc2_w 185, 3) := by decide +kernel
theorem dX11_read_18 : decode cX11_read 18 = .ok (.invokestatic 85, 3) := by decide +kernel
theorem dX11_read_21 : decode cX11_read 21 = .ok (.ifCond .eq 24, 3) := by decide +kernel
theorem dX11_read_24 : decode cX11_read 24 = .ok (.iload 4, 2) := by decide +kernel
theorem dX11_read_26 : decode cX11_read 26 = .ok (.i2l, 1) := by decide +kernel
theorem dX11_read_27 : decode cX11_read 27 = .ok (.lconst 0, 1) := by decide +kernel
theorem dX11_read_28 : decode cX11_read 28 = .ok (.ldc2_w 187, 3) := by decide +kernel
theorem dX11_read_31 : decode cX11_read 31 = .ok (.invokestatic 85, 3) := by decide +kernel
theorem dX11_read_34 : decode cX11_read 34 = .ok (.ifCond .eq 11, 3) := by decide +kernel
theorem dX11_read_37 : decode cX11_read 37 = .ok (.iload 5, 2) := by decide +kernel
theorem dX11_read_39 : decode cX11_read 39 = .ok (.invokestatic 161, 3) := by decide +kernel
theorem dX11_read_42 : decode cX11_read 42 = .ok (.ifCond .ne 5, 3) := by decide +kernel
theorem dX11_read_45 : decode cX11_read 45 = .ok (.iconst (-1), 1) := by decide +kernel
theorem dX11_read_46 : decode cX11_read 46 = .ok (.ireturn, 1) := by decide +kernel
theorem dX11_read_47 : decode cX11_read 47 = .ok (.iconst 0, 1) := by decide +kernel
theorem dX11_read_48 : decode cX11_read 48 = .ok (.istore 6, 2) := by decide +kernel
theorem dX11_read_50 : decode cX11_read 50 = .ok (.iconst 0, 1) := by decide +kernel
theorem dX11_read_51 : decode cX11_read 51 = .ok (.istore 7, 2) := by decide +kernel
theorem dX11_read_53 : decode cX11_read 53 = .ok (.iconst 0, 1) := by decide +kernel
theorem dX11_read_54 : decode cX11_read 54 = .ok (.istore 8, 2) := by decide +kernel
theorem dX11_read_56 : decode cX11_read 56 = .ok (.iload 8, 2) := by decide +kernel
theorem dX11_read_58 : decode cX11_read 58 = .ok (.bipush 6, 2) := by decide +kernel
theorem dX11_read_60 : decode cX11_read 60 = .ok (.iload 4, 2) := by decide +kernel
theorem dX11_read_62 : decode cX11_read 62 = .ok (.imul, 1) := by decide +kernel
theorem dX11_read_63 : decode cX11_read 63 = .ok (.if_icmp .ge 129, 3) := by decide +kernel
theorem dX11_read_66 : decode cX11_read 66 = .ok (.iload 6, 2) := by decide +kernel
theorem dX11_read_68 : decode cX11_read 68 = .ok (.ifCond .ne 124, 3) := by decide +kernel
theorem dX11_read_71 : decode cX11_read 71 = .ok (.aload_n 0, 1) := by decide +kernel
theorem dX11_read_72 : decode cX11_read 72 = .ok (.getfield 72, 3) := by decide +kernel
theorem dX11_read_75 : decode cX11_read 75 = .ok (.iload_n 1, 1) := by decide +kernel
theorem dX11_read_76 : decode cX11_read 76 = .ok (.iaload, 1) := by decide +kernel
theorem dX11_read_77 : decode cX11_read 77 = .ok (.bipush (-4), 2) := by decide +kernel
theorem dX11_read_79 : decode cX11_read 79 = .ok (.if_icmp .ne 7, 3) := by decide +kernel
theorem dX11_read_82 : decode cX11_read 82 = .ok (.iconst 1, 1) := by decide +kernel
theorem dX11_read_83 : decode cX11_read 83 = .ok (.goto 44, 3) := by decide +kernel
theorem dX11_read_86 : decode cX11_read 86 = .ok (.aload_n 0, 1) := by decide +kernel
theorem dX11_read_87 : decode cX11_read 87 = .ok (.getfield 72, 3) := by decide +kernel
theorem dX11_read_90 : decode cX11_read 90 = .ok (.iload_n 1, 1) := by decide +kernel
theorem dX11_read_91 : decode cX11_read 91 = .ok (.iaload, 1) := by decide +kernel
theorem dX11_read_92 : decode cX11_read 92 = .ok (.iload_n 2, 1) := by decide +kernel
theorem dX11_read_93 : decode cX11_read 93 = .ok (.if_icmp .eq 7, 3) := by decide +kernel
theorem dX11_read_96 : decode cX11_read 96 = .ok (.iconst 3, 1) := by decide +kernel
theorem dX11_read_97 : decode cX11_read 97 = .ok (.goto 30, 3) := by decide +kernel
theorem dX11_read_100 : decode cX11_read 100 = .ok (.iload_n 3, 1) := by decide +kernel
theorem dX11_read_101 : decode cX11_read 101 = .ok (.i2l, 1) := by decide +kernel
theorem dX11_read_102 : decode cX11_read 102 = .ok (.iload 8, 2) := by decide +kernel
theorem dX11_read_104 : decode cX11_read 104 = .ok (.i2l, 1) := by decide +kernel
theorem dX11_read_105 : decode cX11_read 105 = .ok (.ladd, 1) := by decide +kernel
theorem dX11_read_106 : decode cX11_read 106 = .ok (.lconst 0, 1) := by decide +kernel
theorem dX11_read_107 : decode cX11_read 107 = .ok (.aload_n 0, 1) := by decide +kernel
theorem dX11_read_108 : decode cX11_read 108 = .ok (.getfield 75, 3) := by decide +kernel
theorem dX11_read_111 : decode cX11_read 111 = .ok (.iload_n 1, 1) := by decide +kernel
theorem dX11_read_112 : decode cX11_read 112 = .ok (.iaload, 1) := by decide +kernel
theorem dX11_read_113 : decode cX11_read 113 = .ok (.iconst 1, 1) := by decide +kernel
theorem dX11_read_114 : decode cX11_read 114 = .ok (.isub, 1) := by decide +kernel
theorem dX11_read_115 : decode cX11_read 115 = .ok (.i2l, 1) := by decide +kernel
theorem dX11_read_116 : decode cX11_read 116 = .ok (.invokestatic 85, 3) := by decide +kernel
theorem dX11_read_119 : decode cX11_read 119 = .ok (.ifCond .ne 7, 3) := by decide +kernel
theorem dX11_read_122 : decode cX11_read 122 = .ok (.iconst 2, 1) := by decide +kernel
theorem dX11_read_123 : decode cX11_read 123 = .ok (.goto 4, 3) := by decide +kernel
theorem dX11_read_126 : decode cX11_read 126 = .ok (.iconst 0, 1) := by decide +kernel
theorem dX11_read_127 : decode cX11_read 127 = .ok (.istore 6, 2) := by decide +kernel
theorem dX11_read_129 : decode cX11_read 129 = .ok (.iload 6, 2) := by decide +kernel
theorem dX11_read_131 : decode cX11_read 131 = .ok (.ifCond .ne 55, 3) := by decide +kernel
theorem dX11_read_134 : decode cX11_read 134 = .ok (.iload 8, 2) := by decide +kernel
theorem dX11_read_136 : decode cX11_read 136 = .ok (.bipush 6, 2) := by decide +kernel
theorem dX11_read_138 : decode cX11_read 138 = .ok (.irem, 1) := by decide +kernel
theorem dX11_read_139 : decode cX11_read 139 = .ok (.iconst 5, 1) := by decide +kernel
theorem dX11_read_140 : decode cX11_read 140 = .ok (.if_icmp .ne 46, 3) := by decide +kernel
theorem dX11_read_143 : decode cX11_read 143 = .ok (.aload_n 0, 1) := by decide +kernel
theorem dX11_read_144 : decode cX11_read 144 = .ok (.bipush 64, 2) := by decide +kernel
theorem dX11_read_146 : decode cX11_read 146 = .ok (.iload_n 1, 1) := by decide +kernel
theorem dX11_read_147 : decode cX11_read 147 = .ok (.imul, 1) := by decide +kernel
theorem dX11_read_148 : decode cX11_read 148 = .ok (.iload_n 3, 1) := by decide +kernel
theorem dX11_read_149 : decode cX11_read 149 = .ok (.iadd, 1) := by decide +kernel
theorem dX11_read_150 : decode cX11_read 150 = .ok (.iload 8, 2) := by decide +kernel
theorem dX11_read_152 : decode cX11_read 152 = .ok (.iadd, 1) := by decide +kernel
theorem dX11_read_153 : decode cX11_read 153 = .ok (.iconst 5, 1) := by decide +kernel
theorem dX11_read_154 : decode cX11_read 154 = .ok (.isub, 1) := by decide +kernel
theorem dX11_read_155 : decode cX11_read 155 = .ok (.invokevirtual 294, 3) := by decide +kernel
theorem dX11_read_158 : decode cX11_read 158 = .ok (.ifCond .ne 9, 3) := by decide +kernel
theorem dX11_read_161 : decode cX11_read 161 = .ok (.bipush (-20), 2) := by decide +kernel
theorem dX11_read_163 : decode cX11_read 163 = .ok (.iload 7, 2) := by decide +kernel
theorem dX11_read_165 : decode cX11_read 165 = .ok (.isub, 1) := by decide +kernel
theorem dX11_read_166 : decode cX11_read 166 = .ok (.ireturn, 1) := by decide +kernel
theorem dX11_read_167 : decode cX11_read 167 = .ok (.aload_n 0, 1) := by decide +kernel
theorem dX11_read_168 : decode cX11_read 168 = .ok (.iload 5, 2) := by decide +kernel
theorem dX11_read_170 : decode cX11_read 170 = .ok (.iload 7, 2) := by decide +kernel
theorem dX11_read_172 : decode cX11_read 172 = .ok (.invokevirtual 164, 3) := by decide +kernel
theorem dX11_read_175 : decode cX11_read 175 = .ok (.bipush 10, 2) := by decide +kernel
theorem dX11_read_177 : decode cX11_read 177 = .ok (.if_icmp .ne 6, 3) := by decide +kernel
theorem dX11_read_180 : decode cX11_read 180 = .ok (.bipush (-3), 2) := by decide +kernel
theorem dX11_read_182 : decode cX11_read 182 = .ok (.ireturn, 1) := by decide +kernel
theorem dX11_read_183 : decode cX11_read 183 = .ok (.iinc 7 1, 3) := by decide +kernel
theorem dX11_read_186 : decode cX11_read 186 = .ok (.iinc 8 1, 3) := by decide +kernel
theorem dX11_read_189 : decode cX11_read 189 = .ok (.goto (-133), 3) := by decide +kernel
theorem dX11_read_192 : decode cX11_read 192 = .ok (.iconst 0, 1) := by decide +kernel
theorem dX11_read_193 : decode cX11_read 193 = .ok (.istore 8, 2) := by decide +kernel
theorem dX11_read_195 : decode cX11_read 195 = .ok (.iload 8, 2) := by decide +kernel
theorem dX11_read_197 : decode cX11_read 197 = .ok (.iload 7, 2) := by decide +kernel
theorem dX11_read_199 : decode cX11_read 199 = .ok (.if_icmp .ge 74, 3) := by decide +kernel
theorem dX11_read_202 : decode cX11_read 202 = .ok (.iconst 0, 1) := by decide +kernel
theorem dX11_read_203 : decode cX11_read 203 = .ok (.istore 9, 2) := by decide +kernel
theorem dX11_read_205 : decode cX11_read 205 = .ok (.iload 9, 2) := by decide +kernel
theorem dX11_read_207 : decode cX11_read 207 = .ok (.bipush 6, 2) := by decide +kernel
theorem dX11_read_209 : decode cX11_read 209 = .ok (.if_icmp .ge 44, 3) := by decide +kernel
theorem dX11_read_212 : decode cX11_read 212 = .ok (.aload_n 0, 1) := by decide +kernel
theorem dX11_read_213 : decode cX11_read 213 = .ok (.iload 5, 2) := by decide +kernel
theorem dX11_read_215 : decode cX11_read 215 = .ok (.aload_n 0, 1) := by decide +kernel
theorem dX11_read_216 : decode cX11_read 216 = .ok (.iload 5, 2) := by decide +kernel
theorem dX11_read_218 : decode cX11_read 218 = .ok (.iconst 0, 1) := by decide +kernel
theorem dX11_read_219 : decode cX11_read 219 = .ok (.invokevirtual 164, 3) := by decide +kernel
theorem dX11_read_222 : decode cX11_read 222 = .ok (.iload 9, 2) := by decide +kernel
theorem dX11_read_224 : decode cX11_read 224 = .ok (.aload_n 0, 1) := by decide +kernel
theorem dX11_read_225 : decode cX11_read 225 = .ok (.getfield 78, 3) := by decide +kernel
theorem dX11_read_228 : decode cX11_read 228 = .ok (.bipush 64, 2) := by decide +kernel
theorem dX11_read_230 : decode cX11_read 230 = .ok (.iload_n 1, 1) := by decide +kernel
theorem dX11_read_231 : decode cX11_read 231 = .ok (.imul, 1) := by decide +kernel
theorem dX11_read_232 : decode cX11_read 232 = .ok (.iload_n 3, 1) := by decide +kernel
theorem dX11_read_233 : decode cX11_read 233 = .ok (.iadd, 1) := by decide +kernel
theorem dX11_read_234 : decode cX11_read 234 = .ok (.bipush 6, 2) := by decide +kernel
theorem dX11_read_236 : decode cX11_read 236 = .ok (.iload 8, 2) := by decide +kernel
theorem dX11_read_238 : decode cX11_read 238 = .ok (.imul, 1) := by decide +kernel
theorem dX11_read_239 : decode cX11_read 239 = .ok (.iadd, 1) := by decide +kernel
theorem dX11_read_240 : decode cX11_read 240 = .ok (.iload 9, 2) := by decide +kernel
theorem dX11_read_242 : decode cX11_read 242 = .ok (.iadd, 1) := by decide +kernel
theorem dX11_read_243 : decode cX11_read 243 = .ok (.iaload, 1) := by decide +kernel
theorem dX11_read_244 : decode cX11_read 244 = .ok (.invokevirtual 173, 3) := by decide +kernel
theorem dX11_read_247 : decode cX11_read 247 = .ok (.iinc 9 1, 3) := by decide +kernel
theorem dX11_read_250 : decode cX11_read 250 = .ok (.goto (-45), 3) := by decide +kernel
theorem dX11_read_253 : decode cX11_read 253 = .ok (.aload_n 0, 1) := by decide +kernel
theorem dX11_read_254 : decode cX11_read 254 = .ok (.getfield 31, 3) := by decide +kernel
theorem dX11_read_257 : decode cX11_read 257 = .ok (.bipush 64, 2) := by decide +kernel
theorem dX11_read_259 : decode cX11_read 259 = .ok (.iload 5, 2) := by decide +kernel
theorem dX11_read_261 : decode cX11_read 261 = .ok (.iadd, 1) := by decide +kernel
theorem dX11_read_262 : decode cX11_read 262 = .ok (.dup2, 1) := by decide +kernel
theorem dX11_read_263 : decode cX11_read 263 = .ok (.iaload, 1) := by decide +kernel
theorem dX11_read_264 : decode cX11_read 264 = .ok (.iconst 1, 1) := by decide +kernel
theorem dX11_read_265 : decode cX11_read 265 = .ok (.iadd, 1) := by decide +kernel
theorem dX11_read_266 : decode cX11_read 266 = .ok (.iastore, 1) := by decide +kernel
theorem dX11_read_267 : decode cX11_read 267 = .ok (.iinc 8 1, 3) := by decide +kernel
theorem dX11_read_270 : decode cX11_read 270 = .ok (.goto (-75), 3) := by decide +kernel
theorem dX11_read_273 : decode cX11_read 273 = .ok (.aload_n 0, 1) := by decide +kernel
theorem dX11_read_274 : decode cX11_read 274 = .ok (.iload 6, 2) := by decide +kernel
theorem dX11_read_276 : decode cX11_read 276 = .ok (.putfield 297, 3) := by decide +kernel
theorem dX11_read_279 : decode cX11_read 279 = .ok (.iload 7, 2) := by decide +kernel
theorem dX11_read_281 : decode cX11_read 281 = .ok (.ireturn, 1) := by decide +kernel
theorem dX11_torn_0 : decode cX11_torn 0 = .ok (.aload_n 0, 1) := by decide +kernel
theorem dX11_torn_1 : decode cX11_torn 1 = .ok (.getfield 297, 3) := by decide +kernel
theorem dX11_torn_4 : decode cX11_torn 4 = .ok (.ireturn, 1) := by decide +kernel
theorem dX11_count_0 : decode cX11_count 0 = .ok (.iconst 0, 1) := by decide +kernel
theorem dX11_count_1 : decode cX11_count 1 = .ok (.istore_n 2, 1) := by decide +kernel
theorem dX11_count_2 : decode cX11_count 2 = .ok (.iconst 0, 1) := by decide +kernel
theorem dX11_count_3 : decode cX11_count 3 = .ok (.istore_n 3, 1) := by decide +kernel
theorem dX11_count_4 : decode cX11_count 4 = .ok (.iload_n 3, 1) := by decide +kernel
theorem dX11_count_5 : decode cX11_count 5 = .ok (.aload_n 0, 1) := by decide +kernel
theorem dX11_count_6 : decode cX11_count 6 = .ok (.iconst 0, 1) := by decide +kernel
theorem dX11_count_7 : decode cX11_count 7 = .ok (.iconst 0, 1) := by decide +kernel
theorem dX11_count_8 : decode cX11_count 8 = .ok (.invokevirtual 164, 3) := by decide +kernel
theorem dX11_count_11 : decode cX11_count 11 = .ok (.if_icmp .ge 51, 3) := by decide +kernel
theorem dX11_count_14 : decode cX11_count 14 = .ok (.iconst 0, 1) := by decide +kernel
theorem dX11_count_15 : decode cX11_count 15 = .ok (.istore 4, 2) := by decide +kernel
theorem dX11_count_17 : decode cX11_count 17 = .ok (.iload 4, 2) := by decide +kernel
theorem dX11_count_19 : decode cX11_count 19 = .ok (.aload_n 0, 1) := by decide +kernel
theorem dX11_count_20 : decode cX11_count 20 = .ok (.iconst 1, 1) := by decide +kernel
theorem dX11_count_21 : decode cX11_count 21 = .ok (.iconst 0, 1) := by decide +kernel
theorem dX11_count_22 : decode cX11_count 22 = .ok (.invokevirtual 164, 3) := by decide +kernel
theorem dX11_count_25 : decode cX11_count 25 = .ok (.if_icmp .ge 31, 3) := by decide +kernel
theorem dX11_count_28 : decode cX11_count 28 = .ok (.iload_n 2, 1) := by decide +kernel
theorem dX11_count_29 : decode cX11_count 29 = .ok (.aload_n 0, 1) := by decide +kernel
theorem dX11_count_30 : decode cX11_count 30 = .ok (.iload_n 3, 1) := by decide +kernel
theorem dX11_count_31 : decode cX11_count 31 = .ok (.iload 4, 2) := by decide +kernel
theorem dX11_count_33 : decode cX11_count 33 = .ok (.bipush 15, 2) := by decide +kernel
theorem dX11_count_35 : decode cX11_count 35 = .ok (.invokevirtual 216, 3) := by decide +kernel
theorem dX11_count_38 : decode cX11_count 38 = .ok (.bipush (-4), 2) := by decide +kernel
theorem dX11_count_40 : decode cX11_count 40 = .ok (.if_icmp .ne 7, 3) := by decide +kernel
theorem dX11_count_43 : decode cX11_count 43 = .ok (.iconst 0, 1) := by decide +kernel
theorem dX11_count_44 : decode cX11_count 44 = .ok (.goto 4, 3) := by decide +kernel
theorem dX11_count_47 : decode cX11_count 47 = .ok (.iconst 1, 1) := by decide +kernel
theorem dX11_count_48 : decode cX11_count 48 = .ok (.iadd, 1) := by decide +kernel
theorem dX11_count_49 : decode cX11_count 49 = .ok (.istore_n 2, 1) := by decide +kernel
theorem dX11_count_50 : decode cX11_count 50 = .ok (.iinc 4 1, 3) := by decide +kernel
theorem dX11_count_53 : decode cX11_count 53 = .ok (.goto (-36), 3) := by decide +kernel
theorem dX11_count_56 : decode cX11_count 56 = .ok (.iinc 3 1, 3) := by decide +kernel
theorem dX11_count_59 : decode cX11_count 59 = .ok (.goto (-55), 3) := by decide +kernel
theorem dX11_count_62 : decode cX11_count 62 = .ok (.iload_n 1, 1) := by decide +kernel
theorem dX11_count_63 : decode cX11_count 63 = .ok (.tableswitch 104 0 5 #[37, 37, 44, 46, 76, 81], 37) := by decide +kernel
theorem dX11_count_100 : decode cX11_count 100 = .ok (.aload_n 0, 1) := by decide +kernel
theorem dX11_count_101 : decode cX11_count 101 = .ok (.iload_n 1, 1) := by decide +kernel
theorem dX11_count_102 : decode cX11_count 102 = .ok (.iconst 0, 1) := by decide +kernel
theorem dX11_count_103 : decode cX11_count 103 = .ok (.invokevirtual 164, 3) := by decide +kernel
theorem dX11_count_106 : decode cX11_count 106 = .ok (.ireturn, 1) := by decide +kernel
theorem dX11_count_107 : decode cX11_count 107 = .ok (.iload_n 2, 1) := by decide +kernel
theorem dX11_count_108 : decode cX11_count 108 = .ok (.ireturn, 1) := by decide +kernel
theorem dX11_count_109 : decode cX11_count 109 = .ok (.aload_n 0, 1) := by decide +kernel
theorem dX11_count_110 : decode cX11_count 110 = .ok (.getfield 69, 3) := by decide +kernel
theorem dX11_count_113 : decode cX11_count 113 = .ok (.iconst 0, 1) := by decide +kernel
theorem dX11_count_114 : decode cX11_count 114 = .ok (.baload, 1) := by decide +kernel
theorem dX11_count_115 : decode cX11_count 115 = .ok (.ifCond .eq 7, 3) := by decide +kernel
theorem dX11_count_118 : decode cX11_count 118 = .ok (.iconst 1, 1) := by decide +kernel
theorem dX11_count_119 : decode cX11_count 119 = .ok (.goto 4, 3) := by decide +kernel
theorem dX11_count_122 : decode cX11_count 122 = .ok (.iconst 0, 1) := by decide +kernel
theorem dX11_count_123 : decode cX11_count 123 = .ok (.aload_n 0, 1) := by decide +kernel
theorem dX11_count_124 : decode cX11_count 124 = .ok (.getfield 69, 3) := by decide +kernel
theorem dX11_count_127 : decode cX11_count 127 = .ok (.iconst 1, 1) := by decide +kernel
theorem dX11_count_128 : decode cX11_count 128 = .ok (.baload, 1) := by decide +kernel
theorem dX11_count_129 : decode cX11_count 129 = .ok (.ifCond .eq 7, 3) := by decide +kernel
theorem dX11_count_132 : decode cX11_count 132 = .ok (.iconst 1, 1) := by decide +kernel
theorem dX11_count_133 : decode cX11_count 133 = .ok (.goto 4, 3) := by decide +kernel
theorem dX11_count_136 : decode cX11_count 136 = .ok (.iconst 0, 1) := by decide +kernel
theorem dX11_count_137 : decode cX11_count 137 = .ok (.iadd, 1) := by decide +kernel
theorem dX11_count_138 : decode cX11_count 138 = .ok (.ireturn, 1) := by decide +kernel
theorem dX11_count_139 : decode cX11_count 139 = .ok (.aload_n 0, 1) := by decide +kernel
theorem dX11_count_140 : decode cX11_count 140 = .ok (.getfield 81, 3) := by decide +kernel
theorem dX11_count_143 : decode cX11_count 143 = .ok (.ireturn, 1) := by decide +kernel
theorem dX11_count_144 : decode cX11_count 144 = .ok (.aload_n 0, 1) := by decide +kernel
theorem dX11_count_145 : decode cX11_count 145 = .ok (.getfield 72, 3) := by decide +kernel
theorem dX11_count_148 : decode cX11_count 148 = .ok (.iconst 0, 1) := by decide +kernel
theorem dX11_count_149 : decode cX11_count 149 = .ok (.iaload, 1) := by decide +kernel
theorem dX11_count_150 : decode cX11_count 150 = .ok (.bipush (-4), 2) := by decide +kernel
theorem dX11_count_152 : decode cX11_count 152 = .ok (.if_icmp .ne 8, 3) := by decide +kernel
theorem dX11_count_155 : decode cX11_count 155 = .ok (.bipush (-4), 2) := by decide +kernel
theorem dX11_count_157 : decode cX11_count 157 = .ok (.goto 9, 3) := by decide +kernel
theorem dX11_count_160 : decode cX11_count 160 = .ok (.aload_n 0, 1) := by decide +kernel
theorem dX11_count_161 : decode cX11_count 161 = .ok (.getfield 75, 3) := by decide +kernel
theorem dX11_count_164 : decode cX11_count 164 = .ok (.iconst 0, 1) := by decide +kernel
theorem dX11_count_165 : decode cX11_count 165 = .ok (.iaload, 1) := by decide +kernel
theorem dX11_count_166 : decode cX11_count 166 = .ok (.ireturn, 1) := by decide +kernel
theorem dX11_count_167 : decode cX11_count 167 = .ok (.iconst (-1), 1) := by decide +kernel
theorem dX11_count_168 : decode cX11_count 168 = .ok (.ireturn, 1) := by decide +kernel
