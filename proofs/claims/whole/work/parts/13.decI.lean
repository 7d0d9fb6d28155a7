/-! decode rows (out of the printed names) -/
theorem dX12_init_0 : decode cX12_init 0 = .ok (.aload_n 0, 1) := by decide +kernel
theorem dX12_init_1 : decode cX12_init 1 = .ok (.invokespecial 1, 3) := by decide +kernel
theorem dX12_init_4 : decode cX12_init 4 = .ok (.aload_n 0, 1) := by decide +kernel
theorem dX12_init_5 : decode cX12_init 5 = .ok (.bipush 55, 2) := by decide +kernel
theorem dX12_init_7 : decode cX12_init 7 = .ok (.newarray .int, 2) := by decide +kernel
theorem dX12_init_9 : decode cX12_init 9 = .ok (.putfield 9, 3) := by decide +kernel
theorem dX12_init_12 : decode cX12_init 12 = .ok (.aload_n 0, 1) := by decide +kernel
theorem dX12_init_13 : decode cX12_init 13 = .ok (.bipush 55, 2) := by decide +kernel
theorem dX12_init_15 : decode cX12_init 15 = .ok (.newarray .int, 2) := by decide +kernel
theorem dX12_init_17 : decode cX12_init 17 = .ok (.putfield 13, 3) := by decide +kernel
theorem dX12_init_20 : decode cX12_init 20 = .ok (.aload_n 0, 1) := by decide +kernel
theorem dX12_init_21 : decode cX12_init 21 = .ok (.bipush 55, 2) := by decide +kernel
theorem dX12_init_23 : decode cX12_init 23 = .ok (.newarray .int, 2) := by decide +kernel
theorem dX12_init_25 : decode cX12_init 25 = .ok (.putfield 16, 3) := by decide +kernel
theorem dX12_init_28 : decode cX12_init 28 = .ok (.aload_n 0, 1) := by decide +kernel
theorem dX12_init_29 : decode cX12_init 29 = .ok (.bipush 7, 2) := by decide +kernel
theorem dX12_init_31 : decode cX12_init 31 = .ok (.newarray .int, 2) := by decide +kernel
theorem dX12_init_33 : decode cX12_init 33 = .ok (.putfield 19, 3) := by decide +kernel
theorem dX12_init_36 : decode cX12_init 36 = .ok (.aload_n 0, 1) := by decide +kernel
theorem dX12_init_37 : decode cX12_init 37 = .ok (.bipush 120, 2) := by decide +kernel
theorem dX12_init_39 : decode cX12_init 39 = .ok (.newarray .int, 2) := by decide +kernel
theorem dX12_init_41 : decode cX12_init 41 = .ok (.putfield 22, 3) := by decide +kernel
theorem dX12_init_44 : decode cX12_init 44 = .ok (.aload_n 0, 1) := by decide +kernel
theorem dX12_init_45 : decode cX12_init 45 = .ok (.bipush 48, 2) := by decide +kernel
theorem dX12_init_47 : decode cX12_init 47 = .ok (.newarray .char, 2) := by decide +kernel
theorem dX12_init_49 : decode cX12_init 49 = .ok (.dup, 1) := by decide +kernel
theorem dX12_init_50 : decode cX12_init 50 = .ok (.iconst 0, 1) := by decide +kernel
theorem dX12_init_51 : decode cX12_init 51 = .ok (.bipush 109, 2) := by decide +kernel
theorem dX12_init_53 : decode cX12_init 53 = .ok (.castore, 1) := by decide +kernel
theorem dX12_init_54 : decode cX12_init 54 = .ok (.dup, 1) := by decide +kernel
theorem dX12_init_55 : decode cX12_init 55 = .ok (.iconst 1, 1) := by decide +kernel
theorem dX12_init_56 : decode cX12_init 56 = .ok (.bipush 97, 2) := by decide +kernel
theorem dX12_init_58 : decode cX12_init 58 = .ok (.castore, 1) := by decide +kernel
theorem dX12_init_59 : decode cX12_init 59 = .ok (.dup, 1) := by decide +kernel
theorem dX12_init_60 : decode cX12_init 60 = .ok (.iconst 2, 1) := by decide +kernel
theorem dX12_init_61 : decode cX12_init 61 = .ok (.bipush 110, 2) := by decide +kernel
theorem dX12_init_63 : decode cX12_init 63 = .ok (.castore, 1) := by decide +kernel
theorem dX12_init_64 : decode cX12_init 64 = .ok (.dup, 1) := by decide +kernel
theorem dX12_init_65 : decode cX12_init 65 = .ok (.iconst 3, 1) := by decide +kernel
theorem dX12_init_66 : decode cX12_init 66 = .ok (.bipush 32, 2) := by decide +kernel
theorem dX12_init_68 : decode cX12_init 68 = .ok (.castore, 1) := by decide +kernel
theorem dX12_init_69 : decode cX12_init 69 = .ok (.dup, 1) := by decide +kernel
theorem dX12_init_70 : decode cX12_init 70 = .ok (.iconst 4, 1) := by decide +kernel
theorem dX12_init_71 : decode cX12_init 71 = .ok (.bipush 32, 2) := by decide +kernel
theorem dX12_init_73 : decode cX12_init 73 = .ok (.castore, 1) := by decide +kernel
theorem dX12_init_74 : decode cX12_init 74 = .ok (.dup, 1) := by decide +kernel
theorem dX12_init_75 : decode cX12_init 75 = .ok (.iconst 5, 1) := by decide +kernel
theorem dX12_init_76 : decode cX12_init 76 = .ok (.bipush 32, 2) := by decide +kernel
theorem dX12_init_78 : decode cX12_init 78 = .ok (.castore, 1) := by decide +kernel
theorem dX12_init_79 : decode cX12_init 79 = .ok (.dup, 1) := by decide +kernel
theorem dX12_init_80 : decode cX12_init 80 = .ok (.bipush 6, 2) := by decide +kernel
theorem dX12_init_82 : decode cX12_init 82 = .ok (.bipush 32, 2) := by decide +kernel
theorem dX12_init_84 : decode cX12_init 84 = .ok (.castore, 1) := by decide +kernel
theorem dX12_init_85 : decode cX12_init 85 = .ok (.dup, 1) := by decide +kernel
theorem dX12_init_86 : decode cX12_init 86 = .ok (.bipush 7, 2) := by decide +kernel
theorem dX12_init_88 : decode cX12_init 88 = .ok (.bipush 32, 2) := by decide +kernel
theorem dX12_init_90 : decode cX12_init 90 = .ok (.castore, 1) := by decide +kernel
theorem dX12_init_91 : decode cX12_init 91 = .ok (.dup, 1) := by decide +kernel
theorem dX12_init_92 : decode cX12_init 92 = .ok (.bipush 8, 2) := by decide +kernel
theorem dX12_init_94 : decode cX12_init 94 = .ok (.bipush 115, 2) := by decide +kernel
theorem dX12_init_96 : decode cX12_init 96 = .ok (.castore, 1) := by decide +kernel
theorem dX12_init_97 : decode cX12_init 97 = .ok (.dup, 1) := by decide +kernel
theorem dX12_init_98 : decode cX12_init 98 = .ok (.bipush 9, 2) := by decide +kernel
theorem dX12_init_100 : decode cX12_init 100 = .ok (.bipush 111, 2) := by decide +kernel
theorem dX12_init_102 : decode cX12_init 102 = .ok (.castore, 1) := by decide +kernel
theorem dX12_init_103 : decode cX12_init 103 = .ok (.dup, 1) := by decide +kernel
theorem dX12_init_104 : decode cX12_init 104 = .ok (.bipush 10, 2) := by decide +kernel
theorem dX12_init_106 : decode cX12_init 106 = .ok (.bipush 110, 2) := by decide +kernel
theorem dX12_init_108 : decode cX12_init 108 = .ok (.castore, 1) := by decide +kernel
theorem dX12_init_109 : decode cX12_init 109 = .ok (.dup, 1) := by decide +kernel
theorem dX12_init_110 : decode cX12_init 110 = .ok (.bipush 11, 2) := by decide +kernel
theorem dX12_init_112 : decode cX12_init 112 = .ok (.bipush 32, 2) := by decide +kernel
theorem dX12_init_114 : decode cX12_init 114 = .ok (.castore, 1) := by decide +kernel
theorem dX12_init_115 : decode cX12_init 115 = .ok (.dup, 1) := by decide +kernel
theorem dX12_init_116 : decode cX12_init 116 = .ok (.bipush 12, 2) := by decide +kernel
theorem dX12_init_118 : decode cX12_init 118 = .ok (.bipush 32, 2) := by decide +kernel
theorem dX12_init_120 : decode cX12_init 120 = .ok (.castore, 1) := by decide +kernel
theorem dX12_init_121 : decode cX12_init 121 = .ok (.dup, 1) := by decide +kernel
theorem dX12_init_122 : decode cX12_init 122 = .ok (.bipush 13, 2) := by decide +kernel
theorem dX12_init_124 : decode cX12_init 124 = .ok (.bipush 32, 2) := by decide +kernel
theorem dX12_init_126 : decode cX12_init 126 = .ok (.castore, 1) := by decide +kernel
theorem dX12_init_127 : decode cX12_init 127 = .ok (.dup, 1) := by decide +kernel
theorem dX12_init_128 : decode cX12_init 128 = .ok (.bipush 14, 2) := by decide +kernel
theorem dX12_init_130 : decode cX12_init 130 = .ok (.bipush 32, 2) := by decide +kernel
theorem dX12_init_132 : decode cX12_init 132 = .ok (.castore, 1) := by decide +kernel
theorem dX12_init_133 : decode cX12_init 133 = .ok (.dup, 1) := by decide +kernel
theorem dX12_init_134 : decode cX12_init 134 = .ok (.bipush 15, 2) := by decide +kernel
theorem dX12_init_136 : decode cX12_init 136 = .ok (.bipush 32, 2) := by decide +kernel
theorem dX12_init_138 : decode cX12_init 138 = .ok (.castore, 1) := by decide +kernel
theorem dX12_init_139 : decode cX12_init 139 = .ok (.dup, 1) := by decide +kernel
theorem dX12_init_140 : decode cX12_init 140 = .ok (.bipush 16, 2) := by decide +kernel
theorem dX12_init_142 : decode cX12_init 142 = .ok (.bipush 100, 2) := by decide +kernel
theorem dX12_init_144 : decode cX12_init 144 = .ok (.castore, 1) := by decide +kernel
theorem dX12_init_145 : decode cX12_init 145 = .ok (.dup, 1) := by decide +kernel
theorem dX12_init_146 : decode cX12_init 146 = .ok (.bipush 17, 2) := by decide +kernel
theorem dX12_init_148 : decode cX12_init 148 = .ok (.bipush 114, 2) := by decide +kernel
theorem dX12_init_150 : decode cX12_init 150 = .ok (.castore, 1) := by decide +kernel
theorem dX12_init_151 : decode cX12_init 151 = .ok (.dup, 1) := by decide +kernel
theorem dX12_init_152 : decode cX12_init 152 = .ok (.bipush 18, 2) := by decide +kernel
theorem dX12_init_154 : decode cX12_init 154 = .ok (.bipush 105, 2) := by decide +kernel
theorem dX12_init_156 : decode cX12_init 156 = .ok (.castore, 1) := by decide +kernel
theorem dX12_init_157 : decode cX12_init 157 = .ok (.dup, 1) := by decide +kernel
theorem dX12_init_158 : decode cX12_init 158 = .ok (.bipush 19, 2) := by decide +kernel
theorem dX12_init_160 : decode cX12_init 160 = .ok (.bipush 110, 2) := by decide +kernel
theorem dX12_init_162 : decode cX12_init 162 = .ok (.castore, 1) := by decide +kernel
theorem dX12_init_163 : decode cX12_init 163 = .ok (.dup, 1) := by decide +kernel
theorem dX12_init_164 : decode cX12_init 164 = .ok (.bipush 20, 2) := by decide +kernel
theorem dX12_init_166 : decode cX12_init 166 = .ok (.bipush 107, 2) := by decide +kernel
theorem dX12_init_168 : decode cX12_init 168 = .ok (.castore, 1) := by decide +kernel
theorem dX12_init_169 : decode cX12_init 169 = .ok (.dup, 1) := by decide +kernel
theorem dX12_init_170 : decode cX12_init 170 = .ok (.bipush 21, 2) := by decide +kernel
theorem dX12_init_172 : decode cX12_init 172 = .ok (.bipush 101, 2) := by decide +kernel
theorem dX12_init_174 : decode cX12_init 174 = .ok (.castore, 1) := by decide +kernel
theorem dX12_init_175 : decode cX12_init 175 = .ok (.dup, 1) := by decide +kernel
theorem dX12_init_176 : decode cX12_init 176 = .ok (.bipush 22, 2) := by decide +kernel
theorem dX12_init_178 : decode cX12_init 178 = .ok (.bipush 114, 2) := by decide +kernel
theorem dX12_init_180 : decode cX12_init 180 = .ok (.castore, 1) := by decide +kernel
theorem dX12_init_181 : decode cX12_init 181 = .ok (.dup, 1) := by decide +kernel
theorem dX12_init_182 : decode cX12_init 182 = .ok (.bipush 23, 2) := by decide +kernel
theorem dX12_init_184 : decode cX12_init 184 = .ok (.bipush 32, 2) := by decide +kernel
theorem dX12_init_186 : decode cX12_init 186 = .ok (.castore, 1) := by decide +kernel
theorem dX12_init_187 : decode cX12_init 187 = .ok (.dup, 1) := by decide +kernel
theorem dX12_init_188 : decode cX12_init 188 = .ok (.bipush 24, 2) := by decide +kernel
theorem dX12_init_190 : decode cX12_init 190 = .ok (.bipush 119, 2) := by decide +kernel
theorem dX12_init_192 : decode cX12_init 192 = .ok (.castore, 1) := by decide +kernel
theorem dX12_init_193 : decode cX12_init 193 = .ok (.dup, 1) := by decide +kernel
theorem dX12_init_194 : decode cX12_init 194 = .ok (.bipush 25, 2) := by decide +kernel
theorem dX12_init_196 : decode cX12_init 196 = .ok (.bipush 111, 2) := by decide +kernel
theorem dX12_init_198 : decode cX12_init 198 = .ok (.castore, 1) := by decide +kernel
theorem dX12_init_199 : decode cX12_init 199 = .ok (.dup, 1) := by decide +kernel
theorem dX12_init_200 : decode cX12_init 200 = .ok (.bipush 26, 2) := by decide +kernel
theorem dX12_init_202 : decode cX12_init 202 = .ok (.bipush 109, 2) := by decide +kernel
theorem dX12_init_204 : decode cX12_init 204 = .ok (.castore, 1) := by decide +kernel
theorem dX12_init_205 : decode cX12_init 205 = .ok (.dup, 1) := by decide +kernel
theorem dX12_init_206 : decode cX12_init 206 = .ok (.bipush 27, 2) := by decide +kernel
theorem dX12_init_208 : decode cX12_init 208 = .ok (.bipush 97, 2) := by decide +kernel
theorem dX12_init_210 : decode cX12_init 210 = .ok (.castore, 1) := by decide +kernel
theorem dX12_init_211 : decode cX12_init 211 = .ok (.dup, 1) := by decide +kernel
theorem dX12_init_212 : decode cX12_init 212 = .ok (.bipush 28, 2) := by decide +kernel
theorem dX12_init_214 : decode cX12_init 214 = .ok (.bipush 110, 2) := by decide +kernel
theorem dX12_init_216 : decode cX12_init 216 = .ok (.castore, 1) := by decide +kernel
theorem dX12_init_217 : decode cX12_init 217 = .ok (.dup, 1) := by decide +kernel
theorem dX12_init_218 : decode cX12_init 218 = .ok (.bipush 29, 2) := by decide +kernel
theorem dX12_init_220 : decode cX12_init 220 = .ok (.bipush 32, 2) := by decide +kernel
theorem dX12_init_222 : decode cX12_init 222 = .ok (.castore, 1) := by decide +kernel
theorem dX12_init_223 : decode cX12_init 223 = .ok (.dup, 1) := by decide +kernel
theorem dX12_init_224 : decode cX12_init 224 = .ok (.bipush 30, 2) := by decide +kernel
theorem dX12_init_226 : decode cX12_init 226 = .ok (.bipush 32, 2) := by decide +kernel
theorem dX12_init_228 : decode cX12_init 228 = .ok (.castore, 1) := by decide +kernel
theorem dX12_init_229 : decode cX12_init 229 = .ok (.dup, 1) := by decide +kernel
theorem dX12_init_230 : decode cX12_init 230 = .ok (.bipush 31, 2) := by decide +kernel
theorem dX12_init_232 : decode cX12_init 232 = .ok (.bipush 32, 2) := by decide +kernel
theorem dX12_init_234 : decode cX12_init 234 = .ok (.castore, 1) := by decide +kernel
theorem dX12_init_235 : decode cX12_init 235 = .ok (.dup, 1) := by decide +kernel
theorem dX12_init_236 : decode cX12_init 236 = .ok (.bipush 32, 2) := by decide +kernel
theorem dX12_init_238 : decode cX12_init 238 = .ok (.bipush 112, 2) := by decide +kernel
theorem dX12_init_240 : decode cX12_init 240 = .ok (.castore, 1) := by decide +kernel
theorem dX12_init_241 : decode cX12_init 241 = .ok (.dup, 1) := by decide +kernel
theorem dX12_init_242 : decode cX12_init 242 = .ok (.bipush 33, 2) := by decide +kernel
theorem dX12_init_244 : decode cX12_init 244 = .ok (.bipush 114, 2) := by decide +kernel
theorem dX12_init_246 : decode cX12_init 246 = .ok (.castore, 1) := by decide +kernel
theorem dX12_init_247 : decode cX12_init 247 = .ok (.dup, 1) := by decide +kernel
theorem dX12_init_248 : decode cX12_init 248 = .ok (.bipush 34, 2) := by decide +kernel
theorem dX12_init_250 : decode cX12_init 250 = .ok (.bipush 101, 2) := by decide +kernel
theorem dX12_init_252 : decode cX12_init 252 = .ok (.castore, 1) := by decide +kernel
theorem dX12_init_253 : decode cX12_init 253 = .ok (.dup, 1) := by decide +kernel
theorem dX12_init_254 : decode cX12_init 254 = .ok (.bipush 35, 2) := by decide +kernel
theorem dX12_init_256 : decode cX12_init 256 = .ok (.bipush 97, 2) := by decide +kernel
theorem dX12_init_258 : decode cX12_init 258 = .ok (.castore, 1) := by decide +kernel
theorem dX12_init_259 : decode cX12_init 259 = .ok (.dup, 1) := by decide +kernel
theorem dX12_init_260 : decode cX12_init 260 = .ok (.bipush 36, 2) := by decide +kernel
theorem dX12_init_262 : decode cX12_init 262 = .ok (.bipush 99, 2) := by decide +kernel
theorem dX12_init_264 : decode cX12_init 264 = .ok (.castore, 1) := by decide +kernel
theorem dX12_init_265 : decode cX12_init 265 = .ok (.dup, 1) := by decide +kernel
theorem dX12_init_266 : decode cX12_init 266 = .ok (.bipush 37, 2) := by decide +kernel
theorem dX12_init_268 : decode cX12_init 268 = .ok (.bipush 104, 2) := by decide +kernel
theorem dX12_init_270 : decode cX12_init 270 = .ok (.castore, 1) := by decide +kernel
theorem dX12_init_271 : decode cX12_init 271 = .ok (.dup, 1) := by decide +kernel
theorem dX12_init_272 : decode cX12_init 272 = .ok (.bipush 38, 2) := by decide +kernel
theorem dX12_init_274 : decode cX12_init 274 = .ok (.bipush 101, 2) := by decide +kernel
theorem dX12_init_276 : decode cX12_init 276 = .ok (.castore, 1) := by decide +kernel
theorem dX12_init_277 : decode cX12_init 277 = .ok (.dup, 1) := by decide +kernel
theorem dX12_init_278 : decode cX12_init 278 = .ok (.bipush 39, 2) := by decide +kernel
theorem dX12_init_280 : decode cX12_init 280 = .ok (.bipush 114, 2) := by decide +kernel
theorem dX12_init_282 : decode cX12_init 282 = .ok (.castore, 1) := by decide +kernel
theorem dX12_init_283 : decode cX12_init 283 = .ok (.dup, 1) := by decide +kernel
theorem dX12_init_284 : decode cX12_init 284 = .ok (.bipush 40, 2) := by decide +kernel
theorem dX12_init_286 : decode cX12_init 286 = .ok (.bipush 115, 2) := by decide +kernel
theorem dX12_init_288 : decode cX12_init 288 = .ok (.castore, 1) := by decide +kernel
theorem dX12_init_289 : decode cX12_init 289 = .ok (.dup, 1) := by decide +kernel
theorem dX12_init_290 : decode cX12_init 290 = .ok (.bipush 41, 2) := by decide +kernel
theorem dX12_init_292 : decode cX12_init 292 = .ok (.bipush 116, 2) := by decide +kernel
theorem dX12_init_294 : decode cX12_init 294 = .ok (.castore, 1) := by decide +kernel
theorem dX12_init_295 : decode cX12_init 295 = .ok (.dup, 1) := by decide +kernel
theorem dX12_init_296 : decode cX12_init 296 = .ok (.bipush 42, 2) := by decide +kernel
theorem dX12_init_298 : decode cX12_init 298 = .ok (.bipush 114, 2) := by decide +kernel
theorem dX12_init_300 : decode cX12_init 300 = .ok (.castore, 1) := by decide +kernel
theorem dX12_init_301 : decode cX12_init 301 = .ok (.dup, 1) := by decide +kernel
theorem dX12_init_302 : decode cX12_init 302 = .ok (.bipush 43, 2) := by decide +kernel
theorem dX12_init_304 : decode cX12_init 304 = .ok (.bipush 97, 2) := by decide +kernel
theorem dX12_init_306 : decode cX12_init 306 = .ok (.castore, 1) := by decide +kernel
theorem dX12_init_307 : decode cX12_init 307 = .ok (.dup, 1) := by decide +kernel
theorem dX12_init_308 : decode cX12_init 308 = .ok (.bipush 44, 2) := by decide +kernel
theorem dX12_init_310 : decode cX12_init 310 = .ok (.bipush 110, 2) := by decide +kernel
theorem dX12_init_312 : decode cX12_init 312 = .ok (.castore, 1) := by decide +kernel
theorem dX12_init_313 : decode cX12_init 313 = .ok (.dup, 1) := by decide +kernel
theorem dX12_init_314 : decode cX12_init 314 = .ok (.bipush 45, 2) := by decide +kernel
theorem dX12_init_316 : decode cX12_init 316 = .ok (.bipush 103, 2) := by decide +kernel
theorem dX12_init_318 : decode cX12_init 318 = .ok (.castore, 1) := by decide +kernel
theorem dX12_init_319 : decode cX12_init 319 = .ok (.dup, 1) := by decide +kernel
theorem dX12_init_320 : decode cX12_init 320 = .ok (.bipush 46, 2) := by decide +kernel
theorem dX12_init_322 : decode cX12_init 322 = .ok (.bipush 101, 2) := by decide +kernel
theorem dX12_init_324 : decode cX12_init 324 = .ok (.castore, 1) := by decide +kernel
theorem dX12_init_325 : decode cX12_init 325 = .ok (.dup, 1) := by decide +kernel
theorem dX12_init_326 : decode cX12_init 326 = .ok (.bipush 47, 2) := by decide +kernel
theorem dX12_init_328 : decode cX12_init 328 = .ok (.bipush 114, 2) := by decide +kernel
theorem dX12_init_330 : decode cX12_init 330 = .ok (.castore, 1) := by decide +kernel
theorem dX12_init_331 : decode cX12_init 331 = .ok (.putfield 25, 3) := by decide +kernel
theorem dX12_init_334 : decode cX12_init 334 = .ok (.aload_n 0, 1) := by decide +kernel
theorem dX12_init_335 : decode cX12_init 335 = .ok (.bipush 16, 2) := by decide +kernel
theorem dX12_init_337 : decode cX12_init 337 = .ok (.newarray .char, 2) := by decide +kernel
theorem dX12_init_339 : decode cX12_init 339 = .ok (.dup, 1) := by decide +kernel
theorem dX12_init_340 : decode cX12_init 340 = .ok (.iconst 0, 1) := by decide +kernel
theorem dX12_init_341 : decode cX12_init 341 = .ok (.bipush 112, 2) := by decide +kernel
theorem dX12_init_343 : decode cX12_init 343 = .ok (.castore, 1) := by decide +kernel
theorem dX12_init_344 : decode cX12_init 344 = .ok (.dup, 1) := by decide +kernel
theorem dX12_init_345 : decode cX12_init 345 = .ok (.iconst 1, 1) := by decide +kernel
theorem dX12_init_346 : decode cX12_init 346 = .ok (.bipush 117, 2) := by decide +kernel
theorem dX12_init_348 : decode cX12_init 348 = .ok (.castore, 1) := by decide +kernel
theorem dX12_init_349 : decode cX12_init 349 = .ok (.dup, 1) := by decide +kernel
theorem dX12_init_350 : decode cX12_init 350 = .ok (.iconst 2, 1) := by decide +kernel
theorem dX12_init_351 : decode cX12_init 351 = .ok (.bipush 98, 2) := by decide +kernel
theorem dX12_init_353 : decode cX12_init 353 = .ok (.castore, 1) := by decide +kernel
theorem dX12_init_354 : decode cX12_init 354 = .ok (.dup, 1) := by decide +kernel
theorem dX12_init_355 : decode cX12_init 355 = .ok (.iconst 3, 1) := by decide +kernel
theorem dX12_init_356 : decode cX12_init 356 = .ok (.bipush 32, 2) := by decide +kernel
theorem dX12_init_358 : decode cX12_init 358 = .ok (.castore, 1) := by decide +kernel
theorem dX12_init_359 : decode cX12_init 359 = .ok (.dup, 1) := by decide +kernel
theorem dX12_init_360 : decode cX12_init 360 = .ok (.iconst 4, 1) := by decide +kernel
theorem dX12_init_361 : decode cX12_init 361 = .ok (.bipush 32, 2) := by decide +kernel
theorem dX12_init_363 : decode cX12_init 363 = .ok (.castore, 1) := by decide +kernel
theorem dX12_init_364 : decode cX12_init 364 = .ok (.dup, 1) := by decide +kernel
theorem dX12_init_365 : decode cX12_init 365 = .ok (.iconst 5, 1) := by decide +kernel
theorem dX12_init_366 : decode cX12_init 366 = .ok (.bipush 32, 2) := by decide +kernel
theorem dX12_init_368 : decode cX12_init 368 = .ok (.castore, 1) := by decide +kernel
theorem dX12_init_369 : decode cX12_init 369 = .ok (.dup, 1) := by decide +kernel
theorem dX12_init_370 : decode cX12_init 370 = .ok (.bipush 6, 2) := by decide +kernel
theorem dX12_init_372 : decode cX12_init 372 = .ok (.bipush 32, 2) := by decide +kernel
theorem dX12_init_374 : decode cX12_init 374 = .ok (.castore, 1) := by decide +kernel
theorem dX12_init_375 : decode cX12_init 375 = .ok (.dup, 1) := by decide +kernel
theorem dX12_init_376 : decode cX12_init 376 = .ok (.bipush 7, 2) := by decide +kernel
theorem dX12_init_378 : decode cX12_init 378 = .ok (.bipush 32, 2) := by decide +kernel
theorem dX12_init_380 : decode cX12_init 380 = .ok (.castore, 1) := by decide +kernel
theorem dX12_init_381 : decode cX12_init 381 = .ok (.dup, 1) := by decide +kernel
theorem dX12_init_382 : decode cX12_init 382 = .ok (.bipush 8, 2) := by decide +kernel
theorem dX12_init_384 : decode cX12_init 384 = .ok (.bipush 99, 2) := by decide +kernel
theorem dX12_init_386 : decode cX12_init 386 = .ok (.castore, 1) := by decide +kernel
theorem dX12_init_387 : decode cX12_init 387 = .ok (.dup, 1) := by decide +kernel
theorem dX12_init_388 : decode cX12_init 388 = .ok (.bipush 9, 2) := by decide +kernel
theorem dX12_init_390 : decode cX12_init 390 = .ok (.bipush 104, 2) := by decide +kernel
theorem dX12_init_392 : decode cX12_init 392 = .ok (.castore, 1) := by decide +kernel
theorem dX12_init_393 : decode cX12_init 393 = .ok (.dup, 1) := by decide +kernel
theorem dX12_init_394 : decode cX12_init 394 = .ok (.bipush 10, 2) := by decide +kernel
theorem dX12_init_396 : decode cX12_init 396 = .ok (.bipush 97, 2) := by decide +kernel
theorem dX12_init_398 : decode cX12_init 398 = .ok (.castore, 1) := by decide +kernel
theorem dX12_init_399 : decode cX12_init 399 = .ok (.dup, 1) := by decide +kernel
theorem dX12_init_400 : decode cX12_init 400 = .ok (.bipush 11, 2) := by decide +kernel
theorem dX12_init_402 : decode cX12_init 402 = .ok (.bipush 112, 2) := by decide +kernel
theorem dX12_init_404 : decode cX12_init 404 = .ok (.castore, 1) := by decide +kernel
theorem dX12_init_405 : decode cX12_init 405 = .ok (.dup, 1) := by decide +kernel
theorem dX12_init_406 : decode cX12_init 406 = .ok (.bipush 12, 2) := by decide +kernel
theorem dX12_init_408 : decode cX12_init 408 = .ok (.bipush 101, 2) := by decide +kernel
theorem dX12_init_410 : decode cX12_init 410 = .ok (.castore, 1) := by decide +kernel
theorem dX12_init_411 : decode cX12_init 411 = .ok (.dup, 1) := by decide +kernel
theorem dX12_init_412 : decode cX12_init 412 = .ok (.bipush 13, 2) := by decide +kernel
theorem dX12_init_414 : decode cX12_init 414 = .ok (.bipush 108, 2) := by decide +kernel
theorem dX12_init_416 : decode cX12_init 416 = .ok (.castore, 1) := by decide +kernel
theorem dX12_init_417 : decode cX12_init 417 = .ok (.dup, 1) := by decide +kernel
theorem dX12_init_418 : decode cX12_init 418 = .ok (.bipush 14, 2) := by decide +kernel
theorem dX12_init_420 : decode cX12_init 420 = .ok (.bipush 32, 2) := by decide +kernel
theorem dX12_init_422 : decode cX12_init 422 = .ok (.castore, 1) := by decide +kernel
theorem dX12_init_423 : decode cX12_init 423 = .ok (.dup, 1) := by decide +kernel
theorem dX12_init_424 : decode cX12_init 424 = .ok (.bipush 15, 2) := by decide +kernel
theorem dX12_init_426 : decode cX12_init 426 = .ok (.bipush 32, 2) := by decide +kernel
theorem dX12_init_428 : decode cX12_init 428 = .ok (.castore, 1) := by decide +kernel
theorem dX12_init_429 : decode cX12_init 429 = .ok (.putfield 29, 3) := by decide +kernel
theorem dX12_init_432 : decode cX12_init 432 = .ok (.aload_n 0, 1) := by decide +kernel
theorem dX12_init_433 : decode cX12_init 433 = .ok (.bipush 24, 2) := by decide +kernel
theorem dX12_init_435 : decode cX12_init 435 = .ok (.newarray .char, 2) := by decide +kernel
theorem dX12_init_437 : decode cX12_init 437 = .ok (.dup, 1) := by decide +kernel
theorem dX12_init_438 : decode cX12_init 438 = .ok (.iconst 0, 1) := by decide +kernel
theorem dX12_init_439 : decode cX12_init 439 = .ok (.bipush 116, 2) := by decide +kernel
theorem dX12_init_441 : decode cX12_init 441 = .ok (.castore, 1) := by decide +kernel
theorem dX12_init_442 : decode cX12_init 442 = .ok (.dup, 1) := by decide +kernel
theorem dX12_init_443 : decode cX12_init 443 = .ok (.iconst 1, 1) := by decide +kernel
theorem dX12_init_444 : decode cX12_init 444 = .ok (.bipush 105, 2) := by decide +kernel
theorem dX12_init_446 : decode cX12_init 446 = .ok (.castore, 1) := by decide +kernel
theorem dX12_init_447 : decode cX12_init 447 = .ok (.dup, 1) := by decide +kernel
theorem dX12_init_448 : decode cX12_init 448 = .ok (.iconst 2, 1) := by decide +kernel
theorem dX12_init_449 : decode cX12_init 449 = .ok (.bipush 114, 2) := by decide +kernel
theorem dX12_init_451 : decode cX12_init 451 = .ok (.castore, 1) := by decide +kernel
theorem dX12_init_452 : decode cX12_init 452 = .ok (.dup, 1) := by decide +kernel
theorem dX12_init_453 : decode cX12_init 453 = .ok (.iconst 3, 1) := by decide +kernel
theorem dX12_init_454 : decode cX12_init 454 = .ok (.bipush 101, 2) := by decide +kernel
theorem dX12_init_456 : decode cX12_init 456 = .ok (.castore, 1) := by decide +kernel
theorem dX12_init_457 : decode cX12_init 457 = .ok (.dup, 1) := by decide +kernel
theorem dX12_init_458 : decode cX12_init 458 = .ok (.iconst 4, 1) := by decide +kernel
theorem dX12_init_459 : decode cX12_init 459 = .ok (.bipush 100, 2) := by decide +kernel
theorem dX12_init_461 : decode cX12_init 461 = .ok (.castore, 1) := by decide +kernel
theorem dX12_init_462 : decode cX12_init 462 = .ok (.dup, 1) := by decide +kernel
theorem dX12_init_463 : decode cX12_init 463 = .ok (.iconst 5, 1) := by decide +kernel
theorem dX12_init_464 : decode cX12_init 464 = .ok (.bipush 32, 2) := by decide +kernel
theorem dX12_init_466 : decode cX12_init 466 = .ok (.castore, 1) := by decide +kernel
theorem dX12_init_467 : decode cX12_init 467 = .ok (.dup, 1) := by decide +kernel
theorem dX12_init_468 : decode cX12_init 468 = .ok (.bipush 6, 2) := by decide +kernel
theorem dX12_init_470 : decode cX12_init 470 = .ok (.bipush 32, 2) := by decide +kernel
theorem dX12_init_472 : decode cX12_init 472 = .ok (.castore, 1) := by decide +kernel
theorem dX12_init_473 : decode cX12_init 473 = .ok (.dup, 1) := by decide +kernel
theorem dX12_init_474 : decode cX12_init 474 = .ok (.bipush 7, 2) := by decide +kernel
theorem dX12_init_476 : decode cX12_init 476 = .ok (.bipush 32, 2) := by decide +kernel
theorem dX12_init_478 : decode cX12_init 478 = .ok (.castore, 1) := by decide +kernel
theorem dX12_init_479 : decode cX12_init 479 = .ok (.dup, 1) := by decide +kernel
theorem dX12_init_480 : decode cX12_init 480 = .ok (.bipush 8, 2) := by decide +kernel
theorem dX12_init_482 : decode cX12_init 482 = .ok (.bipush 115, 2) := by decide +kernel
theorem dX12_init_484 : decode cX12_init 484 = .ok (.castore, 1) := by decide +kernel
theorem dX12_init_485 : decode cX12_init 485 = .ok (.dup, 1) := by decide +kernel
theorem dX12_init_486 : decode cX12_init 486 = .ok (.bipush 9, 2) := by decide +kernel
theorem dX12_init_488 : decode cX12_init 488 = .ok (.bipush 116, 2) := by decide +kernel
theorem dX12_init_490 : decode cX12_init 490 = .ok (.castore, 1) := by decide +kernel
theorem dX12_init_491 : decode cX12_init 491 = .ok (.dup, 1) := by decide +kernel
theorem dX12_init_492 : decode cX12_init 492 = .ok (.bipush 10, 2) := by decide +kernel
theorem dX12_init_494 : decode cX12_init 494 = .ok (.bipush 114, 2) := by decide +kernel
theorem dX12_init_496 : decode cX12_init 496 = .ok (.castore, 1) := by decide +kernel
theorem dX12_init_497 : decode cX12_init 497 = .ok (.dup, 1) := by decide +kernel
theorem dX12_init_498 : decode cX12_init 498 = .ok (.bipush 11, 2) := by decide +kernel
theorem dX12_init_500 : decode cX12_init 500 = .ok (.bipush 111, 2) := by decide +kernel
theorem dX12_init_502 : decode cX12_init 502 = .ok (.castore, 1) := by decide +kernel
theorem dX12_init_503 : decode cX12_init 503 = .ok (.dup, 1) := by decide +kernel
theorem dX12_init_504 : decode cX12_init 504 = .ok (.bipush 12, 2) := by decide +kernel
theorem dX12_init_506 : decode cX12_init 506 = .ok (.bipush 110, 2) := by decide +kernel
theorem dX12_init_508 : decode cX12_init 508 = .ok (.castore, 1) := by decide +kernel
theorem dX12_init_509 : decode cX12_init 509 = .ok (.dup, 1) := by decide +kernel
theorem dX12_init_510 : decode cX12_init 510 = .ok (.bipush 13, 2) := by decide +kernel
theorem dX12_init_512 : decode cX12_init 512 = .ok (.bipush 103, 2) := by decide +kernel
theorem dX12_init_514 : decode cX12_init 514 = .ok (.castore, 1) := by decide +kernel
theorem dX12_init_515 : decode cX12_init 515 = .ok (.dup, 1) := by decide +kernel
theorem dX12_init_516 : decode cX12_init 516 = .ok (.bipush 14, 2) := by decide +kernel
theorem dX12_init_518 : decode cX12_init 518 = .ok (.bipush 32, 2) := by decide +kernel
theorem dX12_init_520 : decode cX12_init 520 = .ok (.castore, 1) := by decide +kernel
theorem dX12_init_521 : decode cX12_init 521 = .ok (.dup, 1) := by decide +kernel
theorem dX12_init_522 : decode cX12_init 522 = .ok (.bipush 15, 2) := by decide +kernel
theorem dX12_init_524 : decode cX12_init 524 = .ok (.bipush 32, 2) := by decide +kernel
theorem dX12_init_526 : decode cX12_init 526 = .ok (.castore, 1) := by decide +kernel
theorem dX12_init_527 : decode cX12_init 527 = .ok (.dup, 1) := by decide +kernel
theorem dX12_init_528 : decode cX12_init 528 = .ok (.bipush 16, 2) := by decide +kernel
theorem dX12_init_530 : decode cX12_init 530 = .ok (.bipush 111, 2) := by decide +kernel
theorem dX12_init_532 : decode cX12_init 532 = .ok (.castore, 1) := by decide +kernel
theorem dX12_init_533 : decode cX12_init 533 = .ok (.dup, 1) := by decide +kernel
theorem dX12_init_534 : decode cX12_init 534 = .ok (.bipush 17, 2) := by decide +kernel
theorem dX12_init_536 : decode cX12_init 536 = .ok (.bipush 110, 2) := by decide +kernel
theorem dX12_init_538 : decode cX12_init 538 = .ok (.castore, 1) := by decide +kernel
theorem dX12_init_539 : decode cX12_init 539 = .ok (.dup, 1) := by decide +kernel
theorem dX12_init_540 : decode cX12_init 540 = .ok (.bipush 18, 2) := by decide +kernel
theorem dX12_init_542 : decode cX12_init 542 = .ok (.bipush 32, 2) := by decide +kernel
theorem dX12_init_544 : decode cX12_init 544 = .ok (.castore, 1) := by decide +kernel
theorem dX12_init_545 : decode cX12_init 545 = .ok (.dup, 1) := by decide +kernel
theorem dX12_init_546 : decode cX12_init 546 = .ok (.bipush 19, 2) := by decide +kernel
theorem dX12_init_548 : decode cX12_init 548 = .ok (.bipush 32, 2) := by decide +kernel
theorem dX12_init_550 : decode cX12_init 550 = .ok (.castore, 1) := by decide +kernel
theorem dX12_init_551 : decode cX12_init 551 = .ok (.dup, 1) := by decide +kernel
theorem dX12_init_552 : decode cX12_init 552 = .ok (.bipush 20, 2) := by decide +kernel
theorem dX12_init_554 : decode cX12_init 554 = .ok (.bipush 32, 2) := by decide +kernel
theorem dX12_init_556 : decode cX12_init 556 = .ok (.castore, 1) := by decide +kernel
theorem dX12_init_557 : decode cX12_init 557 = .ok (.dup, 1) := by decide +kernel
theorem dX12_init_558 : decode cX12_init 558 = .ok (.bipush 21, 2) := by decide +kernel
theorem dX12_init_560 : decode cX12_init 560 = .ok (.bipush 32, 2) := by decide +kernel
theorem dX12_init_562 : decode cX12_init 562 = .ok (.castore, 1) := by decide +kernel
theorem dX12_init_563 : decode cX12_init 563 = .ok (.dup, 1) := by decide +kernel
theorem dX12_init_564 : decode cX12_init 564 = .ok (.bipush 22, 2) := by decide +kernel
theorem dX12_init_566 : decode cX12_init 566 = .ok (.bipush 32, 2) := by decide +kernel
theorem dX12_init_568 : decode cX12_init 568 = .ok (.castore, 1) := by decide +kernel
theorem dX12_init_569 : decode cX12_init 569 = .ok (.dup, 1) := by decide +kernel
theorem dX12_init_570 : decode cX12_init 570 = .ok (.bipush 23, 2) := by decide +kernel
theorem dX12_init_572 : decode cX12_init 572 = .ok (.bipush 32, 2) := by decide +kernel
theorem dX12_init_574 : decode cX12_init 574 = .ok (.castore, 1) := by decide +kernel
theorem dX12_init_575 : decode cX12_init 575 = .ok (.putfield 32, 3) := by decide +kernel
theorem dX12_init_578 : decode cX12_init 578 = .ok (.aload_n 0, 1) := by decide +kernel
theorem dX12_init_579 : decode cX12_init 579 = .ok (.bipush 32, 2) := by decide +kernel
theorem dX12_init_581 : decode cX12_init 581 = .ok (.newarray .char, 2) := by decide +kernel
theorem dX12_init_583 : decode cX12_init 583 = .ok (.dup, 1) := by decide +kernel
theorem dX12_init_584 : decode cX12_init 584 = .ok (.iconst 0, 1) := by decide +kernel
theorem dX12_init_585 : decode cX12_init 585 = .ok (.bipush 112, 2) := by decide +kernel
theorem dX12_init_587 : decode cX12_init 587 = .ok (.castore, 1) := by decide +kernel
theorem dX12_init_588 : decode cX12_init 588 = .ok (.dup, 1) := by decide +kernel
theorem dX12_init_589 : decode cX12_init 589 = .ok (.iconst 1, 1) := by decide +kernel
theorem dX12_init_590 : decode cX12_init 590 = .ok (.bipush 108, 2) := by decide +kernel
theorem dX12_init_592 : decode cX12_init 592 = .ok (.castore, 1) := by decide +kernel
theorem dX12_init_593 : decode cX12_init 593 = .ok (.dup, 1) := by decide +kernel
theorem dX12_init_594 : decode cX12_init 594 = .ok (.iconst 2, 1) := by decide +kernel
theorem dX12_init_595 : decode cX12_init 595 = .ok (.bipush 97, 2) := by decide +kernel
theorem dX12_init_597 : decode cX12_init 597 = .ok (.castore, 1) := by decide +kernel
theorem dX12_init_598 : decode cX12_init 598 = .ok (.dup, 1) := by decide +kernel
theorem dX12_init_599 : decode cX12_init 599 = .ok (.iconst 3, 1) := by decide +kernel
theorem dX12_init_600 : decode cX12_init 600 = .ok (.bipush 105, 2) := by decide +kernel
theorem dX12_init_602 : decode cX12_init 602 = .ok (.castore, 1) := by decide +kernel
theorem dX12_init_603 : decode cX12_init 603 = .ok (.dup, 1) := by decide +kernel
theorem dX12_init_604 : decode cX12_init 604 = .ok (.iconst 4, 1) := by decide +kernel
theorem dX12_init_605 : decode cX12_init 605 = .ok (.bipush 110, 2) := by decide +kernel
theorem dX12_init_607 : decode cX12_init 607 = .ok (.castore, 1) := by decide +kernel
theorem dX12_init_608 : decode cX12_init 608 = .ok (.dup, 1) := by decide +kernel
theorem dX12_init_609 : decode cX12_init 609 = .ok (.iconst 5, 1) := by decide +kernel
theorem dX12_init_610 : decode cX12_init 610 = .ok (.bipush 32, 2) := by decide +kernel
theorem dX12_init_612 : decode cX12_init 612 = .ok (.castore, 1) := by decide +kernel
theorem dX12_init_613 : decode cX12_init 613 = .ok (.dup, 1) := by decide +kernel
theorem dX12_init_614 : decode cX12_init 614 = .ok (.bipush 6, 2) := by decide +kernel
theorem dX12_init_616 : decode cX12_init 616 = .ok (.bipush 32, 2) := by decide +kernel
theorem dX12_init_618 : decode cX12_init 618 = .ok (.castore, 1) := by decide +kernel
theorem dX12_init_619 : decode cX12_init 619 = .ok (.dup, 1) := by decide +kernel
theorem dX12_init_620 : decode cX12_init 620 = .ok (.bipush 7, 2) := by decide +kernel
theorem dX12_init_622 : decode cX12_init 622 = .ok (.bipush 32, 2) := by decide +kernel
theorem dX12_init_624 : decode cX12_init 624 = .ok (.castore, 1) := by decide +kernel
theorem dX12_init_625 : decode cX12_init 625 = .ok (.dup, 1) := by decide +kernel
theorem dX12_init_626 : decode cX12_init 626 = .ok (.bipush 8, 2) := by decide +kernel
theorem dX12_init_628 : decode cX12_init 628 = .ok (.bipush 104, 2) := by decide +kernel
theorem dX12_init_630 : decode cX12_init 630 = .ok (.castore, 1) := by decide +kernel
theorem dX12_init_631 : decode cX12_init 631 = .ok (.dup, 1) := by decide +kernel
theorem dX12_init_632 : decode cX12_init 632 = .ok (.bipush 9, 2) := by decide +kernel
theorem dX12_init_634 : decode cX12_init 634 = .ok (.bipush 97, 2) := by decide +kernel
theorem dX12_init_636 : decode cX12_init 636 = .ok (.castore, 1) := by decide +kernel
theorem dX12_init_637 : decode cX12_init 637 = .ok (.dup, 1) := by decide +kernel
theorem dX12_init_638 : decode cX12_init 638 = .ok (.bipush 10, 2) := by decide +kernel
theorem dX12_init_640 : decode cX12_init 640 = .ok (.bipush 114, 2) := by decide +kernel
theorem dX12_init_642 : decode cX12_init 642 = .ok (.castore, 1) := by decide +kernel
theorem dX12_init_643 : decode cX12_init 643 = .ok (.dup, 1) := by decide +kernel
theorem dX12_init_644 : decode cX12_init 644 = .ok (.bipush 11, 2) := by decide +kernel
theorem dX12_init_646 : decode cX12_init 646 = .ok (.bipush 118, 2) := by decide +kernel
theorem dX12_init_648 : decode cX12_init 648 = .ok (.castore, 1) := by decide +kernel
theorem dX12_init_649 : decode cX12_init 649 = .ok (.dup, 1) := by decide +kernel
theorem dX12_init_650 : decode cX12_init 650 = .ok (.bipush 12, 2) := by decide +kernel
theorem dX12_init_652 : decode cX12_init 652 = .ok (.bipush 101, 2) := by decide +kernel
theorem dX12_init_654 : decode cX12_init 654 = .ok (.castore, 1) := by decide +kernel
theorem dX12_init_655 : decode cX12_init 655 = .ok (.dup, 1) := by decide +kernel
theorem dX12_init_656 : decode cX12_init 656 = .ok (.bipush 13, 2) := by decide +kernel
theorem dX12_init_658 : decode cX12_init 658 = .ok (.bipush 115, 2) := by decide +kernel
theorem dX12_init_660 : decode cX12_init 660 = .ok (.castore, 1) := by decide +kernel
theorem dX12_init_661 : decode cX12_init 661 = .ok (.dup, 1) := by decide +kernel
theorem dX12_init_662 : decode cX12_init 662 = .ok (.bipush 14, 2) := by decide +kernel
theorem dX12_init_664 : decode cX12_init 664 = .ok (.bipush 116, 2) := by decide +kernel
theorem dX12_init_666 : decode cX12_init 666 = .ok (.castore, 1) := by decide +kernel
theorem dX12_init_667 : decode cX12_init 667 = .ok (.dup, 1) := by decide +kernel
theorem dX12_init_668 : decode cX12_init 668 = .ok (.bipush 15, 2) := by decide +kernel
theorem dX12_init_670 : decode cX12_init 670 = .ok (.bipush 32, 2) := by decide +kernel
theorem dX12_init_672 : decode cX12_init 672 = .ok (.castore, 1) := by decide +kernel
theorem dX12_init_673 : decode cX12_init 673 = .ok (.dup, 1) := by decide +kernel
theorem dX12_init_674 : decode cX12_init 674 = .ok (.bipush 16, 2) := by decide +kernel
theorem dX12_init_676 : decode cX12_init 676 = .ok (.bipush 107, 2) := by decide +kernel
theorem dX12_init_678 : decode cX12_init 678 = .ok (.castore, 1) := by decide +kernel
theorem dX12_init_679 : decode cX12_init 679 = .ok (.dup, 1) := by decide +kernel
theorem dX12_init_680 : decode cX12_init 680 = .ok (.bipush 17, 2) := by decide +kernel
theorem dX12_init_682 : decode cX12_init 682 = .ok (.bipush 110, 2) := by decide +kernel
theorem dX12_init_684 : decode cX12_init 684 = .ok (.castore, 1) := by decide +kernel
theorem dX12_init_685 : decode cX12_init 685 = .ok (.dup, 1) := by decide +kernel
theorem dX12_init_686 : decode cX12_init 686 = .ok (.bipush 18, 2) := by decide +kernel
theorem dX12_init_688 : decode cX12_init 688 = .ok (.bipush 111, 2) := by decide +kernel
theorem dX12_init_690 : decode cX12_init 690 = .ok (.castore, 1) := by decide +kernel
theorem dX12_init_691 : decode cX12_init 691 = .ok (.dup, 1) := by decide +kernel
theorem dX12_init_692 : decode cX12_init 692 = .ok (.bipush 19, 2) := by decide +kernel
theorem dX12_init_694 : decode cX12_init 694 = .ok (.bipush 116, 2) := by decide +kernel
theorem dX12_init_696 : decode cX12_init 696 = .ok (.castore, 1) := by decide +kernel
theorem dX12_init_697 : decode cX12_init 697 = .ok (.dup, 1) := by decide +kernel
theorem dX12_init_698 : decode cX12_init 698 = .ok (.bipush 20, 2) := by decide +kernel
theorem dX12_init_700 : decode cX12_init 700 = .ok (.bipush 32, 2) := by decide +kernel
theorem dX12_init_702 : decode cX12_init 702 = .ok (.castore, 1) := by decide +kernel
theorem dX12_init_703 : decode cX12_init 703 = .ok (.dup, 1) := by decide +kernel
theorem dX12_init_704 : decode cX12_init 704 = .ok (.bipush 21, 2) := by decide +kernel
theorem dX12_init_706 : decode cX12_init 706 = .ok (.bipush 32, 2) := by decide +kernel
theorem dX12_init_708 : decode cX12_init 708 = .ok (.castore, 1) := by decide +kernel
theorem dX12_init_709 : decode cX12_init 709 = .ok (.dup, 1) := by decide +kernel
theorem dX12_init_710 : decode cX12_init 710 = .ok (.bipush 22, 2) := by decide +kernel
theorem dX12_init_712 : decode cX12_init 712 = .ok (.bipush 32, 2) := by decide +kernel
theorem dX12_init_714 : decode cX12_init 714 = .ok (.castore, 1) := by decide +kernel
theorem dX12_init_715 : decode cX12_init 715 = .ok (.dup, 1) := by decide +kernel
theorem dX12_init_716 : decode cX12_init 716 = .ok (.bipush 23, 2) := by decide +kernel
theorem dX12_init_718 : decode cX12_init 718 = .ok (.bipush 32, 2) := by decide +kernel
theorem dX12_init_720 : decode cX12_init 720 = .ok (.castore, 1) := by decide +kernel
theorem dX12_init_721 : decode cX12_init 721 = .ok (.dup, 1) := by decide +kernel
theorem dX12_init_722 : decode cX12_init 722 = .ok (.bipush 24, 2) := by decide +kernel
theorem dX12_init_724 : decode cX12_init 724 = .ok (.bipush 115, 2) := by decide +kernel
theorem dX12_init_726 : decode cX12_init 726 = .ok (.castore, 1) := by decide +kernel
theorem dX12_init_727 : decode cX12_init 727 = .ok (.dup, 1) := by decide +kernel
theorem dX12_init_728 : decode cX12_init 728 = .ok (.bipush 25, 2) := by decide +kernel
theorem dX12_init_730 : decode cX12_init 730 = .ok (.bipush 108, 2) := by decide +kernel
theorem dX12_init_732 : decode cX12_init 732 = .ok (.castore, 1) := by decide +kernel
theorem dX12_init_733 : decode cX12_init 733 = .ok (.dup, 1) := by decide +kernel
theorem dX12_init_734 : decode cX12_init 734 = .ok (.bipush 26, 2) := by decide +kernel
theorem dX12_init_736 : decode cX12_init 736 = .ok (.bipush 97, 2) := by decide +kernel
theorem dX12_init_738 : decode cX12_init 738 = .ok (.castore, 1) := by decide +kernel
theorem dX12_init_739 : decode cX12_init 739 = .ok (.dup, 1) := by decide +kernel
theorem dX12_init_740 : decode cX12_init 740 = .ok (.bipush 27, 2) := by decide +kernel
theorem dX12_init_742 : decode cX12_init 742 = .ok (.bipush 99, 2) := by decide +kernel
theorem dX12_init_744 : decode cX12_init 744 = .ok (.castore, 1) := by decide +kernel
theorem dX12_init_745 : decode cX12_init 745 = .ok (.dup, 1) := by decide +kernel
theorem dX12_init_746 : decode cX12_init 746 = .ok (.bipush 28, 2) := by decide +kernel
theorem dX12_init_748 : decode cX12_init 748 = .ok (.bipush 107, 2) := by decide +kernel
theorem dX12_init_750 : decode cX12_init 750 = .ok (.castore, 1) := by decide +kernel
theorem dX12_init_751 : decode cX12_init 751 = .ok (.dup, 1) := by decide +kernel
theorem dX12_init_752 : decode cX12_init 752 = .ok (.bipush 29, 2) := by decide +kernel
theorem dX12_init_754 : decode cX12_init 754 = .ok (.bipush 32, 2) := by decide +kernel
theorem dX12_init_756 : decode cX12_init 756 = .ok (.castore, 1) := by decide +kernel
theorem dX12_init_757 : decode cX12_init 757 = .ok (.dup, 1) := by decide +kernel
theorem dX12_init_758 : decode cX12_init 758 = .ok (.bipush 30, 2) := by decide +kernel
theorem dX12_init_760 : decode cX12_init 760 = .ok (.bipush 32, 2) := by decide +kernel
theorem dX12_init_762 : decode cX12_init 762 = .ok (.castore, 1) := by decide +kernel
theorem dX12_init_763 : decode cX12_init 763 = .ok (.dup, 1) := by decide +kernel
theorem dX12_init_764 : decode cX12_init 764 = .ok (.bipush 31, 2) := by decide +kernel
theorem dX12_init_766 : decode cX12_init 766 = .ok (.bipush 32, 2) := by decide +kernel
theorem dX12_init_768 : decode cX12_init 768 = .ok (.castore, 1) := by decide +kernel
theorem dX12_init_769 : decode cX12_init 769 = .ok (.putfield 35, 3) := by decide +kernel
theorem dX12_init_772 : decode cX12_init 772 = .ok (.aload_n 0, 1) := by decide +kernel
theorem dX12_init_773 : decode cX12_init 773 = .ok (.iconst 4, 1) := by decide +kernel
theorem dX12_init_774 : decode cX12_init 774 = .ok (.newarray .int, 2) := by decide +kernel
theorem dX12_init_776 : decode cX12_init 776 = .ok (.putfield 38, 3) := by decide +kernel
theorem dX12_init_779 : decode cX12_init 779 = .ok (.aload_n 0, 1) := by decide +kernel
theorem dX12_init_780 : decode cX12_init 780 = .ok (.iconst 4, 1) := by decide +kernel
theorem dX12_init_781 : decode cX12_init 781 = .ok (.newarray .int, 2) := by decide +kernel
theorem dX12_init_783 : decode cX12_init 783 = .ok (.putfield 41, 3) := by decide +kernel
theorem dX12_init_786 : decode cX12_init 786 = .ok (.aload_n 0, 1) := by decide +kernel
theorem dX12_init_787 : decode cX12_init 787 = .ok (.sipush 160, 3) := by decide +kernel
theorem dX12_init_790 : decode cX12_init 790 = .ok (.newarray .long, 2) := by decide +kernel
theorem dX12_init_792 : decode cX12_init 792 = .ok (.putfield 44, 3) := by decide +kernel
theorem dX12_init_795 : decode cX12_init 795 = .ok (.aload_n 0, 1) := by decide +kernel
theorem dX12_init_796 : decode cX12_init 796 = .ok (.bipush 40, 2) := by decide +kernel
theorem dX12_init_798 : decode cX12_init 798 = .ok (.newarray .long, 2) := by decide +kernel
theorem dX12_init_800 : decode cX12_init 800 = .ok (.putfield 48, 3) := by decide +kernel
theorem dX12_init_803 : decode cX12_init 803 = .ok (.aload_n 0, 1) := by decide +kernel
theorem dX12_init_804 : decode cX12_init 804 = .ok (.getfield 9, 3) := by decide +kernel
theorem dX12_init_807 : decode cX12_init 807 = .ok (.iconst 2, 1) := by decide +kernel
theorem dX12_init_808 : decode cX12_init 808 = .ok (.iconst 3, 1) := by decide +kernel
theorem dX12_init_809 : decode cX12_init 809 = .ok (.iastore, 1) := by decide +kernel
theorem dX12_init_810 : decode cX12_init 810 = .ok (.aload_n 0, 1) := by decide +kernel
theorem dX12_init_811 : decode cX12_init 811 = .ok (.getfield 9, 3) := by decide +kernel
theorem dX12_init_814 : decode cX12_init 814 = .ok (.iconst 3, 1) := by decide +kernel
theorem dX12_init_815 : decode cX12_init 815 = .ok (.bipush 32, 2) := by decide +kernel
theorem dX12_init_817 : decode cX12_init 817 = .ok (.iastore, 1) := by decide +kernel
theorem dX12_init_818 : decode cX12_init 818 = .ok (.return_, 1) := by decide +kernel
