theorem dX13_init_0 : decode cX13_init 0 = .ok (.aload_n 0, 1) := by decide +kernel
theorem dX13_init_1 : decode cX13_init 1 = .ok (.invokespecial 3, 3) := by decide +kernel
theorem dX13_init_4 : decode cX13_init 4 = .ok (.aload_n 0, 1) := by decide +kernel
theorem dX13_init_5 : decode cX13_init 5 = .ok (.sipush 400, 3) := by decide +kernel
theorem dX13_init_8 : decode cX13_init 8 = .ok (.newarray .byte, 2) := by decide +kernel
theorem dX13_init_10 : decode cX13_init 10 = .ok (.putfield 9, 3) := by decide +kernel
theorem dX13_init_13 : decode cX13_init 13 = .ok (.aload_n 0, 1) := by decide +kernel
theorem dX13_init_14 : decode cX13_init 14 = .ok (.iconst (-1), 1) := by decide +kernel
theorem dX13_init_15 : decode cX13_init 15 = .ok (.putfield 13, 3) := by decide +kernel
theorem dX13_init_18 : decode cX13_init 18 = .ok (.aload_n 0, 1) := by decide +kernel
theorem dX13_init_19 : decode cX13_init 19 = .ok (.iconst 5, 1) := by decide +kernel
theorem dX13_init_20 : decode cX13_init 20 = .ok (.newarray .int, 2) := by decide +kernel
theorem dX13_init_22 : decode cX13_init 22 = .ok (.putfield 17, 3) := by decide +kernel
theorem dX13_init_25 : decode cX13_init 25 = .ok (.aload_n 0, 1) := by decide +kernel
theorem dX13_init_26 : decode cX13_init 26 = .ok (.bipush 42, 2) := by decide +kernel
theorem dX13_init_28 : decode cX13_init 28 = .ok (.newarray .int, 2) := by decide +kernel
theorem dX13_init_30 : decode cX13_init 30 = .ok (.putfield 21, 3) := by decide +kernel
theorem dX13_init_33 : decode cX13_init 33 = .ok (.aload_n 0, 1) := by decide +kernel
theorem dX13_init_34 : decode cX13_init 34 = .ok (.sipush 840, 3) := by decide +kernel
theorem dX13_init_37 : decode cX13_init 37 = .ok (.newarray .int, 2) := by decide +kernel
theorem dX13_init_39 : decode cX13_init 39 = .ok (.putfield 24, 3) := by decide +kernel
theorem dX13_init_42 : decode cX13_init 42 = .ok (.aload_n 0, 1) := by decide +kernel
theorem dX13_init_43 : decode cX13_init 43 = .ok (.sipush 840, 3) := by decide +kernel
theorem dX13_init_46 : decode cX13_init 46 = .ok (.newarray .int, 2) := by decide +kernel
theorem dX13_init_48 : decode cX13_init 48 = .ok (.putfield 27, 3) := by decide +kernel
theorem dX13_init_51 : decode cX13_init 51 = .ok (.aload_n 0, 1) := by decide +kernel
theorem dX13_init_52 : decode cX13_init 52 = .ok (.bipush 6, 2) := by decide +kernel
theorem dX13_init_54 : decode cX13_init 54 = .ok (.newarray .int, 2) := by decide +kernel
theorem dX13_init_56 : decode cX13_init 56 = .ok (.putfield 30, 3) := by decide +kernel
theorem dX13_init_59 : decode cX13_init 59 = .ok (.aload_n 0, 1) := by decide +kernel
theorem dX13_init_60 : decode cX13_init 60 = .ok (.bipush 6, 2) := by decide +kernel
theorem dX13_init_62 : decode cX13_init 62 = .ok (.newarray .int, 2) := by decide +kernel
theorem dX13_init_64 : decode cX13_init 64 = .ok (.putfield 33, 3) := by decide +kernel
theorem dX13_init_67 : decode cX13_init 67 = .ok (.aload_n 0, 1) := by decide +kernel
theorem dX13_init_68 : decode cX13_init 68 = .ok (.bipush 6, 2) := by decide +kernel
theorem dX13_init_70 : decode cX13_init 70 = .ok (.newarray .int, 2) := by decide +kernel
theorem dX13_init_72 : decode cX13_init 72 = .ok (.putfield 36, 3) := by decide +kernel
theorem dX13_init_75 : decode cX13_init 75 = .ok (.aload_n 0, 1) := by decide +kernel
theorem dX13_init_76 : decode cX13_init 76 = .ok (.sipush 240, 3) := by decide +kernel
theorem dX13_init_79 : decode cX13_init 79 = .ok (.newarray .int, 2) := by decide +kernel
theorem dX13_init_81 : decode cX13_init 81 = .ok (.putfield 39, 3) := by decide +kernel
theorem dX13_init_84 : decode cX13_init 84 = .ok (.aload_n 0, 1) := by decide +kernel
theorem dX13_init_85 : decode cX13_init 85 = .ok (.bipush 6, 2) := by decide +kernel
theorem dX13_init_87 : decode cX13_init 87 = .ok (.newarray .int, 2) := by decide +kernel
theorem dX13_init_89 : decode cX13_init 89 = .ok (.putfield 42, 3) := by decide +kernel
theorem dX13_init_92 : decode cX13_init 92 = .ok (.aload_n 0, 1) := by decide +kernel
theorem dX13_init_93 : decode cX13_init 93 = .ok (.bipush 6, 2) := by decide +kernel
theorem dX13_init_95 : decode cX13_init 95 = .ok (.newarray .int, 2) := by decide +kernel
theorem dX13_init_97 : decode cX13_init 97 = .ok (.putfield 45, 3) := by decide +kernel
theorem dX13_init_100 : decode cX13_init 100 = .ok (.aload_n 0, 1) := by decide +kernel
theorem dX13_init_101 : decode cX13_init 101 = .ok (.bipush 36, 2) := by decide +kernel
theorem dX13_init_103 : decode cX13_init 103 = .ok (.newarray .int, 2) := by decide +kernel
theorem dX13_init_105 : decode cX13_init 105 = .ok (.putfield 48, 3) := by decide +kernel
theorem dX13_init_108 : decode cX13_init 108 = .ok (.aload_n 0, 1) := by decide +kernel
theorem dX13_init_109 : decode cX13_init 109 = .ok (.bipush 9, 2) := by decide +kernel
theorem dX13_init_111 : decode cX13_init 111 = .ok (.newarray .int, 2) := by decide +kernel
theorem dX13_init_113 : decode cX13_init 113 = .ok (.putfield 51, 3) := by decide +kernel
theorem dX13_init_116 : decode cX13_init 116 = .ok (.aload_n 0, 1) := by decide +kernel
theorem dX13_init_117 : decode cX13_init 117 = .ok (.sipush 4608, 3) := by decide +kernel
theorem dX13_init_120 : decode cX13_init 120 = .ok (.newarray .int, 2) := by decide +kernel
theorem dX13_init_122 : decode cX13_init 122 = .ok (.putfield 54, 3) := by decide +kernel
theorem dX13_init_125 : decode cX13_init 125 = .ok (.aload_n 0, 1) := by decide +kernel
theorem dX13_init_126 : decode cX13_init 126 = .ok (.iconst 5, 1) := by decide +kernel
theorem dX13_init_127 : decode cX13_init 127 = .ok (.newarray .int, 2) := by decide +kernel
theorem dX13_init_129 : decode cX13_init 129 = .ok (.putfield 57, 3) := by decide +kernel
theorem dX13_init_132 : decode cX13_init 132 = .ok (.aload_n 0, 1) := by decide +kernel
theorem dX13_init_133 : decode cX13_init 133 = .ok (.iconst 5, 1) := by decide +kernel
theorem dX13_init_134 : decode cX13_init 134 = .ok (.newarray .int, 2) := by decide +kernel
theorem dX13_init_136 : decode cX13_init 136 = .ok (.putfield 60, 3) := by decide +kernel
theorem dX13_init_139 : decode cX13_init 139 = .ok (.aload_n 0, 1) := by decide +kernel
theorem dX13_init_140 : decode cX13_init 140 = .ok (.iconst 5, 1) := by decide +kernel
theorem dX13_init_141 : decode cX13_init 141 = .ok (.newarray .int, 2) := by decide +kernel
theorem dX13_init_143 : decode cX13_init 143 = .ok (.putfield 63, 3) := by decide +kernel
theorem dX13_init_146 : decode cX13_init 146 = .ok (.aload_n 0, 1) := by decide +kernel
theorem dX13_init_147 : decode cX13_init 147 = .ok (.bipush 40, 2) := by decide +kernel
theorem dX13_init_149 : decode cX13_init 149 = .ok (.newarray .int, 2) := by decide +kernel
theorem dX13_init_151 : decode cX13_init 151 = .ok (.putfield 66, 3) := by decide +kernel
theorem dX13_init_154 : decode cX13_init 154 = .ok (.aload_n 0, 1) := by decide +kernel
theorem dX13_init_155 : decode cX13_init 155 = .ok (.bipush 36, 2) := by decide +kernel
theorem dX13_init_157 : decode cX13_init 157 = .ok (.newarray .int, 2) := by decide +kernel
theorem dX13_init_159 : decode cX13_init 159 = .ok (.dup, 1) := by decide +kernel
theorem dX13_init_160 : decode cX13_init 160 = .ok (.iconst 0, 1) := by decide +kernel
theorem dX13_init_161 : decode cX13_init 161 = .ok (.iconst 0, 1) := by decide +kernel
theorem dX13_init_162 : decode cX13_init 162 = .ok (.iastore, 1) := by decide +kernel
theorem dX13_init_163 : decode cX13_init 163 = .ok (.dup, 1) := by decide +kernel
theorem dX13_init_164 : decode cX13_init 164 = .ok (.iconst 1, 1) := by decide +kernel
theorem dX13_init_165 : decode cX13_init 165 = .ok (.iconst 0, 1) := by decide +kernel
theorem dX13_init_166 : decode cX13_init 166 = .ok (.iastore, 1) := by decide +kernel
theorem dX13_init_167 : decode cX13_init 167 = .ok (.dup, 1) := by decide +kernel
theorem dX13_init_168 : decode cX13_init 168 = .ok (.iconst 2, 1) := by decide +kernel
theorem dX13_init_169 : decode cX13_init 169 = .ok (.iconst 0, 1) := by decide +kernel
theorem dX13_init_170 : decode cX13_init 170 = .ok (.iastore, 1) := by decide +kernel
theorem dX13_init_171 : decode cX13_init 171 = .ok (.dup, 1) := by decide +kernel
theorem dX13_init_172 : decode cX13_init 172 = .ok (.iconst 3, 1) := by decide +kernel
theorem dX13_init_173 : decode cX13_init 173 = .ok (.iconst 0, 1) := by decide +kernel
theorem dX13_init_174 : decode cX13_init 174 = .ok (.iastore, 1) := by decide +kernel
theorem dX13_init_175 : decode cX13_init 175 = .ok (.dup, 1) := by decide +kernel
theorem dX13_init_176 : decode cX13_init 176 = .ok (.iconst 4, 1) := by decide +kernel
theorem dX13_init_177 : decode cX13_init 177 = .ok (.iconst (-1), 1) := by decide +kernel
theorem dX13_init_178 : decode cX13_init 178 = .ok (.iastore, 1) := by decide +kernel
theorem dX13_init_179 : decode cX13_init 179 = .ok (.dup, 1) := by decide +kernel
theorem dX13_init_180 : decode cX13_init 180 = .ok (.iconst 5, 1) := by decide +kernel
theorem dX13_init_181 : decode cX13_init 181 = .ok (.iconst (-1), 1) := by decide +kernel
theorem dX13_init_182 : decode cX13_init 182 = .ok (.iastore, 1) := by decide +kernel
theorem dX13_init_183 : decode cX13_init 183 = .ok (.dup, 1) := by decide +kernel
theorem dX13_init_184 : decode cX13_init 184 = .ok (.bipush 6, 2) := by decide +kernel
theorem dX13_init_186 : decode cX13_init 186 = .ok (.iconst (-1), 1) := by decide +kernel
theorem dX13_init_187 : decode cX13_init 187 = .ok (.iastore, 1) := by decide +kernel
theorem dX13_init_188 : decode cX13_init 188 = .ok (.dup, 1) := by decide +kernel
theorem dX13_init_189 : decode cX13_init 189 = .ok (.bipush 7, 2) := by decide +kernel
theorem dX13_init_191 : decode cX13_init 191 = .ok (.iconst (-1), 1) := by decide +kernel
theorem dX13_init_192 : decode cX13_init 192 = .ok (.iastore, 1) := by decide +kernel
theorem dX13_init_193 : decode cX13_init 193 = .ok (.dup, 1) := by decide +kernel
theorem dX13_init_194 : decode cX13_init 194 = .ok (.bipush 8, 2) := by decide +kernel
theorem dX13_init_196 : decode cX13_init 196 = .ok (.iconst 5, 1) := by decide +kernel
theorem dX13_init_197 : decode cX13_init 197 = .ok (.iastore, 1) := by decide +kernel
theorem dX13_init_198 : decode cX13_init 198 = .ok (.dup, 1) := by decide +kernel
theorem dX13_init_199 : decode cX13_init 199 = .ok (.bipush 9, 2) := by decide +kernel
theorem dX13_init_201 : decode cX13_init 201 = .ok (.iconst 3, 1) := by decide +kernel
theorem dX13_init_202 : decode cX13_init 202 = .ok (.iastore, 1) := by decide +kernel
theorem dX13_init_203 : decode cX13_init 203 = .ok (.dup, 1) := by decide +kernel
theorem dX13_init_204 : decode cX13_init 204 = .ok (.bipush 10, 2) := by decide +kernel
theorem dX13_init_206 : decode cX13_init 206 = .ok (.iconst 4, 1) := by decide +kernel
theorem dX13_init_207 : decode cX13_init 207 = .ok (.iastore, 1) := by decide +kernel
theorem dX13_init_208 : decode cX13_init 208 = .ok (.dup, 1) := by decide +kernel
theorem dX13_init_209 : decode cX13_init 209 = .ok (.bipush 11, 2) := by decide +kernel
theorem dX13_init_211 : decode cX13_init 211 = .ok (.iconst 5, 1) := by decide +kernel
theorem dX13_init_212 : decode cX13_init 212 = .ok (.iastore, 1) := by decide +kernel
theorem dX13_init_213 : decode cX13_init 213 = .ok (.dup, 1) := by decide +kernel
theorem dX13_init_214 : decode cX13_init 214 = .ok (.bipush 12, 2) := by decide +kernel
theorem dX13_init_216 : decode cX13_init 216 = .ok (.iconst 4, 1) := by decide +kernel
theorem dX13_init_217 : decode cX13_init 217 = .ok (.iastore, 1) := by decide +kernel
theorem dX13_init_218 : decode cX13_init 218 = .ok (.dup, 1) := by decide +kernel
theorem dX13_init_219 : decode cX13_init 219 = .ok (.bipush 13, 2) := by decide +kernel
theorem dX13_init_221 : decode cX13_init 221 = .ok (.iconst 0, 1) := by decide +kernel
theorem dX13_init_222 : decode cX13_init 222 = .ok (.iastore, 1) := by decide +kernel
theorem dX13_init_223 : decode cX13_init 223 = .ok (.dup, 1) := by decide +kernel
theorem dX13_init_224 : decode cX13_init 224 = .ok (.bipush 14, 2) := by decide +kernel
theorem dX13_init_226 : decode cX13_init 226 = .ok (.iconst 0, 1) := by decide +kernel
theorem dX13_init_227 : decode cX13_init 227 = .ok (.iastore, 1) := by decide +kernel
theorem dX13_init_228 : decode cX13_init 228 = .ok (.dup, 1) := by decide +kernel
theorem dX13_init_229 : decode cX13_init 229 = .ok (.bipush 15, 2) := by decide +kernel
theorem dX13_init_231 : decode cX13_init 231 = .ok (.iconst 1, 1) := by decide +kernel
theorem dX13_init_232 : decode cX13_init 232 = .ok (.iastore, 1) := by decide +kernel
theorem dX13_init_233 : decode cX13_init 233 = .ok (.dup, 1) := by decide +kernel
theorem dX13_init_234 : decode cX13_init 234 = .ok (.bipush 16, 2) := by decide +kernel
theorem dX13_init_236 : decode cX13_init 236 = .ok (.iconst 5, 1) := by decide +kernel
theorem dX13_init_237 : decode cX13_init 237 = .ok (.iastore, 1) := by decide +kernel
theorem dX13_init_238 : decode cX13_init 238 = .ok (.dup, 1) := by decide +kernel
theorem dX13_init_239 : decode cX13_init 239 = .ok (.bipush 17, 2) := by decide +kernel
theorem dX13_init_241 : decode cX13_init 241 = .ok (.iconst 4, 1) := by decide +kernel
theorem dX13_init_242 : decode cX13_init 242 = .ok (.iastore, 1) := by decide +kernel
theorem dX13_init_243 : decode cX13_init 243 = .ok (.dup, 1) := by decide +kernel
theorem dX13_init_244 : decode cX13_init 244 = .ok (.bipush 18, 2) := by decide +kernel
theorem dX13_init_246 : decode cX13_init 246 = .ok (.iconst 0, 1) := by decide +kernel
theorem dX13_init_247 : decode cX13_init 247 = .ok (.iastore, 1) := by decide +kernel
theorem dX13_init_248 : decode cX13_init 248 = .ok (.dup, 1) := by decide +kernel
theorem dX13_init_249 : decode cX13_init 249 = .ok (.bipush 19, 2) := by decide +kernel
theorem dX13_init_251 : decode cX13_init 251 = .ok (.iconst 0, 1) := by decide +kernel
theorem dX13_init_252 : decode cX13_init 252 = .ok (.iastore, 1) := by decide +kernel
theorem dX13_init_253 : decode cX13_init 253 = .ok (.dup, 1) := by decide +kernel
theorem dX13_init_254 : decode cX13_init 254 = .ok (.bipush 20, 2) := by decide +kernel
theorem dX13_init_256 : decode cX13_init 256 = .ok (.iconst 0, 1) := by decide +kernel
theorem dX13_init_257 : decode cX13_init 257 = .ok (.iastore, 1) := by decide +kernel
theorem dX13_init_258 : decode cX13_init 258 = .ok (.dup, 1) := by decide +kernel
theorem dX13_init_259 : decode cX13_init 259 = .ok (.bipush 21, 2) := by decide +kernel
theorem dX13_init_261 : decode cX13_init 261 = .ok (.iconst 0, 1) := by decide +kernel
theorem dX13_init_262 : decode cX13_init 262 = .ok (.iastore, 1) := by decide +kernel
theorem dX13_init_263 : decode cX13_init 263 = .ok (.dup, 1) := by decide +kernel
theorem dX13_init_264 : decode cX13_init 264 = .ok (.bipush 22, 2) := by decide +kernel
theorem dX13_init_266 : decode cX13_init 266 = .ok (.iconst 0, 1) := by decide +kernel
theorem dX13_init_267 : decode cX13_init 267 = .ok (.iastore, 1) := by decide +kernel
theorem dX13_init_268 : decode cX13_init 268 = .ok (.dup, 1) := by decide +kernel
theorem dX13_init_269 : decode cX13_init 269 = .ok (.bipush 23, 2) := by decide +kernel
theorem dX13_init_271 : decode cX13_init 271 = .ok (.iconst 0, 1) := by decide +kernel
theorem dX13_init_272 : decode cX13_init 272 = .ok (.iastore, 1) := by decide +kernel
theorem dX13_init_273 : decode cX13_init 273 = .ok (.dup, 1) := by decide +kernel
theorem dX13_init_274 : decode cX13_init 274 = .ok (.bipush 24, 2) := by decide +kernel
theorem dX13_init_276 : decode cX13_init 276 = .ok (.iconst 0, 1) := by decide +kernel
theorem dX13_init_277 : decode cX13_init 277 = .ok (.iastore, 1) := by decide +kernel
theorem dX13_init_278 : decode cX13_init 278 = .ok (.dup, 1) := by decide +kernel
theorem dX13_init_279 : decode cX13_init 279 = .ok (.bipush 25, 2) := by decide +kernel
theorem dX13_init_281 : decode cX13_init 281 = .ok (.iconst 0, 1) := by decide +kernel
theorem dX13_init_282 : decode cX13_init 282 = .ok (.iastore, 1) := by decide +kernel
theorem dX13_init_283 : decode cX13_init 283 = .ok (.dup, 1) := by decide +kernel
theorem dX13_init_284 : decode cX13_init 284 = .ok (.bipush 26, 2) := by decide +kernel
theorem dX13_init_286 : decode cX13_init 286 = .ok (.iconst 0, 1) := by decide +kernel
theorem dX13_init_287 : decode cX13_init 287 = .ok (.iastore, 1) := by decide +kernel
theorem dX13_init_288 : decode cX13_init 288 = .ok (.dup, 1) := by decide +kernel
theorem dX13_init_289 : decode cX13_init 289 = .ok (.bipush 27, 2) := by decide +kernel
theorem dX13_init_291 : decode cX13_init 291 = .ok (.iconst 0, 1) := by decide +kernel
theorem dX13_init_292 : decode cX13_init 292 = .ok (.iastore, 1) := by decide +kernel
theorem dX13_init_293 : decode cX13_init 293 = .ok (.dup, 1) := by decide +kernel
theorem dX13_init_294 : decode cX13_init 294 = .ok (.bipush 28, 2) := by decide +kernel
theorem dX13_init_296 : decode cX13_init 296 = .ok (.iconst 0, 1) := by decide +kernel
theorem dX13_init_297 : decode cX13_init 297 = .ok (.iastore, 1) := by decide +kernel
theorem dX13_init_298 : decode cX13_init 298 = .ok (.dup, 1) := by decide +kernel
theorem dX13_init_299 : decode cX13_init 299 = .ok (.bipush 29, 2) := by decide +kernel
theorem dX13_init_301 : decode cX13_init 301 = .ok (.iconst 0, 1) := by decide +kernel
theorem dX13_init_302 : decode cX13_init 302 = .ok (.iastore, 1) := by decide +kernel
theorem dX13_init_303 : decode cX13_init 303 = .ok (.dup, 1) := by decide +kernel
theorem dX13_init_304 : decode cX13_init 304 = .ok (.bipush 30, 2) := by decide +kernel
theorem dX13_init_306 : decode cX13_init 306 = .ok (.iconst 0, 1) := by decide +kernel
theorem dX13_init_307 : decode cX13_init 307 = .ok (.iastore, 1) := by decide +kernel
theorem dX13_init_308 : decode cX13_init 308 = .ok (.dup, 1) := by decide +kernel
theorem dX13_init_309 : decode cX13_init 309 = .ok (.bipush 31, 2) := by decide +kernel
theorem dX13_init_311 : decode cX13_init 311 = .ok (.iconst 0, 1) := by decide +kernel
theorem dX13_init_312 : decode cX13_init 312 = .ok (.iastore, 1) := by decide +kernel
theorem dX13_init_313 : decode cX13_init 313 = .ok (.dup, 1) := by decide +kernel
theorem dX13_init_314 : decode cX13_init 314 = .ok (.bipush 32, 2) := by decide +kernel
theorem dX13_init_316 : decode cX13_init 316 = .ok (.iconst 0, 1) := by decide +kernel
theorem dX13_init_317 : decode cX13_init 317 = .ok (.iastore, 1) := by decide +kernel
theorem dX13_init_318 : decode cX13_init 318 = .ok (.dup, 1) := by decide +kernel
theorem dX13_init_319 : decode cX13_init 319 = .ok (.bipush 33, 2) := by decide +kernel
theorem dX13_init_321 : decode cX13_init 321 = .ok (.iconst 0, 1) := by decide +kernel
theorem dX13_init_322 : decode cX13_init 322 = .ok (.iastore, 1) := by decide +kernel
theorem dX13_init_323 : decode cX13_init 323 = .ok (.dup, 1) := by decide +kernel
theorem dX13_init_324 : decode cX13_init 324 = .ok (.bipush 34, 2) := by decide +kernel
theorem dX13_init_326 : decode cX13_init 326 = .ok (.iconst 0, 1) := by decide +kernel
theorem dX13_init_327 : decode cX13_init 327 = .ok (.iastore, 1) := by decide +kernel
theorem dX13_init_328 : decode cX13_init 328 = .ok (.dup, 1) := by decide +kernel
theorem dX13_init_329 : decode cX13_init 329 = .ok (.bipush 35, 2) := by decide +kernel
theorem dX13_init_331 : decode cX13_init 331 = .ok (.iconst 0, 1) := by decide +kernel
theorem dX13_init_332 : decode cX13_init 332 = .ok (.iastore, 1) := by decide +kernel
theorem dX13_init_333 : decode cX13_init 333 = .ok (.putfield 69, 3) := by decide +kernel
theorem dX13_init_336 : decode cX13_init 336 = .ok (.aload_n 0, 1) := by decide +kernel
theorem dX13_init_337 : decode cX13_init 337 = .ok (.iconst 4, 1) := by decide +kernel
theorem dX13_init_338 : decode cX13_init 338 = .ok (.newarray .int, 2) := by decide +kernel
theorem dX13_init_340 : decode cX13_init 340 = .ok (.putfield 72, 3) := by decide +kernel
theorem dX13_init_343 : decode cX13_init 343 = .ok (.aload_n 0, 1) := by decide +kernel
theorem dX13_init_344 : decode cX13_init 344 = .ok (.iconst 4, 1) := by decide +kernel
theorem dX13_init_345 : decode cX13_init 345 = .ok (.newarray .int, 2) := by decide +kernel
theorem dX13_init_347 : decode cX13_init 347 = .ok (.putfield 75, 3) := by decide +kernel
theorem dX13_init_350 : decode cX13_init 350 = .ok (.aload_n 0, 1) := by decide +kernel
theorem dX13_init_351 : decode cX13_init 351 = .ok (.iconst 4, 1) := by decide +kernel
theorem dX13_init_352 : decode cX13_init 352 = .ok (.newarray .int, 2) := by decide +kernel
theorem dX13_init_354 : decode cX13_init 354 = .ok (.putfield 78, 3) := by decide +kernel
theorem dX13_init_357 : decode cX13_init 357 = .ok (.aload_n 0, 1) := by decide +kernel
theorem dX13_init_358 : decode cX13_init 358 = .ok (.iconst 4, 1) := by decide +kernel
theorem dX13_init_359 : decode cX13_init 359 = .ok (.newarray .int, 2) := by decide +kernel
theorem dX13_init_361 : decode cX13_init 361 = .ok (.putfield 81, 3) := by decide +kernel
theorem dX13_init_364 : decode cX13_init 364 = .ok (.aload_n 0, 1) := by decide +kernel
theorem dX13_init_365 : decode cX13_init 365 = .ok (.bipush 40, 2) := by decide +kernel
theorem dX13_init_367 : decode cX13_init 367 = .ok (.newarray .int, 2) := by decide +kernel
theorem dX13_init_369 : decode cX13_init 369 = .ok (.putfield 84, 3) := by decide +kernel
theorem dX13_init_372 : decode cX13_init 372 = .ok (.aload_n 0, 1) := by decide +kernel
theorem dX13_init_373 : decode cX13_init 373 = .ok (.bipush 40, 2) := by decide +kernel
theorem dX13_init_375 : decode cX13_init 375 = .ok (.newarray .int, 2) := by decide +kernel
theorem dX13_init_377 : decode cX13_init 377 = .ok (.putfield 87, 3) := by decide +kernel
theorem dX13_init_380 : decode cX13_init 380 = .ok (.aload_n 0, 1) := by decide +kernel
theorem dX13_init_381 : decode cX13_init 381 = .ok (.bipush 40, 2) := by decide +kernel
theorem dX13_init_383 : decode cX13_init 383 = .ok (.newarray .int, 2) := by decide +kernel
theorem dX13_init_385 : decode cX13_init 385 = .ok (.putfield 90, 3) := by decide +kernel
theorem dX13_init_388 : decode cX13_init 388 = .ok (.aload_n 0, 1) := by decide +kernel
theorem dX13_init_389 : decode cX13_init 389 = .ok (.bipush 40, 2) := by decide +kernel
theorem dX13_init_391 : decode cX13_init 391 = .ok (.newarray .int, 2) := by decide +kernel
theorem dX13_init_393 : decode cX13_init 393 = .ok (.putfield 93, 3) := by decide +kernel
theorem dX13_init_396 : decode cX13_init 396 = .ok (.aload_n 0, 1) := by decide +kernel
theorem dX13_init_397 : decode cX13_init 397 = .ok (.bipush 40, 2) := by decide +kernel
theorem dX13_init_399 : decode cX13_init 399 = .ok (.newarray .int, 2) := by decide +kernel
theorem dX13_init_401 : decode cX13_init 401 = .ok (.putfield 96, 3) := by decide +kernel
theorem dX13_init_404 : decode cX13_init 404 = .ok (.aload_n 0, 1) := by decide +kernel
theorem dX13_init_405 : decode cX13_init 405 = .ok (.bipush 40, 2) := by decide +kernel
theorem dX13_init_407 : decode cX13_init 407 = .ok (.newarray .int, 2) := by decide +kernel
theorem dX13_init_409 : decode cX13_init 409 = .ok (.putfield 99, 3) := by decide +kernel
theorem dX13_init_412 : decode cX13_init 412 = .ok (.aload_n 0, 1) := by decide +kernel
theorem dX13_init_413 : decode cX13_init 413 = .ok (.bipush 40, 2) := by decide +kernel
theorem dX13_init_415 : decode cX13_init 415 = .ok (.newarray .int, 2) := by decide +kernel
theorem dX13_init_417 : decode cX13_init 417 = .ok (.putfield 102, 3) := by decide +kernel
theorem dX13_init_420 : decode cX13_init 420 = .ok (.aload_n 0, 1) := by decide +kernel
theorem dX13_init_421 : decode cX13_init 421 = .ok (.bipush 40, 2) := by decide +kernel
theorem dX13_init_423 : decode cX13_init 423 = .ok (.newarray .int, 2) := by decide +kernel
theorem dX13_init_425 : decode cX13_init 425 = .ok (.putfield 105, 3) := by decide +kernel
theorem dX13_init_428 : decode cX13_init 428 = .ok (.aload_n 0, 1) := by decide +kernel
theorem dX13_init_429 : decode cX13_init 429 = .ok (.bipush 40, 2) := by decide +kernel
theorem dX13_init_431 : decode cX13_init 431 = .ok (.newarray .int, 2) := by decide +kernel
theorem dX13_init_433 : decode cX13_init 433 = .ok (.putfield 108, 3) := by decide +kernel
theorem dX13_init_436 : decode cX13_init 436 = .ok (.aload_n 0, 1) := by decide +kernel
theorem dX13_init_437 : decode cX13_init 437 = .ok (.bipush 40, 2) := by decide +kernel
theorem dX13_init_439 : decode cX13_init 439 = .ok (.newarray .int, 2) := by decide +kernel
theorem dX13_init_441 : decode cX13_init 441 = .ok (.putfield 111, 3) := by decide +kernel
theorem dX13_init_444 : decode cX13_init 444 = .ok (.aload_n 0, 1) := by decide +kernel
theorem dX13_init_445 : decode cX13_init 445 = .ok (.bipush 40, 2) := by decide +kernel
theorem dX13_init_447 : decode cX13_init 447 = .ok (.newarray .int, 2) := by decide +kernel
theorem dX13_init_449 : decode cX13_init 449 = .ok (.putfield 114, 3) := by decide +kernel
theorem dX13_init_452 : decode cX13_init 452 = .ok (.aload_n 0, 1) := by decide +kernel
theorem dX13_init_453 : decode cX13_init 453 = .ok (.bipush 40, 2) := by decide +kernel
theorem dX13_init_455 : decode cX13_init 455 = .ok (.newarray .int, 2) := by decide +kernel
theorem dX13_init_457 : decode cX13_init 457 = .ok (.putfield 117, 3) := by decide +kernel
theorem dX13_init_460 : decode cX13_init 460 = .ok (.aload_n 0, 1) := by decide +kernel
theorem dX13_init_461 : decode cX13_init 461 = .ok (.bipush 40, 2) := by decide +kernel
theorem dX13_init_463 : decode cX13_init 463 = .ok (.newarray .int, 2) := by decide +kernel
theorem dX13_init_465 : decode cX13_init 465 = .ok (.putfield 120, 3) := by decide +kernel
theorem dX13_init_468 : decode cX13_init 468 = .ok (.aload_n 0, 1) := by decide +kernel
theorem dX13_init_469 : decode cX13_init 469 = .ok (.bipush 40, 2) := by decide +kernel
theorem dX13_init_471 : decode cX13_init 471 = .ok (.newarray .int, 2) := by decide +kernel
theorem dX13_init_473 : decode cX13_init 473 = .ok (.putfield 123, 3) := by decide +kernel
theorem dX13_init_476 : decode cX13_init 476 = .ok (.aload_n 0, 1) := by decide +kernel
theorem dX13_init_477 : decode cX13_init 477 = .ok (.sipush 2400, 3) := by decide +kernel
theorem dX13_init_480 : decode cX13_init 480 = .ok (.newarray .int, 2) := by decide +kernel
theorem dX13_init_482 : decode cX13_init 482 = .ok (.putfield 126, 3) := by decide +kernel
theorem dX13_init_485 : decode cX13_init 485 = .ok (.aload_n 0, 1) := by decide +kernel
theorem dX13_init_486 : decode cX13_init 486 = .ok (.sipush 250, 3) := by decide +kernel
theorem dX13_init_489 : decode cX13_init 489 = .ok (.newarray .int, 2) := by decide +kernel
theorem dX13_init_491 : decode cX13_init 491 = .ok (.putfield 129, 3) := by decide +kernel
theorem dX13_init_494 : decode cX13_init 494 = .ok (.aload_n 0, 1) := by decide +kernel
theorem dX13_init_495 : decode cX13_init 495 = .ok (.sipush 250, 3) := by decide +kernel
theorem dX13_init_498 : decode cX13_init 498 = .ok (.newarray .int, 2) := by decide +kernel
theorem dX13_init_500 : decode cX13_init 500 = .ok (.putfield 132, 3) := by decide +kernel
theorem dX13_init_503 : decode cX13_init 503 = .ok (.aload_n 0, 1) := by decide +kernel
theorem dX13_init_504 : decode cX13_init 504 = .ok (.sipush 250, 3) := by decide +kernel
theorem dX13_init_507 : decode cX13_init 507 = .ok (.newarray .int, 2) := by decide +kernel
theorem dX13_init_509 : decode cX13_init 509 = .ok (.putfield 135, 3) := by decide +kernel
theorem dX13_init_512 : decode cX13_init 512 = .ok (.aload_n 0, 1) := by decide +kernel
theorem dX13_init_513 : decode cX13_init 513 = .ok (.sipush 250, 3) := by decide +kernel
theorem dX13_init_516 : decode cX13_init 516 = .ok (.newarray .int, 2) := by decide +kernel
theorem dX13_init_518 : decode cX13_init 518 = .ok (.putfield 138, 3) := by decide +kernel
theorem dX13_init_521 : decode cX13_init 521 = .ok (.aload_n 0, 1) := by decide +kernel
theorem dX13_init_522 : decode cX13_init 522 = .ok (.sipush 2400, 3) := by decide +kernel
theorem dX13_init_525 : decode cX13_init 525 = .ok (.newarray .int, 2) := by decide +kernel
theorem dX13_init_527 : decode cX13_init 527 = .ok (.putfield 141, 3) := by decide +kernel
theorem dX13_init_530 : decode cX13_init 530 = .ok (.aload_n 0, 1) := by decide +kernel
theorem dX13_init_531 : decode cX13_init 531 = .ok (.sipush 2400, 3) := by decide +kernel
theorem dX13_init_534 : decode cX13_init 534 = .ok (.newarray .int, 2) := by decide +kernel
theorem dX13_init_536 : decode cX13_init 536 = .ok (.putfield 144, 3) := by decide +kernel
theorem dX13_init_539 : decode cX13_init 539 = .ok (.aload_n 0, 1) := by decide +kernel
theorem dX13_init_540 : decode cX13_init 540 = .ok (.iconst 1, 1) := by decide +kernel
theorem dX13_init_541 : decode cX13_init 541 = .ok (.putfield 147, 3) := by decide +kernel
theorem dX13_init_544 : decode cX13_init 544 = .ok (.aload_n 0, 1) := by decide +kernel
theorem dX13_init_545 : decode cX13_init 545 = .ok (.iconst 1, 1) := by decide +kernel
theorem dX13_init_546 : decode cX13_init 546 = .ok (.putfield 150, 3) := by decide +kernel
theorem dX13_init_549 : decode cX13_init 549 = .ok (.aload_n 0, 1) := by decide +kernel
theorem dX13_init_550 : decode cX13_init 550 = .ok (.bipush 24, 2) := by decide +kernel
theorem dX13_init_552 : decode cX13_init 552 = .ok (.newarray .int, 2) := by decide +kernel
theorem dX13_init_554 : decode cX13_init 554 = .ok (.putfield 153, 3) := by decide +kernel
theorem dX13_init_557 : decode cX13_init 557 = .ok (.aload_n 0, 1) := by decide +kernel
theorem dX13_init_558 : decode cX13_init 558 = .ok (.sipush 192, 3) := by decide +kernel
theorem dX13_init_561 : decode cX13_init 561 = .ok (.newarray .int, 2) := by decide +kernel
theorem dX13_init_563 : decode cX13_init 563 = .ok (.putfield 156, 3) := by decide +kernel
theorem dX13_init_566 : decode cX13_init 566 = .ok (.return_, 1) := by decide +kernel
theorem dX13_thrown_0 : decode cX13_thrown 0 = .ok (.aload_n 0, 1) := by decide +kernel
theorem dX13_thrown_1 : decode cX13_thrown 1 = .ok (.getfield 159, 3) := by decide +kernel
theorem dX13_thrown_4 : decode cX13_thrown 4 = .ok (.ireturn, 1) := by decide +kernel
theorem dX13_throwsIf_0 : decode cX13_throwsIf 0 = .ok (.iload_n 1, 1) := by decide +kernel
theorem dX13_throwsIf_1 : decode cX13_throwsIf 1 = .ok (.ifCond .eq 8, 3) := by decide +kernel
theorem dX13_throwsIf_4 : decode cX13_throwsIf 4 = .ok (.aload_n 0, 1) := by decide +kernel
theorem dX13_throwsIf_5 : decode cX13_throwsIf 5 = .ok (.iload_n 2, 1) := by decide +kernel
theorem dX13_throwsIf_6 : decode cX13_throwsIf 6 = .ok (.putfield 159, 3) := by decide +kernel
theorem dX13_throwsIf_9 : decode cX13_throwsIf 9 = .ok (.iload_n 1, 1) := by decide +kernel
theorem dX13_throwsIf_10 : decode cX13_throwsIf 10 = .ok (.ireturn, 1) := by decide +kernel
theorem dX13_in_0 : decode cX13_in 0 = .ok (.iload_n 0, 1) := by decide +kernel
theorem dX13_in_1 : decode cX13_in 1 = .ok (.iload_n 1, 1) := by decide +kernel
theorem dX13_in_2 : decode cX13_in 2 = .ok (.if_icmp .lt 12, 3) := by decide +kernel
theorem dX13_in_5 : decode cX13_in 5 = .ok (.iload_n 0, 1) := by decide +kernel
theorem dX13_in_6 : decode cX13_in 6 = .ok (.iload_n 2, 1) := by decide +kernel
theorem dX13_in_7 : decode cX13_in 7 = .ok (.if_icmp .gt 7, 3) := by decide +kernel
theorem dX13_in_10 : decode cX13_in 10 = .ok (.iconst 1, 1) := by decide +kernel
theorem dX13_in_11 : decode cX13_in 11 = .ok (.goto 4, 3) := by decide +kernel
theorem dX13_in_14 : decode cX13_in 14 = .ok (.iconst 0, 1) := by decide +kernel
theorem dX13_in_15 : decode cX13_in 15 = .ok (.ireturn, 1) := by decide +kernel
theorem dX13_feed_0 : decode cX13_feed 0 = .ok (.aload_n 0, 1) := by decide +kernel
theorem dX13_feed_1 : decode cX13_feed 1 = .ok (.iconst 0, 1) := by decide +kernel
theorem dX13_feed_2 : decode cX13_feed 2 = .ok (.putfield 159, 3) := by decide +kernel
theorem dX13_feed_5 : decode cX13_feed 5 = .ok (.aload_n 0, 1) := by decide +kernel
theorem dX13_feed_6 : decode cX13_feed 6 = .ok (.getfield 162, 3) := by decide +kernel
theorem dX13_feed_9 : decode cX13_feed 9 = .ok (.bipush 20, 2) := by decide +kernel
theorem dX13_feed_11 : decode cX13_feed 11 = .ok (.iadd, 1) := by decide +kernel
theorem dX13_feed_12 : decode cX13_feed 12 = .ok (.sipush 400, 3) := by decide +kernel
theorem dX13_feed_15 : decode cX13_feed 15 = .ok (.if_icmp .le 5, 3) := by decide +kernel
theorem dX13_feed_18 : decode cX13_feed 18 = .ok (.iconst (-1), 1) := by decide +kernel
theorem dX13_feed_19 : decode cX13_feed 19 = .ok (.ireturn, 1) := by decide +kernel
theorem dX13_feed_20 : decode cX13_feed 20 = .ok (.aload_n 0, 1) := by decide +kernel
theorem dX13_feed_21 : decode cX13_feed 21 = .ok (.getfield 17, 3) := by decide +kernel
theorem dX13_feed_24 : decode cX13_feed 24 = .ok (.iconst 0, 1) := by decide +kernel
theorem dX13_feed_25 : decode cX13_feed 25 = .ok (.iload_n 1, 1) := by decide +kernel
theorem dX13_feed_26 : decode cX13_feed 26 = .ok (.iastore, 1) := by decide +kernel
theorem dX13_feed_27 : decode cX13_feed 27 = .ok (.aload_n 0, 1) := by decide +kernel
theorem dX13_feed_28 : decode cX13_feed 28 = .ok (.getfield 17, 3) := by decide +kernel
theorem dX13_feed_31 : decode cX13_feed 31 = .ok (.iconst 1, 1) := by decide +kernel
theorem dX13_feed_32 : decode cX13_feed 32 = .ok (.iload_n 2, 1) := by decide +kernel
theorem dX13_feed_33 : decode cX13_feed 33 = .ok (.iastore, 1) := by decide +kernel
theorem dX13_feed_34 : decode cX13_feed 34 = .ok (.aload_n 0, 1) := by decide +kernel
theorem dX13_feed_35 : decode cX13_feed 35 = .ok (.getfield 17, 3) := by decide +kernel
theorem dX13_feed_38 : decode cX13_feed 38 = .ok (.iconst 2, 1) := by decide +kernel
theorem dX13_feed_39 : decode cX13_feed 39 = .ok (.iload_n 3, 1) := by decide +kernel
theorem dX13_feed_40 : decode cX13_feed 40 = .ok (.iastore, 1) := by decide +kernel
theorem dX13_feed_41 : decode cX13_feed 41 = .ok (.aload_n 0, 1) := by decide +kernel
theorem dX13_feed_42 : decode cX13_feed 42 = .ok (.getfield 17, 3) := by decide +kernel
theorem dX13_feed_45 : decode cX13_feed 45 = .ok (.iconst 3, 1) := by decide +kernel
theorem dX13_feed_46 : decode cX13_feed 46 = .ok (.iload 4, 2) := by decide +kernel
theorem dX13_feed_48 : decode cX13_feed 48 = .ok (.iastore, 1) := by decide +kernel
theorem dX13_feed_49 : decode cX13_feed 49 = .ok (.aload_n 0, 1) := by decide +kernel
theorem dX13_feed_50 : decode cX13_feed 50 = .ok (.getfield 17, 3) := by decide +kernel
theorem dX13_feed_53 : decode cX13_feed 53 = .ok (.iconst 4, 1) := by decide +kernel
theorem dX13_feed_54 : decode cX13_feed 54 = .ok (.iload 5, 2) := by decide +kernel
theorem dX13_feed_56 : decode cX13_feed 56 = .ok (.iastore, 1) := by decide +kernel
theorem dX13_feed_57 : decode cX13_feed 57 = .ok (.iconst 0, 1) := by decide +kernel
theorem dX13_feed_58 : decode cX13_feed 58 = .ok (.istore 6, 2) := by decide +kernel
theorem dX13_feed_60 : decode cX13_feed 60 = .ok (.iload 6, 2) := by decide +kernel
theorem dX13_feed_62 : decode cX13_feed 62 = .ok (.bipush 20, 2) := by decide +kernel
theorem dX13_feed_64 : decode cX13_feed 64 = .ok (.if_icmp .ge 42, 3) := by decide +kernel
theorem dX13_feed_67 : decode cX13_feed 67 = .ok (.aload_n 0, 1) := by decide +kernel
theorem dX13_feed_68 : decode cX13_feed 68 = .ok (.getfield 9, 3) := by decide +kernel
theorem dX13_feed_71 : decode cX13_feed 71 = .ok (.aload_n 0, 1) := by decide +kernel
theorem dX13_feed_72 : decode cX13_feed 72 = .ok (.getfield 162, 3) := by decide +kernel
theorem dX13_feed_75 : decode cX13_feed 75 = .ok (.iload 6, 2) := by decide +kernel
theorem dX13_feed_77 : decode cX13_feed 77 = .ok (.iadd, 1) := by decide +kernel
theorem dX13_feed_78 : decode cX13_feed 78 = .ok (.aload_n 0, 1) := by decide +kernel
theorem dX13_feed_79 : decode cX13_feed 79 = .ok (.getfield 17, 3) := by decide +kernel
theorem dX13_feed_82 : decode cX13_feed 82 = .ok (.iload 6, 2) := by decide +kernel
theorem dX13_feed_84 : decode cX13_feed 84 = .ok (.iconst 4, 1) := by decide +kernel
theorem dX13_feed_85 : decode cX13_feed 85 = .ok (.idiv, 1) := by decide +kernel
theorem dX13_feed_86 : decode cX13_feed 86 = .ok (.iaload, 1) := by decide +kernel
theorem dX13_feed_87 : decode cX13_feed 87 = .ok (.bipush 24, 2) := by decide +kernel
theorem dX13_feed_89 : decode cX13_feed 89 = .ok (.bipush 8, 2) := by decide +kernel
theorem dX13_feed_91 : decode cX13_feed 91 = .ok (.iload 6, 2) := by decide +kernel
theorem dX13_feed_93 : decode cX13_feed 93 = .ok (.iconst 4, 1) := by decide +kernel
theorem dX13_feed_94 : decode cX13_feed 94 = .ok (.irem, 1) := by decide +kernel
theorem dX13_feed_95 : decode cX13_feed 95 = .ok (.imul, 1) := by decide +kernel
theorem dX13_feed_96 : decode cX13_feed 96 = .ok (.isub, 1) := by decide +kernel
theorem dX13_feed_97 : decode cX13_feed 97 = .ok (.ishr, 1) := by decide +kernel
theorem dX13_feed_98 : decode cX13_feed 98 = .ok (.i2b, 1) := by decide +kernel
theorem dX13_feed_99 : decode cX13_feed 99 = .ok (.bastore, 1) := by decide +kernel
theorem dX13_feed_100 : decode cX13_feed 100 = .ok (.iinc 6 1, 3) := by decide +kernel
theorem dX13_feed_103 : decode cX13_feed 103 = .ok (.goto (-43), 3) := by decide +kernel
theorem dX13_feed_106 : decode cX13_feed 106 = .ok (.aload_n 0, 1) := by decide +kernel
theorem dX13_feed_107 : decode cX13_feed 107 = .ok (.dup, 1) := by decide +kernel
theorem dX13_feed_108 : decode cX13_feed 108 = .ok (.getfield 162, 3) := by decide +kernel
theorem dX13_feed_111 : decode cX13_feed 111 = .ok (.bipush 20, 2) := by decide +kernel
theorem dX13_feed_113 : decode cX13_feed 113 = .ok (.iadd, 1) := by decide +kernel
theorem dX13_feed_114 : decode cX13_feed 114 = .ok (.putfield 162, 3) := by decide +kernel
theorem dX13_feed_117 : decode cX13_feed 117 = .ok (.aload_n 0, 1) := by decide +kernel
theorem dX13_feed_118 : decode cX13_feed 118 = .ok (.getfield 162, 3) := by decide +kernel
theorem dX13_feed_121 : decode cX13_feed 121 = .ok (.ireturn, 1) := by decide +kernel
theorem dX13_end_0 : decode cX13_end 0 = .ok (.aload_n 0, 1) := by decide +kernel
theorem dX13_end_1 : decode cX13_end 1 = .ok (.iconst 0, 1) := by decide +kernel
theorem dX13_end_2 : decode cX13_end 2 = .ok (.putfield 159, 3) := by decide +kernel
theorem dX13_end_5 : decode cX13_end 5 = .ok (.iload_n 1, 1) := by decide +kernel
theorem dX13_end_6 : decode cX13_end 6 = .ok (.ifCond .lt 11, 3) := by decide +kernel
theorem dX13_end_9 : decode cX13_end 9 = .ok (.iload_n 1, 1) := by decide +kernel
theorem dX13_end_10 : decode cX13_end 10 = .ok (.aload_n 0, 1) := by decide +kernel
theorem dX13_end_11 : decode cX13_end 11 = .ok (.getfield 162, 3) := by decide +kernel
theorem dX13_end_14 : decode cX13_end 14 = .ok (.if_icmp .le 5, 3) := by decide +kernel
theorem dX13_end_17 : decode cX13_end 17 = .ok (.iconst 0, 1) := by decide +kernel
theorem dX13_end_18 : decode cX13_end 18 = .ok (.ireturn, 1) := by decide +kernel
theorem dX13_end_19 : decode cX13_end 19 = .ok (.aload_n 0, 1) := by decide +kernel
theorem dX13_end_20 : decode cX13_end 20 = .ok (.iload_n 1, 1) := by decide +kernel
theorem dX13_end_21 : decode cX13_end 21 = .ok (.putfield 162, 3) := by decide +kernel
theorem dX13_end_24 : decode cX13_end 24 = .ok (.iconst 1, 1) := by decide +kernel
theorem dX13_end_25 : decode cX13_end 25 = .ok (.ireturn, 1) := by decide +kernel
theorem dX13_uses_0 : decode cX13_uses 0 = .ok (.aload_n 0, 1) := by decide +kernel
theorem dX13_uses_1 : decode cX13_uses 1 = .ok (.iconst 0, 1) := by decide +kernel
theorem dX13_uses_2 : decode cX13_uses 2 = .ok (.putfield 159, 3) := by decide +kernel
theorem dX13_uses_5 : decode cX13_uses 5 = .ok (.aload_n 0, 1) := by decide +kernel
theorem dX13_uses_6 : decode cX13_uses 6 = .ok (.aload_n 0, 1) := by decide +kernel
theorem dX13_uses_7 : decode cX13_uses 7 = .ok (.getfield 162, 3) := by decide +kernel
theorem dX13_uses_10 : decode cX13_uses 10 = .ok (.putfield 165, 3) := by decide +kernel
theorem dX13_uses_13 : decode cX13_uses 13 = .ok (.aload_n 0, 1) := by decide +kernel
theorem dX13_uses_14 : decode cX13_uses 14 = .ok (.iconst 0, 1) := by decide +kernel
theorem dX13_uses_15 : decode cX13_uses 15 = .ok (.putfield 162, 3) := by decide +kernel
theorem dX13_uses_18 : decode cX13_uses 18 = .ok (.aload_n 0, 1) := by decide +kernel
theorem dX13_uses_19 : decode cX13_uses 19 = .ok (.iconst 0, 1) := by decide +kernel
theorem dX13_uses_20 : decode cX13_uses 20 = .ok (.putfield 168, 3) := by decide +kernel
theorem dX13_uses_23 : decode cX13_uses 23 = .ok (.return_, 1) := by decide +kernel
theorem dX13_isAt_0 : decode cX13_isAt 0 = .ok (.aload_n 0, 1) := by decide +kernel
theorem dX13_isAt_1 : decode cX13_isAt 1 = .ok (.getfield 168, 3) := by decide +kernel
theorem dX13_isAt_4 : decode cX13_isAt 4 = .ok (.aload_n 0, 1) := by decide +kernel
theorem dX13_isAt_5 : decode cX13_isAt 5 = .ok (.getfield 165, 3) := by decide +kernel
theorem dX13_isAt_8 : decode cX13_isAt 8 = .ok (.if_icmp .ge 33, 3) := by decide +kernel
theorem dX13_isAt_11 : decode cX13_isAt 11 = .ok (.aload_n 0, 1) := by decide +kernel
theorem dX13_isAt_12 : decode cX13_isAt 12 = .ok (.getfield 9, 3) := by decide +kernel
theorem dX13_isAt_15 : decode cX13_isAt 15 = .ok (.aload_n 0, 1) := by decide +kernel
theorem dX13_isAt_16 : decode cX13_isAt 16 = .ok (.getfield 168, 3) := by decide +kernel
theorem dX13_isAt_19 : decode cX13_isAt 19 = .ok (.baload, 1) := by decide +kernel
theorem dX13_isAt_20 : decode cX13_isAt 20 = .ok (.iload_n 1, 1) := by decide +kernel
theorem dX13_isAt_21 : decode cX13_isAt 21 = .ok (.if_icmp .lt 20, 3) := by decide +kernel
theorem dX13_isAt_24 : decode cX13_isAt 24 = .ok (.aload_n 0, 1) := by decide +kernel
theorem dX13_isAt_25 : decode cX13_isAt 25 = .ok (.getfield 9, 3) := by decide +kernel
theorem dX13_isAt_28 : decode cX13_isAt 28 = .ok (.aload_n 0, 1) := by decide +kernel
theorem dX13_isAt_29 : decode cX13_isAt 29 = .ok (.getfield 168, 3) := by decide +kernel
theorem dX13_isAt_32 : decode cX13_isAt 32 = .ok (.baload, 1) := by decide +kernel
theorem dX13_isAt_33 : decode cX13_isAt 33 = .ok (.iload_n 2, 1) := by decide +kernel
theorem dX13_isAt_34 : decode cX13_isAt 34 = .ok (.if_icmp .gt 7, 3) := by decide +kernel
theorem dX13_isAt_37 : decode cX13_isAt 37 = .ok (.iconst 1, 1) := by decide +kernel
theorem dX13_isAt_38 : decode cX13_isAt 38 = .ok (.goto 4, 3) := by decide +kernel
theorem dX13_isAt_41 : decode cX13_isAt 41 = .ok (.iconst 0, 1) := by decide +kernel
theorem dX13_isAt_42 : decode cX13_isAt 42 = .ok (.ireturn, 1) := by decide +kernel
theorem dX13_blanks_0 : decode cX13_blanks 0 = .ok (.aload_n 0, 1) := by decide +kernel
theorem dX13_blanks_1 : decode cX13_blanks 1 = .ok (.bipush 32, 2) := by decide +kernel
theorem dX13_blanks_3 : decode cX13_blanks 3 = .ok (.bipush 32, 2) := by decide +kernel
theorem dX13_blanks_5 : decode cX13_blanks 5 = .ok (.invokevirtual 171, 3) := by decide +kernel
theorem dX13_blanks_8 : decode cX13_blanks 8 = .ok (.ifCond .eq 16, 3) := by decide +kernel
theorem dX13_blanks_11 : decode cX13_blanks 11 = .ok (.aload_n 0, 1) := by decide +kernel
theorem dX13_blanks_12 : decode cX13_blanks 12 = .ok (.dup, 1) := by decide +kernel
theorem dX13_blanks_13 : decode cX13_blanks 13 = .ok (.getfield 168, 3) := by decide +kernel
theorem dX13_blanks_16 : decode cX13_blanks 16 = .ok (.iconst 1, 1) := by decide +kernel
theorem dX13_blanks_17 : decode cX13_blanks 17 = .ok (.iadd, 1) := by decide +kernel
theorem dX13_blanks_18 : decode cX13_blanks 18 = .ok (.putfield 168, 3) := by decide +kernel
theorem dX13_blanks_21 : decode cX13_blanks 21 = .ok (.goto (-21), 3) := by decide +kernel
theorem dX13_blanks_24 : decode cX13_blanks 24 = .ok (.aload_n 0, 1) := by decide +kernel
theorem dX13_blanks_25 : decode cX13_blanks 25 = .ok (.aload_n 0, 1) := by decide +kernel
theorem dX13_blanks_26 : decode cX13_blanks 26 = .ok (.getfield 168, 3) := by decide +kernel
theorem dX13_blanks_29 : decode cX13_blanks 29 = .ok (.putfield 175, 3) := by decide +kernel
theorem dX13_blanks_32 : decode cX13_blanks 32 = .ok (.return_, 1) := by decide +kernel
theorem dX13_word_0 : decode cX13_word 0 = .ok (.aload_n 0, 1) := by decide +kernel
theorem dX13_word_1 : decode cX13_word 1 = .ok (.invokevirtual 178, 3) := by decide +kernel
theorem dX13_word_4 : decode cX13_word 4 = .ok (.aload_n 0, 1) := by decide +kernel
theorem dX13_word_5 : decode cX13_word 5 = .ok (.bipush 97, 2) := by decide +kernel
theorem dX13_word_7 : decode cX13_word 7 = .ok (.bipush 122, 2) := by decide +kernel
theorem dX13_word_9 : decode cX13_word 9 = .ok (.invokevirtual 171, 3) := by decide +kernel
theorem dX13_word_12 : decode cX13_word 12 = .ok (.ifCond .eq 16, 3) := by decide +kernel
theorem dX13_word_15 : decode cX13_word 15 = .ok (.aload_n 0, 1) := by decide +kernel
theorem dX13_word_16 : decode cX13_word 16 = .ok (.dup, 1) := by decide +kernel
theorem dX13_word_17 : decode cX13_word 17 = .ok (.getfield 168, 3) := by decide +kernel
theorem dX13_word_20 : decode cX13_word 20 = .ok (.iconst 1, 1) := by decide +kernel
theorem dX13_word_21 : decode cX13_word 21 = .ok (.iadd, 1) := by decide +kernel
theorem dX13_word_22 : decode cX13_word 22 = .ok (.putfield 168, 3) := by decide +kernel
theorem dX13_word_25 : decode cX13_word 25 = .ok (.goto (-21), 3) := by decide +kernel
theorem dX13_word_28 : decode cX13_word 28 = .ok (.return_, 1) := by decide +kernel
theorem dX13_isWord_0 : decode cX13_isWord 0 = .ok (.aload_n 0, 1) := by decide +kernel
theorem dX13_isWord_1 : decode cX13_isWord 1 = .ok (.getfield 168, 3) := by decide +kernel
theorem dX13_isWord_4 : decode cX13_isWord 4 = .ok (.aload_n 0, 1) := by decide +kernel
theorem dX13_isWord_5 : decode cX13_isWord 5 = .ok (.getfield 175, 3) := by decide +kernel
theorem dX13_isWord_8 : decode cX13_isWord 8 = .ok (.isub, 1) := by decide +kernel
theorem dX13_isWord_9 : decode cX13_isWord 9 = .ok (.aload_n 1, 1) := by decide +kernel
theorem dX13_isWord_10 : decode cX13_isWord 10 = .ok (.invokevirtual 181, 3) := by decide +kernel
theorem dX13_isWord_13 : decode cX13_isWord 13 = .ok (.if_icmp .ne 7, 3) := by decide +kernel
theorem dX13_isWord_16 : decode cX13_isWord 16 = .ok (.iconst 1, 1) := by decide +kernel
theorem dX13_isWord_17 : decode cX13_isWord 17 = .ok (.goto 4, 3) := by decide +kernel
theorem dX13_isWord_20 : decode cX13_isWord 20 = .ok (.iconst 0, 1) := by decide +kernel
theorem dX13_isWord_21 : decode cX13_isWord 21 = .ok (.istore_n 2, 1) := by decide +kernel
theorem dX13_isWord_22 : decode cX13_isWord 22 = .ok (.iconst 0, 1) := by decide +kernel
theorem dX13_isWord_23 : decode cX13_isWord 23 = .ok (.istore_n 3, 1) := by decide +kernel
theorem dX13_isWord_24 : decode cX13_isWord 24 = .ok (.iload_n 2, 1) := by decide +kernel
theorem dX13_isWord_25 : decode cX13_isWord 25 = .ok (.ifCond .eq 42, 3) := by decide +kernel
theorem dX13_isWord_28 : decode cX13_isWord 28 = .ok (.iload_n 3, 1) := by decide +kernel
theorem dX13_isWord_29 : decode cX13_isWord 29 = .ok (.aload_n 1, 1) := by decide +kernel
theorem dX13_isWord_30 : decode cX13_isWord 30 = .ok (.invokevirtual 181, 3) := by decide +kernel
theorem dX13_isWord_33 : decode cX13_isWord 33 = .ok (.if_icmp .ge 34, 3) := by decide +kernel
theorem dX13_isWord_36 : decode cX13_isWord 36 = .ok (.aload_n 0, 1) := by decide +kernel
theorem dX13_isWord_37 : decode cX13_isWord 37 = .ok (.getfield 9, 3) := by decide +kernel
theorem dX13_isWord_40 : decode cX13_isWord 40 = .ok (.aload_n 0, 1) := by decide +kernel
theorem dX13_isWord_41 : decode cX13_isWord 41 = .ok (.getfield 175, 3) := by decide +kernel
theorem dX13_isWord_44 : decode cX13_isWord 44 = .ok (.iload_n 3, 1) := by decide +kernel
theorem dX13_isWord_45 : decode cX13_isWord 45 = .ok (.iadd, 1) := by decide +kernel
theorem dX13_isWord_46 : decode cX13_isWord 46 = .ok (.baload, 1) := by decide +kernel
theorem dX13_isWord_47 : decode cX13_isWord 47 = .ok (.aload_n 1, 1) := by decide +kernel
theorem dX13_isWord_48 : decode cX13_isWord 48 = .ok (.iload_n 3, 1) := by decide +kernel
theorem dX13_isWord_49 : decode cX13_isWord 49 = .ok (.invokevirtual 187, 3) := by decide +kernel
theorem dX13_isWord_52 : decode cX13_isWord 52 = .ok (.if_icmp .ne 7, 3) := by decide +kernel
theorem dX13_isWord_55 : decode cX13_isWord 55 = .ok (.iconst 1, 1) := by decide +kernel
theorem dX13_isWord_56 : decode cX13_isWord 56 = .ok (.goto 4, 3) := by decide +kernel
theorem dX13_isWord_59 : decode cX13_isWord 59 = .ok (.iconst 0, 1) := by decide +kernel
theorem dX13_isWord_60 : decode cX13_isWord 60 = .ok (.istore_n 2, 1) := by decide +kernel
theorem dX13_isWord_61 : decode cX13_isWord 61 = .ok (.iinc 3 1, 3) := by decide +kernel
theorem dX13_isWord_64 : decode cX13_isWord 64 = .ok (.goto (-40), 3) := by decide +kernel
theorem dX13_isWord_67 : decode cX13_isWord 67 = .ok (.iload_n 2, 1) := by decide +kernel
theorem dX13_isWord_68 : decode cX13_isWord 68 = .ok (.ireturn, 1) := by decide +kernel
theorem dX13_number_0 : decode cX13_number 0 = .ok (.aload_n 0, 1) := by decide +kernel
theorem dX13_number_1 : decode cX13_number 1 = .ok (.invokevirtual 178, 3) := by decide +kernel
theorem dX13_number_4 : decode cX13_number 4 = .ok (.iconst 0, 1) := by decide +kernel
theorem dX13_number_5 : decode cX13_number 5 = .ok (.istore 4, 2) := by decide +kernel
theorem dX13_number_7 : decode cX13_number 7 = .ok (.aload_n 0, 1) := by decide +kernel
theorem dX13_number_8 : decode cX13_number 8 = .ok (.bipush 48, 2) := by decide +kernel
theorem dX13_number_10 : decode cX13_number 10 = .ok (.bipush 57, 2) := by decide +kernel
theorem dX13_number_12 : decode cX13_number 12 = .ok (.invokevirtual 171, 3) := by decide +kernel
theorem dX13_number_15 : decode cX13_number 15 = .ok (.ifCond .eq 54, 3) := by decide +kernel
theorem dX13_number_18 : decode cX13_number 18 = .ok (.aload_n 0, 1) := by decide +kernel
theorem dX13_number_19 : decode cX13_number 19 = .ok (.getfield 168, 3) := by decide +kernel
theorem dX13_number_22 : decode cX13_number 22 = .ok (.aload_n 0, 1) := by decide +kernel
theorem dX13_number_23 : decode cX13_number 23 = .ok (.getfield 175, 3) := by decide +kernel
theorem dX13_number_26 : decode cX13_number 26 = .ok (.isub, 1) := by decide +kernel
theorem dX13_number_27 : decode cX13_number 27 = .ok (.iload_n 1, 1) := by decide +kernel
theorem dX13_number_28 : decode cX13_number 28 = .ok (.if_icmp .ge 24, 3) := by decide +kernel
theorem dX13_number_31 : decode cX13_number 31 = .ok (.bipush 10, 2) := by decide +kernel
theorem dX13_number_33 : decode cX13_number 33 = .ok (.iload 4, 2) := by decide +kernel
theorem dX13_number_35 : decode cX13_number 35 = .ok (.imul, 1) := by decide +kernel
theorem dX13_number_36 : decode cX13_number 36 = .ok (.aload_n 0, 1) := by decide +kernel
theorem dX13_number_37 : decode cX13_number 37 = .ok (.getfield 9, 3) := by decide +kernel
theorem dX13_number_40 : decode cX13_number 40 = .ok (.aload_n 0, 1) := by decide +kernel
theorem dX13_number_41 : decode cX13_number 41 = .ok (.getfield 168, 3) := by decide +kernel
theorem dX13_number_44 : decode cX13_number 44 = .ok (.baload, 1) := by decide +kernel
theorem dX13_number_45 : decode cX13_number 45 = .ok (.iadd, 1) := by decide +kernel
theorem dX13_number_46 : decode cX13_number 46 = .ok (.bipush 48, 2) := by decide +kernel
theorem dX13_number_48 : decode cX13_number 48 = .ok (.isub, 1) := by decide +kernel
theorem dX13_number_49 : decode cX13_number 49 = .ok (.goto 5, 3) := by decide +kernel
theorem dX13_number_52 : decode cX13_number 52 = .ok (.iload 4, 2) := by decide +kernel
theorem dX13_number_54 : decode cX13_number 54 = .ok (.istore 4, 2) := by decide +kernel
theorem dX13_number_56 : decode cX13_number 56 = .ok (.aload_n 0, 1) := by decide +kernel
theorem dX13_number_57 : decode cX13_number 57 = .ok (.dup, 1) := by decide +kernel
theorem dX13_number_58 : decode cX13_number 58 = .ok (.getfield 168, 3) := by decide +kernel
theorem dX13_number_61 : decode cX13_number 61 = .ok (.iconst 1, 1) := by decide +kernel
theorem dX13_number_62 : decode cX13_number 62 = .ok (.iadd, 1) := by decide +kernel
theorem dX13_number_63 : decode cX13_number 63 = .ok (.putfield 168, 3) := by decide +kernel
theorem dX13_number_66 : decode cX13_number 66 = .ok (.goto (-59), 3) := by decide +kernel
theorem dX13_number_69 : decode cX13_number 69 = .ok (.aload_n 0, 1) := by decide +kernel
theorem dX13_number_70 : decode cX13_number 70 = .ok (.getfield 168, 3) := by decide +kernel
theorem dX13_number_73 : decode cX13_number 73 = .ok (.aload_n 0, 1) := by decide +kernel
theorem dX13_number_74 : decode cX13_number 74 = .ok (.getfield 175, 3) := by decide +kernel
theorem dX13_number_77 : decode cX13_number 77 = .ok (.if_icmp .eq 28, 3) := by decide +kernel
theorem dX13_number_80 : decode cX13_number 80 = .ok (.aload_n 0, 1) := by decide +kernel
theorem dX13_number_81 : decode cX13_number 81 = .ok (.getfield 168, 3) := by decide +kernel
theorem dX13_number_84 : decode cX13_number 84 = .ok (.aload_n 0, 1) := by decide +kernel
theorem dX13_number_85 : decode cX13_number 85 = .ok (.getfield 175, 3) := by decide +kernel
theorem dX13_number_88 : decode cX13_number 88 = .ok (.isub, 1) := by decide +kernel
theorem dX13_number_89 : decode cX13_number 89 = .ok (.iload_n 1, 1) := by decide +kernel
theorem dX13_number_90 : decode cX13_number 90 = .ok (.if_icmp .gt 15, 3) := by decide +kernel
theorem dX13_number_93 : decode cX13_number 93 = .ok (.iload 4, 2) := by decide +kernel
theorem dX13_number_95 : decode cX13_number 95 = .ok (.iload_n 2, 1) := by decide +kernel
theorem dX13_number_96 : decode cX13_number 96 = .ok (.if_icmp .lt 9, 3) := by decide +kernel
theorem dX13_number_99 : decode cX13_number 99 = .ok (.iload 4, 2) := by decide +kernel
theorem dX13_number_101 : decode cX13_number 101 = .ok (.iload_n 3, 1) := by decide +kernel
theorem dX13_number_102 : decode cX13_number 102 = .ok (.if_icmp .le 7, 3) := by decide +kernel
theorem dX13_number_105 : decode cX13_number 105 = .ok (.iconst (-1), 1) := by decide +kernel
theorem dX13_number_106 : decode cX13_number 106 = .ok (.goto 5, 3) := by decide +kernel
theorem dX13_number_109 : decode cX13_number 109 = .ok (.iload 4, 2) := by decide +kernel
theorem dX13_number_111 : decode cX13_number 111 = .ok (.ireturn, 1) := by decide +kernel
theorem dX13_bathOf_0 : decode cX13_bathOf 0 = .ok (.aload_n 0, 1) := by decide +kernel
theorem dX13_bathOf_1 : decode cX13_bathOf 1 = .ok (.ldc 191, 2) := by decide +kernel
theorem dX13_bathOf_3 : decode cX13_bathOf 3 = .ok (.invokevirtual 193, 3) := by decide +kernel
theorem dX13_bathOf_6 : decode cX13_bathOf 6 = .ok (.ifCond .eq 7, 3) := by decide +kernel
theorem dX13_bathOf_9 : decode cX13_bathOf 9 = .ok (.iconst 0, 1) := by decide +kernel
theorem dX13_bathOf_10 : decode cX13_bathOf 10 = .ok (.goto 43, 3) := by decide +kernel
theorem dX13_bathOf_13 : decode cX13_bathOf 13 = .ok (.aload_n 0, 1) := by decide +kernel
theorem dX13_bathOf_14 : decode cX13_bathOf 14 = .ok (.ldc 197, 2) := by decide +kernel
theorem dX13_bathOf_16 : decode cX13_bathOf 16 = .ok (.invokevirtual 193, 3) := by decide +kernel
theorem dX13_bathOf_19 : decode cX13_bathOf 19 = .ok (.ifCond .eq 7, 3) := by decide +kernel
theorem dX13_bathOf_22 : decode cX13_bathOf 22 = .ok (.iconst 1, 1) := by decide +kernel
theorem dX13_bathOf_23 : decode cX13_bathOf 23 = .ok (.goto 30, 3) := by decide +kernel
theorem dX13_bathOf_26 : decode cX13_bathOf 26 = .ok (.aload_n 0, 1) := by decide +kernel
theorem dX13_bathOf_27 : decode cX13_bathOf 27 = .ok (.ldc 199, 2) := by decide +kernel
theorem dX13_bathOf_29 : decode cX13_bathOf 29 = .ok (.invokevirtual 193, 3) := by decide +kernel
theorem dX13_bathOf_32 : decode cX13_bathOf 32 = .ok (.ifCond .eq 7, 3) := by decide +kernel
theorem dX13_bathOf_35 : decode cX13_bathOf 35 = .ok (.iconst 2, 1) := by decide +kernel
theorem dX13_bathOf_36 : decode cX13_bathOf 36 = .ok (.goto 17, 3) := by decide +kernel
theorem dX13_bathOf_39 : decode cX13_bathOf 39 = .ok (.aload_n 0, 1) := by decide +kernel
theorem dX13_bathOf_40 : decode cX13_bathOf 40 = .ok (.ldc 201, 2) := by decide +kernel
theorem dX13_bathOf_42 : decode cX13_bathOf 42 = .ok (.invokevirtual 193, 3) := by decide +kernel
theorem dX13_bathOf_45 : decode cX13_bathOf 45 = .ok (.ifCond .eq 7, 3) := by decide +kernel
theorem dX13_bathOf_48 : decode cX13_bathOf 48 = .ok (.iconst 3, 1) := by decide +kernel
theorem dX13_bathOf_49 : decode cX13_bathOf 49 = .ok (.goto 4, 3) := by decide +kernel
theorem dX13_bathOf_52 : decode cX13_bathOf 52 = .ok (.iconst (-1), 1) := by decide +kernel
theorem dX13_bathOf_53 : decode cX13_bathOf 53 = .ok (.ireturn, 1) := by decide +kernel
theorem dX13_readBath_0 : decode cX13_readBath 0 = .ok (.aload_n 0, 1) := by decide +kernel
theorem dX13_readBath_1 : decode cX13_readBath 1 = .ok (.invokevirtual 203, 3) := by decide +kernel
theorem dX13_readBath_4 : decode cX13_readBath 4 = .ok (.aload_n 0, 1) := by decide +kernel
theorem dX13_readBath_5 : decode cX13_readBath 5 = .ok (.invokevirtual 206, 3) := by decide +kernel
theorem dX13_readBath_8 : decode cX13_readBath 8 = .ok (.ireturn, 1) := by decide +kernel
theorem dX13_readRecipe_0 : decode cX13_readRecipe 0 = .ok (.aload_n 0, 1) := by decide +kernel
theorem dX13_readRecipe_1 : decode cX13_readRecipe 1 = .ok (.getfield 21, 3) := by decide +kernel
theorem dX13_readRecipe_4 : decode cX13_readRecipe 4 = .ok (.bipush 41, 2) := by decide +kernel
theorem dX13_readRecipe_6 : decode cX13_readRecipe 6 = .ok (.iconst 0, 1) := by decide +kernel
theorem dX13_readRecipe_7 : decode cX13_readRecipe 7 = .ok (.iastore, 1) := by decide +kernel
theorem dX13_readRecipe_8 : decode cX13_readRecipe 8 = .ok (.aload_n 0, 1) := by decide +kernel
theorem dX13_readRecipe_9 : decode cX13_readRecipe 9 = .ok (.invokevirtual 178, 3) := by decide +kernel
theorem dX13_readRecipe_12 : decode cX13_readRecipe 12 = .ok (.aload_n 0, 1) := by decide +kernel
theorem dX13_readRecipe_13 : decode cX13_readRecipe 13 = .ok (.getfield 168, 3) := by decide +kernel
theorem dX13_readRecipe_16 : decode cX13_readRecipe 16 = .ok (.aload_n 0, 1) := by decide +kernel
theorem dX13_readRecipe_17 : decode cX13_readRecipe 17 = .ok (.getfield 165, 3) := by decide +kernel
theorem dX13_readRecipe_20 : decode cX13_readRecipe 20 = .ok (.if_icmp .ne 5, 3) := by decide +kernel
theorem dX13_readRecipe_23 : decode cX13_readRecipe 23 = .ok (.iconst 1, 1) := by decide +kernel
theorem dX13_readRecipe_24 : decode cX13_readRecipe 24 = .ok (.ireturn, 1) := by decide +kernel
theorem dX13_readRecipe_25 : decode cX13_readRecipe 25 = .ok (.aload_n 0, 1) := by decide +kernel
theorem dX13_readRecipe_26 : decode cX13_readRecipe 26 = .ok (.invokevirtual 209, 3) := by decide +kernel
theorem dX13_readRecipe_29 : decode cX13_readRecipe 29 = .ok (.istore_n 1, 1) := by decide +kernel
theorem dX13_readRecipe_30 : decode cX13_readRecipe 30 = .ok (.iload_n 1, 1) := by decide +kernel
theorem dX13_readRecipe_31 : decode cX13_readRecipe 31 = .ok (.ifCond .lt 15, 3) := by decide +kernel
theorem dX13_readRecipe_34 : decode cX13_readRecipe 34 = .ok (.aload_n 0, 1) := by decide +kernel
theorem dX13_readRecipe_35 : decode cX13_readRecipe 35 = .ok (.getfield 21, 3) := by decide +kernel
theorem dX13_readRecipe_38 : decode cX13_readRecipe 38 = .ok (.bipush 41, 2) := by decide +kernel
theorem dX13_readRecipe_40 : decode cX13_readRecipe 40 = .ok (.iaload, 1) := by decide +kernel
theorem dX13_readRecipe_41 : decode cX13_readRecipe 41 = .ok (.bipush 20, 2) := by decide +kernel
theorem dX13_readRecipe_43 : decode cX13_readRecipe 43 = .ok (.if_icmp .ne 5, 3) := by decide +kernel
theorem dX13_readRecipe_46 : decode cX13_readRecipe 46 = .ok (.iconst 0, 1) := by decide +kernel
theorem dX13_readRecipe_47 : decode cX13_readRecipe 47 = .ok (.ireturn, 1) := by decide +kernel
theorem dX13_readRecipe_48 : decode cX13_readRecipe 48 = .ok (.iload_n 1, 1) := by decide +kernel
theorem dX13_readRecipe_49 : decode cX13_readRecipe 49 = .ok (.iconst 3, 1) := by decide +kernel
theorem dX13_readRecipe_50 : decode cX13_readRecipe 50 = .ok (.if_icmp .ne 7, 3) := by decide +kernel
theorem dX13_readRecipe_53 : decode cX13_readRecipe 53 = .ok (.iconst 1, 1) := by decide +kernel
theorem dX13_readRecipe_54 : decode cX13_readRecipe 54 = .ok (.goto 11, 3) := by decide +kernel
theorem dX13_readRecipe_57 : decode cX13_readRecipe 57 = .ok (.aload_n 0, 1) := by decide +kernel
theorem dX13_readRecipe_58 : decode cX13_readRecipe 58 = .ok (.iconst 2, 1) := by decide +kernel
theorem dX13_readRecipe_59 : decode cX13_readRecipe 59 = .ok (.iconst 1, 1) := by decide +kernel
theorem dX13_readRecipe_60 : decode cX13_readRecipe 60 = .ok (.bipush 20, 2) := by decide +kernel
theorem dX13_readRecipe_62 : decode cX13_readRecipe 62 = .ok (.invokevirtual 212, 3) := by decide +kernel
theorem dX13_readRecipe_65 : decode cX13_readRecipe 65 = .ok (.istore_n 2, 1) := by decide +kernel
theorem dX13_readRecipe_66 : decode cX13_readRecipe 66 = .ok (.iload_n 2, 1) := by decide +kernel
theorem dX13_readRecipe_67 : decode cX13_readRecipe 67 = .ok (.ifCond .ge 5, 3) := by decide +kernel
theorem dX13_readRecipe_70 : decode cX13_readRecipe 70 = .ok (.iconst 0, 1) := by decide +kernel
theorem dX13_readRecipe_71 : decode cX13_readRecipe 71 = .ok (.ireturn, 1) := by decide +kernel
theorem dX13_readRecipe_72 : decode cX13_readRecipe 72 = .ok (.aload_n 0, 1) := by decide +kernel
theorem dX13_readRecipe_73 : decode cX13_readRecipe 73 = .ok (.getfield 24, 3) := by decide +kernel
theorem dX13_readRecipe_76 : decode cX13_readRecipe 76 = .ok (.sipush 820, 3) := by decide +kernel
theorem dX13_readRecipe_79 : decode cX13_readRecipe 79 = .ok (.aload_n 0, 1) := by decide +kernel
theorem dX13_readRecipe_80 : decode cX13_readRecipe 80 = .ok (.getfield 21, 3) := by decide +kernel
theorem dX13_readRecipe_83 : decode cX13_readRecipe 83 = .ok (.bipush 41, 2) := by decide +kernel
theorem dX13_readRecipe_85 : decode cX13_readRecipe 85 = .ok (.iaload, 1) := by decide +kernel
theorem dX13_readRecipe_86 : decode cX13_readRecipe 86 = .ok (.iadd, 1) := by decide +kernel
theorem dX13_readRecipe_87 : decode cX13_readRecipe 87 = .ok (.iload_n 1, 1) := by decide +kernel
theorem dX13_readRecipe_88 : decode cX13_readRecipe 88 = .ok (.iastore, 1) := by decide +kernel
theorem dX13_readRecipe_89 : decode cX13_readRecipe 89 = .ok (.aload_n 0, 1) := by decide +kernel
theorem dX13_readRecipe_90 : decode cX13_readRecipe 90 = .ok (.getfield 27, 3) := by decide +kernel
theorem dX13_readRecipe_93 : decode cX13_readRecipe 93 = .ok (.sipush 820, 3) := by decide +kernel
theorem dX13_readRecipe_96 : decode cX13_readRecipe 96 = .ok (.aload_n 0, 1) := by decide +kernel
theorem dX13_readRecipe_97 : decode cX13_readRecipe 97 = .ok (.getfield 21, 3) := by decide +kernel
theorem dX13_readRecipe_100 : decode cX13_readRecipe 100 = .ok (.bipush 41, 2) := by decide +kernel
theorem dX13_readRecipe_102 : decode cX13_readRecipe 102 = .ok (.iaload, 1) := by decide +kernel
theorem dX13_readRecipe_103 : decode cX13_readRecipe 103 = .ok (.iadd, 1) := by decide +kernel
theorem dX13_readRecipe_104 : decode cX13_readRecipe 104 = .ok (.iload_n 2, 1) := by decide +kernel
theorem dX13_readRecipe_105 : decode cX13_readRecipe 105 = .ok (.iastore, 1) := by decide +kernel
theorem dX13_readRecipe_106 : decode cX13_readRecipe 106 = .ok (.aload_n 0, 1) := by decide +kernel
theorem dX13_readRecipe_107 : decode cX13_readRecipe 107 = .ok (.getfield 21, 3) := by decide +kernel
theorem dX13_readRecipe_110 : decode cX13_readRecipe 110 = .ok (.bipush 41, 2) := by decide +kernel
theorem dX13_readRecipe_112 : decode cX13_readRecipe 112 = .ok (.dup2, 1) := by decide +kernel
theorem dX13_readRecipe_113 : decode cX13_readRecipe 113 = .ok (.iaload, 1) := by decide +kernel
theorem dX13_readRecipe_114 : decode cX13_readRecipe 114 = .ok (.iconst 1, 1) := by decide +kernel
theorem dX13_readRecipe_115 : decode cX13_readRecipe 115 = .ok (.iadd, 1) := by decide +kernel
theorem dX13_readRecipe_116 : decode cX13_readRecipe 116 = .ok (.iastore, 1) := by decide +kernel
theorem dX13_readRecipe_117 : decode cX13_readRecipe 117 = .ok (.aload_n 0, 1) := by decide +kernel
theorem dX13_readRecipe_118 : decode cX13_readRecipe 118 = .ok (.invokevirtual 178, 3) := by decide +kernel
theorem dX13_readRecipe_121 : decode cX13_readRecipe 121 = .ok (.aload_n 0, 1) := by decide +kernel
theorem dX13_readRecipe_122 : decode cX13_readRecipe 122 = .ok (.getfield 168, 3) := by decide +kernel
theorem dX13_readRecipe_125 : decode cX13_readRecipe 125 = .ok (.aload_n 0, 1) := by decide +kernel
theorem dX13_readRecipe_126 : decode cX13_readRecipe 126 = .ok (.getfield 165, 3) := by decide +kernel
theorem dX13_readRecipe_129 : decode cX13_readRecipe 129 = .ok (.if_icmp .ne 5, 3) := by decide +kernel
theorem dX13_readRecipe_132 : decode cX13_readRecipe 132 = .ok (.iconst 1, 1) := by decide +kernel
theorem dX13_readRecipe_133 : decode cX13_readRecipe 133 = .ok (.ireturn, 1) := by decide +kernel
theorem dX13_readRecipe_134 : decode cX13_readRecipe 134 = .ok (.aload_n 0, 1) := by decide +kernel
theorem dX13_readRecipe_135 : decode cX13_readRecipe 135 = .ok (.bipush 59, 2) := by decide +kernel
theorem dX13_readRecipe_137 : decode cX13_readRecipe 137 = .ok (.bipush 59, 2) := by decide +kernel
theorem dX13_readRecipe_139 : decode cX13_readRecipe 139 = .ok (.invokevirtual 171, 3) := by decide +kernel
theorem dX13_readRecipe_142 : decode cX13_readRecipe 142 = .ok (.ifCond .ne 5, 3) := by decide +kernel
theorem dX13_readRecipe_145 : decode cX13_readRecipe 145 = .ok (.iconst 0, 1) := by decide +kernel
theorem dX13_readRecipe_146 : decode cX13_readRecipe 146 = .ok (.ireturn, 1) := by decide +kernel
theorem dX13_readRecipe_147 : decode cX13_readRecipe 147 = .ok (.aload_n 0, 1) := by decide +kernel
theorem dX13_readRecipe_148 : decode cX13_readRecipe 148 = .ok (.dup, 1) := by decide +kernel
theorem dX13_readRecipe_149 : decode cX13_readRecipe 149 = .ok (.getfield 168, 3) := by decide +kernel
theorem dX13_readRecipe_152 : decode cX13_readRecipe 152 = .ok (.iconst 1, 1) := by decide +kernel
theorem dX13_readRecipe_153 : decode cX13_readRecipe 153 = .ok (.iadd, 1) := by decide +kernel
theorem dX13_readRecipe_154 : decode cX13_readRecipe 154 = .ok (.putfield 168, 3) := by decide +kernel
theorem dX13_readRecipe_157 : decode cX13_readRecipe 157 = .ok (.goto (-132), 3) := by decide +kernel
theorem dX13_copies_0 : decode cX13_copies 0 = .ok (.aload_n 0, 1) := by decide +kernel
theorem dX13_copies_1 : decode cX13_copies 1 = .ok (.getfield 21, 3) := by decide +kernel
theorem dX13_copies_4 : decode cX13_copies 4 = .ok (.iload_n 2, 1) := by decide +kernel
theorem dX13_copies_5 : decode cX13_copies 5 = .ok (.aload_n 0, 1) := by decide +kernel
theorem dX13_copies_6 : decode cX13_copies 6 = .ok (.getfield 21, 3) := by decide +kernel
theorem dX13_copies_9 : decode cX13_copies 9 = .ok (.iload_n 1, 1) := by decide +kernel
theorem dX13_copies_10 : decode cX13_copies 10 = .ok (.iaload, 1) := by decide +kernel
theorem dX13_copies_11 : decode cX13_copies 11 = .ok (.iastore, 1) := by decide +kernel
theorem dX13_copies_12 : decode cX13_copies 12 = .ok (.iconst 0, 1) := by decide +kernel
theorem dX13_copies_13 : decode cX13_copies 13 = .ok (.istore_n 3, 1) := by decide +kernel
theorem dX13_copies_14 : decode cX13_copies 14 = .ok (.iload_n 3, 1) := by decide +kernel
theorem dX13_copies_15 : decode cX13_copies 15 = .ok (.aload_n 0, 1) := by decide +kernel
theorem dX13_copies_16 : decode cX13_copies 16 = .ok (.getfield 21, 3) := by decide +kernel
theorem dX13_copies_19 : decode cX13_copies 19 = .ok (.iload_n 1, 1) := by decide +kernel
theorem dX13_copies_20 : decode cX13_copies 20 = .ok (.iaload, 1) := by decide +kernel
theorem dX13_copies_21 : decode cX13_copies 21 = .ok (.if_icmp .ge 53, 3) := by decide +kernel
theorem dX13_copies_24 : decode cX13_copies 24 = .ok (.aload_n 0, 1) := by decide +kernel
theorem dX13_copies_25 : decode cX13_copies 25 = .ok (.getfield 24, 3) := by decide +kernel
theorem dX13_copies_28 : decode cX13_copies 28 = .ok (.bipush 20, 2) := by decide +kernel
theorem dX13_copies_30 : decode cX13_copies 30 = .ok (.iload_n 2, 1) := by decide +kernel
theorem dX13_copies_31 : decode cX13_copies 31 = .ok (.imul, 1) := by decide +kernel
theorem dX13_copies_32 : decode cX13_copies 32 = .ok (.iload_n 3, 1) := by decide +kernel
theorem dX13_copies_33 : decode cX13_copies 33 = .ok (.iadd, 1) := by decide +kernel
theorem dX13_copies_34 : decode cX13_copies 34 = .ok (.aload_n 0, 1) := by decide +kernel
theorem dX13_copies_35 : decode cX13_copies 35 = .ok (.getfield 24, 3) := by decide +kernel
theorem dX13_copies_38 : decode cX13_copies 38 = .ok (.bipush 20, 2) := by decide +kernel
theorem dX13_copies_40 : decode cX13_copies 40 = .ok (.iload_n 1, 1) := by decide +kernel
theorem dX13_copies_41 : decode cX13_copies 41 = .ok (.imul, 1) := by decide +kernel
theorem dX13_copies_42 : decode cX13_copies 42 = .ok (.iload_n 3, 1) := by decide +kernel
theorem dX13_copies_43 : decode cX13_copies 43 = .ok (.iadd, 1) := by decide +kernel
theorem dX13_copies_44 : decode cX13_copies 44 = .ok (.iaload, 1) := by decide +kernel
theorem dX13_copies_45 : decode cX13_copies 45 = .ok (.iastore, 1) := by decide +kernel
theorem dX13_copies_46 : decode cX13_copies 46 = .ok (.aload_n 0, 1) := by decide +kernel
theorem dX13_copies_47 : decode cX13_copies 47 = .ok (.getfield 27, 3) := by decide +kernel
theorem dX13_copies_50 : decode cX13_copies 50 = .ok (.bipush 20, 2) := by decide +kernel
theorem dX13_copies_52 : decode cX13_copies 52 = .ok (.iload_n 2, 1) := by decide +kernel
theorem dX13_copies_53 : decode cX13_copies 53 = .ok (.imul, 1) := by decide +kernel
theorem dX13_copies_54 : decode cX13_copies 54 = .ok (.iload_n 3, 1) := by decide +kernel
theorem dX13_copies_55 : decode cX13_copies 55 = .ok (.iadd, 1) := by decide +kernel
theorem dX13_copies_56 : decode cX13_copies 56 = .ok (.aload_n 0, 1) := by decide +kernel
theorem dX13_copies_57 : decode cX13_copies 57 = .ok (.getfield 27, 3) := by decide +kernel
theorem dX13_copies_60 : decode cX13_copies 60 = .ok (.bipush 20, 2) := by decide +kernel
theorem dX13_copies_62 : decode cX13_copies 62 = .ok (.iload_n 1, 1) := by decide +kernel
theorem dX13_copies_63 : decode cX13_copies 63 = .ok (.imul, 1) := by decide +kernel
theorem dX13_copies_64 : decode cX13_copies 64 = .ok (.iload_n 3, 1) := by decide +kernel
theorem dX13_copies_65 : decode cX13_copies 65 = .ok (.iadd, 1) := by decide +kernel
theorem dX13_copies_66 : decode cX13_copies 66 = .ok (.iaload, 1) := by decide +kernel
theorem dX13_copies_67 : decode cX13_copies 67 = .ok (.iastore, 1) := by decide +kernel
theorem dX13_copies_68 : decode cX13_copies 68 = .ok (.iinc 3 1, 3) := by decide +kernel
theorem dX13_copies_71 : decode cX13_copies 71 = .ok (.goto (-57), 3) := by decide +kernel
theorem dX13_copies_74 : decode cX13_copies 74 = .ok (.return_, 1) := by decide +kernel
theorem dX13_recipe_0 : decode cX13_recipe 0 = .ok (.aload_n 0, 1) := by decide +kernel
theorem dX13_recipe_1 : decode cX13_recipe 1 = .ok (.invokevirtual 216, 3) := by decide +kernel
theorem dX13_recipe_4 : decode cX13_recipe 4 = .ok (.aload_n 0, 1) := by decide +kernel
theorem dX13_recipe_5 : decode cX13_recipe 5 = .ok (.invokevirtual 219, 3) := by decide +kernel
theorem dX13_recipe_8 : decode cX13_recipe 8 = .ok (.istore_n 1, 1) := by decide +kernel
theorem dX13_recipe_9 : decode cX13_recipe 9 = .ok (.aload_n 0, 1) := by decide +kernel
theorem dX13_recipe_10 : decode cX13_recipe 10 = .ok (.iload_n 1, 1) := by decide +kernel
theorem dX13_recipe_11 : decode cX13_recipe 11 = .ok (.ifCond .eq 7, 3) := by decide +kernel
theorem dX13_recipe_14 : decode cX13_recipe 14 = .ok (.iconst (-1), 1) := by decide +kernel
theorem dX13_recipe_15 : decode cX13_recipe 15 = .ok (.goto 7, 3) := by decide +kernel
theorem dX13_recipe_18 : decode cX13_recipe 18 = .ok (.aload_n 0, 1) := by decide +kernel
theorem dX13_recipe_19 : decode cX13_recipe 19 = .ok (.getfield 175, 3) := by decide +kernel
theorem dX13_recipe_22 : decode cX13_recipe 22 = .ok (.putfield 13, 3) := by decide +kernel
theorem dX13_recipe_25 : decode cX13_recipe 25 = .ok (.aload_n 0, 1) := by decide +kernel
theorem dX13_recipe_26 : decode cX13_recipe 26 = .ok (.iload_n 1, 1) := by decide +kernel
theorem dX13_recipe_27 : decode cX13_recipe 27 = .ok (.ifCond .ne 7, 3) := by decide +kernel
theorem dX13_recipe_30 : decode cX13_recipe 30 = .ok (.iconst 1, 1) := by decide +kernel
theorem dX13_recipe_31 : decode cX13_recipe 31 = .ok (.goto 4, 3) := by decide +kernel
theorem dX13_recipe_34 : decode cX13_recipe 34 = .ok (.iconst 0, 1) := by decide +kernel
theorem dX13_recipe_35 : decode cX13_recipe 35 = .ok (.iconst 1, 1) := by decide +kernel
theorem dX13_recipe_36 : decode cX13_recipe 36 = .ok (.invokevirtual 223, 3) := by decide +kernel
theorem dX13_recipe_39 : decode cX13_recipe 39 = .ok (.ifCond .eq 5, 3) := by decide +kernel
theorem dX13_recipe_42 : decode cX13_recipe 42 = .ok (.iconst 0, 1) := by decide +kernel
theorem dX13_recipe_43 : decode cX13_recipe 43 = .ok (.ireturn, 1) := by decide +kernel
theorem dX13_recipe_44 : decode cX13_recipe 44 = .ok (.aload_n 0, 1) := by decide +kernel
theorem dX13_recipe_45 : decode cX13_recipe 45 = .ok (.bipush 41, 2) := by decide +kernel
theorem dX13_recipe_47 : decode cX13_recipe 47 = .ok (.bipush 40, 2) := by decide +kernel
theorem dX13_recipe_49 : decode cX13_recipe 49 = .ok (.invokevirtual 227, 3) := by decide +kernel
theorem dX13_recipe_52 : decode cX13_recipe 52 = .ok (.aload_n 0, 1) := by decide +kernel
theorem dX13_recipe_53 : decode cX13_recipe 53 = .ok (.getfield 21, 3) := by decide +kernel
theorem dX13_recipe_56 : decode cX13_recipe 56 = .ok (.bipush 40, 2) := by decide +kernel
theorem dX13_recipe_58 : decode cX13_recipe 58 = .ok (.iaload, 1) := by decide +kernel
theorem dX13_recipe_59 : decode cX13_recipe 59 = .ok (.ireturn, 1) := by decide +kernel
theorem dX13_fault_0 : decode cX13_fault 0 = .ok (.aload_n 0, 1) := by decide +kernel
theorem dX13_fault_1 : decode cX13_fault 1 = .ok (.iconst 0, 1) := by decide +kernel
theorem dX13_fault_2 : decode cX13_fault 2 = .ok (.putfield 159, 3) := by decide +kernel
theorem dX13_fault_5 : decode cX13_fault 5 = .ok (.aload_n 0, 1) := by decide +kernel
theorem dX13_fault_6 : decode cX13_fault 6 = .ok (.getfield 13, 3) := by decide +kernel
theorem dX13_fault_9 : decode cX13_fault 9 = .ok (.ireturn, 1) := by decide +kernel
theorem dX13_noCloth_0 : decode cX13_noCloth 0 = .ok (.iload_n 1, 1) := by decide +kernel
theorem dX13_noCloth_1 : decode cX13_noCloth 1 = .ok (.iconst 0, 1) := by decide +kernel
theorem dX13_noCloth_2 : decode cX13_noCloth 2 = .ok (.aload_n 0, 1) := by decide +kernel
theorem dX13_noCloth_3 : decode cX13_noCloth 3 = .ok (.getfield 231, 3) := by decide +kernel
theorem dX13_noCloth_6 : decode cX13_noCloth 6 = .ok (.iconst 1, 1) := by decide +kernel
theorem dX13_noCloth_7 : decode cX13_noCloth 7 = .ok (.isub, 1) := by decide +kernel
theorem dX13_noCloth_8 : decode cX13_noCloth 8 = .ok (.invokestatic 234, 3) := by decide +kernel
theorem dX13_noCloth_11 : decode cX13_noCloth 11 = .ok (.ifCond .ne 7, 3) := by decide +kernel
theorem dX13_noCloth_14 : decode cX13_noCloth 14 = .ok (.iconst 1, 1) := by decide +kernel
theorem dX13_noCloth_15 : decode cX13_noCloth 15 = .ok (.goto 4, 3) := by decide +kernel
theorem dX13_noCloth_18 : decode cX13_noCloth 18 = .ok (.iconst 0, 1) := by decide +kernel
theorem dX13_noCloth_19 : decode cX13_noCloth 19 = .ok (.ireturn, 1) := by decide +kernel
theorem dX13_cloth_0 : decode cX13_cloth 0 = .ok (.aload_n 0, 1) := by decide +kernel
theorem dX13_cloth_1 : decode cX13_cloth 1 = .ok (.iconst 0, 1) := by decide +kernel
theorem dX13_cloth_2 : decode cX13_cloth 2 = .ok (.putfield 159, 3) := by decide +kernel
theorem dX13_cloth_5 : decode cX13_cloth 5 = .ok (.aload_n 0, 1) := by decide +kernel
theorem dX13_cloth_6 : decode cX13_cloth 6 = .ok (.iload_n 1, 1) := by decide +kernel
theorem dX13_cloth_7 : decode cX13_cloth 7 = .ok (.iconst 0, 1) := by decide +kernel
theorem dX13_cloth_8 : decode cX13_cloth 8 = .ok (.sipush 255, 3) := by decide +kernel
theorem dX13_cloth_11 : decode cX13_cloth 11 = .ok (.invokestatic 234, 3) := by decide +kernel
theorem dX13_cloth_14 : decode cX13_cloth 14 = .ok (.ifCond .eq 24, 3) := by decide +kernel
theorem dX13_cloth_17 : decode cX13_cloth 17 = .ok (.iload_n 2, 1) := by decide +kernel
theorem dX13_cloth_18 : decode cX13_cloth 18 = .ok (.iconst 0, 1) := by decide +kernel
theorem dX13_cloth_19 : decode cX13_cloth 19 = .ok (.sipush 255, 3) := by decide +kernel
theorem dX13_cloth_22 : decode cX13_cloth 22 = .ok (.invokestatic 234, 3) := by decide +kernel
theorem dX13_cloth_25 : decode cX13_cloth 25 = .ok (.ifCond .eq 13, 3) := by decide +kernel
theorem dX13_cloth_28 : decode cX13_cloth 28 = .ok (.iload_n 3, 1) := by decide +kernel
theorem dX13_cloth_29 : decode cX13_cloth 29 = .ok (.iconst 0, 1) := by decide +kernel
theorem dX13_cloth_30 : decode cX13_cloth 30 = .ok (.bipush 9, 2) := by decide +kernel
theorem dX13_cloth_32 : decode cX13_cloth 32 = .ok (.invokestatic 234, 3) := by decide +kernel
theorem dX13_cloth_35 : decode cX13_cloth 35 = .ok (.ifCond .ne 7, 3) := by decide +kernel
theorem dX13_cloth_38 : decode cX13_cloth 38 = .ok (.iconst 1, 1) := by decide +kernel
theorem dX13_cloth_39 : decode cX13_cloth 39 = .ok (.goto 4, 3) := by decide +kernel
theorem dX13_cloth_42 : decode cX13_cloth 42 = .ok (.iconst 0, 1) := by decide +kernel
theorem dX13_cloth_43 : decode cX13_cloth 43 = .ok (.iconst 1, 1) := by decide +kernel
theorem dX13_cloth_44 : decode cX13_cloth 44 = .ok (.invokevirtual 223, 3) := by decide +kernel
theorem dX13_cloth_47 : decode cX13_cloth 47 = .ok (.ifCond .ne 25, 3) := by decide +kernel
theorem dX13_cloth_50 : decode cX13_cloth 50 = .ok (.aload_n 0, 1) := by decide +kernel
theorem dX13_cloth_51 : decode cX13_cloth 51 = .ok (.aload_n 0, 1) := by decide +kernel
theorem dX13_cloth_52 : decode cX13_cloth 52 = .ok (.getfield 231, 3) := by decide +kernel
theorem dX13_cloth_55 : decode cX13_cloth 55 = .ok (.bipush 6, 2) := by decide +kernel
theorem dX13_cloth_57 : decode cX13_cloth 57 = .ok (.if_icmp .ne 7, 3) := by decide +kernel
theorem dX13_cloth_60 : decode cX13_cloth 60 = .ok (.iconst 1, 1) := by decide +kernel
theorem dX13_cloth_61 : decode cX13_cloth 61 = .ok (.goto 4, 3) := by decide +kernel
theorem dX13_cloth_64 : decode cX13_cloth 64 = .ok (.iconst 0, 1) := by decide +kernel
theorem dX13_cloth_65 : decode cX13_cloth 65 = .ok (.iconst 2, 1) := by decide +kernel
theorem dX13_cloth_66 : decode cX13_cloth 66 = .ok (.invokevirtual 223, 3) := by decide +kernel
theorem dX13_cloth_69 : decode cX13_cloth 69 = .ok (.ifCond .eq 5, 3) := by decide +kernel
theorem dX13_cloth_72 : decode cX13_cloth 72 = .ok (.iconst 0, 1) := by decide +kernel
theorem dX13_cloth_73 : decode cX13_cloth 73 = .ok (.ireturn, 1) := by decide +kernel
theorem dX13_cloth_74 : decode cX13_cloth 74 = .ok (.aload_n 0, 1) := by decide +kernel
theorem dX13_cloth_75 : decode cX13_cloth 75 = .ok (.getfield 30, 3) := by decide +kernel
theorem dX13_cloth_78 : decode cX13_cloth 78 = .ok (.aload_n 0, 1) := by decide +kernel
theorem dX13_cloth_79 : decode cX13_cloth 79 = .ok (.getfield 231, 3) := by decide +kernel
theorem dX13_cloth_82 : decode cX13_cloth 82 = .ok (.iload_n 1, 1) := by decide +kernel
theorem dX13_cloth_83 : decode cX13_cloth 83 = .ok (.iastore, 1) := by decide +kernel
theorem dX13_cloth_84 : decode cX13_cloth 84 = .ok (.aload_n 0, 1) := by decide +kernel
theorem dX13_cloth_85 : decode cX13_cloth 85 = .ok (.getfield 33, 3) := by decide +kernel
theorem dX13_cloth_88 : decode cX13_cloth 88 = .ok (.aload_n 0, 1) := by decide +kernel
theorem dX13_cloth_89 : decode cX13_cloth 89 = .ok (.getfield 231, 3) := by decide +kernel
theorem dX13_cloth_92 : decode cX13_cloth 92 = .ok (.iload_n 2, 1) := by decide +kernel
theorem dX13_cloth_93 : decode cX13_cloth 93 = .ok (.iastore, 1) := by decide +kernel
theorem dX13_cloth_94 : decode cX13_cloth 94 = .ok (.aload_n 0, 1) := by decide +kernel
theorem dX13_cloth_95 : decode cX13_cloth 95 = .ok (.getfield 36, 3) := by decide +kernel
theorem dX13_cloth_98 : decode cX13_cloth 98 = .ok (.aload_n 0, 1) := by decide +kernel
theorem dX13_cloth_99 : decode cX13_cloth 99 = .ok (.getfield 231, 3) := by decide +kernel
theorem dX13_cloth_102 : decode cX13_cloth 102 = .ok (.iload_n 3, 1) := by decide +kernel
theorem dX13_cloth_103 : decode cX13_cloth 103 = .ok (.iastore, 1) := by decide +kernel
theorem dX13_cloth_104 : decode cX13_cloth 104 = .ok (.aload_n 0, 1) := by decide +kernel
theorem dX13_cloth_105 : decode cX13_cloth 105 = .ok (.dup, 1) := by decide +kernel
theorem dX13_cloth_106 : decode cX13_cloth 106 = .ok (.getfield 231, 3) := by decide +kernel
theorem dX13_cloth_109 : decode cX13_cloth 109 = .ok (.iconst 1, 1) := by decide +kernel
theorem dX13_cloth_110 : decode cX13_cloth 110 = .ok (.iadd, 1) := by decide +kernel
theorem dX13_cloth_111 : decode cX13_cloth 111 = .ok (.putfield 231, 3) := by decide +kernel
theorem dX13_cloth_114 : decode cX13_cloth 114 = .ok (.aload_n 0, 1) := by decide +kernel
theorem dX13_cloth_115 : decode cX13_cloth 115 = .ok (.getfield 231, 3) := by decide +kernel
theorem dX13_cloth_118 : decode cX13_cloth 118 = .ok (.iconst 1, 1) := by decide +kernel
theorem dX13_cloth_119 : decode cX13_cloth 119 = .ok (.isub, 1) := by decide +kernel
theorem dX13_cloth_120 : decode cX13_cloth 120 = .ok (.ireturn, 1) := by decide +kernel
theorem dX13_begins_0 : decode cX13_begins 0 = .ok (.aload_n 0, 1) := by decide +kernel
theorem dX13_begins_1 : decode cX13_begins 1 = .ok (.getfield 39, 3) := by decide +kernel
theorem dX13_begins_4 : decode cX13_begins 4 = .ok (.iconst 5, 1) := by decide +kernel
theorem dX13_begins_5 : decode cX13_begins 5 = .ok (.iload_n 1, 1) := by decide +kernel
theorem dX13_begins_6 : decode cX13_begins 6 = .ok (.imul, 1) := by decide +kernel
theorem dX13_begins_7 : decode cX13_begins 7 = .ok (.aload_n 0, 1) := by decide +kernel
theorem dX13_begins_8 : decode cX13_begins 8 = .ok (.getfield 30, 3) := by decide +kernel
theorem dX13_begins_11 : decode cX13_begins 11 = .ok (.iload_n 2, 1) := by decide +kernel
theorem dX13_begins_12 : decode cX13_begins 12 = .ok (.iaload, 1) := by decide +kernel
theorem dX13_begins_13 : decode cX13_begins 13 = .ok (.iastore, 1) := by decide +kernel
theorem dX13_begins_14 : decode cX13_begins 14 = .ok (.aload_n 0, 1) := by decide +kernel
theorem dX13_begins_15 : decode cX13_begins 15 = .ok (.getfield 39, 3) := by decide +kernel
theorem dX13_begins_18 : decode cX13_begins 18 = .ok (.iconst 5, 1) := by decide +kernel
theorem dX13_begins_19 : decode cX13_begins 19 = .ok (.iload_n 1, 1) := by decide +kernel
theorem dX13_begins_20 : decode cX13_begins 20 = .ok (.imul, 1) := by decide +kernel
theorem dX13_begins_21 : decode cX13_begins 21 = .ok (.iconst 1, 1) := by decide +kernel
theorem dX13_begins_22 : decode cX13_begins 22 = .ok (.iadd, 1) := by decide +kernel
theorem dX13_begins_23 : decode cX13_begins 23 = .ok (.aload_n 0, 1) := by decide +kernel
theorem dX13_begins_24 : decode cX13_begins 24 = .ok (.getfield 30, 3) := by decide +kernel
theorem dX13_begins_27 : decode cX13_begins 27 = .ok (.iload_n 2, 1) := by decide +kernel
theorem dX13_begins_28 : decode cX13_begins 28 = .ok (.iaload, 1) := by decide +kernel
theorem dX13_begins_29 : decode cX13_begins 29 = .ok (.iastore, 1) := by decide +kernel
theorem dX13_begins_30 : decode cX13_begins 30 = .ok (.aload_n 0, 1) := by decide +kernel
theorem dX13_begins_31 : decode cX13_begins 31 = .ok (.getfield 39, 3) := by decide +kernel
theorem dX13_begins_34 : decode cX13_begins 34 = .ok (.iconst 5, 1) := by decide +kernel
theorem dX13_begins_35 : decode cX13_begins 35 = .ok (.iload_n 1, 1) := by decide +kernel
theorem dX13_begins_36 : decode cX13_begins 36 = .ok (.imul, 1) := by decide +kernel
theorem dX13_begins_37 : decode cX13_begins 37 = .ok (.iconst 2, 1) := by decide +kernel
theorem dX13_begins_38 : decode cX13_begins 38 = .ok (.iadd, 1) := by decide +kernel
theorem dX13_begins_39 : decode cX13_begins 39 = .ok (.aload_n 0, 1) := by decide +kernel
theorem dX13_begins_40 : decode cX13_begins 40 = .ok (.getfield 33, 3) := by decide +kernel
theorem dX13_begins_43 : decode cX13_begins 43 = .ok (.iload_n 2, 1) := by decide +kernel
theorem dX13_begins_44 : decode cX13_begins 44 = .ok (.iaload, 1) := by decide +kernel
theorem dX13_begins_45 : decode cX13_begins 45 = .ok (.iastore, 1) := by decide +kernel
theorem dX13_begins_46 : decode cX13_begins 46 = .ok (.aload_n 0, 1) := by decide +kernel
theorem dX13_begins_47 : decode cX13_begins 47 = .ok (.getfield 39, 3) := by decide +kernel
theorem dX13_begins_50 : decode cX13_begins 50 = .ok (.iconst 5, 1) := by decide +kernel
theorem dX13_begins_51 : decode cX13_begins 51 = .ok (.iload_n 1, 1) := by decide +kernel
theorem dX13_begins_52 : decode cX13_begins 52 = .ok (.imul, 1) := by decide +kernel
theorem dX13_begins_53 : decode cX13_begins 53 = .ok (.iconst 3, 1) := by decide +kernel
theorem dX13_begins_54 : decode cX13_begins 54 = .ok (.iadd, 1) := by decide +kernel
theorem dX13_begins_55 : decode cX13_begins 55 = .ok (.aload_n 0, 1) := by decide +kernel
theorem dX13_begins_56 : decode cX13_begins 56 = .ok (.getfield 33, 3) := by decide +kernel
theorem dX13_begins_59 : decode cX13_begins 59 = .ok (.iload_n 2, 1) := by decide +kernel
theorem dX13_begins_60 : decode cX13_begins 60 = .ok (.iaload, 1) := by decide +kernel
theorem dX13_begins_61 : decode cX13_begins 61 = .ok (.iastore, 1) := by decide +kernel
theorem dX13_begins_62 : decode cX13_begins 62 = .ok (.aload_n 0, 1) := by decide +kernel
theorem dX13_begins_63 : decode cX13_begins 63 = .ok (.getfield 39, 3) := by decide +kernel
theorem dX13_begins_66 : decode cX13_begins 66 = .ok (.iconst 5, 1) := by decide +kernel
theorem dX13_begins_67 : decode cX13_begins 67 = .ok (.iload_n 1, 1) := by decide +kernel
theorem dX13_begins_68 : decode cX13_begins 68 = .ok (.imul, 1) := by decide +kernel
theorem dX13_begins_69 : decode cX13_begins 69 = .ok (.iconst 4, 1) := by decide +kernel
theorem dX13_begins_70 : decode cX13_begins 70 = .ok (.iadd, 1) := by decide +kernel
theorem dX13_begins_71 : decode cX13_begins 71 = .ok (.iconst 0, 1) := by decide +kernel
theorem dX13_begins_72 : decode cX13_begins 72 = .ok (.iastore, 1) := by decide +kernel
theorem dX13_begins_73 : decode cX13_begins 73 = .ok (.return_, 1) := by decide +kernel
theorem dX13_less_0 : decode cX13_less 0 = .ok (.aload_n 0, 1) := by decide +kernel
theorem dX13_less_1 : decode cX13_less 1 = .ok (.getfield 39, 3) := by decide +kernel
theorem dX13_less_4 : decode cX13_less 4 = .ok (.iload_n 1, 1) := by decide +kernel
theorem dX13_less_5 : decode cX13_less 5 = .ok (.iconst 0, 1) := by decide +kernel
theorem dX13_less_6 : decode cX13_less 6 = .ok (.aload_n 0, 1) := by decide +kernel
theorem dX13_less_7 : decode cX13_less 7 = .ok (.getfield 39, 3) := by decide +kernel
theorem dX13_less_10 : decode cX13_less 10 = .ok (.iload_n 1, 1) := by decide +kernel
theorem dX13_less_11 : decode cX13_less 11 = .ok (.iaload, 1) := by decide +kernel
theorem dX13_less_12 : decode cX13_less 12 = .ok (.iload_n 3, 1) := by decide +kernel
theorem dX13_less_13 : decode cX13_less 13 = .ok (.isub, 1) := by decide +kernel
theorem dX13_less_14 : decode cX13_less 14 = .ok (.invokestatic 238, 3) := by decide +kernel
theorem dX13_less_17 : decode cX13_less 17 = .ok (.iastore, 1) := by decide +kernel
theorem dX13_less_18 : decode cX13_less 18 = .ok (.aload_n 0, 1) := by decide +kernel
theorem dX13_less_19 : decode cX13_less 19 = .ok (.getfield 39, 3) := by decide +kernel
theorem dX13_less_22 : decode cX13_less 22 = .ok (.iload_n 1, 1) := by decide +kernel
theorem dX13_less_23 : decode cX13_less 23 = .ok (.iconst 1, 1) := by decide +kernel
theorem dX13_less_24 : decode cX13_less 24 = .ok (.iadd, 1) := by decide +kernel
theorem dX13_less_25 : decode cX13_less 25 = .ok (.iconst 0, 1) := by decide +kernel
theorem dX13_less_26 : decode cX13_less 26 = .ok (.aload_n 0, 1) := by decide +kernel
theorem dX13_less_27 : decode cX13_less 27 = .ok (.getfield 39, 3) := by decide +kernel
theorem dX13_less_30 : decode cX13_less 30 = .ok (.iload_n 1, 1) := by decide +kernel
theorem dX13_less_31 : decode cX13_less 31 = .ok (.iconst 1, 1) := by decide +kernel
theorem dX13_less_32 : decode cX13_less 32 = .ok (.iadd, 1) := by decide +kernel
theorem dX13_less_33 : decode cX13_less 33 = .ok (.iaload, 1) := by decide +kernel
theorem dX13_less_34 : decode cX13_less 34 = .ok (.iload_n 2, 1) := by decide +kernel
theorem dX13_less_35 : decode cX13_less 35 = .ok (.isub, 1) := by decide +kernel
theorem dX13_less_36 : decode cX13_less 36 = .ok (.invokestatic 238, 3) := by decide +kernel
theorem dX13_less_39 : decode cX13_less 39 = .ok (.iastore, 1) := by decide +kernel
theorem dX13_less_40 : decode cX13_less 40 = .ok (.return_, 1) := by decide +kernel
theorem dX13_does_0 : decode cX13_does 0 = .ok (.iconst 5, 1) := by decide +kernel
theorem dX13_does_1 : decode cX13_does 1 = .ok (.iload_n 1, 1) := by decide +kernel
theorem dX13_does_2 : decode cX13_does 2 = .ok (.imul, 1) := by decide +kernel
theorem dX13_does_3 : decode cX13_does 3 = .ok (.istore 5, 2) := by decide +kernel
theorem dX13_does_5 : decode cX13_does 5 = .ok (.aload_n 0, 1) := by decide +kernel
theorem dX13_does_6 : decode cX13_does 6 = .ok (.getfield 39, 3) := by decide +kernel
theorem dX13_does_9 : decode cX13_does 9 = .ok (.iload 5, 2) := by decide +kernel
theorem dX13_does_11 : decode cX13_does 11 = .ok (.iconst 4, 1) := by decide +kernel
theorem dX13_does_12 : decode cX13_does 12 = .ok (.iadd, 1) := by decide +kernel
theorem dX13_does_13 : decode cX13_does 13 = .ok (.iaload, 1) := by decide +kernel
theorem dX13_does_14 : decode cX13_does 14 = .ok (.iconst 5, 1) := by decide +kernel
theorem dX13_does_15 : decode cX13_does 15 = .ok (.imul, 1) := by decide +kernel
theorem dX13_does_16 : decode cX13_does 16 = .ok (.istore 6, 2) := by decide +kernel
theorem dX13_does_18 : decode cX13_does 18 = .ok (.iload_n 3, 1) := by decide +kernel
theorem dX13_does_19 : decode cX13_does 19 = .ok (.tableswitch 135 0 2 #[25, 40, 75], 25) := by decide +kernel
theorem dX13_does_44 : decode cX13_does 44 = .ok (.aload_n 0, 1) := by decide +kernel
theorem dX13_does_45 : decode cX13_does 45 = .ok (.iload 5, 2) := by decide +kernel
theorem dX13_does_47 : decode cX13_does 47 = .ok (.iload 4, 2) := by decide +kernel
theorem dX13_does_49 : decode cX13_does 49 = .ok (.iconst 2, 1) := by decide +kernel
theorem dX13_does_50 : decode cX13_does 50 = .ok (.idiv, 1) := by decide +kernel
theorem dX13_does_51 : decode cX13_does 51 = .ok (.iload 4, 2) := by decide +kernel
theorem dX13_does_53 : decode cX13_does 53 = .ok (.invokevirtual 244, 3) := by decide +kernel
theorem dX13_does_56 : decode cX13_does 56 = .ok (.goto 108, 3) := by decide +kernel
theorem dX13_does_59 : decode cX13_does 59 = .ok (.aload_n 0, 1) := by decide +kernel
theorem dX13_does_60 : decode cX13_does 60 = .ok (.iload 5, 2) := by decide +kernel
theorem dX13_does_62 : decode cX13_does 62 = .ok (.iload 4, 2) := by decide +kernel
theorem dX13_does_64 : decode cX13_does 64 = .ok (.iload 4, 2) := by decide +kernel
theorem dX13_does_66 : decode cX13_does 66 = .ok (.iconst 3, 1) := by decide +kernel
theorem dX13_does_67 : decode cX13_does 67 = .ok (.iadd, 1) := by decide +kernel
theorem dX13_does_68 : decode cX13_does 68 = .ok (.invokevirtual 244, 3) := by decide +kernel
theorem dX13_does_71 : decode cX13_does 71 = .ok (.aload_n 0, 1) := by decide +kernel
theorem dX13_does_72 : decode cX13_does 72 = .ok (.iload 5, 2) := by decide +kernel
theorem dX13_does_74 : decode cX13_does 74 = .ok (.iconst 2, 1) := by decide +kernel
theorem dX13_does_75 : decode cX13_does 75 = .ok (.iadd, 1) := by decide +kernel
theorem dX13_does_76 : decode cX13_does 76 = .ok (.iload 4, 2) := by decide +kernel
theorem dX13_does_78 : decode cX13_does 78 = .ok (.iload 6, 2) := by decide +kernel
theorem dX13_does_80 : decode cX13_does 80 = .ok (.iadd, 1) := by decide +kernel
theorem dX13_does_81 : decode cX13_does 81 = .ok (.iload 4, 2) := by decide +kernel
theorem dX13_does_83 : decode cX13_does 83 = .ok (.iconst 2, 1) := by decide +kernel
theorem dX13_does_84 : decode cX13_does 84 = .ok (.iadd, 1) := by decide +kernel
theorem dX13_does_85 : decode cX13_does 85 = .ok (.iload 6, 2) := by decide +kernel
theorem dX13_does_87 : decode cX13_does 87 = .ok (.iadd, 1) := by decide +kernel
theorem dX13_does_88 : decode cX13_does 88 = .ok (.invokevirtual 244, 3) := by decide +kernel
theorem dX13_does_91 : decode cX13_does 91 = .ok (.goto 73, 3) := by decide +kernel
theorem dX13_does_94 : decode cX13_does 94 = .ok (.aload_n 0, 1) := by decide +kernel
theorem dX13_does_95 : decode cX13_does 95 = .ok (.iload 5, 2) := by decide +kernel
theorem dX13_does_97 : decode cX13_does 97 = .ok (.iconst 0, 1) := by decide +kernel
theorem dX13_does_98 : decode cX13_does 98 = .ok (.iconst 2, 1) := by decide +kernel
theorem dX13_does_99 : decode cX13_does 99 = .ok (.iload 4, 2) := by decide +kernel
theorem dX13_does_101 : decode cX13_does 101 = .ok (.imul, 1) := by decide +kernel
theorem dX13_does_102 : decode cX13_does 102 = .ok (.aload_n 0, 1) := by decide +kernel
theorem dX13_does_103 : decode cX13_does 103 = .ok (.getfield 36, 3) := by decide +kernel
theorem dX13_does_106 : decode cX13_does 106 = .ok (.iload_n 2, 1) := by decide +kernel
theorem dX13_does_107 : decode cX13_does 107 = .ok (.iaload, 1) := by decide +kernel
theorem dX13_does_108 : decode cX13_does 108 = .ok (.isub, 1) := by decide +kernel
theorem dX13_does_109 : decode cX13_does 109 = .ok (.invokestatic 238, 3) := by decide +kernel
theorem dX13_does_112 : decode cX13_does 112 = .ok (.iconst 0, 1) := by decide +kernel
theorem dX13_does_113 : decode cX13_does 113 = .ok (.iconst 3, 1) := by decide +kernel
theorem dX13_does_114 : decode cX13_does 114 = .ok (.iload 4, 2) := by decide +kernel
theorem dX13_does_116 : decode cX13_does 116 = .ok (.imul, 1) := by decide +kernel
theorem dX13_does_117 : decode cX13_does 117 = .ok (.aload_n 0, 1) := by decide +kernel
theorem dX13_does_118 : decode cX13_does 118 = .ok (.getfield 36, 3) := by decide +kernel
theorem dX13_does_121 : decode cX13_does 121 = .ok (.iload_n 2, 1) := by decide +kernel
theorem dX13_does_122 : decode cX13_does 122 = .ok (.iaload, 1) := by decide +kernel
theorem dX13_does_123 : decode cX13_does 123 = .ok (.isub, 1) := by decide +kernel
theorem dX13_does_124 : decode cX13_does 124 = .ok (.invokestatic 238, 3) := by decide +kernel
theorem dX13_does_127 : decode cX13_does 127 = .ok (.invokevirtual 244, 3) := by decide +kernel
theorem dX13_does_130 : decode cX13_does 130 = .ok (.aload_n 0, 1) := by decide +kernel
theorem dX13_does_131 : decode cX13_does 131 = .ok (.iload 5, 2) := by decide +kernel
theorem dX13_does_133 : decode cX13_does 133 = .ok (.iconst 2, 1) := by decide +kernel
theorem dX13_does_134 : decode cX13_does 134 = .ok (.iadd, 1) := by decide +kernel
theorem dX13_does_135 : decode cX13_does 135 = .ok (.iconst 0, 1) := by decide +kernel
theorem dX13_does_136 : decode cX13_does 136 = .ok (.iload 4, 2) := by decide +kernel
theorem dX13_does_138 : decode cX13_does 138 = .ok (.invokevirtual 244, 3) := by decide +kernel
theorem dX13_does_141 : decode cX13_does 141 = .ok (.aload_n 0, 1) := by decide +kernel
theorem dX13_does_142 : decode cX13_does 142 = .ok (.getfield 39, 3) := by decide +kernel
theorem dX13_does_145 : decode cX13_does 145 = .ok (.iload 5, 2) := by decide +kernel
theorem dX13_does_147 : decode cX13_does 147 = .ok (.iconst 4, 1) := by decide +kernel
theorem dX13_does_148 : decode cX13_does 148 = .ok (.iadd, 1) := by decide +kernel
theorem dX13_does_149 : decode cX13_does 149 = .ok (.iconst 1, 1) := by decide +kernel
theorem dX13_does_150 : decode cX13_does 150 = .ok (.iastore, 1) := by decide +kernel
theorem dX13_does_151 : decode cX13_does 151 = .ok (.goto 13, 3) := by decide +kernel
theorem dX13_does_154 : decode cX13_does 154 = .ok (.aload_n 0, 1) := by decide +kernel
theorem dX13_does_155 : decode cX13_does 155 = .ok (.getfield 39, 3) := by decide +kernel
theorem dX13_does_158 : decode cX13_does 158 = .ok (.iload 5, 2) := by decide +kernel
theorem dX13_does_160 : decode cX13_does 160 = .ok (.iconst 4, 1) := by decide +kernel
theorem dX13_does_161 : decode cX13_does 161 = .ok (.iadd, 1) := by decide +kernel
theorem dX13_does_162 : decode cX13_does 162 = .ok (.iconst 0, 1) := by decide +kernel
theorem dX13_does_163 : decode cX13_does 163 = .ok (.iastore, 1) := by decide +kernel
theorem dX13_does_164 : decode cX13_does 164 = .ok (.return_, 1) := by decide +kernel
theorem dX13_tries_0 : decode cX13_tries 0 = .ok (.aload_n 0, 1) := by decide +kernel
theorem dX13_tries_1 : decode cX13_tries 1 = .ok (.bipush 40, 2) := by decide +kernel
theorem dX13_tries_3 : decode cX13_tries 3 = .ok (.iload_n 1, 1) := by decide +kernel
theorem dX13_tries_4 : decode cX13_tries 4 = .ok (.invokevirtual 248, 3) := by decide +kernel
theorem dX13_tries_7 : decode cX13_tries 7 = .ok (.iconst 0, 1) := by decide +kernel
theorem dX13_tries_8 : decode cX13_tries 8 = .ok (.istore_n 3, 1) := by decide +kernel
theorem dX13_tries_9 : decode cX13_tries 9 = .ok (.iload_n 3, 1) := by decide +kernel
theorem dX13_tries_10 : decode cX13_tries 10 = .ok (.iload_n 2, 1) := by decide +kernel
theorem dX13_tries_11 : decode cX13_tries 11 = .ok (.if_icmp .ge 47, 3) := by decide +kernel
theorem dX13_tries_14 : decode cX13_tries 14 = .ok (.iload_n 3, 1) := by decide +kernel
theorem dX13_tries_15 : decode cX13_tries 15 = .ok (.aload_n 0, 1) := by decide +kernel
theorem dX13_tries_16 : decode cX13_tries 16 = .ok (.getfield 21, 3) := by decide +kernel
theorem dX13_tries_19 : decode cX13_tries 19 = .ok (.bipush 40, 2) := by decide +kernel
theorem dX13_tries_21 : decode cX13_tries 21 = .ok (.iaload, 1) := by decide +kernel
theorem dX13_tries_22 : decode cX13_tries 22 = .ok (.if_icmp .ge 36, 3) := by decide +kernel
theorem dX13_tries_25 : decode cX13_tries 25 = .ok (.aload_n 0, 1) := by decide +kernel
theorem dX13_tries_26 : decode cX13_tries 26 = .ok (.bipush 40, 2) := by decide +kernel
theorem dX13_tries_28 : decode cX13_tries 28 = .ok (.iload_n 1, 1) := by decide +kernel
theorem dX13_tries_29 : decode cX13_tries 29 = .ok (.aload_n 0, 1) := by decide +kernel
theorem dX13_tries_30 : decode cX13_tries 30 = .ok (.getfield 24, 3) := by decide +kernel
theorem dX13_tries_33 : decode cX13_tries 33 = .ok (.sipush 800, 3) := by decide +kernel
theorem dX13_tries_36 : decode cX13_tries 36 = .ok (.iload_n 3, 1) := by decide +kernel
theorem dX13_tries_37 : decode cX13_tries 37 = .ok (.iadd, 1) := by decide +kernel
theorem dX13_tries_38 : decode cX13_tries 38 = .ok (.iaload, 1) := by decide +kernel
theorem dX13_tries_39 : decode cX13_tries 39 = .ok (.aload_n 0, 1) := by decide +kernel
theorem dX13_tries_40 : decode cX13_tries 40 = .ok (.getfield 27, 3) := by decide +kernel
theorem dX13_tries_43 : decode cX13_tries 43 = .ok (.sipush 800, 3) := by decide +kernel
theorem dX13_tries_46 : decode cX13_tries 46 = .ok (.iload_n 3, 1) := by decide +kernel
theorem dX13_tries_47 : decode cX13_tries 47 = .ok (.iadd, 1) := by decide +kernel
theorem dX13_tries_48 : decode cX13_tries 48 = .ok (.iaload, 1) := by decide +kernel
theorem dX13_tries_49 : decode cX13_tries 49 = .ok (.invokevirtual 251, 3) := by decide +kernel
theorem dX13_tries_52 : decode cX13_tries 52 = .ok (.iinc 3 1, 3) := by decide +kernel
theorem dX13_tries_55 : decode cX13_tries 55 = .ok (.goto (-46), 3) := by decide +kernel
theorem dX13_tries_58 : decode cX13_tries 58 = .ok (.return_, 1) := by decide +kernel
theorem dX13_look_0 : decode cX13_look 0 = .ok (.aload_n 0, 1) := by decide +kernel
theorem dX13_look_1 : decode cX13_look 1 = .ok (.iconst 0, 1) := by decide +kernel
theorem dX13_look_2 : decode cX13_look 2 = .ok (.putfield 159, 3) := by decide +kernel
theorem dX13_look_5 : decode cX13_look 5 = .ok (.aload_n 0, 1) := by decide +kernel
theorem dX13_look_6 : decode cX13_look 6 = .ok (.aload_n 0, 1) := by decide +kernel
theorem dX13_look_7 : decode cX13_look 7 = .ok (.iload_n 1, 1) := by decide +kernel
theorem dX13_look_8 : decode cX13_look 8 = .ok (.invokevirtual 255, 3) := by decide +kernel
theorem dX13_look_11 : decode cX13_look 11 = .ok (.iconst 1, 1) := by decide +kernel
theorem dX13_look_12 : decode cX13_look 12 = .ok (.invokevirtual 223, 3) := by decide +kernel
theorem dX13_look_15 : decode cX13_look 15 = .ok (.ifCond .ne 42, 3) := by decide +kernel
theorem dX13_look_18 : decode cX13_look 18 = .ok (.aload_n 0, 1) := by decide +kernel
theorem dX13_look_19 : decode cX13_look 19 = .ok (.iload_n 2, 1) := by decide +kernel
theorem dX13_look_20 : decode cX13_look 20 = .ok (.ifCond .ge 7, 3) := by decide +kernel
theorem dX13_look_23 : decode cX13_look 23 = .ok (.iconst 1, 1) := by decide +kernel
theorem dX13_look_24 : decode cX13_look 24 = .ok (.goto 4, 3) := by decide +kernel
theorem dX13_look_27 : decode cX13_look 27 = .ok (.iconst 0, 1) := by decide +kernel
theorem dX13_look_28 : decode cX13_look 28 = .ok (.iconst 2, 1) := by decide +kernel
theorem dX13_look_29 : decode cX13_look 29 = .ok (.invokevirtual 223, 3) := by decide +kernel
theorem dX13_look_32 : decode cX13_look 32 = .ok (.ifCond .ne 25, 3) := by decide +kernel
theorem dX13_look_35 : decode cX13_look 35 = .ok (.aload_n 0, 1) := by decide +kernel
theorem dX13_look_36 : decode cX13_look 36 = .ok (.iload_n 3, 1) := by decide +kernel
theorem dX13_look_37 : decode cX13_look 37 = .ok (.iconst 0, 1) := by decide +kernel
theorem dX13_look_38 : decode cX13_look 38 = .ok (.iconst 4, 1) := by decide +kernel
theorem dX13_look_39 : decode cX13_look 39 = .ok (.invokestatic 234, 3) := by decide +kernel
theorem dX13_look_42 : decode cX13_look 42 = .ok (.ifCond .ne 7, 3) := by decide +kernel
theorem dX13_look_45 : decode cX13_look 45 = .ok (.iconst 1, 1) := by decide +kernel
theorem dX13_look_46 : decode cX13_look 46 = .ok (.goto 4, 3) := by decide +kernel
theorem dX13_look_49 : decode cX13_look 49 = .ok (.iconst 0, 1) := by decide +kernel
theorem dX13_look_50 : decode cX13_look 50 = .ok (.iconst 3, 1) := by decide +kernel
theorem dX13_look_51 : decode cX13_look 51 = .ok (.invokevirtual 223, 3) := by decide +kernel
theorem dX13_look_54 : decode cX13_look 54 = .ok (.ifCond .eq 5, 3) := by decide +kernel
theorem dX13_look_57 : decode cX13_look 57 = .ok (.iconst 0, 1) := by decide +kernel
theorem dX13_look_58 : decode cX13_look 58 = .ok (.ireturn, 1) := by decide +kernel
theorem dX13_look_59 : decode cX13_look 59 = .ok (.aload_n 0, 1) := by decide +kernel
theorem dX13_look_60 : decode cX13_look 60 = .ok (.iload_n 1, 1) := by decide +kernel
theorem dX13_look_61 : decode cX13_look 61 = .ok (.iload_n 2, 1) := by decide +kernel
theorem dX13_look_62 : decode cX13_look 62 = .ok (.invokevirtual 259, 3) := by decide +kernel
theorem dX13_look_65 : decode cX13_look 65 = .ok (.aload_n 0, 1) := by decide +kernel
theorem dX13_look_66 : decode cX13_look 66 = .ok (.getfield 39, 3) := by decide +kernel
theorem dX13_look_69 : decode cX13_look 69 = .ok (.sipush 200, 3) := by decide +kernel
theorem dX13_look_72 : decode cX13_look 72 = .ok (.iload_n 3, 1) := by decide +kernel
theorem dX13_look_73 : decode cX13_look 73 = .ok (.iadd, 1) := by decide +kernel
theorem dX13_look_74 : decode cX13_look 74 = .ok (.iaload, 1) := by decide +kernel
theorem dX13_look_75 : decode cX13_look 75 = .ok (.ireturn, 1) := by decide +kernel
theorem dX13_costOf_0 : decode cX13_costOf 0 = .ok (.iload_n 0, 1) := by decide +kernel
theorem dX13_costOf_1 : decode cX13_costOf 1 = .ok (.ifCond .ne 7, 3) := by decide +kernel
theorem dX13_costOf_4 : decode cX13_costOf 4 = .ok (.iload_n 1, 1) := by decide +kernel
theorem dX13_costOf_5 : decode cX13_costOf 5 = .ok (.goto 28, 3) := by decide +kernel
theorem dX13_costOf_8 : decode cX13_costOf 8 = .ok (.iload_n 0, 1) := by decide +kernel
theorem dX13_costOf_9 : decode cX13_costOf 9 = .ok (.iconst 1, 1) := by decide +kernel
theorem dX13_costOf_10 : decode cX13_costOf 10 = .ok (.if_icmp .ne 9, 3) := by decide +kernel
theorem dX13_costOf_13 : decode cX13_costOf 13 = .ok (.iconst 3, 1) := by decide +kernel
theorem dX13_costOf_14 : decode cX13_costOf 14 = .ok (.iload_n 1, 1) := by decide +kernel
theorem dX13_costOf_15 : decode cX13_costOf 15 = .ok (.imul, 1) := by decide +kernel
theorem dX13_costOf_16 : decode cX13_costOf 16 = .ok (.goto 17, 3) := by decide +kernel
theorem dX13_costOf_19 : decode cX13_costOf 19 = .ok (.iload_n 0, 1) := by decide +kernel
theorem dX13_costOf_20 : decode cX13_costOf 20 = .ok (.iconst 2, 1) := by decide +kernel
theorem dX13_costOf_21 : decode cX13_costOf 21 = .ok (.if_icmp .ne 11, 3) := by decide +kernel
theorem dX13_costOf_24 : decode cX13_costOf 24 = .ok (.iconst 2, 1) := by decide +kernel
theorem dX13_costOf_25 : decode cX13_costOf 25 = .ok (.iload_n 1, 1) := by decide +kernel
theorem dX13_costOf_26 : decode cX13_costOf 26 = .ok (.imul, 1) := by decide +kernel
theorem dX13_costOf_27 : decode cX13_costOf 27 = .ok (.iconst 1, 1) := by decide +kernel
theorem dX13_costOf_28 : decode cX13_costOf 28 = .ok (.iadd, 1) := by decide +kernel
theorem dX13_costOf_29 : decode cX13_costOf 29 = .ok (.goto 4, 3) := by decide +kernel
theorem dX13_costOf_32 : decode cX13_costOf 32 = .ok (.iconst 1, 1) := by decide +kernel
theorem dX13_costOf_33 : decode cX13_costOf 33 = .ok (.ireturn, 1) := by decide +kernel
theorem dX13_cost_0 : decode cX13_cost 0 = .ok (.aload_n 0, 1) := by decide +kernel
theorem dX13_cost_1 : decode cX13_cost 1 = .ok (.iconst 0, 1) := by decide +kernel
theorem dX13_cost_2 : decode cX13_cost 2 = .ok (.putfield 159, 3) := by decide +kernel
theorem dX13_cost_5 : decode cX13_cost 5 = .ok (.iconst 0, 1) := by decide +kernel
theorem dX13_cost_6 : decode cX13_cost 6 = .ok (.istore_n 1, 1) := by decide +kernel
theorem dX13_cost_7 : decode cX13_cost 7 = .ok (.sipush 800, 3) := by decide +kernel
theorem dX13_cost_10 : decode cX13_cost 10 = .ok (.istore_n 2, 1) := by decide +kernel
theorem dX13_cost_11 : decode cX13_cost 11 = .ok (.iload_n 2, 1) := by decide +kernel
theorem dX13_cost_12 : decode cX13_cost 12 = .ok (.sipush 800, 3) := by decide +kernel
theorem dX13_cost_15 : decode cX13_cost 15 = .ok (.aload_n 0, 1) := by decide +kernel
theorem dX13_cost_16 : decode cX13_cost 16 = .ok (.getfield 21, 3) := by decide +kernel
theorem dX13_cost_19 : decode cX13_cost 19 = .ok (.bipush 40, 2) := by decide +kernel
theorem dX13_cost_21 : decode cX13_cost 21 = .ok (.iaload, 1) := by decide +kernel
theorem dX13_cost_22 : decode cX13_cost 22 = .ok (.iadd, 1) := by decide +kernel
theorem dX13_cost_23 : decode cX13_cost 23 = .ok (.if_icmp .ge 27, 3) := by decide +kernel
theorem dX13_cost_26 : decode cX13_cost 26 = .ok (.iload_n 1, 1) := by decide +kernel
theorem dX13_cost_27 : decode cX13_cost 27 = .ok (.aload_n 0, 1) := by decide +kernel
theorem dX13_cost_28 : decode cX13_cost 28 = .ok (.getfield 24, 3) := by decide +kernel
theorem dX13_cost_31 : decode cX13_cost 31 = .ok (.iload_n 2, 1) := by decide +kernel
theorem dX13_cost_32 : decode cX13_cost 32 = .ok (.iaload, 1) := by decide +kernel
theorem dX13_cost_33 : decode cX13_cost 33 = .ok (.aload_n 0, 1) := by decide +kernel
theorem dX13_cost_34 : decode cX13_cost 34 = .ok (.getfield 27, 3) := by decide +kernel
theorem dX13_cost_37 : decode cX13_cost 37 = .ok (.iload_n 2, 1) := by decide +kernel
theorem dX13_cost_38 : decode cX13_cost 38 = .ok (.iaload, 1) := by decide +kernel
theorem dX13_cost_39 : decode cX13_cost 39 = .ok (.invokestatic 262, 3) := by decide +kernel
theorem dX13_cost_42 : decode cX13_cost 42 = .ok (.iadd, 1) := by decide +kernel
theorem dX13_cost_43 : decode cX13_cost 43 = .ok (.istore_n 1, 1) := by decide +kernel
theorem dX13_cost_44 : decode cX13_cost 44 = .ok (.iinc 2 1, 3) := by decide +kernel
theorem dX13_cost_47 : decode cX13_cost 47 = .ok (.goto (-36), 3) := by decide +kernel
theorem dX13_cost_50 : decode cX13_cost 50 = .ok (.iload_n 1, 1) := by decide +kernel
theorem dX13_cost_51 : decode cX13_cost 51 = .ok (.ireturn, 1) := by decide +kernel
theorem dX13_noWish_0 : decode cX13_noWish 0 = .ok (.iload_n 0, 1) := by decide +kernel
theorem dX13_noWish_1 : decode cX13_noWish 1 = .ok (.ifCond .lt 26, 3) := by decide +kernel
theorem dX13_noWish_4 : decode cX13_noWish 4 = .ok (.iload_n 1, 1) := by decide +kernel
theorem dX13_noWish_5 : decode cX13_noWish 5 = .ok (.iload_n 0, 1) := by decide +kernel
theorem dX13_noWish_6 : decode cX13_noWish 6 = .ok (.if_icmp .lt 21, 3) := by decide +kernel
theorem dX13_noWish_9 : decode cX13_noWish 9 = .ok (.iload_n 1, 1) := by decide +kernel
theorem dX13_noWish_10 : decode cX13_noWish 10 = .ok (.sipush 255, 3) := by decide +kernel
theorem dX13_noWish_13 : decode cX13_noWish 13 = .ok (.if_icmp .gt 14, 3) := by decide +kernel
theorem dX13_noWish_16 : decode cX13_noWish 16 = .ok (.iload_n 2, 1) := by decide +kernel
theorem dX13_noWish_17 : decode cX13_noWish 17 = .ok (.iconst 0, 1) := by decide +kernel
theorem dX13_noWish_18 : decode cX13_noWish 18 = .ok (.sipush 255, 3) := by decide +kernel
theorem dX13_noWish_21 : decode cX13_noWish 21 = .ok (.invokestatic 234, 3) := by decide +kernel
theorem dX13_noWish_24 : decode cX13_noWish 24 = .ok (.ifCond .ne 7, 3) := by decide +kernel
theorem dX13_noWish_27 : decode cX13_noWish 27 = .ok (.iconst 1, 1) := by decide +kernel
theorem dX13_noWish_28 : decode cX13_noWish 28 = .ok (.goto 4, 3) := by decide +kernel
theorem dX13_noWish_31 : decode cX13_noWish 31 = .ok (.iconst 0, 1) := by decide +kernel
theorem dX13_noWish_32 : decode cX13_noWish 32 = .ok (.ireturn, 1) := by decide +kernel
theorem dX13_meetsIt_0 : decode cX13_meetsIt 0 = .ok (.aload_n 0, 1) := by decide +kernel
theorem dX13_meetsIt_1 : decode cX13_meetsIt 1 = .ok (.getfield 39, 3) := by decide +kernel
theorem dX13_meetsIt_4 : decode cX13_meetsIt 4 = .ok (.iconst 5, 1) := by decide +kernel
theorem dX13_meetsIt_5 : decode cX13_meetsIt 5 = .ok (.iload_n 1, 1) := by decide +kernel
theorem dX13_meetsIt_6 : decode cX13_meetsIt 6 = .ok (.imul, 1) := by decide +kernel
theorem dX13_meetsIt_7 : decode cX13_meetsIt 7 = .ok (.iaload, 1) := by decide +kernel
theorem dX13_meetsIt_8 : decode cX13_meetsIt 8 = .ok (.iload_n 2, 1) := by decide +kernel
theorem dX13_meetsIt_9 : decode cX13_meetsIt 9 = .ok (.if_icmp .lt 49, 3) := by decide +kernel
theorem dX13_meetsIt_12 : decode cX13_meetsIt 12 = .ok (.aload_n 0, 1) := by decide +kernel
theorem dX13_meetsIt_13 : decode cX13_meetsIt 13 = .ok (.getfield 39, 3) := by decide +kernel
theorem dX13_meetsIt_16 : decode cX13_meetsIt 16 = .ok (.iconst 5, 1) := by decide +kernel
theorem dX13_meetsIt_17 : decode cX13_meetsIt 17 = .ok (.iload_n 1, 1) := by decide +kernel
theorem dX13_meetsIt_18 : decode cX13_meetsIt 18 = .ok (.imul, 1) := by decide +kernel
theorem dX13_meetsIt_19 : decode cX13_meetsIt 19 = .ok (.iconst 1, 1) := by decide +kernel
theorem dX13_meetsIt_20 : decode cX13_meetsIt 20 = .ok (.iadd, 1) := by decide +kernel
theorem dX13_meetsIt_21 : decode cX13_meetsIt 21 = .ok (.iaload, 1) := by decide +kernel
theorem dX13_meetsIt_22 : decode cX13_meetsIt 22 = .ok (.iload_n 3, 1) := by decide +kernel
theorem dX13_meetsIt_23 : decode cX13_meetsIt 23 = .ok (.if_icmp .gt 35, 3) := by decide +kernel
theorem dX13_meetsIt_26 : decode cX13_meetsIt 26 = .ok (.aload_n 0, 1) := by decide +kernel
theorem dX13_meetsIt_27 : decode cX13_meetsIt 27 = .ok (.getfield 39, 3) := by decide +kernel
theorem dX13_meetsIt_30 : decode cX13_meetsIt 30 = .ok (.iconst 5, 1) := by decide +kernel
theorem dX13_meetsIt_31 : decode cX13_meetsIt 31 = .ok (.iload_n 1, 1) := by decide +kernel
theorem dX13_meetsIt_32 : decode cX13_meetsIt 32 = .ok (.imul, 1) := by decide +kernel
theorem dX13_meetsIt_33 : decode cX13_meetsIt 33 = .ok (.iconst 2, 1) := by decide +kernel
theorem dX13_meetsIt_34 : decode cX13_meetsIt 34 = .ok (.iadd, 1) := by decide +kernel
theorem dX13_meetsIt_35 : decode cX13_meetsIt 35 = .ok (.iaload, 1) := by decide +kernel
theorem dX13_meetsIt_36 : decode cX13_meetsIt 36 = .ok (.iload 4, 2) := by decide +kernel
theorem dX13_meetsIt_38 : decode cX13_meetsIt 38 = .ok (.if_icmp .lt 20, 3) := by decide +kernel
theorem dX13_meetsIt_41 : decode cX13_meetsIt 41 = .ok (.aload_n 0, 1) := by decide +kernel
theorem dX13_meetsIt_42 : decode cX13_meetsIt 42 = .ok (.getfield 39, 3) := by decide +kernel
theorem dX13_meetsIt_45 : decode cX13_meetsIt 45 = .ok (.iconst 5, 1) := by decide +kernel
theorem dX13_meetsIt_46 : decode cX13_meetsIt 46 = .ok (.iload_n 1, 1) := by decide +kernel
theorem dX13_meetsIt_47 : decode cX13_meetsIt 47 = .ok (.imul, 1) := by decide +kernel
theorem dX13_meetsIt_48 : decode cX13_meetsIt 48 = .ok (.iconst 4, 1) := by decide +kernel
theorem dX13_meetsIt_49 : decode cX13_meetsIt 49 = .ok (.iadd, 1) := by decide +kernel
theorem dX13_meetsIt_50 : decode cX13_meetsIt 50 = .ok (.iaload, 1) := by decide +kernel
theorem dX13_meetsIt_51 : decode cX13_meetsIt 51 = .ok (.ifCond .ne 7, 3) := by decide +kernel
theorem dX13_meetsIt_54 : decode cX13_meetsIt 54 = .ok (.iconst 1, 1) := by decide +kernel
theorem dX13_meetsIt_55 : decode cX13_meetsIt 55 = .ok (.goto 4, 3) := by decide +kernel
theorem dX13_meetsIt_58 : decode cX13_meetsIt 58 = .ok (.iconst 0, 1) := by decide +kernel
theorem dX13_meetsIt_59 : decode cX13_meetsIt 59 = .ok (.ireturn, 1) := by decide +kernel
theorem dX13_meets_0 : decode cX13_meets 0 = .ok (.aload_n 0, 1) := by decide +kernel
theorem dX13_meets_1 : decode cX13_meets 1 = .ok (.iconst 0, 1) := by decide +kernel
theorem dX13_meets_2 : decode cX13_meets 2 = .ok (.putfield 159, 3) := by decide +kernel
theorem dX13_meets_5 : decode cX13_meets 5 = .ok (.aload_n 0, 1) := by decide +kernel
theorem dX13_meets_6 : decode cX13_meets 6 = .ok (.aload_n 0, 1) := by decide +kernel
theorem dX13_meets_7 : decode cX13_meets 7 = .ok (.iload_n 1, 1) := by decide +kernel
theorem dX13_meets_8 : decode cX13_meets 8 = .ok (.invokevirtual 255, 3) := by decide +kernel
theorem dX13_meets_11 : decode cX13_meets 11 = .ok (.iconst 1, 1) := by decide +kernel
theorem dX13_meets_12 : decode cX13_meets 12 = .ok (.invokevirtual 223, 3) := by decide +kernel
theorem dX13_meets_15 : decode cX13_meets 15 = .ok (.ifCond .ne 18, 3) := by decide +kernel
theorem dX13_meets_18 : decode cX13_meets 18 = .ok (.aload_n 0, 1) := by decide +kernel
theorem dX13_meets_19 : decode cX13_meets 19 = .ok (.iload_n 2, 1) := by decide +kernel
theorem dX13_meets_20 : decode cX13_meets 20 = .ok (.iload_n 3, 1) := by decide +kernel
theorem dX13_meets_21 : decode cX13_meets 21 = .ok (.iload 4, 2) := by decide +kernel
theorem dX13_meets_23 : decode cX13_meets 23 = .ok (.invokestatic 265, 3) := by decide +kernel
theorem dX13_meets_26 : decode cX13_meets 26 = .ok (.iconst 2, 1) := by decide +kernel
theorem dX13_meets_27 : decode cX13_meets 27 = .ok (.invokevirtual 223, 3) := by decide +kernel
theorem dX13_meets_30 : decode cX13_meets 30 = .ok (.ifCond .eq 5, 3) := by decide +kernel
theorem dX13_meets_33 : decode cX13_meets 33 = .ok (.iconst 0, 1) := by decide +kernel
theorem dX13_meets_34 : decode cX13_meets 34 = .ok (.ireturn, 1) := by decide +kernel
theorem dX13_meets_35 : decode cX13_meets 35 = .ok (.aload_n 0, 1) := by decide +kernel
theorem dX13_meets_36 : decode cX13_meets 36 = .ok (.iload_n 1, 1) := by decide +kernel
theorem dX13_meets_37 : decode cX13_meets 37 = .ok (.bipush 20, 2) := by decide +kernel
theorem dX13_meets_39 : decode cX13_meets 39 = .ok (.invokevirtual 259, 3) := by decide +kernel
theorem dX13_meets_42 : decode cX13_meets 42 = .ok (.aload_n 0, 1) := by decide +kernel
theorem dX13_meets_43 : decode cX13_meets 43 = .ok (.bipush 40, 2) := by decide +kernel
theorem dX13_meets_45 : decode cX13_meets 45 = .ok (.iload_n 2, 1) := by decide +kernel
theorem dX13_meets_46 : decode cX13_meets 46 = .ok (.iload_n 3, 1) := by decide +kernel
theorem dX13_meets_47 : decode cX13_meets 47 = .ok (.iload 4, 2) := by decide +kernel
theorem dX13_meets_49 : decode cX13_meets 49 = .ok (.invokevirtual 268, 3) := by decide +kernel
theorem dX13_meets_52 : decode cX13_meets 52 = .ok (.ireturn, 1) := by decide +kernel
theorem dX13_usual_0 : decode cX13_usual 0 = .ok (.iload_n 0, 1) := by decide +kernel
theorem dX13_usual_1 : decode cX13_usual 1 = .ok (.ifCond .ne 7, 3) := by decide +kernel
theorem dX13_usual_4 : decode cX13_usual 4 = .ok (.iconst 4, 1) := by decide +kernel
theorem dX13_usual_5 : decode cX13_usual 5 = .ok (.goto 22, 3) := by decide +kernel
theorem dX13_usual_8 : decode cX13_usual 8 = .ok (.iload_n 0, 1) := by decide +kernel
theorem dX13_usual_9 : decode cX13_usual 9 = .ok (.iconst 1, 1) := by decide +kernel
theorem dX13_usual_10 : decode cX13_usual 10 = .ok (.if_icmp .ne 7, 3) := by decide +kernel
theorem dX13_usual_13 : decode cX13_usual 13 = .ok (.iconst 2, 1) := by decide +kernel
theorem dX13_usual_14 : decode cX13_usual 14 = .ok (.goto 13, 3) := by decide +kernel
theorem dX13_usual_17 : decode cX13_usual 17 = .ok (.iload_n 0, 1) := by decide +kernel
theorem dX13_usual_18 : decode cX13_usual 18 = .ok (.iconst 2, 1) := by decide +kernel
theorem dX13_usual_19 : decode cX13_usual 19 = .ok (.if_icmp .ne 7, 3) := by decide +kernel
theorem dX13_usual_22 : decode cX13_usual 22 = .ok (.iconst 3, 1) := by decide +kernel
theorem dX13_usual_23 : decode cX13_usual 23 = .ok (.goto 4, 3) := by decide +kernel
theorem dX13_usual_26 : decode cX13_usual 26 = .ok (.iconst 1, 1) := by decide +kernel
theorem dX13_usual_27 : decode cX13_usual 27 = .ok (.ireturn, 1) := by decide +kernel
theorem dX13_seeks_0 : decode cX13_seeks 0 = .ok (.bipush 41, 2) := by decide +kernel
theorem dX13_seeks_2 : decode cX13_seeks 2 = .ok (.iload_n 2, 1) := by decide +kernel
theorem dX13_seeks_3 : decode cX13_seeks 3 = .ok (.iadd, 1) := by decide +kernel
theorem dX13_seeks_4 : decode cX13_seeks 4 = .ok (.istore 5, 2) := by decide +kernel
theorem dX13_seeks_6 : decode cX13_seeks 6 = .ok (.aload_n 0, 1) := by decide +kernel
theorem dX13_seeks_7 : decode cX13_seeks 7 = .ok (.iload 5, 2) := by decide +kernel
theorem dX13_seeks_9 : decode cX13_seeks 9 = .ok (.aload_n 0, 1) := by decide +kernel
theorem dX13_seeks_10 : decode cX13_seeks 10 = .ok (.getfield 272, 3) := by decide +kernel
theorem dX13_seeks_13 : decode cX13_seeks 13 = .ok (.aload_n 0, 1) := by decide +kernel
theorem dX13_seeks_14 : decode cX13_seeks 14 = .ok (.getfield 275, 3) := by decide +kernel
theorem dX13_seeks_17 : decode cX13_seeks 17 = .ok (.aload_n 0, 1) := by decide +kernel
theorem dX13_seeks_18 : decode cX13_seeks 18 = .ok (.getfield 278, 3) := by decide +kernel
theorem dX13_seeks_21 : decode cX13_seeks 21 = .ok (.invokevirtual 268, 3) := by decide +kernel
theorem dX13_seeks_24 : decode cX13_seeks 24 = .ok (.ifCond .eq 76, 3) := by decide +kernel
theorem dX13_seeks_27 : decode cX13_seeks 27 = .ok (.aload_n 0, 1) := by decide +kernel
theorem dX13_seeks_28 : decode cX13_seeks 28 = .ok (.getfield 281, 3) := by decide +kernel
theorem dX13_seeks_31 : decode cX13_seeks 31 = .ok (.ifCond .lt 29, 3) := by decide +kernel
theorem dX13_seeks_34 : decode cX13_seeks 34 = .ok (.iload 4, 2) := by decide +kernel
theorem dX13_seeks_36 : decode cX13_seeks 36 = .ok (.aload_n 0, 1) := by decide +kernel
theorem dX13_seeks_37 : decode cX13_seeks 37 = .ok (.getfield 281, 3) := by decide +kernel
theorem dX13_seeks_40 : decode cX13_seeks 40 = .ok (.if_icmp .lt 20, 3) := by decide +kernel
theorem dX13_seeks_43 : decode cX13_seeks 43 = .ok (.iload 4, 2) := by decide +kernel
theorem dX13_seeks_45 : decode cX13_seeks 45 = .ok (.aload_n 0, 1) := by decide +kernel
theorem dX13_seeks_46 : decode cX13_seeks 46 = .ok (.getfield 281, 3) := by decide +kernel
theorem dX13_seeks_49 : decode cX13_seeks 49 = .ok (.if_icmp .ne 51, 3) := by decide +kernel
theorem dX13_seeks_52 : decode cX13_seeks 52 = .ok (.iload_n 2, 1) := by decide +kernel
theorem dX13_seeks_53 : decode cX13_seeks 53 = .ok (.aload_n 0, 1) := by decide +kernel
theorem dX13_seeks_54 : decode cX13_seeks 54 = .ok (.getfield 284, 3) := by decide +kernel
theorem dX13_seeks_57 : decode cX13_seeks 57 = .ok (.if_icmp .ge 43, 3) := by decide +kernel
theorem dX13_seeks_60 : decode cX13_seeks 60 = .ok (.aload_n 0, 1) := by decide +kernel
theorem dX13_seeks_61 : decode cX13_seeks 61 = .ok (.iload 4, 2) := by decide +kernel
theorem dX13_seeks_63 : decode cX13_seeks 63 = .ok (.putfield 281, 3) := by decide +kernel
theorem dX13_seeks_66 : decode cX13_seeks 66 = .ok (.aload_n 0, 1) := by decide +kernel
theorem dX13_seeks_67 : decode cX13_seeks 67 = .ok (.iload_n 2, 1) := by decide +kernel
theorem dX13_seeks_68 : decode cX13_seeks 68 = .ok (.putfield 284, 3) := by decide +kernel
theorem dX13_seeks_71 : decode cX13_seeks 71 = .ok (.iconst 0, 1) := by decide +kernel
theorem dX13_seeks_72 : decode cX13_seeks 72 = .ok (.istore 6, 2) := by decide +kernel
theorem dX13_seeks_74 : decode cX13_seeks 74 = .ok (.iload 6, 2) := by decide +kernel
theorem dX13_seeks_76 : decode cX13_seeks 76 = .ok (.iload_n 2, 1) := by decide +kernel
theorem dX13_seeks_77 : decode cX13_seeks 77 = .ok (.if_icmp .ge 23, 3) := by decide +kernel
theorem dX13_seeks_80 : decode cX13_seeks 80 = .ok (.aload_n 0, 1) := by decide +kernel
theorem dX13_seeks_81 : decode cX13_seeks 81 = .ok (.getfield 45, 3) := by decide +kernel
theorem dX13_seeks_84 : decode cX13_seeks 84 = .ok (.iload 6, 2) := by decide +kernel
theorem dX13_seeks_86 : decode cX13_seeks 86 = .ok (.aload_n 0, 1) := by decide +kernel
theorem dX13_seeks_87 : decode cX13_seeks 87 = .ok (.getfield 42, 3) := by decide +kernel
theorem dX13_seeks_90 : decode cX13_seeks 90 = .ok (.iload 6, 2) := by decide +kernel
theorem dX13_seeks_92 : decode cX13_seeks 92 = .ok (.iaload, 1) := by decide +kernel
theorem dX13_seeks_93 : decode cX13_seeks 93 = .ok (.iastore, 1) := by decide +kernel
theorem dX13_seeks_94 : decode cX13_seeks 94 = .ok (.iinc 6 1, 3) := by decide +kernel
theorem dX13_seeks_97 : decode cX13_seeks 97 = .ok (.goto (-23), 3) := by decide +kernel
theorem dX13_seeks_100 : decode cX13_seeks 100 = .ok (.iload_n 2, 1) := by decide +kernel
theorem dX13_seeks_101 : decode cX13_seeks 101 = .ok (.iload_n 3, 1) := by decide +kernel
theorem dX13_seeks_102 : decode cX13_seeks 102 = .ok (.if_icmp .ne 4, 3) := by decide +kernel
theorem dX13_seeks_105 : decode cX13_seeks 105 = .ok (.return_, 1) := by decide +kernel
theorem dX13_seeks_106 : decode cX13_seeks 106 = .ok (.iconst 0, 1) := by decide +kernel
theorem dX13_seeks_107 : decode cX13_seeks 107 = .ok (.istore 6, 2) := by decide +kernel
theorem dX13_seeks_109 : decode cX13_seeks 109 = .ok (.iload 6, 2) := by decide +kernel
theorem dX13_seeks_111 : decode cX13_seeks 111 = .ok (.iconst 3, 1) := by decide +kernel
theorem dX13_seeks_112 : decode cX13_seeks 112 = .ok (.if_icmp .gt 96, 3) := by decide +kernel
theorem dX13_seeks_115 : decode cX13_seeks 115 = .ok (.iconst 0, 1) := by decide +kernel
theorem dX13_seeks_116 : decode cX13_seeks 116 = .ok (.istore 7, 2) := by decide +kernel
theorem dX13_seeks_118 : decode cX13_seeks 118 = .ok (.iload 7, 2) := by decide +kernel
theorem dX13_seeks_120 : decode cX13_seeks 120 = .ok (.iconst 5, 1) := by decide +kernel
theorem dX13_seeks_121 : decode cX13_seeks 121 = .ok (.if_icmp .ge 35, 3) := by decide +kernel
theorem dX13_seeks_124 : decode cX13_seeks 124 = .ok (.aload_n 0, 1) := by decide +kernel
theorem dX13_seeks_125 : decode cX13_seeks 125 = .ok (.getfield 39, 3) := by decide +kernel
theorem dX13_seeks_128 : decode cX13_seeks 128 = .ok (.iconst 5, 1) := by decide +kernel
theorem dX13_seeks_129 : decode cX13_seeks 129 = .ok (.iload 5, 2) := by decide +kernel
theorem dX13_seeks_131 : decode cX13_seeks 131 = .ok (.iconst 1, 1) := by decide +kernel
theorem dX13_seeks_132 : decode cX13_seeks 132 = .ok (.iadd, 1) := by decide +kernel
theorem dX13_seeks_133 : decode cX13_seeks 133 = .ok (.imul, 1) := by decide +kernel
theorem dX13_seeks_134 : decode cX13_seeks 134 = .ok (.iload 7, 2) := by decide +kernel
theorem dX13_seeks_136 : decode cX13_seeks 136 = .ok (.iadd, 1) := by decide +kernel
theorem dX13_seeks_137 : decode cX13_seeks 137 = .ok (.aload_n 0, 1) := by decide +kernel
theorem dX13_seeks_138 : decode cX13_seeks 138 = .ok (.getfield 39, 3) := by decide +kernel
theorem dX13_seeks_141 : decode cX13_seeks 141 = .ok (.iconst 5, 1) := by decide +kernel
theorem dX13_seeks_142 : decode cX13_seeks 142 = .ok (.iload 5, 2) := by decide +kernel
theorem dX13_seeks_144 : decode cX13_seeks 144 = .ok (.imul, 1) := by decide +kernel
theorem dX13_seeks_145 : decode cX13_seeks 145 = .ok (.iload 7, 2) := by decide +kernel
theorem dX13_seeks_147 : decode cX13_seeks 147 = .ok (.iadd, 1) := by decide +kernel
theorem dX13_seeks_148 : decode cX13_seeks 148 = .ok (.iaload, 1) := by decide +kernel
theorem dX13_seeks_149 : decode cX13_seeks 149 = .ok (.iastore, 1) := by decide +kernel
theorem dX13_seeks_150 : decode cX13_seeks 150 = .ok (.iinc 7 1, 3) := by decide +kernel
theorem dX13_seeks_153 : decode cX13_seeks 153 = .ok (.goto (-35), 3) := by decide +kernel
theorem dX13_seeks_156 : decode cX13_seeks 156 = .ok (.aload_n 0, 1) := by decide +kernel
theorem dX13_seeks_157 : decode cX13_seeks 157 = .ok (.iload 5, 2) := by decide +kernel
theorem dX13_seeks_159 : decode cX13_seeks 159 = .ok (.iconst 1, 1) := by decide +kernel
theorem dX13_seeks_160 : decode cX13_seeks 160 = .ok (.iadd, 1) := by decide +kernel
theorem dX13_seeks_161 : decode cX13_seeks 161 = .ok (.iload_n 1, 1) := by decide +kernel
theorem dX13_seeks_162 : decode cX13_seeks 162 = .ok (.iload 6, 2) := by decide +kernel
theorem dX13_seeks_164 : decode cX13_seeks 164 = .ok (.iload 6, 2) := by decide +kernel
theorem dX13_seeks_166 : decode cX13_seeks 166 = .ok (.invokestatic 287, 3) := by decide +kernel
theorem dX13_seeks_169 : decode cX13_seeks 169 = .ok (.invokevirtual 251, 3) := by decide +kernel
theorem dX13_seeks_172 : decode cX13_seeks 172 = .ok (.aload_n 0, 1) := by decide +kernel
theorem dX13_seeks_173 : decode cX13_seeks 173 = .ok (.getfield 42, 3) := by decide +kernel
theorem dX13_seeks_176 : decode cX13_seeks 176 = .ok (.iload_n 2, 1) := by decide +kernel
theorem dX13_seeks_177 : decode cX13_seeks 177 = .ok (.iload 6, 2) := by decide +kernel
theorem dX13_seeks_179 : decode cX13_seeks 179 = .ok (.iastore, 1) := by decide +kernel
theorem dX13_seeks_180 : decode cX13_seeks 180 = .ok (.aload_n 0, 1) := by decide +kernel
theorem dX13_seeks_181 : decode cX13_seeks 181 = .ok (.iload_n 1, 1) := by decide +kernel
theorem dX13_seeks_182 : decode cX13_seeks 182 = .ok (.iload_n 2, 1) := by decide +kernel
theorem dX13_seeks_183 : decode cX13_seeks 183 = .ok (.iconst 1, 1) := by decide +kernel
theorem dX13_seeks_184 : decode cX13_seeks 184 = .ok (.iadd, 1) := by decide +kernel
theorem dX13_seeks_185 : decode cX13_seeks 185 = .ok (.iload_n 3, 1) := by decide +kernel
theorem dX13_seeks_186 : decode cX13_seeks 186 = .ok (.iload 4, 2) := by decide +kernel
theorem dX13_seeks_188 : decode cX13_seeks 188 = .ok (.iload 6, 2) := by decide +kernel
theorem dX13_seeks_190 : decode cX13_seeks 190 = .ok (.iload 6, 2) := by decide +kernel
theorem dX13_seeks_192 : decode cX13_seeks 192 = .ok (.invokestatic 287, 3) := by decide +kernel
theorem dX13_seeks_195 : decode cX13_seeks 195 = .ok (.invokestatic 262, 3) := by decide +kernel
theorem dX13_seeks_198 : decode cX13_seeks 198 = .ok (.iadd, 1) := by decide +kernel
theorem dX13_seeks_199 : decode cX13_seeks 199 = .ok (.invokevirtual 291, 3) := by decide +kernel
theorem dX13_seeks_202 : decode cX13_seeks 202 = .ok (.iinc 6 1, 3) := by decide +kernel
theorem dX13_seeks_205 : decode cX13_seeks 205 = .ok (.goto (-96), 3) := by decide +kernel
theorem dX13_seeks_208 : decode cX13_seeks 208 = .ok (.return_, 1) := by decide +kernel
theorem dX13_cheapestOf_0 : decode cX13_cheapestOf 0 = .ok (.aload_n 0, 1) := by decide +kernel
theorem dX13_cheapestOf_1 : decode cX13_cheapestOf 1 = .ok (.iload_n 2, 1) := by decide +kernel
theorem dX13_cheapestOf_2 : decode cX13_cheapestOf 2 = .ok (.putfield 272, 3) := by decide +kernel
theorem dX13_cheapestOf_5 : decode cX13_cheapestOf 5 = .ok (.aload_n 0, 1) := by decide +kernel
theorem dX13_cheapestOf_6 : decode cX13_cheapestOf 6 = .ok (.iload_n 3, 1) := by decide +kernel
theorem dX13_cheapestOf_7 : decode cX13_cheapestOf 7 = .ok (.putfield 275, 3) := by decide +kernel
theorem dX13_cheapestOf_10 : decode cX13_cheapestOf 10 = .ok (.aload_n 0, 1) := by decide +kernel
theorem dX13_cheapestOf_11 : decode cX13_cheapestOf 11 = .ok (.iload 4, 2) := by decide +kernel
theorem dX13_cheapestOf_13 : decode cX13_cheapestOf 13 = .ok (.putfield 278, 3) := by decide +kernel
theorem dX13_cheapestOf_16 : decode cX13_cheapestOf 16 = .ok (.aload_n 0, 1) := by decide +kernel
theorem dX13_cheapestOf_17 : decode cX13_cheapestOf 17 = .ok (.iconst (-1), 1) := by decide +kernel
theorem dX13_cheapestOf_18 : decode cX13_cheapestOf 18 = .ok (.putfield 281, 3) := by decide +kernel
theorem dX13_cheapestOf_21 : decode cX13_cheapestOf 21 = .ok (.aload_n 0, 1) := by decide +kernel
theorem dX13_cheapestOf_22 : decode cX13_cheapestOf 22 = .ok (.iconst 0, 1) := by decide +kernel
theorem dX13_cheapestOf_23 : decode cX13_cheapestOf 23 = .ok (.putfield 284, 3) := by decide +kernel
theorem dX13_cheapestOf_26 : decode cX13_cheapestOf 26 = .ok (.aload_n 0, 1) := by decide +kernel
theorem dX13_cheapestOf_27 : decode cX13_cheapestOf 27 = .ok (.bipush 41, 2) := by decide +kernel
theorem dX13_cheapestOf_29 : decode cX13_cheapestOf 29 = .ok (.iload_n 1, 1) := by decide +kernel
theorem dX13_cheapestOf_30 : decode cX13_cheapestOf 30 = .ok (.invokevirtual 248, 3) := by decide +kernel
theorem dX13_cheapestOf_33 : decode cX13_cheapestOf 33 = .ok (.aload_n 0, 1) := by decide +kernel
theorem dX13_cheapestOf_34 : decode cX13_cheapestOf 34 = .ok (.iload_n 1, 1) := by decide +kernel
theorem dX13_cheapestOf_35 : decode cX13_cheapestOf 35 = .ok (.iconst 0, 1) := by decide +kernel
theorem dX13_cheapestOf_36 : decode cX13_cheapestOf 36 = .ok (.iload 5, 2) := by decide +kernel
theorem dX13_cheapestOf_38 : decode cX13_cheapestOf 38 = .ok (.iconst 0, 1) := by decide +kernel
theorem dX13_cheapestOf_39 : decode cX13_cheapestOf 39 = .ok (.invokevirtual 291, 3) := by decide +kernel
theorem dX13_cheapestOf_42 : decode cX13_cheapestOf 42 = .ok (.aload_n 0, 1) := by decide +kernel
theorem dX13_cheapestOf_43 : decode cX13_cheapestOf 43 = .ok (.getfield 281, 3) := by decide +kernel
theorem dX13_cheapestOf_46 : decode cX13_cheapestOf 46 = .ok (.ifCond .lt 7, 3) := by decide +kernel
theorem dX13_cheapestOf_49 : decode cX13_cheapestOf 49 = .ok (.iconst 1, 1) := by decide +kernel
theorem dX13_cheapestOf_50 : decode cX13_cheapestOf 50 = .ok (.goto 4, 3) := by decide +kernel
theorem dX13_cheapestOf_53 : decode cX13_cheapestOf 53 = .ok (.iconst 0, 1) := by decide +kernel
theorem dX13_cheapestOf_54 : decode cX13_cheapestOf 54 = .ok (.ireturn, 1) := by decide +kernel
theorem dX13_cheapest_0 : decode cX13_cheapest 0 = .ok (.aload_n 0, 1) := by decide +kernel
theorem dX13_cheapest_1 : decode cX13_cheapest 1 = .ok (.iconst 0, 1) := by decide +kernel
theorem dX13_cheapest_2 : decode cX13_cheapest 2 = .ok (.putfield 159, 3) := by decide +kernel
theorem dX13_cheapest_5 : decode cX13_cheapest 5 = .ok (.aload_n 0, 1) := by decide +kernel
theorem dX13_cheapest_6 : decode cX13_cheapest 6 = .ok (.aload_n 0, 1) := by decide +kernel
theorem dX13_cheapest_7 : decode cX13_cheapest 7 = .ok (.iload_n 1, 1) := by decide +kernel
theorem dX13_cheapest_8 : decode cX13_cheapest 8 = .ok (.invokevirtual 255, 3) := by decide +kernel
theorem dX13_cheapest_11 : decode cX13_cheapest 11 = .ok (.iconst 1, 1) := by decide +kernel
theorem dX13_cheapest_12 : decode cX13_cheapest 12 = .ok (.invokevirtual 223, 3) := by decide +kernel
theorem dX13_cheapest_15 : decode cX13_cheapest 15 = .ok (.ifCond .ne 37, 3) := by decide +kernel
theorem dX13_cheapest_18 : decode cX13_cheapest 18 = .ok (.aload_n 0, 1) := by decide +kernel
theorem dX13_cheapest_19 : decode cX13_cheapest 19 = .ok (.iload_n 2, 1) := by decide +kernel
theorem dX13_cheapest_20 : decode cX13_cheapest 20 = .ok (.iload_n 3, 1) := by decide +kernel
theorem dX13_cheapest_21 : decode cX13_cheapest 21 = .ok (.iload 4, 2) := by decide +kernel
theorem dX13_cheapest_23 : decode cX13_cheapest 23 = .ok (.invokestatic 265, 3) := by decide +kernel
theorem dX13_cheapest_26 : decode cX13_cheapest 26 = .ok (.ifCond .ne 14, 3) := by decide +kernel
theorem dX13_cheapest_29 : decode cX13_cheapest 29 = .ok (.iload 5, 2) := by decide +kernel
theorem dX13_cheapest_31 : decode cX13_cheapest 31 = .ok (.iconst 0, 1) := by decide +kernel
theorem dX13_cheapest_32 : decode cX13_cheapest 32 = .ok (.bipush 6, 2) := by decide +kernel
theorem dX13_cheapest_34 : decode cX13_cheapest 34 = .ok (.invokestatic 234, 3) := by decide +kernel
theorem dX13_cheapest_37 : decode cX13_cheapest 37 = .ok (.ifCond .ne 7, 3) := by decide +kernel
theorem dX13_cheapest_40 : decode cX13_cheapest 40 = .ok (.iconst 1, 1) := by decide +kernel
theorem dX13_cheapest_41 : decode cX13_cheapest 41 = .ok (.goto 4, 3) := by decide +kernel
theorem dX13_cheapest_44 : decode cX13_cheapest 44 = .ok (.iconst 0, 1) := by decide +kernel
theorem dX13_cheapest_45 : decode cX13_cheapest 45 = .ok (.iconst 2, 1) := by decide +kernel
theorem dX13_cheapest_46 : decode cX13_cheapest 46 = .ok (.invokevirtual 223, 3) := by decide +kernel
theorem dX13_cheapest_49 : decode cX13_cheapest 49 = .ok (.ifCond .eq 5, 3) := by decide +kernel
theorem dX13_cheapest_52 : decode cX13_cheapest 52 = .ok (.iconst 0, 1) := by decide +kernel
theorem dX13_cheapest_53 : decode cX13_cheapest 53 = .ok (.ireturn, 1) := by decide +kernel
theorem dX13_cheapest_54 : decode cX13_cheapest 54 = .ok (.aload_n 0, 1) := by decide +kernel
theorem dX13_cheapest_55 : decode cX13_cheapest 55 = .ok (.iload_n 1, 1) := by decide +kernel
theorem dX13_cheapest_56 : decode cX13_cheapest 56 = .ok (.iload_n 2, 1) := by decide +kernel
theorem dX13_cheapest_57 : decode cX13_cheapest 57 = .ok (.iload_n 3, 1) := by decide +kernel
theorem dX13_cheapest_58 : decode cX13_cheapest 58 = .ok (.iload 4, 2) := by decide +kernel
theorem dX13_cheapest_60 : decode cX13_cheapest 60 = .ok (.iload 5, 2) := by decide +kernel
theorem dX13_cheapest_62 : decode cX13_cheapest 62 = .ok (.invokevirtual 294, 3) := by decide +kernel
theorem dX13_cheapest_65 : decode cX13_cheapest 65 = .ok (.ifCond .eq 10, 3) := by decide +kernel
theorem dX13_cheapest_68 : decode cX13_cheapest 68 = .ok (.aload_n 0, 1) := by decide +kernel
theorem dX13_cheapest_69 : decode cX13_cheapest 69 = .ok (.getfield 281, 3) := by decide +kernel
theorem dX13_cheapest_72 : decode cX13_cheapest 72 = .ok (.goto 4, 3) := by decide +kernel
theorem dX13_cheapest_75 : decode cX13_cheapest 75 = .ok (.iconst (-1), 1) := by decide +kernel
theorem dX13_cheapest_76 : decode cX13_cheapest 76 = .ok (.ireturn, 1) := by decide +kernel
theorem dX13_bath_0 : decode cX13_bath 0 = .ok (.aload_n 0, 1) := by decide +kernel
theorem dX13_bath_1 : decode cX13_bath 1 = .ok (.iconst 0, 1) := by decide +kernel
theorem dX13_bath_2 : decode cX13_bath 2 = .ok (.putfield 159, 3) := by decide +kernel
theorem dX13_bath_5 : decode cX13_bath 5 = .ok (.aload_n 0, 1) := by decide +kernel
theorem dX13_bath_6 : decode cX13_bath 6 = .ok (.aload_n 0, 1) := by decide +kernel
theorem dX13_bath_7 : decode cX13_bath 7 = .ok (.iload_n 1, 1) := by decide +kernel
theorem dX13_bath_8 : decode cX13_bath 8 = .ok (.invokevirtual 255, 3) := by decide +kernel
theorem dX13_bath_11 : decode cX13_bath 11 = .ok (.iconst 1, 1) := by decide +kernel
theorem dX13_bath_12 : decode cX13_bath 12 = .ok (.invokevirtual 223, 3) := by decide +kernel
theorem dX13_bath_15 : decode cX13_bath 15 = .ok (.ifCond .ne 37, 3) := by decide +kernel
theorem dX13_bath_18 : decode cX13_bath 18 = .ok (.aload_n 0, 1) := by decide +kernel
theorem dX13_bath_19 : decode cX13_bath 19 = .ok (.iload_n 2, 1) := by decide +kernel
theorem dX13_bath_20 : decode cX13_bath 20 = .ok (.iload_n 3, 1) := by decide +kernel
theorem dX13_bath_21 : decode cX13_bath 21 = .ok (.iload 4, 2) := by decide +kernel
theorem dX13_bath_23 : decode cX13_bath 23 = .ok (.invokestatic 265, 3) := by decide +kernel
theorem dX13_bath_26 : decode cX13_bath 26 = .ok (.ifCond .ne 14, 3) := by decide +kernel
theorem dX13_bath_29 : decode cX13_bath 29 = .ok (.iload 5, 2) := by decide +kernel
theorem dX13_bath_31 : decode cX13_bath 31 = .ok (.iconst 0, 1) := by decide +kernel
theorem dX13_bath_32 : decode cX13_bath 32 = .ok (.bipush 6, 2) := by decide +kernel
theorem dX13_bath_34 : decode cX13_bath 34 = .ok (.invokestatic 234, 3) := by decide +kernel
theorem dX13_bath_37 : decode cX13_bath 37 = .ok (.ifCond .ne 7, 3) := by decide +kernel
theorem dX13_bath_40 : decode cX13_bath 40 = .ok (.iconst 1, 1) := by decide +kernel
theorem dX13_bath_41 : decode cX13_bath 41 = .ok (.goto 4, 3) := by decide +kernel
theorem dX13_bath_44 : decode cX13_bath 44 = .ok (.iconst 0, 1) := by decide +kernel
theorem dX13_bath_45 : decode cX13_bath 45 = .ok (.iconst 2, 1) := by decide +kernel
theorem dX13_bath_46 : decode cX13_bath 46 = .ok (.invokevirtual 223, 3) := by decide +kernel
theorem dX13_bath_49 : decode cX13_bath 49 = .ok (.ifCond .eq 5, 3) := by decide +kernel
theorem dX13_bath_52 : decode cX13_bath 52 = .ok (.iconst 0, 1) := by decide +kernel
theorem dX13_bath_53 : decode cX13_bath 53 = .ok (.ireturn, 1) := by decide +kernel
theorem dX13_bath_54 : decode cX13_bath 54 = .ok (.aload_n 0, 1) := by decide +kernel
theorem dX13_bath_55 : decode cX13_bath 55 = .ok (.iload_n 1, 1) := by decide +kernel
theorem dX13_bath_56 : decode cX13_bath 56 = .ok (.iload_n 2, 1) := by decide +kernel
theorem dX13_bath_57 : decode cX13_bath 57 = .ok (.iload_n 3, 1) := by decide +kernel
theorem dX13_bath_58 : decode cX13_bath 58 = .ok (.iload 4, 2) := by decide +kernel
theorem dX13_bath_60 : decode cX13_bath 60 = .ok (.iload 5, 2) := by decide +kernel
theorem dX13_bath_62 : decode cX13_bath 62 = .ok (.invokevirtual 294, 3) := by decide +kernel
theorem dX13_bath_65 : decode cX13_bath 65 = .ok (.ifCond .eq 28, 3) := by decide +kernel
theorem dX13_bath_68 : decode cX13_bath 68 = .ok (.iload 6, 2) := by decide +kernel
theorem dX13_bath_70 : decode cX13_bath 70 = .ok (.iconst 0, 1) := by decide +kernel
theorem dX13_bath_71 : decode cX13_bath 71 = .ok (.aload_n 0, 1) := by decide +kernel
theorem dX13_bath_72 : decode cX13_bath 72 = .ok (.getfield 284, 3) := by decide +kernel
theorem dX13_bath_75 : decode cX13_bath 75 = .ok (.iconst 1, 1) := by decide +kernel
theorem dX13_bath_76 : decode cX13_bath 76 = .ok (.isub, 1) := by decide +kernel
theorem dX13_bath_77 : decode cX13_bath 77 = .ok (.invokestatic 234, 3) := by decide +kernel
theorem dX13_bath_80 : decode cX13_bath 80 = .ok (.ifCond .eq 13, 3) := by decide +kernel
theorem dX13_bath_83 : decode cX13_bath 83 = .ok (.aload_n 0, 1) := by decide +kernel
theorem dX13_bath_84 : decode cX13_bath 84 = .ok (.getfield 45, 3) := by decide +kernel
theorem dX13_bath_87 : decode cX13_bath 87 = .ok (.iload 6, 2) := by decide +kernel
theorem dX13_bath_89 : decode cX13_bath 89 = .ok (.iaload, 1) := by decide +kernel
theorem dX13_bath_90 : decode cX13_bath 90 = .ok (.goto 4, 3) := by decide +kernel
theorem dX13_bath_93 : decode cX13_bath 93 = .ok (.iconst (-1), 1) := by decide +kernel
theorem dX13_bath_94 : decode cX13_bath 94 = .ok (.ireturn, 1) := by decide +kernel
theorem dX13_noKind_0 : decode cX13_noKind 0 = .ok (.iload_n 0, 1) := by decide +kernel
theorem dX13_noKind_1 : decode cX13_noKind 1 = .ok (.iconst 0, 1) := by decide +kernel
theorem dX13_noKind_2 : decode cX13_noKind 2 = .ok (.iconst 5, 1) := by decide +kernel
theorem dX13_noKind_3 : decode cX13_noKind 3 = .ok (.invokestatic 234, 3) := by decide +kernel
theorem dX13_noKind_6 : decode cX13_noKind 6 = .ok (.ifCond .ne 7, 3) := by decide +kernel
theorem dX13_noKind_9 : decode cX13_noKind 9 = .ok (.iconst 1, 1) := by decide +kernel
theorem dX13_noKind_10 : decode cX13_noKind 10 = .ok (.goto 4, 3) := by decide +kernel
theorem dX13_noKind_13 : decode cX13_noKind 13 = .ok (.iconst 0, 1) := by decide +kernel
theorem dX13_noKind_14 : decode cX13_noKind 14 = .ok (.ireturn, 1) := by decide +kernel
theorem dX13_carry_0 : decode cX13_carry 0 = .ok (.aload_n 0, 1) := by decide +kernel
theorem dX13_carry_1 : decode cX13_carry 1 = .ok (.iconst 0, 1) := by decide +kernel
theorem dX13_carry_2 : decode cX13_carry 2 = .ok (.putfield 159, 3) := by decide +kernel
theorem dX13_carry_5 : decode cX13_carry 5 = .ok (.aload_n 0, 1) := by decide +kernel
theorem dX13_carry_6 : decode cX13_carry 6 = .ok (.iload_n 1, 1) := by decide +kernel
theorem dX13_carry_7 : decode cX13_carry 7 = .ok (.invokestatic 298, 3) := by decide +kernel
theorem dX13_carry_10 : decode cX13_carry 10 = .ok (.ifCond .ne 10, 3) := by decide +kernel
theorem dX13_carry_13 : decode cX13_carry 13 = .ok (.iload_n 2, 1) := by decide +kernel
theorem dX13_carry_14 : decode cX13_carry 14 = .ok (.invokestatic 298, 3) := by decide +kernel
theorem dX13_carry_17 : decode cX13_carry 17 = .ok (.ifCond .eq 7, 3) := by decide +kernel
theorem dX13_carry_20 : decode cX13_carry 20 = .ok (.iconst 1, 1) := by decide +kernel
theorem dX13_carry_21 : decode cX13_carry 21 = .ok (.goto 4, 3) := by decide +kernel
theorem dX13_carry_24 : decode cX13_carry 24 = .ok (.iconst 0, 1) := by decide +kernel
theorem dX13_carry_25 : decode cX13_carry 25 = .ok (.iconst 1, 1) := by decide +kernel
theorem dX13_carry_26 : decode cX13_carry 26 = .ok (.invokevirtual 223, 3) := by decide +kernel
theorem dX13_carry_29 : decode cX13_carry 29 = .ok (.ifCond .ne 31, 3) := by decide +kernel
theorem dX13_carry_32 : decode cX13_carry 32 = .ok (.aload_n 0, 1) := by decide +kernel
theorem dX13_carry_33 : decode cX13_carry 33 = .ok (.iload_n 3, 1) := by decide +kernel
theorem dX13_carry_34 : decode cX13_carry 34 = .ok (.iconst (-1), 1) := by decide +kernel
theorem dX13_carry_35 : decode cX13_carry 35 = .ok (.bipush 100, 2) := by decide +kernel
theorem dX13_carry_37 : decode cX13_carry 37 = .ok (.invokestatic 234, 3) := by decide +kernel
theorem dX13_carry_40 : decode cX13_carry 40 = .ok (.ifCond .eq 8, 3) := by decide +kernel
theorem dX13_carry_43 : decode cX13_carry 43 = .ok (.iload_n 1, 1) := by decide +kernel
theorem dX13_carry_44 : decode cX13_carry 44 = .ok (.iload_n 2, 1) := by decide +kernel
theorem dX13_carry_45 : decode cX13_carry 45 = .ok (.if_icmp .ne 7, 3) := by decide +kernel
theorem dX13_carry_48 : decode cX13_carry 48 = .ok (.iconst 1, 1) := by decide +kernel
theorem dX13_carry_49 : decode cX13_carry 49 = .ok (.goto 4, 3) := by decide +kernel
theorem dX13_carry_52 : decode cX13_carry 52 = .ok (.iconst 0, 1) := by decide +kernel
theorem dX13_carry_53 : decode cX13_carry 53 = .ok (.iconst 2, 1) := by decide +kernel
theorem dX13_carry_54 : decode cX13_carry 54 = .ok (.invokevirtual 223, 3) := by decide +kernel
theorem dX13_carry_57 : decode cX13_carry 57 = .ok (.ifCond .eq 4, 3) := by decide +kernel
theorem dX13_carry_60 : decode cX13_carry 60 = .ok (.return_, 1) := by decide +kernel
theorem dX13_carry_61 : decode cX13_carry 61 = .ok (.aload_n 0, 1) := by decide +kernel
theorem dX13_carry_62 : decode cX13_carry 62 = .ok (.getfield 48, 3) := by decide +kernel
theorem dX13_carry_65 : decode cX13_carry 65 = .ok (.bipush 6, 2) := by decide +kernel
theorem dX13_carry_67 : decode cX13_carry 67 = .ok (.iload_n 1, 1) := by decide +kernel
theorem dX13_carry_68 : decode cX13_carry 68 = .ok (.imul, 1) := by decide +kernel
theorem dX13_carry_69 : decode cX13_carry 69 = .ok (.iload_n 2, 1) := by decide +kernel
theorem dX13_carry_70 : decode cX13_carry 70 = .ok (.iadd, 1) := by decide +kernel
theorem dX13_carry_71 : decode cX13_carry 71 = .ok (.iload_n 3, 1) := by decide +kernel
theorem dX13_carry_72 : decode cX13_carry 72 = .ok (.iastore, 1) := by decide +kernel
theorem dX13_carry_73 : decode cX13_carry 73 = .ok (.return_, 1) := by decide +kernel
theorem dX13_batch_0 : decode cX13_batch 0 = .ok (.aload_n 0, 1) := by decide +kernel
theorem dX13_batch_1 : decode cX13_batch 1 = .ok (.iconst 0, 1) := by decide +kernel
theorem dX13_batch_2 : decode cX13_batch 2 = .ok (.putfield 159, 3) := by decide +kernel
theorem dX13_batch_5 : decode cX13_batch 5 = .ok (.aload_n 0, 1) := by decide +kernel
theorem dX13_batch_6 : decode cX13_batch 6 = .ok (.iload_n 1, 1) := by decide +kernel
theorem dX13_batch_7 : decode cX13_batch 7 = .ok (.invokestatic 298, 3) := by decide +kernel
theorem dX13_batch_10 : decode cX13_batch 10 = .ok (.iconst 1, 1) := by decide +kernel
theorem dX13_batch_11 : decode cX13_batch 11 = .ok (.invokevirtual 223, 3) := by decide +kernel
theorem dX13_batch_14 : decode cX13_batch 14 = .ok (.ifCond .eq 5, 3) := by decide +kernel
theorem dX13_batch_17 : decode cX13_batch 17 = .ok (.iconst 0, 1) := by decide +kernel
theorem dX13_batch_18 : decode cX13_batch 18 = .ok (.ireturn, 1) := by decide +kernel
theorem dX13_batch_19 : decode cX13_batch 19 = .ok (.aload_n 0, 1) := by decide +kernel
theorem dX13_batch_20 : decode cX13_batch 20 = .ok (.getfield 301, 3) := by decide +kernel
theorem dX13_batch_23 : decode cX13_batch 23 = .ok (.bipush 9, 2) := by decide +kernel
theorem dX13_batch_25 : decode cX13_batch 25 = .ok (.if_icmp .ne 5, 3) := by decide +kernel
theorem dX13_batch_28 : decode cX13_batch 28 = .ok (.iconst (-1), 1) := by decide +kernel
theorem dX13_batch_29 : decode cX13_batch 29 = .ok (.ireturn, 1) := by decide +kernel
theorem dX13_batch_30 : decode cX13_batch 30 = .ok (.aload_n 0, 1) := by decide +kernel
theorem dX13_batch_31 : decode cX13_batch 31 = .ok (.getfield 51, 3) := by decide +kernel
theorem dX13_batch_34 : decode cX13_batch 34 = .ok (.aload_n 0, 1) := by decide +kernel
theorem dX13_batch_35 : decode cX13_batch 35 = .ok (.getfield 301, 3) := by decide +kernel
theorem dX13_batch_38 : decode cX13_batch 38 = .ok (.iload_n 1, 1) := by decide +kernel
theorem dX13_batch_39 : decode cX13_batch 39 = .ok (.iastore, 1) := by decide +kernel
theorem dX13_batch_40 : decode cX13_batch 40 = .ok (.aload_n 0, 1) := by decide +kernel
theorem dX13_batch_41 : decode cX13_batch 41 = .ok (.dup, 1) := by decide +kernel
theorem dX13_batch_42 : decode cX13_batch 42 = .ok (.getfield 301, 3) := by decide +kernel
theorem dX13_batch_45 : decode cX13_batch 45 = .ok (.iconst 1, 1) := by decide +kernel
theorem dX13_batch_46 : decode cX13_batch 46 = .ok (.iadd, 1) := by decide +kernel
theorem dX13_batch_47 : decode cX13_batch 47 = .ok (.putfield 301, 3) := by decide +kernel
theorem dX13_batch_50 : decode cX13_batch 50 = .ok (.aload_n 0, 1) := by decide +kernel
theorem dX13_batch_51 : decode cX13_batch 51 = .ok (.getfield 301, 3) := by decide +kernel
theorem dX13_batch_54 : decode cX13_batch 54 = .ok (.ireturn, 1) := by decide +kernel
theorem dX13_order_0 : decode cX13_order 0 = .ok (.aload_n 0, 1) := by decide +kernel
theorem dX13_order_1 : decode cX13_order 1 = .ok (.iconst 0, 1) := by decide +kernel
theorem dX13_order_2 : decode cX13_order 2 = .ok (.putfield 159, 3) := by decide +kernel
theorem dX13_order_5 : decode cX13_order 5 = .ok (.aload_n 0, 1) := by decide +kernel
theorem dX13_order_6 : decode cX13_order 6 = .ok (.getfield 301, 3) := by decide +kernel
theorem dX13_order_9 : decode cX13_order 9 = .ok (.ifCond .ne 5, 3) := by decide +kernel
theorem dX13_order_12 : decode cX13_order 12 = .ok (.iconst 0, 1) := by decide +kernel
theorem dX13_order_13 : decode cX13_order 13 = .ok (.ireturn, 1) := by decide +kernel
theorem dX13_order_14 : decode cX13_order 14 = .ok (.iconst 1, 1) := by decide +kernel
theorem dX13_order_15 : decode cX13_order 15 = .ok (.aload_n 0, 1) := by decide +kernel
theorem dX13_order_16 : decode cX13_order 16 = .ok (.getfield 301, 3) := by decide +kernel
theorem dX13_order_19 : decode cX13_order 19 = .ok (.ishl, 1) := by decide +kernel
theorem dX13_order_20 : decode cX13_order 20 = .ok (.iconst 1, 1) := by decide +kernel
theorem dX13_order_21 : decode cX13_order 21 = .ok (.isub, 1) := by decide +kernel
theorem dX13_order_22 : decode cX13_order 22 = .ok (.istore_n 1, 1) := by decide +kernel
theorem dX13_order_23 : decode cX13_order 23 = .ok (.iconst 1, 1) := by decide +kernel
theorem dX13_order_24 : decode cX13_order 24 = .ok (.istore_n 2, 1) := by decide +kernel
theorem dX13_order_25 : decode cX13_order 25 = .ok (.iload_n 2, 1) := by decide +kernel
theorem dX13_order_26 : decode cX13_order 26 = .ok (.iload_n 1, 1) := by decide +kernel
theorem dX13_order_27 : decode cX13_order 27 = .ok (.if_icmp .gt 157, 3) := by decide +kernel
theorem dX13_order_30 : decode cX13_order 30 = .ok (.iconst 0, 1) := by decide +kernel
theorem dX13_order_31 : decode cX13_order 31 = .ok (.istore_n 3, 1) := by decide +kernel
theorem dX13_order_32 : decode cX13_order 32 = .ok (.iload_n 3, 1) := by decide +kernel
theorem dX13_order_33 : decode cX13_order 33 = .ok (.aload_n 0, 1) := by decide +kernel
theorem dX13_order_34 : decode cX13_order 34 = .ok (.getfield 301, 3) := by decide +kernel
theorem dX13_order_37 : decode cX13_order 37 = .ok (.if_icmp .ge 141, 3) := by decide +kernel
theorem dX13_order_40 : decode cX13_order 40 = .ok (.iload_n 2, 1) := by decide +kernel
theorem dX13_order_41 : decode cX13_order 41 = .ok (.iconst 1, 1) := by decide +kernel
theorem dX13_order_42 : decode cX13_order 42 = .ok (.iload_n 3, 1) := by decide +kernel
theorem dX13_order_43 : decode cX13_order 43 = .ok (.ishl, 1) := by decide +kernel
theorem dX13_order_44 : decode cX13_order 44 = .ok (.iconst (-1), 1) := by decide +kernel
theorem dX13_order_45 : decode cX13_order 45 = .ok (.ixor, 1) := by decide +kernel
theorem dX13_order_46 : decode cX13_order 46 = .ok (.iand, 1) := by decide +kernel
theorem dX13_order_47 : decode cX13_order 47 = .ok (.istore 4, 2) := by decide +kernel
theorem dX13_order_49 : decode cX13_order 49 = .ok (.iload 4, 2) := by decide +kernel
theorem dX13_order_51 : decode cX13_order 51 = .ok (.ifCond .ne 7, 3) := by decide +kernel
theorem dX13_order_54 : decode cX13_order 54 = .ok (.iconst 0, 1) := by decide +kernel
theorem dX13_order_55 : decode cX13_order 55 = .ok (.goto 6, 3) := by decide +kernel
theorem dX13_order_58 : decode cX13_order 58 = .ok (.ldc_w 304, 3) := by decide +kernel
theorem dX13_order_61 : decode cX13_order 61 = .ok (.istore 5, 2) := by decide +kernel
theorem dX13_order_63 : decode cX13_order 63 = .ok (.iconst 0, 1) := by decide +kernel
theorem dX13_order_64 : decode cX13_order 64 = .ok (.istore 6, 2) := by decide +kernel
theorem dX13_order_66 : decode cX13_order 66 = .ok (.iload 6, 2) := by decide +kernel
theorem dX13_order_68 : decode cX13_order 68 = .ok (.aload_n 0, 1) := by decide +kernel
theorem dX13_order_69 : decode cX13_order 69 = .ok (.getfield 301, 3) := by decide +kernel
theorem dX13_order_72 : decode cX13_order 72 = .ok (.if_icmp .ge 72, 3) := by decide +kernel
theorem dX13_order_75 : decode cX13_order 75 = .ok (.aload_n 0, 1) := by decide +kernel
theorem dX13_order_76 : decode cX13_order 76 = .ok (.getfield 48, 3) := by decide +kernel
theorem dX13_order_79 : decode cX13_order 79 = .ok (.bipush 6, 2) := by decide +kernel
theorem dX13_order_81 : decode cX13_order 81 = .ok (.aload_n 0, 1) := by decide +kernel
theorem dX13_order_82 : decode cX13_order 82 = .ok (.getfield 51, 3) := by decide +kernel
theorem dX13_order_85 : decode cX13_order 85 = .ok (.iload 6, 2) := by decide +kernel
theorem dX13_order_87 : decode cX13_order 87 = .ok (.iaload, 1) := by decide +kernel
theorem dX13_order_88 : decode cX13_order 88 = .ok (.imul, 1) := by decide +kernel
theorem dX13_order_89 : decode cX13_order 89 = .ok (.aload_n 0, 1) := by decide +kernel
theorem dX13_order_90 : decode cX13_order 90 = .ok (.getfield 51, 3) := by decide +kernel
theorem dX13_order_93 : decode cX13_order 93 = .ok (.iload_n 3, 1) := by decide +kernel
theorem dX13_order_94 : decode cX13_order 94 = .ok (.iaload, 1) := by decide +kernel
theorem dX13_order_95 : decode cX13_order 95 = .ok (.iadd, 1) := by decide +kernel
theorem dX13_order_96 : decode cX13_order 96 = .ok (.iaload, 1) := by decide +kernel
theorem dX13_order_97 : decode cX13_order 97 = .ok (.istore 7, 2) := by decide +kernel
theorem dX13_order_99 : decode cX13_order 99 = .ok (.iload 4, 2) := by decide +kernel
theorem dX13_order_101 : decode cX13_order 101 = .ok (.iload 6, 2) := by decide +kernel
theorem dX13_order_103 : decode cX13_order 103 = .ok (.ishr, 1) := by decide +kernel
theorem dX13_order_104 : decode cX13_order 104 = .ok (.iconst 1, 1) := by decide +kernel
theorem dX13_order_105 : decode cX13_order 105 = .ok (.iand, 1) := by decide +kernel
theorem dX13_order_106 : decode cX13_order 106 = .ok (.iconst 1, 1) := by decide +kernel
theorem dX13_order_107 : decode cX13_order 107 = .ok (.if_icmp .ne 31, 3) := by decide +kernel
theorem dX13_order_110 : decode cX13_order 110 = .ok (.iload 7, 2) := by decide +kernel
theorem dX13_order_112 : decode cX13_order 112 = .ok (.ifCond .lt 26, 3) := by decide +kernel
theorem dX13_order_115 : decode cX13_order 115 = .ok (.iload 5, 2) := by decide +kernel
theorem dX13_order_117 : decode cX13_order 117 = .ok (.aload_n 0, 1) := by decide +kernel
theorem dX13_order_118 : decode cX13_order 118 = .ok (.getfield 54, 3) := by decide +kernel
theorem dX13_order_121 : decode cX13_order 121 = .ok (.bipush 9, 2) := by decide +kernel
theorem dX13_order_123 : decode cX13_order 123 = .ok (.iload 4, 2) := by decide +kernel
theorem dX13_order_125 : decode cX13_order 125 = .ok (.imul, 1) := by decide +kernel
theorem dX13_order_126 : decode cX13_order 126 = .ok (.iload 6, 2) := by decide +kernel
theorem dX13_order_128 : decode cX13_order 128 = .ok (.iadd, 1) := by decide +kernel
theorem dX13_order_129 : decode cX13_order 129 = .ok (.iaload, 1) := by decide +kernel
theorem dX13_order_130 : decode cX13_order 130 = .ok (.iload 7, 2) := by decide +kernel
theorem dX13_order_132 : decode cX13_order 132 = .ok (.iadd, 1) := by decide +kernel
theorem dX13_order_133 : decode cX13_order 133 = .ok (.invokestatic 305, 3) := by decide +kernel
theorem dX13_order_136 : decode cX13_order 136 = .ok (.istore 5, 2) := by decide +kernel
theorem dX13_order_138 : decode cX13_order 138 = .ok (.iinc 6 1, 3) := by decide +kernel
theorem dX13_order_141 : decode cX13_order 141 = .ok (.goto (-75), 3) := by decide +kernel
theorem dX13_order_144 : decode cX13_order 144 = .ok (.aload_n 0, 1) := by decide +kernel
theorem dX13_order_145 : decode cX13_order 145 = .ok (.getfield 54, 3) := by decide +kernel
theorem dX13_order_148 : decode cX13_order 148 = .ok (.bipush 9, 2) := by decide +kernel
theorem dX13_order_150 : decode cX13_order 150 = .ok (.iload_n 2, 1) := by decide +kernel
theorem dX13_order_151 : decode cX13_order 151 = .ok (.imul, 1) := by decide +kernel
theorem dX13_order_152 : decode cX13_order 152 = .ok (.iload_n 3, 1) := by decide +kernel
theorem dX13_order_153 : decode cX13_order 153 = .ok (.iadd, 1) := by decide +kernel
theorem dX13_order_154 : decode cX13_order 154 = .ok (.iload_n 2, 1) := by decide +kernel
theorem dX13_order_155 : decode cX13_order 155 = .ok (.iload_n 3, 1) := by decide +kernel
theorem dX13_order_156 : decode cX13_order 156 = .ok (.ishr, 1) := by decide +kernel
theorem dX13_order_157 : decode cX13_order 157 = .ok (.iconst 1, 1) := by decide +kernel
theorem dX13_order_158 : decode cX13_order 158 = .ok (.iand, 1) := by decide +kernel
theorem dX13_order_159 : decode cX13_order 159 = .ok (.iconst 1, 1) := by decide +kernel
theorem dX13_order_160 : decode cX13_order 160 = .ok (.if_icmp .ne 8, 3) := by decide +kernel
theorem dX13_order_163 : decode cX13_order 163 = .ok (.iload 5, 2) := by decide +kernel
theorem dX13_order_165 : decode cX13_order 165 = .ok (.goto 6, 3) := by decide +kernel
theorem dX13_order_168 : decode cX13_order 168 = .ok (.ldc_w 304, 3) := by decide +kernel
theorem dX13_order_171 : decode cX13_order 171 = .ok (.iastore, 1) := by decide +kernel
theorem dX13_order_172 : decode cX13_order 172 = .ok (.iinc 3 1, 3) := by decide +kernel
theorem dX13_order_175 : decode cX13_order 175 = .ok (.goto (-143), 3) := by decide +kernel
theorem dX13_order_178 : decode cX13_order 178 = .ok (.iinc 2 1, 3) := by decide +kernel
theorem dX13_order_181 : decode cX13_order 181 = .ok (.goto (-156), 3) := by decide +kernel
theorem dX13_order_184 : decode cX13_order 184 = .ok (.ldc_w 304, 3) := by decide +kernel
theorem dX13_order_187 : decode cX13_order 187 = .ok (.istore_n 2, 1) := by decide +kernel
theorem dX13_order_188 : decode cX13_order 188 = .ok (.iconst 0, 1) := by decide +kernel
theorem dX13_order_189 : decode cX13_order 189 = .ok (.istore_n 3, 1) := by decide +kernel
theorem dX13_order_190 : decode cX13_order 190 = .ok (.iload_n 3, 1) := by decide +kernel
theorem dX13_order_191 : decode cX13_order 191 = .ok (.aload_n 0, 1) := by decide +kernel
theorem dX13_order_192 : decode cX13_order 192 = .ok (.getfield 301, 3) := by decide +kernel
theorem dX13_order_195 : decode cX13_order 195 = .ok (.if_icmp .ge 25, 3) := by decide +kernel
theorem dX13_order_198 : decode cX13_order 198 = .ok (.iload_n 2, 1) := by decide +kernel
theorem dX13_order_199 : decode cX13_order 199 = .ok (.aload_n 0, 1) := by decide +kernel
theorem dX13_order_200 : decode cX13_order 200 = .ok (.getfield 54, 3) := by decide +kernel
theorem dX13_order_203 : decode cX13_order 203 = .ok (.bipush 9, 2) := by decide +kernel
theorem dX13_order_205 : decode cX13_order 205 = .ok (.iload_n 1, 1) := by decide +kernel
theorem dX13_order_206 : decode cX13_order 206 = .ok (.imul, 1) := by decide +kernel
theorem dX13_order_207 : decode cX13_order 207 = .ok (.iload_n 3, 1) := by decide +kernel
theorem dX13_order_208 : decode cX13_order 208 = .ok (.iadd, 1) := by decide +kernel
theorem dX13_order_209 : decode cX13_order 209 = .ok (.iaload, 1) := by decide +kernel
theorem dX13_order_210 : decode cX13_order 210 = .ok (.invokestatic 305, 3) := by decide +kernel
theorem dX13_order_213 : decode cX13_order 213 = .ok (.istore_n 2, 1) := by decide +kernel
theorem dX13_order_214 : decode cX13_order 214 = .ok (.iinc 3 1, 3) := by decide +kernel
theorem dX13_order_217 : decode cX13_order 217 = .ok (.goto (-27), 3) := by decide +kernel
theorem dX13_order_220 : decode cX13_order 220 = .ok (.iload_n 2, 1) := by decide +kernel
theorem dX13_order_221 : decode cX13_order 221 = .ok (.ldc_w 304, 3) := by decide +kernel
theorem dX13_order_224 : decode cX13_order 224 = .ok (.if_icmp .lt 7, 3) := by decide +kernel
theorem dX13_order_227 : decode cX13_order 227 = .ok (.iconst (-1), 1) := by decide +kernel
theorem dX13_order_228 : decode cX13_order 228 = .ok (.goto 4, 3) := by decide +kernel
theorem dX13_order_231 : decode cX13_order 231 = .ok (.iload_n 2, 1) := by decide +kernel
theorem dX13_order_232 : decode cX13_order 232 = .ok (.ireturn, 1) := by decide +kernel
theorem dX13_clear_0 : decode cX13_clear 0 = .ok (.aload_n 0, 1) := by decide +kernel
theorem dX13_clear_1 : decode cX13_clear 1 = .ok (.iconst 0, 1) := by decide +kernel
theorem dX13_clear_2 : decode cX13_clear 2 = .ok (.putfield 159, 3) := by decide +kernel
theorem dX13_clear_5 : decode cX13_clear 5 = .ok (.aload_n 0, 1) := by decide +kernel
theorem dX13_clear_6 : decode cX13_clear 6 = .ok (.getfield 301, 3) := by decide +kernel
theorem dX13_clear_9 : decode cX13_clear 9 = .ok (.istore_n 1, 1) := by decide +kernel
theorem dX13_clear_10 : decode cX13_clear 10 = .ok (.aload_n 0, 1) := by decide +kernel
theorem dX13_clear_11 : decode cX13_clear 11 = .ok (.iconst 0, 1) := by decide +kernel
theorem dX13_clear_12 : decode cX13_clear 12 = .ok (.putfield 301, 3) := by decide +kernel
theorem dX13_clear_15 : decode cX13_clear 15 = .ok (.iload_n 1, 1) := by decide +kernel
theorem dX13_clear_16 : decode cX13_clear 16 = .ok (.ireturn, 1) := by decide +kernel
theorem dX13_tank_0 : decode cX13_tank 0 = .ok (.aload_n 0, 1) := by decide +kernel
theorem dX13_tank_1 : decode cX13_tank 1 = .ok (.iconst 0, 1) := by decide +kernel
theorem dX13_tank_2 : decode cX13_tank 2 = .ok (.putfield 159, 3) := by decide +kernel
theorem dX13_tank_5 : decode cX13_tank 5 = .ok (.aload_n 0, 1) := by decide +kernel
theorem dX13_tank_6 : decode cX13_tank 6 = .ok (.iload_n 1, 1) := by decide +kernel
theorem dX13_tank_7 : decode cX13_tank 7 = .ok (.iconst 1, 1) := by decide +kernel
theorem dX13_tank_8 : decode cX13_tank 8 = .ok (.sipush 1000, 3) := by decide +kernel
theorem dX13_tank_11 : decode cX13_tank 11 = .ok (.invokestatic 234, 3) := by decide +kernel
theorem dX13_tank_14 : decode cX13_tank 14 = .ok (.ifCond .ne 7, 3) := by decide +kernel
theorem dX13_tank_17 : decode cX13_tank 17 = .ok (.iconst 1, 1) := by decide +kernel
theorem dX13_tank_18 : decode cX13_tank 18 = .ok (.goto 4, 3) := by decide +kernel
theorem dX13_tank_21 : decode cX13_tank 21 = .ok (.iconst 0, 1) := by decide +kernel
theorem dX13_tank_22 : decode cX13_tank 22 = .ok (.iconst 1, 1) := by decide +kernel
theorem dX13_tank_23 : decode cX13_tank 23 = .ok (.invokevirtual 223, 3) := by decide +kernel
theorem dX13_tank_26 : decode cX13_tank 26 = .ok (.ifCond .ne 24, 3) := by decide +kernel
theorem dX13_tank_29 : decode cX13_tank 29 = .ok (.aload_n 0, 1) := by decide +kernel
theorem dX13_tank_30 : decode cX13_tank 30 = .ok (.aload_n 0, 1) := by decide +kernel
theorem dX13_tank_31 : decode cX13_tank 31 = .ok (.getfield 308, 3) := by decide +kernel
theorem dX13_tank_34 : decode cX13_tank 34 = .ok (.iconst 5, 1) := by decide +kernel
theorem dX13_tank_35 : decode cX13_tank 35 = .ok (.if_icmp .ne 7, 3) := by decide +kernel
theorem dX13_tank_38 : decode cX13_tank 38 = .ok (.iconst 1, 1) := by decide +kernel
theorem dX13_tank_39 : decode cX13_tank 39 = .ok (.goto 4, 3) := by decide +kernel
theorem dX13_tank_42 : decode cX13_tank 42 = .ok (.iconst 0, 1) := by decide +kernel
theorem dX13_tank_43 : decode cX13_tank 43 = .ok (.iconst 2, 1) := by decide +kernel
theorem dX13_tank_44 : decode cX13_tank 44 = .ok (.invokevirtual 223, 3) := by decide +kernel
theorem dX13_tank_47 : decode cX13_tank 47 = .ok (.ifCond .eq 5, 3) := by decide +kernel
theorem dX13_tank_50 : decode cX13_tank 50 = .ok (.iconst 0, 1) := by decide +kernel
theorem dX13_tank_51 : decode cX13_tank 51 = .ok (.ireturn, 1) := by decide +kernel
theorem dX13_tank_52 : decode cX13_tank 52 = .ok (.aload_n 0, 1) := by decide +kernel
theorem dX13_tank_53 : decode cX13_tank 53 = .ok (.getfield 57, 3) := by decide +kernel
theorem dX13_tank_56 : decode cX13_tank 56 = .ok (.aload_n 0, 1) := by decide +kernel
theorem dX13_tank_57 : decode cX13_tank 57 = .ok (.getfield 308, 3) := by decide +kernel
theorem dX13_tank_60 : decode cX13_tank 60 = .ok (.iload_n 1, 1) := by decide +kernel
theorem dX13_tank_61 : decode cX13_tank 61 = .ok (.iastore, 1) := by decide +kernel
theorem dX13_tank_62 : decode cX13_tank 62 = .ok (.aload_n 0, 1) := by decide +kernel
theorem dX13_tank_63 : decode cX13_tank 63 = .ok (.dup, 1) := by decide +kernel
theorem dX13_tank_64 : decode cX13_tank 64 = .ok (.getfield 308, 3) := by decide +kernel
theorem dX13_tank_67 : decode cX13_tank 67 = .ok (.iconst 1, 1) := by decide +kernel
theorem dX13_tank_68 : decode cX13_tank 68 = .ok (.iadd, 1) := by decide +kernel
theorem dX13_tank_69 : decode cX13_tank 69 = .ok (.putfield 308, 3) := by decide +kernel
theorem dX13_tank_72 : decode cX13_tank 72 = .ok (.aload_n 0, 1) := by decide +kernel
theorem dX13_tank_73 : decode cX13_tank 73 = .ok (.getfield 308, 3) := by decide +kernel
theorem dX13_tank_76 : decode cX13_tank 76 = .ok (.iconst 1, 1) := by decide +kernel
theorem dX13_tank_77 : decode cX13_tank 77 = .ok (.isub, 1) := by decide +kernel
theorem dX13_tank_78 : decode cX13_tank 78 = .ok (.ireturn, 1) := by decide +kernel
theorem dX13_dirtiest_0 : decode cX13_dirtiest 0 = .ok (.iconst (-1), 1) := by decide +kernel
theorem dX13_dirtiest_1 : decode cX13_dirtiest 1 = .ok (.istore_n 2, 1) := by decide +kernel
theorem dX13_dirtiest_2 : decode cX13_dirtiest 2 = .ok (.iconst 0, 1) := by decide +kernel
theorem dX13_dirtiest_3 : decode cX13_dirtiest 3 = .ok (.istore_n 3, 1) := by decide +kernel
theorem dX13_dirtiest_4 : decode cX13_dirtiest 4 = .ok (.iload_n 3, 1) := by decide +kernel
theorem dX13_dirtiest_5 : decode cX13_dirtiest 5 = .ok (.aload_n 0, 1) := by decide +kernel
theorem dX13_dirtiest_6 : decode cX13_dirtiest 6 = .ok (.getfield 308, 3) := by decide +kernel
theorem dX13_dirtiest_9 : decode cX13_dirtiest 9 = .ok (.if_icmp .ge 86, 3) := by decide +kernel
theorem dX13_dirtiest_12 : decode cX13_dirtiest 12 = .ok (.aload_n 0, 1) := by decide +kernel
theorem dX13_dirtiest_13 : decode cX13_dirtiest 13 = .ok (.getfield 60, 3) := by decide +kernel
theorem dX13_dirtiest_16 : decode cX13_dirtiest 16 = .ok (.iload_n 3, 1) := by decide +kernel
theorem dX13_dirtiest_17 : decode cX13_dirtiest 17 = .ok (.iaload, 1) := by decide +kernel
theorem dX13_dirtiest_18 : decode cX13_dirtiest 18 = .ok (.ifCond .eq 71, 3) := by decide +kernel
theorem dX13_dirtiest_21 : decode cX13_dirtiest 21 = .ok (.aload_n 0, 1) := by decide +kernel
theorem dX13_dirtiest_22 : decode cX13_dirtiest 22 = .ok (.getfield 63, 3) := by decide +kernel
theorem dX13_dirtiest_25 : decode cX13_dirtiest 25 = .ok (.iload_n 3, 1) := by decide +kernel
theorem dX13_dirtiest_26 : decode cX13_dirtiest 26 = .ok (.iaload, 1) := by decide +kernel
theorem dX13_dirtiest_27 : decode cX13_dirtiest 27 = .ok (.i2l, 1) := by decide +kernel
theorem dX13_dirtiest_28 : decode cX13_dirtiest 28 = .ok (.ldc2_w 311, 3) := by decide +kernel
theorem dX13_dirtiest_31 : decode cX13_dirtiest 31 = .ok (.lmul, 1) := by decide +kernel
theorem dX13_dirtiest_32 : decode cX13_dirtiest 32 = .ok (.iload_n 1, 1) := by decide +kernel
theorem dX13_dirtiest_33 : decode cX13_dirtiest 33 = .ok (.i2l, 1) := by decide +kernel
theorem dX13_dirtiest_34 : decode cX13_dirtiest 34 = .ok (.aload_n 0, 1) := by decide +kernel
theorem dX13_dirtiest_35 : decode cX13_dirtiest 35 = .ok (.getfield 60, 3) := by decide +kernel
theorem dX13_dirtiest_38 : decode cX13_dirtiest 38 = .ok (.iload_n 3, 1) := by decide +kernel
theorem dX13_dirtiest_39 : decode cX13_dirtiest 39 = .ok (.iaload, 1) := by decide +kernel
theorem dX13_dirtiest_40 : decode cX13_dirtiest 40 = .ok (.i2l, 1) := by decide +kernel
theorem dX13_dirtiest_41 : decode cX13_dirtiest 41 = .ok (.lmul, 1) := by decide +kernel
theorem dX13_dirtiest_42 : decode cX13_dirtiest 42 = .ok (.lcmp, 1) := by decide +kernel
theorem dX13_dirtiest_43 : decode cX13_dirtiest 43 = .ok (.ifCond .le 6, 3) := by decide +kernel
theorem dX13_dirtiest_46 : decode cX13_dirtiest 46 = .ok (.goto 43, 3) := by decide +kernel
theorem dX13_dirtiest_49 : decode cX13_dirtiest 49 = .ok (.iload_n 2, 1) := by decide +kernel
theorem dX13_dirtiest_50 : decode cX13_dirtiest 50 = .ok (.ifCond .lt 37, 3) := by decide +kernel
theorem dX13_dirtiest_53 : decode cX13_dirtiest 53 = .ok (.aload_n 0, 1) := by decide +kernel
theorem dX13_dirtiest_54 : decode cX13_dirtiest 54 = .ok (.getfield 63, 3) := by decide +kernel
theorem dX13_dirtiest_57 : decode cX13_dirtiest 57 = .ok (.iload_n 3, 1) := by decide +kernel
theorem dX13_dirtiest_58 : decode cX13_dirtiest 58 = .ok (.iaload, 1) := by decide +kernel
theorem dX13_dirtiest_59 : decode cX13_dirtiest 59 = .ok (.i2l, 1) := by decide +kernel
theorem dX13_dirtiest_60 : decode cX13_dirtiest 60 = .ok (.aload_n 0, 1) := by decide +kernel
theorem dX13_dirtiest_61 : decode cX13_dirtiest 61 = .ok (.getfield 60, 3) := by decide +kernel
theorem dX13_dirtiest_64 : decode cX13_dirtiest 64 = .ok (.iload_n 2, 1) := by decide +kernel
theorem dX13_dirtiest_65 : decode cX13_dirtiest 65 = .ok (.iaload, 1) := by decide +kernel
theorem dX13_dirtiest_66 : decode cX13_dirtiest 66 = .ok (.i2l, 1) := by decide +kernel
theorem dX13_dirtiest_67 : decode cX13_dirtiest 67 = .ok (.lmul, 1) := by decide +kernel
theorem dX13_dirtiest_68 : decode cX13_dirtiest 68 = .ok (.aload_n 0, 1) := by decide +kernel
theorem dX13_dirtiest_69 : decode cX13_dirtiest 69 = .ok (.getfield 63, 3) := by decide +kernel
theorem dX13_dirtiest_72 : decode cX13_dirtiest 72 = .ok (.iload_n 2, 1) := by decide +kernel
theorem dX13_dirtiest_73 : decode cX13_dirtiest 73 = .ok (.iaload, 1) := by decide +kernel
theorem dX13_dirtiest_74 : decode cX13_dirtiest 74 = .ok (.i2l, 1) := by decide +kernel
theorem dX13_dirtiest_75 : decode cX13_dirtiest 75 = .ok (.aload_n 0, 1) := by decide +kernel
theorem dX13_dirtiest_76 : decode cX13_dirtiest 76 = .ok (.getfield 60, 3) := by decide +kernel
theorem dX13_dirtiest_79 : decode cX13_dirtiest 79 = .ok (.iload_n 3, 1) := by decide +kernel
theorem dX13_dirtiest_80 : decode cX13_dirtiest 80 = .ok (.iaload, 1) := by decide +kernel
theorem dX13_dirtiest_81 : decode cX13_dirtiest 81 = .ok (.i2l, 1) := by decide +kernel
theorem dX13_dirtiest_82 : decode cX13_dirtiest 82 = .ok (.lmul, 1) := by decide +kernel
theorem dX13_dirtiest_83 : decode cX13_dirtiest 83 = .ok (.lcmp, 1) := by decide +kernel
theorem dX13_dirtiest_84 : decode cX13_dirtiest 84 = .ok (.ifCond .le 5, 3) := by decide +kernel
theorem dX13_dirtiest_87 : decode cX13_dirtiest 87 = .ok (.iload_n 3, 1) := by decide +kernel
theorem dX13_dirtiest_88 : decode cX13_dirtiest 88 = .ok (.istore_n 2, 1) := by decide +kernel
theorem dX13_dirtiest_89 : decode cX13_dirtiest 89 = .ok (.iinc 3 1, 3) := by decide +kernel
theorem dX13_dirtiest_92 : decode cX13_dirtiest 92 = .ok (.goto (-88), 3) := by decide +kernel
theorem dX13_dirtiest_95 : decode cX13_dirtiest 95 = .ok (.iload_n 2, 1) := by decide +kernel
theorem dX13_dirtiest_96 : decode cX13_dirtiest 96 = .ok (.ireturn, 1) := by decide +kernel
theorem dX13_draws_0 : decode cX13_draws 0 = .ok (.aload_n 0, 1) := by decide +kernel
theorem dX13_draws_1 : decode cX13_draws 1 = .ok (.iload_n 1, 1) := by decide +kernel
theorem dX13_draws_2 : decode cX13_draws 2 = .ok (.putfield 313, 3) := by decide +kernel
theorem dX13_draws_5 : decode cX13_draws 5 = .ok (.aload_n 0, 1) := by decide +kernel
theorem dX13_draws_6 : decode cX13_draws 6 = .ok (.iconst 0, 1) := by decide +kernel
theorem dX13_draws_7 : decode cX13_draws 7 = .ok (.putfield 316, 3) := by decide +kernel
theorem dX13_draws_10 : decode cX13_draws 10 = .ok (.aload_n 0, 1) := by decide +kernel
theorem dX13_draws_11 : decode cX13_draws 11 = .ok (.iload_n 2, 1) := by decide +kernel
theorem dX13_draws_12 : decode cX13_draws 12 = .ok (.invokevirtual 319, 3) := by decide +kernel
theorem dX13_draws_15 : decode cX13_draws 15 = .ok (.istore_n 3, 1) := by decide +kernel
theorem dX13_draws_16 : decode cX13_draws 16 = .ok (.iload_n 3, 1) := by decide +kernel
theorem dX13_draws_17 : decode cX13_draws 17 = .ok (.ifCond .lt 122, 3) := by decide +kernel
theorem dX13_draws_20 : decode cX13_draws 20 = .ok (.aload_n 0, 1) := by decide +kernel
theorem dX13_draws_21 : decode cX13_draws 21 = .ok (.getfield 313, 3) := by decide +kernel
theorem dX13_draws_24 : decode cX13_draws 24 = .ok (.ifCond .le 115, 3) := by decide +kernel
theorem dX13_draws_27 : decode cX13_draws 27 = .ok (.aload_n 0, 1) := by decide +kernel
theorem dX13_draws_28 : decode cX13_draws 28 = .ok (.getfield 313, 3) := by decide +kernel
theorem dX13_draws_31 : decode cX13_draws 31 = .ok (.aload_n 0, 1) := by decide +kernel
theorem dX13_draws_32 : decode cX13_draws 32 = .ok (.getfield 60, 3) := by decide +kernel
theorem dX13_draws_35 : decode cX13_draws 35 = .ok (.iload_n 3, 1) := by decide +kernel
theorem dX13_draws_36 : decode cX13_draws 36 = .ok (.iaload, 1) := by decide +kernel
theorem dX13_draws_37 : decode cX13_draws 37 = .ok (.invokestatic 305, 3) := by decide +kernel
theorem dX13_draws_40 : decode cX13_draws 40 = .ok (.istore 4, 2) := by decide +kernel
theorem dX13_draws_42 : decode cX13_draws 42 = .ok (.aload_n 0, 1) := by decide +kernel
theorem dX13_draws_43 : decode cX13_draws 43 = .ok (.getfield 63, 3) := by decide +kernel
theorem dX13_draws_46 : decode cX13_draws 46 = .ok (.iload_n 3, 1) := by decide +kernel
theorem dX13_draws_47 : decode cX13_draws 47 = .ok (.iaload, 1) := by decide +kernel
theorem dX13_draws_48 : decode cX13_draws 48 = .ok (.i2l, 1) := by decide +kernel
theorem dX13_draws_49 : decode cX13_draws 49 = .ok (.iload 4, 2) := by decide +kernel
theorem dX13_draws_51 : decode cX13_draws 51 = .ok (.i2l, 1) := by decide +kernel
theorem dX13_draws_52 : decode cX13_draws 52 = .ok (.lmul, 1) := by decide +kernel
theorem dX13_draws_53 : decode cX13_draws 53 = .ok (.aload_n 0, 1) := by decide +kernel
theorem dX13_draws_54 : decode cX13_draws 54 = .ok (.getfield 60, 3) := by decide +kernel
theorem dX13_draws_57 : decode cX13_draws 57 = .ok (.iload_n 3, 1) := by decide +kernel
theorem dX13_draws_58 : decode cX13_draws 58 = .ok (.iaload, 1) := by decide +kernel
theorem dX13_draws_59 : decode cX13_draws 59 = .ok (.i2l, 1) := by decide +kernel
theorem dX13_draws_60 : decode cX13_draws 60 = .ok (.ladd, 1) := by decide +kernel
theorem dX13_draws_61 : decode cX13_draws 61 = .ok (.lconst 1, 1) := by decide +kernel
theorem dX13_draws_62 : decode cX13_draws 62 = .ok (.lsub, 1) := by decide +kernel
theorem dX13_draws_63 : decode cX13_draws 63 = .ok (.aload_n 0, 1) := by decide +kernel
theorem dX13_draws_64 : decode cX13_draws 64 = .ok (.getfield 60, 3) := by decide +kernel
theorem dX13_draws_67 : decode cX13_draws 67 = .ok (.iload_n 3, 1) := by decide +kernel
theorem dX13_draws_68 : decode cX13_draws 68 = .ok (.iaload, 1) := by decide +kernel
theorem dX13_draws_69 : decode cX13_draws 69 = .ok (.i2l, 1) := by decide +kernel
theorem dX13_draws_70 : decode cX13_draws 70 = .ok (.ldiv, 1) := by decide +kernel
theorem dX13_draws_71 : decode cX13_draws 71 = .ok (.l2i, 1) := by decide +kernel
theorem dX13_draws_72 : decode cX13_draws 72 = .ok (.istore 5, 2) := by decide +kernel
theorem dX13_draws_74 : decode cX13_draws 74 = .ok (.aload_n 0, 1) := by decide +kernel
theorem dX13_draws_75 : decode cX13_draws 75 = .ok (.getfield 60, 3) := by decide +kernel
theorem dX13_draws_78 : decode cX13_draws 78 = .ok (.iload_n 3, 1) := by decide +kernel
theorem dX13_draws_79 : decode cX13_draws 79 = .ok (.dup2, 1) := by decide +kernel
theorem dX13_draws_80 : decode cX13_draws 80 = .ok (.iaload, 1) := by decide +kernel
theorem dX13_draws_81 : decode cX13_draws 81 = .ok (.iload 4, 2) := by decide +kernel
theorem dX13_draws_83 : decode cX13_draws 83 = .ok (.isub, 1) := by decide +kernel
theorem dX13_draws_84 : decode cX13_draws 84 = .ok (.iastore, 1) := by decide +kernel
theorem dX13_draws_85 : decode cX13_draws 85 = .ok (.aload_n 0, 1) := by decide +kernel
theorem dX13_draws_86 : decode cX13_draws 86 = .ok (.getfield 63, 3) := by decide +kernel
theorem dX13_draws_89 : decode cX13_draws 89 = .ok (.iload_n 3, 1) := by decide +kernel
theorem dX13_draws_90 : decode cX13_draws 90 = .ok (.dup2, 1) := by decide +kernel
theorem dX13_draws_91 : decode cX13_draws 91 = .ok (.iaload, 1) := by decide +kernel
theorem dX13_draws_92 : decode cX13_draws 92 = .ok (.iload 5, 2) := by decide +kernel
theorem dX13_draws_94 : decode cX13_draws 94 = .ok (.isub, 1) := by decide +kernel
theorem dX13_draws_95 : decode cX13_draws 95 = .ok (.iastore, 1) := by decide +kernel
theorem dX13_draws_96 : decode cX13_draws 96 = .ok (.aload_n 0, 1) := by decide +kernel
theorem dX13_draws_97 : decode cX13_draws 97 = .ok (.dup, 1) := by decide +kernel
theorem dX13_draws_98 : decode cX13_draws 98 = .ok (.getfield 313, 3) := by decide +kernel
theorem dX13_draws_101 : decode cX13_draws 101 = .ok (.iload 4, 2) := by decide +kernel
theorem dX13_draws_103 : decode cX13_draws 103 = .ok (.isub, 1) := by decide +kernel
theorem dX13_draws_104 : decode cX13_draws 104 = .ok (.putfield 313, 3) := by decide +kernel
theorem dX13_draws_107 : decode cX13_draws 107 = .ok (.aload_n 0, 1) := by decide +kernel
theorem dX13_draws_108 : decode cX13_draws 108 = .ok (.dup, 1) := by decide +kernel
theorem dX13_draws_109 : decode cX13_draws 109 = .ok (.getfield 316, 3) := by decide +kernel
theorem dX13_draws_112 : decode cX13_draws 112 = .ok (.iload 5, 2) := by decide +kernel
theorem dX13_draws_114 : decode cX13_draws 114 = .ok (.iadd, 1) := by decide +kernel
theorem dX13_draws_115 : decode cX13_draws 115 = .ok (.putfield 316, 3) := by decide +kernel
theorem dX13_draws_118 : decode cX13_draws 118 = .ok (.aload_n 0, 1) := by decide +kernel
theorem dX13_draws_119 : decode cX13_draws 119 = .ok (.getfield 60, 3) := by decide +kernel
theorem dX13_draws_122 : decode cX13_draws 122 = .ok (.iload_n 3, 1) := by decide +kernel
theorem dX13_draws_123 : decode cX13_draws 123 = .ok (.iaload, 1) := by decide +kernel
theorem dX13_draws_124 : decode cX13_draws 124 = .ok (.ifCond .le 6, 3) := by decide +kernel
theorem dX13_draws_127 : decode cX13_draws 127 = .ok (.goto 12, 3) := by decide +kernel
theorem dX13_draws_130 : decode cX13_draws 130 = .ok (.aload_n 0, 1) := by decide +kernel
theorem dX13_draws_131 : decode cX13_draws 131 = .ok (.iload_n 2, 1) := by decide +kernel
theorem dX13_draws_132 : decode cX13_draws 132 = .ok (.invokevirtual 319, 3) := by decide +kernel
theorem dX13_draws_135 : decode cX13_draws 135 = .ok (.istore_n 3, 1) := by decide +kernel
theorem dX13_draws_136 : decode cX13_draws 136 = .ok (.goto (-120), 3) := by decide +kernel
theorem dX13_draws_139 : decode cX13_draws 139 = .ok (.aload_n 0, 1) := by decide +kernel
theorem dX13_draws_140 : decode cX13_draws 140 = .ok (.dup, 1) := by decide +kernel
theorem dX13_draws_141 : decode cX13_draws 141 = .ok (.getfield 322, 3) := by decide +kernel
theorem dX13_draws_144 : decode cX13_draws 144 = .ok (.aload_n 0, 1) := by decide +kernel
theorem dX13_draws_145 : decode cX13_draws 145 = .ok (.getfield 313, 3) := by decide +kernel
theorem dX13_draws_148 : decode cX13_draws 148 = .ok (.iadd, 1) := by decide +kernel
theorem dX13_draws_149 : decode cX13_draws 149 = .ok (.putfield 322, 3) := by decide +kernel
theorem dX13_draws_152 : decode cX13_draws 152 = .ok (.return_, 1) := by decide +kernel
theorem dX13_pours_0 : decode cX13_pours 0 = .ok (.iload_n 2, 1) := by decide +kernel
theorem dX13_pours_1 : decode cX13_pours 1 = .ok (.aload_n 0, 1) := by decide +kernel
theorem dX13_pours_2 : decode cX13_pours 2 = .ok (.getfield 57, 3) := by decide +kernel
theorem dX13_pours_5 : decode cX13_pours 5 = .ok (.iload_n 1, 1) := by decide +kernel
theorem dX13_pours_6 : decode cX13_pours 6 = .ok (.iaload, 1) := by decide +kernel
theorem dX13_pours_7 : decode cX13_pours 7 = .ok (.aload_n 0, 1) := by decide +kernel
theorem dX13_pours_8 : decode cX13_pours 8 = .ok (.getfield 60, 3) := by decide +kernel
theorem dX13_pours_11 : decode cX13_pours 11 = .ok (.iload_n 1, 1) := by decide +kernel
theorem dX13_pours_12 : decode cX13_pours 12 = .ok (.iaload, 1) := by decide +kernel
theorem dX13_pours_13 : decode cX13_pours 13 = .ok (.isub, 1) := by decide +kernel
theorem dX13_pours_14 : decode cX13_pours 14 = .ok (.invokestatic 305, 3) := by decide +kernel
theorem dX13_pours_17 : decode cX13_pours 17 = .ok (.istore 4, 2) := by decide +kernel
theorem dX13_pours_19 : decode cX13_pours 19 = .ok (.aload_n 0, 1) := by decide +kernel
theorem dX13_pours_20 : decode cX13_pours 20 = .ok (.iload_n 2, 1) := by decide +kernel
theorem dX13_pours_21 : decode cX13_pours 21 = .ok (.iload 4, 2) := by decide +kernel
theorem dX13_pours_23 : decode cX13_pours 23 = .ok (.isub, 1) := by decide +kernel
theorem dX13_pours_24 : decode cX13_pours 24 = .ok (.putfield 325, 3) := by decide +kernel
theorem dX13_pours_27 : decode cX13_pours 27 = .ok (.iload_n 3, 1) := by decide +kernel
theorem dX13_pours_28 : decode cX13_pours 28 = .ok (.i2l, 1) := by decide +kernel
theorem dX13_pours_29 : decode cX13_pours 29 = .ok (.aload_n 0, 1) := by decide +kernel
theorem dX13_pours_30 : decode cX13_pours 30 = .ok (.getfield 325, 3) := by decide +kernel
theorem dX13_pours_33 : decode cX13_pours 33 = .ok (.i2l, 1) := by decide +kernel
theorem dX13_pours_34 : decode cX13_pours 34 = .ok (.lmul, 1) := by decide +kernel
theorem dX13_pours_35 : decode cX13_pours 35 = .ok (.iload_n 2, 1) := by decide +kernel
theorem dX13_pours_36 : decode cX13_pours 36 = .ok (.i2l, 1) := by decide +kernel
theorem dX13_pours_37 : decode cX13_pours 37 = .ok (.ladd, 1) := by decide +kernel
theorem dX13_pours_38 : decode cX13_pours 38 = .ok (.lconst 1, 1) := by decide +kernel
theorem dX13_pours_39 : decode cX13_pours 39 = .ok (.lsub, 1) := by decide +kernel
theorem dX13_pours_40 : decode cX13_pours 40 = .ok (.iload_n 2, 1) := by decide +kernel
theorem dX13_pours_41 : decode cX13_pours 41 = .ok (.i2l, 1) := by decide +kernel
theorem dX13_pours_42 : decode cX13_pours 42 = .ok (.ldiv, 1) := by decide +kernel
theorem dX13_pours_43 : decode cX13_pours 43 = .ok (.l2i, 1) := by decide +kernel
theorem dX13_pours_44 : decode cX13_pours 44 = .ok (.istore 5, 2) := by decide +kernel
theorem dX13_pours_46 : decode cX13_pours 46 = .ok (.aload_n 0, 1) := by decide +kernel
theorem dX13_pours_47 : decode cX13_pours 47 = .ok (.getfield 60, 3) := by decide +kernel
theorem dX13_pours_50 : decode cX13_pours 50 = .ok (.iload_n 1, 1) := by decide +kernel
theorem dX13_pours_51 : decode cX13_pours 51 = .ok (.dup2, 1) := by decide +kernel
theorem dX13_pours_52 : decode cX13_pours 52 = .ok (.iaload, 1) := by decide +kernel
theorem dX13_pours_53 : decode cX13_pours 53 = .ok (.iload 4, 2) := by decide +kernel
theorem dX13_pours_55 : decode cX13_pours 55 = .ok (.iadd, 1) := by decide +kernel
theorem dX13_pours_56 : decode cX13_pours 56 = .ok (.iastore, 1) := by decide +kernel
theorem dX13_pours_57 : decode cX13_pours 57 = .ok (.aload_n 0, 1) := by decide +kernel
theorem dX13_pours_58 : decode cX13_pours 58 = .ok (.getfield 63, 3) := by decide +kernel
theorem dX13_pours_61 : decode cX13_pours 61 = .ok (.iload_n 1, 1) := by decide +kernel
theorem dX13_pours_62 : decode cX13_pours 62 = .ok (.dup2, 1) := by decide +kernel
theorem dX13_pours_63 : decode cX13_pours 63 = .ok (.iaload, 1) := by decide +kernel
theorem dX13_pours_64 : decode cX13_pours 64 = .ok (.iload_n 3, 1) := by decide +kernel
theorem dX13_pours_65 : decode cX13_pours 65 = .ok (.iload 5, 2) := by decide +kernel
theorem dX13_pours_67 : decode cX13_pours 67 = .ok (.isub, 1) := by decide +kernel
theorem dX13_pours_68 : decode cX13_pours 68 = .ok (.iadd, 1) := by decide +kernel
theorem dX13_pours_69 : decode cX13_pours 69 = .ok (.iastore, 1) := by decide +kernel
theorem dX13_pours_70 : decode cX13_pours 70 = .ok (.aload_n 0, 1) := by decide +kernel
theorem dX13_pours_71 : decode cX13_pours 71 = .ok (.dup, 1) := by decide +kernel
theorem dX13_pours_72 : decode cX13_pours 72 = .ok (.getfield 328, 3) := by decide +kernel
theorem dX13_pours_75 : decode cX13_pours 75 = .ok (.aload_n 0, 1) := by decide +kernel
theorem dX13_pours_76 : decode cX13_pours 76 = .ok (.getfield 325, 3) := by decide +kernel
theorem dX13_pours_79 : decode cX13_pours 79 = .ok (.iadd, 1) := by decide +kernel
theorem dX13_pours_80 : decode cX13_pours 80 = .ok (.putfield 328, 3) := by decide +kernel
theorem dX13_pours_83 : decode cX13_pours 83 = .ok (.aload_n 0, 1) := by decide +kernel
theorem dX13_pours_84 : decode cX13_pours 84 = .ok (.dup, 1) := by decide +kernel
theorem dX13_pours_85 : decode cX13_pours 85 = .ok (.getfield 331, 3) := by decide +kernel
theorem dX13_pours_88 : decode cX13_pours 88 = .ok (.iload 5, 2) := by decide +kernel
theorem dX13_pours_90 : decode cX13_pours 90 = .ok (.iadd, 1) := by decide +kernel
theorem dX13_pours_91 : decode cX13_pours 91 = .ok (.putfield 331, 3) := by decide +kernel
theorem dX13_pours_94 : decode cX13_pours 94 = .ok (.return_, 1) := by decide +kernel
theorem dX13_draw_0 : decode cX13_draw 0 = .ok (.aload_n 0, 1) := by decide +kernel
theorem dX13_draw_1 : decode cX13_draw 1 = .ok (.iconst 0, 1) := by decide +kernel
theorem dX13_draw_2 : decode cX13_draw 2 = .ok (.putfield 159, 3) := by decide +kernel
theorem dX13_draw_5 : decode cX13_draw 5 = .ok (.aload_n 0, 1) := by decide +kernel
theorem dX13_draw_6 : decode cX13_draw 6 = .ok (.iload_n 1, 1) := by decide +kernel
theorem dX13_draw_7 : decode cX13_draw 7 = .ok (.iconst 1, 1) := by decide +kernel
theorem dX13_draw_8 : decode cX13_draw 8 = .ok (.sipush 1000, 3) := by decide +kernel
theorem dX13_draw_11 : decode cX13_draw 11 = .ok (.invokestatic 234, 3) := by decide +kernel
theorem dX13_draw_14 : decode cX13_draw 14 = .ok (.ifCond .eq 13, 3) := by decide +kernel
theorem dX13_draw_17 : decode cX13_draw 17 = .ok (.iload_n 2, 1) := by decide +kernel
theorem dX13_draw_18 : decode cX13_draw 18 = .ok (.iconst 0, 1) := by decide +kernel
theorem dX13_draw_19 : decode cX13_draw 19 = .ok (.bipush 100, 2) := by decide +kernel
theorem dX13_draw_21 : decode cX13_draw 21 = .ok (.invokestatic 234, 3) := by decide +kernel
theorem dX13_draw_24 : decode cX13_draw 24 = .ok (.ifCond .ne 7, 3) := by decide +kernel
theorem dX13_draw_27 : decode cX13_draw 27 = .ok (.iconst 1, 1) := by decide +kernel
theorem dX13_draw_28 : decode cX13_draw 28 = .ok (.goto 4, 3) := by decide +kernel
theorem dX13_draw_31 : decode cX13_draw 31 = .ok (.iconst 0, 1) := by decide +kernel
theorem dX13_draw_32 : decode cX13_draw 32 = .ok (.iconst 1, 1) := by decide +kernel
theorem dX13_draw_33 : decode cX13_draw 33 = .ok (.invokevirtual 223, 3) := by decide +kernel
theorem dX13_draw_36 : decode cX13_draw 36 = .ok (.ifCond .eq 5, 3) := by decide +kernel
theorem dX13_draw_39 : decode cX13_draw 39 = .ok (.iconst 0, 1) := by decide +kernel
theorem dX13_draw_40 : decode cX13_draw 40 = .ok (.ireturn, 1) := by decide +kernel
theorem dX13_draw_41 : decode cX13_draw 41 = .ok (.aload_n 0, 1) := by decide +kernel
theorem dX13_draw_42 : decode cX13_draw 42 = .ok (.iload_n 1, 1) := by decide +kernel
theorem dX13_draw_43 : decode cX13_draw 43 = .ok (.iload_n 2, 1) := by decide +kernel
theorem dX13_draw_44 : decode cX13_draw 44 = .ok (.invokevirtual 334, 3) := by decide +kernel
theorem dX13_draw_47 : decode cX13_draw 47 = .ok (.aload_n 0, 1) := by decide +kernel
theorem dX13_draw_48 : decode cX13_draw 48 = .ok (.dup, 1) := by decide +kernel
theorem dX13_draw_49 : decode cX13_draw 49 = .ok (.getfield 337, 3) := by decide +kernel
theorem dX13_draw_52 : decode cX13_draw 52 = .ok (.aload_n 0, 1) := by decide +kernel
theorem dX13_draw_53 : decode cX13_draw 53 = .ok (.getfield 316, 3) := by decide +kernel
theorem dX13_draw_56 : decode cX13_draw 56 = .ok (.iadd, 1) := by decide +kernel
theorem dX13_draw_57 : decode cX13_draw 57 = .ok (.putfield 337, 3) := by decide +kernel
theorem dX13_draw_60 : decode cX13_draw 60 = .ok (.aload_n 0, 1) := by decide +kernel
theorem dX13_draw_61 : decode cX13_draw 61 = .ok (.getfield 313, 3) := by decide +kernel
theorem dX13_draw_64 : decode cX13_draw 64 = .ok (.ireturn, 1) := by decide +kernel
theorem dX13_pour_0 : decode cX13_pour 0 = .ok (.aload_n 0, 1) := by decide +kernel
theorem dX13_pour_1 : decode cX13_pour 1 = .ok (.iconst 0, 1) := by decide +kernel
theorem dX13_pour_2 : decode cX13_pour 2 = .ok (.putfield 159, 3) := by decide +kernel
theorem dX13_pour_5 : decode cX13_pour 5 = .ok (.aload_n 0, 1) := by decide +kernel
theorem dX13_pour_6 : decode cX13_pour 6 = .ok (.iload_n 1, 1) := by decide +kernel
theorem dX13_pour_7 : decode cX13_pour 7 = .ok (.iconst 0, 1) := by decide +kernel
theorem dX13_pour_8 : decode cX13_pour 8 = .ok (.aload_n 0, 1) := by decide +kernel
theorem dX13_pour_9 : decode cX13_pour 9 = .ok (.getfield 308, 3) := by decide +kernel
theorem dX13_pour_12 : decode cX13_pour 12 = .ok (.iconst 1, 1) := by decide +kernel
theorem dX13_pour_13 : decode cX13_pour 13 = .ok (.isub, 1) := by decide +kernel
theorem dX13_pour_14 : decode cX13_pour 14 = .ok (.invokestatic 234, 3) := by decide +kernel
theorem dX13_pour_17 : decode cX13_pour 17 = .ok (.ifCond .ne 7, 3) := by decide +kernel
theorem dX13_pour_20 : decode cX13_pour 20 = .ok (.iconst 1, 1) := by decide +kernel
theorem dX13_pour_21 : decode cX13_pour 21 = .ok (.goto 4, 3) := by decide +kernel
theorem dX13_pour_24 : decode cX13_pour 24 = .ok (.iconst 0, 1) := by decide +kernel
theorem dX13_pour_25 : decode cX13_pour 25 = .ok (.iconst 1, 1) := by decide +kernel
theorem dX13_pour_26 : decode cX13_pour 26 = .ok (.invokevirtual 223, 3) := by decide +kernel
theorem dX13_pour_29 : decode cX13_pour 29 = .ok (.ifCond .ne 38, 3) := by decide +kernel
theorem dX13_pour_32 : decode cX13_pour 32 = .ok (.aload_n 0, 1) := by decide +kernel
theorem dX13_pour_33 : decode cX13_pour 33 = .ok (.iload_n 2, 1) := by decide +kernel
theorem dX13_pour_34 : decode cX13_pour 34 = .ok (.iconst 1, 1) := by decide +kernel
theorem dX13_pour_35 : decode cX13_pour 35 = .ok (.sipush 1000, 3) := by decide +kernel
theorem dX13_pour_38 : decode cX13_pour 38 = .ok (.invokestatic 234, 3) := by decide +kernel
theorem dX13_pour_41 : decode cX13_pour 41 = .ok (.ifCond .eq 14, 3) := by decide +kernel
theorem dX13_pour_44 : decode cX13_pour 44 = .ok (.iload_n 3, 1) := by decide +kernel
theorem dX13_pour_45 : decode cX13_pour 45 = .ok (.iconst 0, 1) := by decide +kernel
theorem dX13_pour_46 : decode cX13_pour 46 = .ok (.ldc_w 340, 3) := by decide +kernel
theorem dX13_pour_49 : decode cX13_pour 49 = .ok (.invokestatic 234, 3) := by decide +kernel
theorem dX13_pour_52 : decode cX13_pour 52 = .ok (.ifCond .ne 7, 3) := by decide +kernel
theorem dX13_pour_55 : decode cX13_pour 55 = .ok (.iconst 1, 1) := by decide +kernel
theorem dX13_pour_56 : decode cX13_pour 56 = .ok (.goto 4, 3) := by decide +kernel
theorem dX13_pour_59 : decode cX13_pour 59 = .ok (.iconst 0, 1) := by decide +kernel
theorem dX13_pour_60 : decode cX13_pour 60 = .ok (.iconst 2, 1) := by decide +kernel
theorem dX13_pour_61 : decode cX13_pour 61 = .ok (.invokevirtual 223, 3) := by decide +kernel
theorem dX13_pour_64 : decode cX13_pour 64 = .ok (.ifCond .eq 5, 3) := by decide +kernel
theorem dX13_pour_67 : decode cX13_pour 67 = .ok (.iconst 0, 1) := by decide +kernel
theorem dX13_pour_68 : decode cX13_pour 68 = .ok (.ireturn, 1) := by decide +kernel
theorem dX13_pour_69 : decode cX13_pour 69 = .ok (.aload_n 0, 1) := by decide +kernel
theorem dX13_pour_70 : decode cX13_pour 70 = .ok (.iload_n 1, 1) := by decide +kernel
theorem dX13_pour_71 : decode cX13_pour 71 = .ok (.iload_n 2, 1) := by decide +kernel
theorem dX13_pour_72 : decode cX13_pour 72 = .ok (.iload_n 3, 1) := by decide +kernel
theorem dX13_pour_73 : decode cX13_pour 73 = .ok (.invokevirtual 341, 3) := by decide +kernel
theorem dX13_pour_76 : decode cX13_pour 76 = .ok (.aload_n 0, 1) := by decide +kernel
theorem dX13_pour_77 : decode cX13_pour 77 = .ok (.getfield 325, 3) := by decide +kernel
theorem dX13_pour_80 : decode cX13_pour 80 = .ok (.ireturn, 1) := by decide +kernel
theorem dX13_has_0 : decode cX13_has 0 = .ok (.aload_n 0, 1) := by decide +kernel
theorem dX13_has_1 : decode cX13_has 1 = .ok (.iconst 0, 1) := by decide +kernel
theorem dX13_has_2 : decode cX13_has 2 = .ok (.putfield 159, 3) := by decide +kernel
theorem dX13_has_5 : decode cX13_has 5 = .ok (.aload_n 0, 1) := by decide +kernel
theorem dX13_has_6 : decode cX13_has 6 = .ok (.iload_n 1, 1) := by decide +kernel
theorem dX13_has_7 : decode cX13_has 7 = .ok (.iconst 0, 1) := by decide +kernel
theorem dX13_has_8 : decode cX13_has 8 = .ok (.aload_n 0, 1) := by decide +kernel
theorem dX13_has_9 : decode cX13_has 9 = .ok (.getfield 308, 3) := by decide +kernel
theorem dX13_has_12 : decode cX13_has 12 = .ok (.iconst 1, 1) := by decide +kernel
theorem dX13_has_13 : decode cX13_has 13 = .ok (.isub, 1) := by decide +kernel
theorem dX13_has_14 : decode cX13_has 14 = .ok (.invokestatic 234, 3) := by decide +kernel
theorem dX13_has_17 : decode cX13_has 17 = .ok (.ifCond .ne 7, 3) := by decide +kernel
theorem dX13_has_20 : decode cX13_has 20 = .ok (.iconst 1, 1) := by decide +kernel
theorem dX13_has_21 : decode cX13_has 21 = .ok (.goto 4, 3) := by decide +kernel
theorem dX13_has_24 : decode cX13_has 24 = .ok (.iconst 0, 1) := by decide +kernel
theorem dX13_has_25 : decode cX13_has 25 = .ok (.iconst 1, 1) := by decide +kernel
theorem dX13_has_26 : decode cX13_has 26 = .ok (.invokevirtual 223, 3) := by decide +kernel
theorem dX13_has_29 : decode cX13_has 29 = .ok (.ifCond .ne 25, 3) := by decide +kernel
theorem dX13_has_32 : decode cX13_has 32 = .ok (.aload_n 0, 1) := by decide +kernel
theorem dX13_has_33 : decode cX13_has 33 = .ok (.iload_n 2, 1) := by decide +kernel
theorem dX13_has_34 : decode cX13_has 34 = .ok (.iconst 0, 1) := by decide +kernel
theorem dX13_has_35 : decode cX13_has 35 = .ok (.iconst 2, 1) := by decide +kernel
theorem dX13_has_36 : decode cX13_has 36 = .ok (.invokestatic 234, 3) := by decide +kernel
theorem dX13_has_39 : decode cX13_has 39 = .ok (.ifCond .ne 7, 3) := by decide +kernel
theorem dX13_has_42 : decode cX13_has 42 = .ok (.iconst 1, 1) := by decide +kernel
theorem dX13_has_43 : decode cX13_has 43 = .ok (.goto 4, 3) := by decide +kernel
theorem dX13_has_46 : decode cX13_has 46 = .ok (.iconst 0, 1) := by decide +kernel
theorem dX13_has_47 : decode cX13_has 47 = .ok (.iconst 2, 1) := by decide +kernel
theorem dX13_has_48 : decode cX13_has 48 = .ok (.invokevirtual 223, 3) := by decide +kernel
theorem dX13_has_51 : decode cX13_has 51 = .ok (.ifCond .eq 5, 3) := by decide +kernel
theorem dX13_has_54 : decode cX13_has 54 = .ok (.iconst 0, 1) := by decide +kernel
theorem dX13_has_55 : decode cX13_has 55 = .ok (.ireturn, 1) := by decide +kernel
theorem dX13_has_56 : decode cX13_has 56 = .ok (.iload_n 2, 1) := by decide +kernel
theorem dX13_has_57 : decode cX13_has 57 = .ok (.ifCond .ne 12, 3) := by decide +kernel
theorem dX13_has_60 : decode cX13_has 60 = .ok (.aload_n 0, 1) := by decide +kernel
theorem dX13_has_61 : decode cX13_has 61 = .ok (.getfield 57, 3) := by decide +kernel
theorem dX13_has_64 : decode cX13_has 64 = .ok (.iload_n 1, 1) := by decide +kernel
theorem dX13_has_65 : decode cX13_has 65 = .ok (.iaload, 1) := by decide +kernel
theorem dX13_has_66 : decode cX13_has 66 = .ok (.goto 23, 3) := by decide +kernel
theorem dX13_has_69 : decode cX13_has 69 = .ok (.iload_n 2, 1) := by decide +kernel
theorem dX13_has_70 : decode cX13_has 70 = .ok (.iconst 1, 1) := by decide +kernel
theorem dX13_has_71 : decode cX13_has 71 = .ok (.if_icmp .ne 12, 3) := by decide +kernel
theorem dX13_has_74 : decode cX13_has 74 = .ok (.aload_n 0, 1) := by decide +kernel
theorem dX13_has_75 : decode cX13_has 75 = .ok (.getfield 60, 3) := by decide +kernel
theorem dX13_has_78 : decode cX13_has 78 = .ok (.iload_n 1, 1) := by decide +kernel
theorem dX13_has_79 : decode cX13_has 79 = .ok (.iaload, 1) := by decide +kernel
theorem dX13_has_80 : decode cX13_has 80 = .ok (.goto 9, 3) := by decide +kernel
theorem dX13_has_83 : decode cX13_has 83 = .ok (.aload_n 0, 1) := by decide +kernel
theorem dX13_has_84 : decode cX13_has 84 = .ok (.getfield 63, 3) := by decide +kernel
theorem dX13_has_87 : decode cX13_has 87 = .ok (.iload_n 1, 1) := by decide +kernel
theorem dX13_has_88 : decode cX13_has 88 = .ok (.iaload, 1) := by decide +kernel
theorem dX13_has_89 : decode cX13_has 89 = .ok (.ireturn, 1) := by decide +kernel
theorem dX13_garment_0 : decode cX13_garment 0 = .ok (.aload_n 0, 1) := by decide +kernel
theorem dX13_garment_1 : decode cX13_garment 1 = .ok (.iconst 0, 1) := by decide +kernel
theorem dX13_garment_2 : decode cX13_garment 2 = .ok (.putfield 159, 3) := by decide +kernel
theorem dX13_garment_5 : decode cX13_garment 5 = .ok (.aload_n 0, 1) := by decide +kernel
theorem dX13_garment_6 : decode cX13_garment 6 = .ok (.iload_n 1, 1) := by decide +kernel
theorem dX13_garment_7 : decode cX13_garment 7 = .ok (.iconst 0, 1) := by decide +kernel
theorem dX13_garment_8 : decode cX13_garment 8 = .ok (.sipush 255, 3) := by decide +kernel
theorem dX13_garment_11 : decode cX13_garment 11 = .ok (.invokestatic 234, 3) := by decide +kernel
theorem dX13_garment_14 : decode cX13_garment 14 = .ok (.ifCond .ne 7, 3) := by decide +kernel
theorem dX13_garment_17 : decode cX13_garment 17 = .ok (.iconst 1, 1) := by decide +kernel
theorem dX13_garment_18 : decode cX13_garment 18 = .ok (.goto 4, 3) := by decide +kernel
theorem dX13_garment_21 : decode cX13_garment 21 = .ok (.iconst 0, 1) := by decide +kernel
theorem dX13_garment_22 : decode cX13_garment 22 = .ok (.iconst 1, 1) := by decide +kernel
theorem dX13_garment_23 : decode cX13_garment 23 = .ok (.invokevirtual 223, 3) := by decide +kernel
theorem dX13_garment_26 : decode cX13_garment 26 = .ok (.ifCond .eq 5, 3) := by decide +kernel
theorem dX13_garment_29 : decode cX13_garment 29 = .ok (.iconst 0, 1) := by decide +kernel
theorem dX13_garment_30 : decode cX13_garment 30 = .ok (.ireturn, 1) := by decide +kernel
theorem dX13_garment_31 : decode cX13_garment 31 = .ok (.aload_n 0, 1) := by decide +kernel
theorem dX13_garment_32 : decode cX13_garment 32 = .ok (.getfield 344, 3) := by decide +kernel
theorem dX13_garment_35 : decode cX13_garment 35 = .ok (.bipush 40, 2) := by decide +kernel
theorem dX13_garment_37 : decode cX13_garment 37 = .ok (.if_icmp .ne 5, 3) := by decide +kernel
theorem dX13_garment_40 : decode cX13_garment 40 = .ok (.iconst (-1), 1) := by decide +kernel
theorem dX13_garment_41 : decode cX13_garment 41 = .ok (.ireturn, 1) := by decide +kernel
theorem dX13_garment_42 : decode cX13_garment 42 = .ok (.aload_n 0, 1) := by decide +kernel
theorem dX13_garment_43 : decode cX13_garment 43 = .ok (.getfield 344, 3) := by decide +kernel
theorem dX13_garment_46 : decode cX13_garment 46 = .ok (.istore_n 2, 1) := by decide +kernel
theorem dX13_garment_47 : decode cX13_garment 47 = .ok (.iload_n 2, 1) := by decide +kernel
theorem dX13_garment_48 : decode cX13_garment 48 = .ok (.ifCond .le 35, 3) := by decide +kernel
theorem dX13_garment_51 : decode cX13_garment 51 = .ok (.aload_n 0, 1) := by decide +kernel
theorem dX13_garment_52 : decode cX13_garment 52 = .ok (.getfield 66, 3) := by decide +kernel
theorem dX13_garment_55 : decode cX13_garment 55 = .ok (.iload_n 2, 1) := by decide +kernel
theorem dX13_garment_56 : decode cX13_garment 56 = .ok (.iconst 1, 1) := by decide +kernel
theorem dX13_garment_57 : decode cX13_garment 57 = .ok (.isub, 1) := by decide +kernel
theorem dX13_garment_58 : decode cX13_garment 58 = .ok (.iaload, 1) := by decide +kernel
theorem dX13_garment_59 : decode cX13_garment 59 = .ok (.iload_n 1, 1) := by decide +kernel
theorem dX13_garment_60 : decode cX13_garment 60 = .ok (.if_icmp .le 23, 3) := by decide +kernel
theorem dX13_garment_63 : decode cX13_garment 63 = .ok (.aload_n 0, 1) := by decide +kernel
theorem dX13_garment_64 : decode cX13_garment 64 = .ok (.getfield 66, 3) := by decide +kernel
theorem dX13_garment_67 : decode cX13_garment 67 = .ok (.iload_n 2, 1) := by decide +kernel
theorem dX13_garment_68 : decode cX13_garment 68 = .ok (.aload_n 0, 1) := by decide +kernel
theorem dX13_garment_69 : decode cX13_garment 69 = .ok (.getfield 66, 3) := by decide +kernel
theorem dX13_garment_72 : decode cX13_garment 72 = .ok (.iload_n 2, 1) := by decide +kernel
theorem dX13_garment_73 : decode cX13_garment 73 = .ok (.iconst 1, 1) := by decide +kernel
theorem dX13_garment_74 : decode cX13_garment 74 = .ok (.isub, 1) := by decide +kernel
theorem dX13_garment_75 : decode cX13_garment 75 = .ok (.iaload, 1) := by decide +kernel
theorem dX13_garment_76 : decode cX13_garment 76 = .ok (.iastore, 1) := by decide +kernel
theorem dX13_garment_77 : decode cX13_garment 77 = .ok (.iinc 2 (-1), 3) := by decide +kernel
theorem dX13_garment_80 : decode cX13_garment 80 = .ok (.goto (-33), 3) := by decide +kernel
theorem dX13_garment_83 : decode cX13_garment 83 = .ok (.aload_n 0, 1) := by decide +kernel
theorem dX13_garment_84 : decode cX13_garment 84 = .ok (.getfield 66, 3) := by decide +kernel
theorem dX13_garment_87 : decode cX13_garment 87 = .ok (.iload_n 2, 1) := by decide +kernel
theorem dX13_garment_88 : decode cX13_garment 88 = .ok (.iload_n 1, 1) := by decide +kernel
theorem dX13_garment_89 : decode cX13_garment 89 = .ok (.iastore, 1) := by decide +kernel
theorem dX13_garment_90 : decode cX13_garment 90 = .ok (.aload_n 0, 1) := by decide +kernel
theorem dX13_garment_91 : decode cX13_garment 91 = .ok (.dup, 1) := by decide +kernel
theorem dX13_garment_92 : decode cX13_garment 92 = .ok (.getfield 344, 3) := by decide +kernel
theorem dX13_garment_95 : decode cX13_garment 95 = .ok (.iconst 1, 1) := by decide +kernel
theorem dX13_garment_96 : decode cX13_garment 96 = .ok (.iadd, 1) := by decide +kernel
theorem dX13_garment_97 : decode cX13_garment 97 = .ok (.putfield 344, 3) := by decide +kernel
theorem dX13_garment_100 : decode cX13_garment 100 = .ok (.aload_n 0, 1) := by decide +kernel
theorem dX13_garment_101 : decode cX13_garment 101 = .ok (.getfield 344, 3) := by decide +kernel
theorem dX13_garment_104 : decode cX13_garment 104 = .ok (.ireturn, 1) := by decide +kernel
theorem dX13_sortsFor_0 : decode cX13_sortsFor 0 = .ok (.iconst 0, 1) := by decide +kernel
theorem dX13_sortsFor_1 : decode cX13_sortsFor 1 = .ok (.istore_n 2, 1) := by decide +kernel
theorem dX13_sortsFor_2 : decode cX13_sortsFor 2 = .ok (.iconst 0, 1) := by decide +kernel
theorem dX13_sortsFor_3 : decode cX13_sortsFor 3 = .ok (.istore_n 3, 1) := by decide +kernel
theorem dX13_sortsFor_4 : decode cX13_sortsFor 4 = .ok (.iconst 0, 1) := by decide +kernel
theorem dX13_sortsFor_5 : decode cX13_sortsFor 5 = .ok (.istore 4, 2) := by decide +kernel
theorem dX13_sortsFor_7 : decode cX13_sortsFor 7 = .ok (.iload 4, 2) := by decide +kernel
theorem dX13_sortsFor_9 : decode cX13_sortsFor 9 = .ok (.aload_n 0, 1) := by decide +kernel
theorem dX13_sortsFor_10 : decode cX13_sortsFor 10 = .ok (.getfield 344, 3) := by decide +kernel
theorem dX13_sortsFor_13 : decode cX13_sortsFor 13 = .ok (.if_icmp .ge 41, 3) := by decide +kernel
theorem dX13_sortsFor_16 : decode cX13_sortsFor 16 = .ok (.iload 4, 2) := by decide +kernel
theorem dX13_sortsFor_18 : decode cX13_sortsFor 18 = .ok (.ifCond .le 24, 3) := by decide +kernel
theorem dX13_sortsFor_21 : decode cX13_sortsFor 21 = .ok (.aload_n 0, 1) := by decide +kernel
theorem dX13_sortsFor_22 : decode cX13_sortsFor 22 = .ok (.getfield 66, 3) := by decide +kernel
theorem dX13_sortsFor_25 : decode cX13_sortsFor 25 = .ok (.iload 4, 2) := by decide +kernel
theorem dX13_sortsFor_27 : decode cX13_sortsFor 27 = .ok (.iaload, 1) := by decide +kernel
theorem dX13_sortsFor_28 : decode cX13_sortsFor 28 = .ok (.aload_n 0, 1) := by decide +kernel
theorem dX13_sortsFor_29 : decode cX13_sortsFor 29 = .ok (.getfield 66, 3) := by decide +kernel
theorem dX13_sortsFor_32 : decode cX13_sortsFor 32 = .ok (.iload_n 3, 1) := by decide +kernel
theorem dX13_sortsFor_33 : decode cX13_sortsFor 33 = .ok (.iaload, 1) := by decide +kernel
theorem dX13_sortsFor_34 : decode cX13_sortsFor 34 = .ok (.isub, 1) := by decide +kernel
theorem dX13_sortsFor_35 : decode cX13_sortsFor 35 = .ok (.iload_n 1, 1) := by decide +kernel
theorem dX13_sortsFor_36 : decode cX13_sortsFor 36 = .ok (.if_icmp .gt 6, 3) := by decide +kernel
theorem dX13_sortsFor_39 : decode cX13_sortsFor 39 = .ok (.goto 9, 3) := by decide +kernel
theorem dX13_sortsFor_42 : decode cX13_sortsFor 42 = .ok (.iload 4, 2) := by decide +kernel
theorem dX13_sortsFor_44 : decode cX13_sortsFor 44 = .ok (.istore_n 3, 1) := by decide +kernel
theorem dX13_sortsFor_45 : decode cX13_sortsFor 45 = .ok (.iinc 2 1, 3) := by decide +kernel
theorem dX13_sortsFor_48 : decode cX13_sortsFor 48 = .ok (.iinc 4 1, 3) := by decide +kernel
theorem dX13_sortsFor_51 : decode cX13_sortsFor 51 = .ok (.goto (-44), 3) := by decide +kernel
theorem dX13_sortsFor_54 : decode cX13_sortsFor 54 = .ok (.iload_n 2, 1) := by decide +kernel
theorem dX13_sortsFor_55 : decode cX13_sortsFor 55 = .ok (.ireturn, 1) := by decide +kernel
theorem dX13_spread_0 : decode cX13_spread 0 = .ok (.aload_n 0, 1) := by decide +kernel
theorem dX13_spread_1 : decode cX13_spread 1 = .ok (.iconst 0, 1) := by decide +kernel
theorem dX13_spread_2 : decode cX13_spread 2 = .ok (.putfield 159, 3) := by decide +kernel
theorem dX13_spread_5 : decode cX13_spread 5 = .ok (.aload_n 0, 1) := by decide +kernel
theorem dX13_spread_6 : decode cX13_spread 6 = .ok (.iload_n 1, 1) := by decide +kernel
theorem dX13_spread_7 : decode cX13_spread 7 = .ok (.iconst 1, 1) := by decide +kernel
theorem dX13_spread_8 : decode cX13_spread 8 = .ok (.bipush 10, 2) := by decide +kernel
theorem dX13_spread_10 : decode cX13_spread 10 = .ok (.invokestatic 234, 3) := by decide +kernel
theorem dX13_spread_13 : decode cX13_spread 13 = .ok (.ifCond .ne 7, 3) := by decide +kernel
theorem dX13_spread_16 : decode cX13_spread 16 = .ok (.iconst 1, 1) := by decide +kernel
theorem dX13_spread_17 : decode cX13_spread 17 = .ok (.goto 4, 3) := by decide +kernel
theorem dX13_spread_20 : decode cX13_spread 20 = .ok (.iconst 0, 1) := by decide +kernel
theorem dX13_spread_21 : decode cX13_spread 21 = .ok (.iconst 1, 1) := by decide +kernel
theorem dX13_spread_22 : decode cX13_spread 22 = .ok (.invokevirtual 223, 3) := by decide +kernel
theorem dX13_spread_25 : decode cX13_spread 25 = .ok (.ifCond .eq 5, 3) := by decide +kernel
theorem dX13_spread_28 : decode cX13_spread 28 = .ok (.iconst 0, 1) := by decide +kernel
theorem dX13_spread_29 : decode cX13_spread 29 = .ok (.ireturn, 1) := by decide +kernel
theorem dX13_spread_30 : decode cX13_spread 30 = .ok (.iconst 0, 1) := by decide +kernel
theorem dX13_spread_31 : decode cX13_spread 31 = .ok (.istore_n 2, 1) := by decide +kernel
theorem dX13_spread_32 : decode cX13_spread 32 = .ok (.aload_n 0, 1) := by decide +kernel
theorem dX13_spread_33 : decode cX13_spread 33 = .ok (.iload_n 2, 1) := by decide +kernel
theorem dX13_spread_34 : decode cX13_spread 34 = .ok (.invokevirtual 347, 3) := by decide +kernel
theorem dX13_spread_37 : decode cX13_spread 37 = .ok (.iload_n 1, 1) := by decide +kernel
theorem dX13_spread_38 : decode cX13_spread 38 = .ok (.if_icmp .le 9, 3) := by decide +kernel
theorem dX13_spread_41 : decode cX13_spread 41 = .ok (.iinc 2 1, 3) := by decide +kernel
theorem dX13_spread_44 : decode cX13_spread 44 = .ok (.goto (-12), 3) := by decide +kernel
theorem dX13_spread_47 : decode cX13_spread 47 = .ok (.iload_n 2, 1) := by decide +kernel
theorem dX13_spread_48 : decode cX13_spread 48 = .ok (.ireturn, 1) := by decide +kernel
theorem dX13_packs_0 : decode cX13_packs 0 = .ok (.aload_n 0, 1) := by decide +kernel
theorem dX13_packs_1 : decode cX13_packs 1 = .ok (.iconst 0, 1) := by decide +kernel
theorem dX13_packs_2 : decode cX13_packs 2 = .ok (.putfield 159, 3) := by decide +kernel
theorem dX13_packs_5 : decode cX13_packs 5 = .ok (.aload_n 0, 1) := by decide +kernel
theorem dX13_packs_6 : decode cX13_packs 6 = .ok (.iload_n 1, 1) := by decide +kernel
theorem dX13_packs_7 : decode cX13_packs 7 = .ok (.iconst 1, 1) := by decide +kernel
theorem dX13_packs_8 : decode cX13_packs 8 = .ok (.bipush 20, 2) := by decide +kernel
theorem dX13_packs_10 : decode cX13_packs 10 = .ok (.invokestatic 234, 3) := by decide +kernel
theorem dX13_packs_13 : decode cX13_packs 13 = .ok (.ifCond .eq 7, 3) := by decide +kernel
theorem dX13_packs_16 : decode cX13_packs 16 = .ok (.iload_n 2, 1) := by decide +kernel
theorem dX13_packs_17 : decode cX13_packs 17 = .ok (.ifCond .ge 7, 3) := by decide +kernel
theorem dX13_packs_20 : decode cX13_packs 20 = .ok (.iconst 1, 1) := by decide +kernel
theorem dX13_packs_21 : decode cX13_packs 21 = .ok (.goto 4, 3) := by decide +kernel
theorem dX13_packs_24 : decode cX13_packs 24 = .ok (.iconst 0, 1) := by decide +kernel
theorem dX13_packs_25 : decode cX13_packs 25 = .ok (.iconst 1, 1) := by decide +kernel
theorem dX13_packs_26 : decode cX13_packs 26 = .ok (.invokevirtual 223, 3) := by decide +kernel
theorem dX13_packs_29 : decode cX13_packs 29 = .ok (.ifCond .eq 5, 3) := by decide +kernel
theorem dX13_packs_32 : decode cX13_packs 32 = .ok (.iconst 0, 1) := by decide +kernel
theorem dX13_packs_33 : decode cX13_packs 33 = .ok (.ireturn, 1) := by decide +kernel
theorem dX13_packs_34 : decode cX13_packs 34 = .ok (.iconst 0, 1) := by decide +kernel
theorem dX13_packs_35 : decode cX13_packs 35 = .ok (.istore 4, 2) := by decide +kernel
theorem dX13_packs_37 : decode cX13_packs 37 = .ok (.iconst 0, 1) := by decide +kernel
theorem dX13_packs_38 : decode cX13_packs 38 = .ok (.istore 5, 2) := by decide +kernel
theorem dX13_packs_40 : decode cX13_packs 40 = .ok (.iload 5, 2) := by decide +kernel
theorem dX13_packs_42 : decode cX13_packs 42 = .ok (.aload_n 0, 1) := by decide +kernel
theorem dX13_packs_43 : decode cX13_packs 43 = .ok (.getfield 344, 3) := by decide +kernel
theorem dX13_packs_46 : decode cX13_packs 46 = .ok (.if_icmp .ge 56, 3) := by decide +kernel
theorem dX13_packs_49 : decode cX13_packs 49 = .ok (.iload 5, 2) := by decide +kernel
theorem dX13_packs_51 : decode cX13_packs 51 = .ok (.istore 6, 2) := by decide +kernel
theorem dX13_packs_53 : decode cX13_packs 53 = .ok (.iload 5, 2) := by decide +kernel
theorem dX13_packs_55 : decode cX13_packs 55 = .ok (.aload_n 0, 1) := by decide +kernel
theorem dX13_packs_56 : decode cX13_packs 56 = .ok (.getfield 344, 3) := by decide +kernel
theorem dX13_packs_59 : decode cX13_packs 59 = .ok (.if_icmp .ge 28, 3) := by decide +kernel
theorem dX13_packs_62 : decode cX13_packs 62 = .ok (.aload_n 0, 1) := by decide +kernel
theorem dX13_packs_63 : decode cX13_packs 63 = .ok (.getfield 66, 3) := by decide +kernel
theorem dX13_packs_66 : decode cX13_packs 66 = .ok (.iload 5, 2) := by decide +kernel
theorem dX13_packs_68 : decode cX13_packs 68 = .ok (.iaload, 1) := by decide +kernel
theorem dX13_packs_69 : decode cX13_packs 69 = .ok (.aload_n 0, 1) := by decide +kernel
theorem dX13_packs_70 : decode cX13_packs 70 = .ok (.getfield 66, 3) := by decide +kernel
theorem dX13_packs_73 : decode cX13_packs 73 = .ok (.iload 6, 2) := by decide +kernel
theorem dX13_packs_75 : decode cX13_packs 75 = .ok (.iaload, 1) := by decide +kernel
theorem dX13_packs_76 : decode cX13_packs 76 = .ok (.isub, 1) := by decide +kernel
theorem dX13_packs_77 : decode cX13_packs 77 = .ok (.iload_n 2, 1) := by decide +kernel
theorem dX13_packs_78 : decode cX13_packs 78 = .ok (.if_icmp .gt 9, 3) := by decide +kernel
theorem dX13_packs_81 : decode cX13_packs 81 = .ok (.iinc 5 1, 3) := by decide +kernel
theorem dX13_packs_84 : decode cX13_packs 84 = .ok (.goto (-31), 3) := by decide +kernel
theorem dX13_packs_87 : decode cX13_packs 87 = .ok (.iload 4, 2) := by decide +kernel
theorem dX13_packs_89 : decode cX13_packs 89 = .ok (.iload 5, 2) := by decide +kernel
theorem dX13_packs_91 : decode cX13_packs 91 = .ok (.iload 6, 2) := by decide +kernel
theorem dX13_packs_93 : decode cX13_packs 93 = .ok (.isub, 1) := by decide +kernel
theorem dX13_packs_94 : decode cX13_packs 94 = .ok (.iload_n 1, 1) := by decide +kernel
theorem dX13_packs_95 : decode cX13_packs 95 = .ok (.idiv, 1) := by decide +kernel
theorem dX13_packs_96 : decode cX13_packs 96 = .ok (.iadd, 1) := by decide +kernel
theorem dX13_packs_97 : decode cX13_packs 97 = .ok (.istore 4, 2) := by decide +kernel
theorem dX13_packs_99 : decode cX13_packs 99 = .ok (.goto (-59), 3) := by decide +kernel
theorem dX13_packs_102 : decode cX13_packs 102 = .ok (.iload_n 3, 1) := by decide +kernel
theorem dX13_packs_103 : decode cX13_packs 103 = .ok (.ifCond .eq 15, 3) := by decide +kernel
theorem dX13_packs_106 : decode cX13_packs 106 = .ok (.aload_n 0, 1) := by decide +kernel
theorem dX13_packs_107 : decode cX13_packs 107 = .ok (.getfield 344, 3) := by decide +kernel
theorem dX13_packs_110 : decode cX13_packs 110 = .ok (.iload 4, 2) := by decide +kernel
theorem dX13_packs_112 : decode cX13_packs 112 = .ok (.iload_n 1, 1) := by decide +kernel
theorem dX13_packs_113 : decode cX13_packs 113 = .ok (.imul, 1) := by decide +kernel
theorem dX13_packs_114 : decode cX13_packs 114 = .ok (.isub, 1) := by decide +kernel
theorem dX13_packs_115 : decode cX13_packs 115 = .ok (.goto 5, 3) := by decide +kernel
theorem dX13_packs_118 : decode cX13_packs 118 = .ok (.iload 4, 2) := by decide +kernel
theorem dX13_packs_120 : decode cX13_packs 120 = .ok (.ireturn, 1) := by decide +kernel
theorem dX13_asAtFirst_0 : decode cX13_asAtFirst 0 = .ok (.iconst 0, 1) := by decide +kernel
theorem dX13_asAtFirst_1 : decode cX13_asAtFirst 1 = .ok (.istore_n 1, 1) := by decide +kernel
theorem dX13_asAtFirst_2 : decode cX13_asAtFirst 2 = .ok (.iload_n 1, 1) := by decide +kernel
theorem dX13_asAtFirst_3 : decode cX13_asAtFirst 3 = .ok (.iconst 4, 1) := by decide +kernel
theorem dX13_asAtFirst_4 : decode cX13_asAtFirst 4 = .ok (.if_icmp .ge 29, 3) := by decide +kernel
theorem dX13_asAtFirst_7 : decode cX13_asAtFirst 7 = .ok (.aload_n 0, 1) := by decide +kernel
theorem dX13_asAtFirst_8 : decode cX13_asAtFirst 8 = .ok (.getfield 69, 3) := by decide +kernel
theorem dX13_asAtFirst_11 : decode cX13_asAtFirst 11 = .ok (.bipush 18, 2) := by decide +kernel
theorem dX13_asAtFirst_13 : decode cX13_asAtFirst 13 = .ok (.iload_n 1, 1) := by decide +kernel
theorem dX13_asAtFirst_14 : decode cX13_asAtFirst 14 = .ok (.iadd, 1) := by decide +kernel
theorem dX13_asAtFirst_15 : decode cX13_asAtFirst 15 = .ok (.iconst 0, 1) := by decide +kernel
theorem dX13_asAtFirst_16 : decode cX13_asAtFirst 16 = .ok (.iastore, 1) := by decide +kernel
theorem dX13_asAtFirst_17 : decode cX13_asAtFirst 17 = .ok (.aload_n 0, 1) := by decide +kernel
theorem dX13_asAtFirst_18 : decode cX13_asAtFirst 18 = .ok (.getfield 69, 3) := by decide +kernel
theorem dX13_asAtFirst_21 : decode cX13_asAtFirst 21 = .ok (.bipush 22, 2) := by decide +kernel
theorem dX13_asAtFirst_23 : decode cX13_asAtFirst 23 = .ok (.iload_n 1, 1) := by decide +kernel
theorem dX13_asAtFirst_24 : decode cX13_asAtFirst 24 = .ok (.iadd, 1) := by decide +kernel
theorem dX13_asAtFirst_25 : decode cX13_asAtFirst 25 = .ok (.iconst (-1), 1) := by decide +kernel
theorem dX13_asAtFirst_26 : decode cX13_asAtFirst 26 = .ok (.iastore, 1) := by decide +kernel
theorem dX13_asAtFirst_27 : decode cX13_asAtFirst 27 = .ok (.iinc 1 1, 3) := by decide +kernel
theorem dX13_asAtFirst_30 : decode cX13_asAtFirst 30 = .ok (.goto (-28), 3) := by decide +kernel
theorem dX13_asAtFirst_33 : decode cX13_asAtFirst 33 = .ok (.aload_n 0, 1) := by decide +kernel
theorem dX13_asAtFirst_34 : decode cX13_asAtFirst 34 = .ok (.getfield 69, 3) := by decide +kernel
theorem dX13_asAtFirst_37 : decode cX13_asAtFirst 37 = .ok (.bipush 26, 2) := by decide +kernel
theorem dX13_asAtFirst_39 : decode cX13_asAtFirst 39 = .ok (.iconst 5, 1) := by decide +kernel
theorem dX13_asAtFirst_40 : decode cX13_asAtFirst 40 = .ok (.iastore, 1) := by decide +kernel
theorem dX13_asAtFirst_41 : decode cX13_asAtFirst 41 = .ok (.aload_n 0, 1) := by decide +kernel
theorem dX13_asAtFirst_42 : decode cX13_asAtFirst 42 = .ok (.getfield 69, 3) := by decide +kernel
theorem dX13_asAtFirst_45 : decode cX13_asAtFirst 45 = .ok (.bipush 27, 2) := by decide +kernel
theorem dX13_asAtFirst_47 : decode cX13_asAtFirst 47 = .ok (.iconst 3, 1) := by decide +kernel
theorem dX13_asAtFirst_48 : decode cX13_asAtFirst 48 = .ok (.iastore, 1) := by decide +kernel
theorem dX13_asAtFirst_49 : decode cX13_asAtFirst 49 = .ok (.aload_n 0, 1) := by decide +kernel
theorem dX13_asAtFirst_50 : decode cX13_asAtFirst 50 = .ok (.getfield 69, 3) := by decide +kernel
theorem dX13_asAtFirst_53 : decode cX13_asAtFirst 53 = .ok (.bipush 28, 2) := by decide +kernel
theorem dX13_asAtFirst_55 : decode cX13_asAtFirst 55 = .ok (.iconst 4, 1) := by decide +kernel
theorem dX13_asAtFirst_56 : decode cX13_asAtFirst 56 = .ok (.iastore, 1) := by decide +kernel
theorem dX13_asAtFirst_57 : decode cX13_asAtFirst 57 = .ok (.aload_n 0, 1) := by decide +kernel
theorem dX13_asAtFirst_58 : decode cX13_asAtFirst 58 = .ok (.getfield 69, 3) := by decide +kernel
theorem dX13_asAtFirst_61 : decode cX13_asAtFirst 61 = .ok (.bipush 29, 2) := by decide +kernel
theorem dX13_asAtFirst_63 : decode cX13_asAtFirst 63 = .ok (.iconst 5, 1) := by decide +kernel
theorem dX13_asAtFirst_64 : decode cX13_asAtFirst 64 = .ok (.iastore, 1) := by decide +kernel
theorem dX13_asAtFirst_65 : decode cX13_asAtFirst 65 = .ok (.aload_n 0, 1) := by decide +kernel
theorem dX13_asAtFirst_66 : decode cX13_asAtFirst 66 = .ok (.getfield 69, 3) := by decide +kernel
theorem dX13_asAtFirst_69 : decode cX13_asAtFirst 69 = .ok (.bipush 30, 2) := by decide +kernel
theorem dX13_asAtFirst_71 : decode cX13_asAtFirst 71 = .ok (.iconst 4, 1) := by decide +kernel
theorem dX13_asAtFirst_72 : decode cX13_asAtFirst 72 = .ok (.iastore, 1) := by decide +kernel
theorem dX13_asAtFirst_73 : decode cX13_asAtFirst 73 = .ok (.aload_n 0, 1) := by decide +kernel
theorem dX13_asAtFirst_74 : decode cX13_asAtFirst 74 = .ok (.getfield 69, 3) := by decide +kernel
theorem dX13_asAtFirst_77 : decode cX13_asAtFirst 77 = .ok (.bipush 31, 2) := by decide +kernel
theorem dX13_asAtFirst_79 : decode cX13_asAtFirst 79 = .ok (.iconst 0, 1) := by decide +kernel
theorem dX13_asAtFirst_80 : decode cX13_asAtFirst 80 = .ok (.iastore, 1) := by decide +kernel
theorem dX13_asAtFirst_81 : decode cX13_asAtFirst 81 = .ok (.aload_n 0, 1) := by decide +kernel
theorem dX13_asAtFirst_82 : decode cX13_asAtFirst 82 = .ok (.getfield 69, 3) := by decide +kernel
theorem dX13_asAtFirst_85 : decode cX13_asAtFirst 85 = .ok (.bipush 32, 2) := by decide +kernel
theorem dX13_asAtFirst_87 : decode cX13_asAtFirst 87 = .ok (.iconst 0, 1) := by decide +kernel
theorem dX13_asAtFirst_88 : decode cX13_asAtFirst 88 = .ok (.iastore, 1) := by decide +kernel
theorem dX13_asAtFirst_89 : decode cX13_asAtFirst 89 = .ok (.aload_n 0, 1) := by decide +kernel
theorem dX13_asAtFirst_90 : decode cX13_asAtFirst 90 = .ok (.getfield 69, 3) := by decide +kernel
theorem dX13_asAtFirst_93 : decode cX13_asAtFirst 93 = .ok (.bipush 33, 2) := by decide +kernel
theorem dX13_asAtFirst_95 : decode cX13_asAtFirst 95 = .ok (.iconst 1, 1) := by decide +kernel
theorem dX13_asAtFirst_96 : decode cX13_asAtFirst 96 = .ok (.iastore, 1) := by decide +kernel
theorem dX13_asAtFirst_97 : decode cX13_asAtFirst 97 = .ok (.aload_n 0, 1) := by decide +kernel
theorem dX13_asAtFirst_98 : decode cX13_asAtFirst 98 = .ok (.getfield 69, 3) := by decide +kernel
theorem dX13_asAtFirst_101 : decode cX13_asAtFirst 101 = .ok (.bipush 34, 2) := by decide +kernel
theorem dX13_asAtFirst_103 : decode cX13_asAtFirst 103 = .ok (.iconst 5, 1) := by decide +kernel
theorem dX13_asAtFirst_104 : decode cX13_asAtFirst 104 = .ok (.iastore, 1) := by decide +kernel
theorem dX13_asAtFirst_105 : decode cX13_asAtFirst 105 = .ok (.aload_n 0, 1) := by decide +kernel
theorem dX13_asAtFirst_106 : decode cX13_asAtFirst 106 = .ok (.getfield 69, 3) := by decide +kernel
theorem dX13_asAtFirst_109 : decode cX13_asAtFirst 109 = .ok (.bipush 35, 2) := by decide +kernel
theorem dX13_asAtFirst_111 : decode cX13_asAtFirst 111 = .ok (.iconst 4, 1) := by decide +kernel
theorem dX13_asAtFirst_112 : decode cX13_asAtFirst 112 = .ok (.iastore, 1) := by decide +kernel
theorem dX13_asAtFirst_113 : decode cX13_asAtFirst 113 = .ok (.return_, 1) := by decide +kernel
theorem dX13_sets_0 : decode cX13_sets 0 = .ok (.aload_n 0, 1) := by decide +kernel
theorem dX13_sets_1 : decode cX13_sets 1 = .ok (.iconst 3, 1) := by decide +kernel
theorem dX13_sets_2 : decode cX13_sets 2 = .ok (.iload_n 2, 1) := by decide +kernel
theorem dX13_sets_3 : decode cX13_sets 3 = .ok (.iload_n 3, 1) := by decide +kernel
theorem dX13_sets_4 : decode cX13_sets 4 = .ok (.invokevirtual 212, 3) := by decide +kernel
theorem dX13_sets_7 : decode cX13_sets 7 = .ok (.istore 4, 2) := by decide +kernel
theorem dX13_sets_9 : decode cX13_sets 9 = .ok (.iload 4, 2) := by decide +kernel
theorem dX13_sets_11 : decode cX13_sets 11 = .ok (.ifCond .ge 5, 3) := by decide +kernel
theorem dX13_sets_14 : decode cX13_sets 14 = .ok (.iconst 0, 1) := by decide +kernel
theorem dX13_sets_15 : decode cX13_sets 15 = .ok (.ireturn, 1) := by decide +kernel
theorem dX13_sets_16 : decode cX13_sets 16 = .ok (.aload_n 0, 1) := by decide +kernel
theorem dX13_sets_17 : decode cX13_sets 17 = .ok (.getfield 69, 3) := by decide +kernel
theorem dX13_sets_20 : decode cX13_sets 20 = .ok (.bipush 18, 2) := by decide +kernel
theorem dX13_sets_22 : decode cX13_sets 22 = .ok (.iload_n 1, 1) := by decide +kernel
theorem dX13_sets_23 : decode cX13_sets 23 = .ok (.iadd, 1) := by decide +kernel
theorem dX13_sets_24 : decode cX13_sets 24 = .ok (.iload 4, 2) := by decide +kernel
theorem dX13_sets_26 : decode cX13_sets 26 = .ok (.iastore, 1) := by decide +kernel
theorem dX13_sets_27 : decode cX13_sets 27 = .ok (.iconst 1, 1) := by decide +kernel
theorem dX13_sets_28 : decode cX13_sets 28 = .ok (.ireturn, 1) := by decide +kernel
theorem dX13_readPours_0 : decode cX13_readPours 0 = .ok (.aload_n 0, 1) := by decide +kernel
theorem dX13_readPours_1 : decode cX13_readPours 1 = .ok (.invokevirtual 209, 3) := by decide +kernel
theorem dX13_readPours_4 : decode cX13_readPours 4 = .ok (.istore_n 1, 1) := by decide +kernel
theorem dX13_readPours_5 : decode cX13_readPours 5 = .ok (.iload_n 1, 1) := by decide +kernel
theorem dX13_readPours_6 : decode cX13_readPours 6 = .ok (.ifCond .ge 5, 3) := by decide +kernel
theorem dX13_readPours_9 : decode cX13_readPours 9 = .ok (.iconst 0, 1) := by decide +kernel
theorem dX13_readPours_10 : decode cX13_readPours 10 = .ok (.ireturn, 1) := by decide +kernel
theorem dX13_readPours_11 : decode cX13_readPours 11 = .ok (.aload_n 0, 1) := by decide +kernel
theorem dX13_readPours_12 : decode cX13_readPours 12 = .ok (.invokevirtual 203, 3) := by decide +kernel
theorem dX13_readPours_15 : decode cX13_readPours 15 = .ok (.aload_n 0, 1) := by decide +kernel
theorem dX13_readPours_16 : decode cX13_readPours 16 = .ok (.ldc_w 350, 3) := by decide +kernel
theorem dX13_readPours_19 : decode cX13_readPours 19 = .ok (.invokevirtual 193, 3) := by decide +kernel
theorem dX13_readPours_22 : decode cX13_readPours 22 = .ok (.ifCond .eq 15, 3) := by decide +kernel
theorem dX13_readPours_25 : decode cX13_readPours 25 = .ok (.aload_n 0, 1) := by decide +kernel
theorem dX13_readPours_26 : decode cX13_readPours 26 = .ok (.getfield 69, 3) := by decide +kernel
theorem dX13_readPours_29 : decode cX13_readPours 29 = .ok (.bipush 22, 2) := by decide +kernel
theorem dX13_readPours_31 : decode cX13_readPours 31 = .ok (.iload_n 1, 1) := by decide +kernel
theorem dX13_readPours_32 : decode cX13_readPours 32 = .ok (.iadd, 1) := by decide +kernel
theorem dX13_readPours_33 : decode cX13_readPours 33 = .ok (.iconst (-1), 1) := by decide +kernel
theorem dX13_readPours_34 : decode cX13_readPours 34 = .ok (.iastore, 1) := by decide +kernel
theorem dX13_readPours_35 : decode cX13_readPours 35 = .ok (.iconst 1, 1) := by decide +kernel
theorem dX13_readPours_36 : decode cX13_readPours 36 = .ok (.ireturn, 1) := by decide +kernel
theorem dX13_readPours_37 : decode cX13_readPours 37 = .ok (.aload_n 0, 1) := by decide +kernel
theorem dX13_readPours_38 : decode cX13_readPours 38 = .ok (.ldc_w 352, 3) := by decide +kernel
theorem dX13_readPours_41 : decode cX13_readPours 41 = .ok (.invokevirtual 193, 3) := by decide +kernel
theorem dX13_readPours_44 : decode cX13_readPours 44 = .ok (.ifCond .eq 19, 3) := by decide +kernel
theorem dX13_readPours_47 : decode cX13_readPours 47 = .ok (.aload_n 0, 1) := by decide +kernel
theorem dX13_readPours_48 : decode cX13_readPours 48 = .ok (.iconst 4, 1) := by decide +kernel
theorem dX13_readPours_49 : decode cX13_readPours 49 = .ok (.iload_n 1, 1) := by decide +kernel
theorem dX13_readPours_50 : decode cX13_readPours 50 = .ok (.iadd, 1) := by decide +kernel
theorem dX13_readPours_51 : decode cX13_readPours 51 = .ok (.iconst 0, 1) := by decide +kernel
theorem dX13_readPours_52 : decode cX13_readPours 52 = .ok (.iconst 4, 1) := by decide +kernel
theorem dX13_readPours_53 : decode cX13_readPours 53 = .ok (.invokevirtual 354, 3) := by decide +kernel
theorem dX13_readPours_56 : decode cX13_readPours 56 = .ok (.ifCond .eq 7, 3) := by decide +kernel
theorem dX13_readPours_59 : decode cX13_readPours 59 = .ok (.iconst 1, 1) := by decide +kernel
theorem dX13_readPours_60 : decode cX13_readPours 60 = .ok (.goto 4, 3) := by decide +kernel
theorem dX13_readPours_63 : decode cX13_readPours 63 = .ok (.iconst 0, 1) := by decide +kernel
theorem dX13_readPours_64 : decode cX13_readPours 64 = .ok (.ireturn, 1) := by decide +kernel
theorem dX13_readAgain_0 : decode cX13_readAgain 0 = .ok (.aload_n 0, 1) := by decide +kernel
theorem dX13_readAgain_1 : decode cX13_readAgain 1 = .ok (.bipush 13, 2) := by decide +kernel
theorem dX13_readAgain_3 : decode cX13_readAgain 3 = .ok (.iconst 0, 1) := by decide +kernel
theorem dX13_readAgain_4 : decode cX13_readAgain 4 = .ok (.iconst 5, 1) := by decide +kernel
theorem dX13_readAgain_5 : decode cX13_readAgain 5 = .ok (.invokevirtual 354, 3) := by decide +kernel
theorem dX13_readAgain_8 : decode cX13_readAgain 8 = .ok (.ifCond .ne 5, 3) := by decide +kernel
theorem dX13_readAgain_11 : decode cX13_readAgain 11 = .ok (.iconst 0, 1) := by decide +kernel
theorem dX13_readAgain_12 : decode cX13_readAgain 12 = .ok (.ireturn, 1) := by decide +kernel
theorem dX13_readAgain_13 : decode cX13_readAgain 13 = .ok (.aload_n 0, 1) := by decide +kernel
theorem dX13_readAgain_14 : decode cX13_readAgain 14 = .ok (.invokevirtual 203, 3) := by decide +kernel
theorem dX13_readAgain_17 : decode cX13_readAgain 17 = .ok (.aload_n 0, 1) := by decide +kernel
theorem dX13_readAgain_18 : decode cX13_readAgain 18 = .ok (.ldc_w 357, 3) := by decide +kernel
theorem dX13_readAgain_21 : decode cX13_readAgain 21 = .ok (.invokevirtual 193, 3) := by decide +kernel
theorem dX13_readAgain_24 : decode cX13_readAgain 24 = .ok (.ifCond .ne 5, 3) := by decide +kernel
theorem dX13_readAgain_27 : decode cX13_readAgain 27 = .ok (.iconst 0, 1) := by decide +kernel
theorem dX13_readAgain_28 : decode cX13_readAgain 28 = .ok (.ireturn, 1) := by decide +kernel
theorem dX13_readAgain_29 : decode cX13_readAgain 29 = .ok (.aload_n 0, 1) := by decide +kernel
theorem dX13_readAgain_30 : decode cX13_readAgain 30 = .ok (.invokevirtual 203, 3) := by decide +kernel
theorem dX13_readAgain_33 : decode cX13_readAgain 33 = .ok (.aload_n 0, 1) := by decide +kernel
theorem dX13_readAgain_34 : decode cX13_readAgain 34 = .ok (.ldc_w 359, 3) := by decide +kernel
theorem dX13_readAgain_37 : decode cX13_readAgain 37 = .ok (.invokevirtual 193, 3) := by decide +kernel
theorem dX13_readAgain_40 : decode cX13_readAgain 40 = .ok (.ifCond .ne 5, 3) := by decide +kernel
theorem dX13_readAgain_43 : decode cX13_readAgain 43 = .ok (.iconst 0, 1) := by decide +kernel
theorem dX13_readAgain_44 : decode cX13_readAgain 44 = .ok (.ireturn, 1) := by decide +kernel
theorem dX13_readAgain_45 : decode cX13_readAgain 45 = .ok (.aload_n 0, 1) := by decide +kernel
theorem dX13_readAgain_46 : decode cX13_readAgain 46 = .ok (.invokevirtual 209, 3) := by decide +kernel
theorem dX13_readAgain_49 : decode cX13_readAgain 49 = .ok (.istore_n 1, 1) := by decide +kernel
theorem dX13_readAgain_50 : decode cX13_readAgain 50 = .ok (.iload_n 1, 1) := by decide +kernel
theorem dX13_readAgain_51 : decode cX13_readAgain 51 = .ok (.iconst 0, 1) := by decide +kernel
theorem dX13_readAgain_52 : decode cX13_readAgain 52 = .ok (.iconst 2, 1) := by decide +kernel
theorem dX13_readAgain_53 : decode cX13_readAgain 53 = .ok (.invokestatic 234, 3) := by decide +kernel
theorem dX13_readAgain_56 : decode cX13_readAgain 56 = .ok (.ifCond .ne 5, 3) := by decide +kernel
theorem dX13_readAgain_59 : decode cX13_readAgain 59 = .ok (.iconst 0, 1) := by decide +kernel
theorem dX13_readAgain_60 : decode cX13_readAgain 60 = .ok (.ireturn, 1) := by decide +kernel
theorem dX13_readAgain_61 : decode cX13_readAgain 61 = .ok (.aload_n 0, 1) := by decide +kernel
theorem dX13_readAgain_62 : decode cX13_readAgain 62 = .ok (.getfield 69, 3) := by decide +kernel
theorem dX13_readAgain_65 : decode cX13_readAgain 65 = .ok (.bipush 32, 2) := by decide +kernel
theorem dX13_readAgain_67 : decode cX13_readAgain 67 = .ok (.iload_n 1, 1) := by decide +kernel
theorem dX13_readAgain_68 : decode cX13_readAgain 68 = .ok (.iastore, 1) := by decide +kernel
theorem dX13_readAgain_69 : decode cX13_readAgain 69 = .ok (.aload_n 0, 1) := by decide +kernel
theorem dX13_readAgain_70 : decode cX13_readAgain 70 = .ok (.bipush 15, 2) := by decide +kernel
theorem dX13_readAgain_72 : decode cX13_readAgain 72 = .ok (.iconst 1, 1) := by decide +kernel
theorem dX13_readAgain_73 : decode cX13_readAgain 73 = .ok (.bipush 20, 2) := by decide +kernel
theorem dX13_readAgain_75 : decode cX13_readAgain 75 = .ok (.invokevirtual 354, 3) := by decide +kernel
theorem dX13_readAgain_78 : decode cX13_readAgain 78 = .ok (.ireturn, 1) := by decide +kernel
theorem dX13_readRule_0 : decode cX13_readRule 0 = .ok (.aload_n 0, 1) := by decide +kernel
theorem dX13_readRule_1 : decode cX13_readRule 1 = .ok (.invokevirtual 203, 3) := by decide +kernel
theorem dX13_readRule_4 : decode cX13_readRule 4 = .ok (.iload_n 1, 1) := by decide +kernel
theorem dX13_readRule_5 : decode cX13_readRule 5 = .ok (.bipush 24, 2) := by decide +kernel
theorem dX13_readRule_7 : decode cX13_readRule 7 = .ok (.if_icmp .ne 5, 3) := by decide +kernel
theorem dX13_readRule_10 : decode cX13_readRule 10 = .ok (.iconst 0, 1) := by decide +kernel
theorem dX13_readRule_11 : decode cX13_readRule 11 = .ok (.ireturn, 1) := by decide +kernel
theorem dX13_readRule_12 : decode cX13_readRule 12 = .ok (.aload_n 0, 1) := by decide +kernel
theorem dX13_readRule_13 : decode cX13_readRule 13 = .ok (.ldc_w 361, 3) := by decide +kernel
theorem dX13_readRule_16 : decode cX13_readRule 16 = .ok (.invokevirtual 193, 3) := by decide +kernel
theorem dX13_readRule_19 : decode cX13_readRule 19 = .ok (.ifCond .eq 29, 3) := by decide +kernel
theorem dX13_readRule_22 : decode cX13_readRule 22 = .ok (.aload_n 0, 1) := by decide +kernel
theorem dX13_readRule_23 : decode cX13_readRule 23 = .ok (.invokevirtual 209, 3) := by decide +kernel
theorem dX13_readRule_26 : decode cX13_readRule 26 = .ok (.istore_n 2, 1) := by decide +kernel
theorem dX13_readRule_27 : decode cX13_readRule 27 = .ok (.iload_n 2, 1) := by decide +kernel
theorem dX13_readRule_28 : decode cX13_readRule 28 = .ok (.ifCond .lt 18, 3) := by decide +kernel
theorem dX13_readRule_31 : decode cX13_readRule 31 = .ok (.aload_n 0, 1) := by decide +kernel
theorem dX13_readRule_32 : decode cX13_readRule 32 = .ok (.iload_n 2, 1) := by decide +kernel
theorem dX13_readRule_33 : decode cX13_readRule 33 = .ok (.iconst 0, 1) := by decide +kernel
theorem dX13_readRule_34 : decode cX13_readRule 34 = .ok (.bipush 100, 2) := by decide +kernel
theorem dX13_readRule_36 : decode cX13_readRule 36 = .ok (.invokevirtual 354, 3) := by decide +kernel
theorem dX13_readRule_39 : decode cX13_readRule 39 = .ok (.ifCond .eq 7, 3) := by decide +kernel
theorem dX13_readRule_42 : decode cX13_readRule 42 = .ok (.iconst 1, 1) := by decide +kernel
theorem dX13_readRule_43 : decode cX13_readRule 43 = .ok (.goto 4, 3) := by decide +kernel
theorem dX13_readRule_46 : decode cX13_readRule 46 = .ok (.iconst 0, 1) := by decide +kernel
theorem dX13_readRule_47 : decode cX13_readRule 47 = .ok (.ireturn, 1) := by decide +kernel
theorem dX13_readRule_48 : decode cX13_readRule 48 = .ok (.aload_n 0, 1) := by decide +kernel
theorem dX13_readRule_49 : decode cX13_readRule 49 = .ok (.ldc_w 363, 3) := by decide +kernel
theorem dX13_readRule_52 : decode cX13_readRule 52 = .ok (.invokevirtual 193, 3) := by decide +kernel
theorem dX13_readRule_55 : decode cX13_readRule 55 = .ok (.ifCond .eq 32, 3) := by decide +kernel
theorem dX13_readRule_58 : decode cX13_readRule 58 = .ok (.aload_n 0, 1) := by decide +kernel
theorem dX13_readRule_59 : decode cX13_readRule 59 = .ok (.invokevirtual 209, 3) := by decide +kernel
theorem dX13_readRule_62 : decode cX13_readRule 62 = .ok (.istore_n 2, 1) := by decide +kernel
theorem dX13_readRule_63 : decode cX13_readRule 63 = .ok (.iload_n 2, 1) := by decide +kernel
theorem dX13_readRule_64 : decode cX13_readRule 64 = .ok (.ifCond .lt 21, 3) := by decide +kernel
theorem dX13_readRule_67 : decode cX13_readRule 67 = .ok (.aload_n 0, 1) := by decide +kernel
theorem dX13_readRule_68 : decode cX13_readRule 68 = .ok (.bipush 9, 2) := by decide +kernel
theorem dX13_readRule_70 : decode cX13_readRule 70 = .ok (.iload_n 2, 1) := by decide +kernel
theorem dX13_readRule_71 : decode cX13_readRule 71 = .ok (.iadd, 1) := by decide +kernel
theorem dX13_readRule_72 : decode cX13_readRule 72 = .ok (.iconst 1, 1) := by decide +kernel
theorem dX13_readRule_73 : decode cX13_readRule 73 = .ok (.bipush 60, 2) := by decide +kernel
theorem dX13_readRule_75 : decode cX13_readRule 75 = .ok (.invokevirtual 354, 3) := by decide +kernel
theorem dX13_readRule_78 : decode cX13_readRule 78 = .ok (.ifCond .eq 7, 3) := by decide +kernel
theorem dX13_readRule_81 : decode cX13_readRule 81 = .ok (.iconst 1, 1) := by decide +kernel
theorem dX13_readRule_82 : decode cX13_readRule 82 = .ok (.goto 4, 3) := by decide +kernel
theorem dX13_readRule_85 : decode cX13_readRule 85 = .ok (.iconst 0, 1) := by decide +kernel
theorem dX13_readRule_86 : decode cX13_readRule 86 = .ok (.ireturn, 1) := by decide +kernel
theorem dX13_readRule_87 : decode cX13_readRule 87 = .ok (.aload_n 0, 1) := by decide +kernel
theorem dX13_readRule_88 : decode cX13_readRule 88 = .ok (.ldc_w 364, 3) := by decide +kernel
theorem dX13_readRule_91 : decode cX13_readRule 91 = .ok (.invokevirtual 193, 3) := by decide +kernel
theorem dX13_readRule_94 : decode cX13_readRule 94 = .ok (.ifCond .eq 8, 3) := by decide +kernel
theorem dX13_readRule_97 : decode cX13_readRule 97 = .ok (.aload_n 0, 1) := by decide +kernel
theorem dX13_readRule_98 : decode cX13_readRule 98 = .ok (.invokevirtual 365, 3) := by decide +kernel
theorem dX13_readRule_101 : decode cX13_readRule 101 = .ok (.ireturn, 1) := by decide +kernel
theorem dX13_readRule_102 : decode cX13_readRule 102 = .ok (.aload_n 0, 1) := by decide +kernel
theorem dX13_readRule_103 : decode cX13_readRule 103 = .ok (.ldc_w 368, 3) := by decide +kernel
theorem dX13_readRule_106 : decode cX13_readRule 106 = .ok (.invokevirtual 193, 3) := by decide +kernel
theorem dX13_readRule_109 : decode cX13_readRule 109 = .ok (.ifCond .eq 13, 3) := by decide +kernel
theorem dX13_readRule_112 : decode cX13_readRule 112 = .ok (.aload_n 0, 1) := by decide +kernel
theorem dX13_readRule_113 : decode cX13_readRule 113 = .ok (.bipush 8, 2) := by decide +kernel
theorem dX13_readRule_115 : decode cX13_readRule 115 = .ok (.iconst 1, 1) := by decide +kernel
theorem dX13_readRule_116 : decode cX13_readRule 116 = .ok (.bipush 20, 2) := by decide +kernel
theorem dX13_readRule_118 : decode cX13_readRule 118 = .ok (.invokevirtual 354, 3) := by decide +kernel
theorem dX13_readRule_121 : decode cX13_readRule 121 = .ok (.ireturn, 1) := by decide +kernel
theorem dX13_readRule_122 : decode cX13_readRule 122 = .ok (.aload_n 0, 1) := by decide +kernel
theorem dX13_readRule_123 : decode cX13_readRule 123 = .ok (.ldc_w 370, 3) := by decide +kernel
theorem dX13_readRule_126 : decode cX13_readRule 126 = .ok (.invokevirtual 193, 3) := by decide +kernel
theorem dX13_readRule_129 : decode cX13_readRule 129 = .ok (.ifCond .eq 8, 3) := by decide +kernel
theorem dX13_readRule_132 : decode cX13_readRule 132 = .ok (.aload_n 0, 1) := by decide +kernel
theorem dX13_readRule_133 : decode cX13_readRule 133 = .ok (.invokevirtual 372, 3) := by decide +kernel
theorem dX13_readRule_136 : decode cX13_readRule 136 = .ok (.ireturn, 1) := by decide +kernel
theorem dX13_readRule_137 : decode cX13_readRule 137 = .ok (.aload_n 0, 1) := by decide +kernel
theorem dX13_readRule_138 : decode cX13_readRule 138 = .ok (.ldc_w 375, 3) := by decide +kernel
theorem dX13_readRule_141 : decode cX13_readRule 141 = .ok (.invokevirtual 193, 3) := by decide +kernel
theorem dX13_readRule_144 : decode cX13_readRule 144 = .ok (.ifCond .eq 13, 3) := by decide +kernel
theorem dX13_readRule_147 : decode cX13_readRule 147 = .ok (.aload_n 0, 1) := by decide +kernel
theorem dX13_readRule_148 : decode cX13_readRule 148 = .ok (.bipush 16, 2) := by decide +kernel
theorem dX13_readRule_150 : decode cX13_readRule 150 = .ok (.iconst 1, 1) := by decide +kernel
theorem dX13_readRule_151 : decode cX13_readRule 151 = .ok (.bipush 20, 2) := by decide +kernel
theorem dX13_readRule_153 : decode cX13_readRule 153 = .ok (.invokevirtual 354, 3) := by decide +kernel
theorem dX13_readRule_156 : decode cX13_readRule 156 = .ok (.ireturn, 1) := by decide +kernel
theorem dX13_readRule_157 : decode cX13_readRule 157 = .ok (.aload_n 0, 1) := by decide +kernel
theorem dX13_readRule_158 : decode cX13_readRule 158 = .ok (.ldc_w 377, 3) := by decide +kernel
theorem dX13_readRule_161 : decode cX13_readRule 161 = .ok (.invokevirtual 193, 3) := by decide +kernel
theorem dX13_readRule_164 : decode cX13_readRule 164 = .ok (.ifCond .eq 19, 3) := by decide +kernel
theorem dX13_readRule_167 : decode cX13_readRule 167 = .ok (.aload_n 0, 1) := by decide +kernel
theorem dX13_readRule_168 : decode cX13_readRule 168 = .ok (.bipush 17, 2) := by decide +kernel
theorem dX13_readRule_170 : decode cX13_readRule 170 = .ok (.iconst 0, 1) := by decide +kernel
theorem dX13_readRule_171 : decode cX13_readRule 171 = .ok (.bipush 50, 2) := by decide +kernel
theorem dX13_readRule_173 : decode cX13_readRule 173 = .ok (.invokevirtual 354, 3) := by decide +kernel
theorem dX13_readRule_176 : decode cX13_readRule 176 = .ok (.ifCond .eq 7, 3) := by decide +kernel
theorem dX13_readRule_179 : decode cX13_readRule 179 = .ok (.iconst 1, 1) := by decide +kernel
theorem dX13_readRule_180 : decode cX13_readRule 180 = .ok (.goto 4, 3) := by decide +kernel
theorem dX13_readRule_183 : decode cX13_readRule 183 = .ok (.iconst 0, 1) := by decide +kernel
theorem dX13_readRule_184 : decode cX13_readRule 184 = .ok (.ireturn, 1) := by decide +kernel
theorem dX13_readHouse_0 : decode cX13_readHouse 0 = .ok (.aload_n 0, 1) := by decide +kernel
theorem dX13_readHouse_1 : decode cX13_readHouse 1 = .ok (.invokevirtual 379, 3) := by decide +kernel
theorem dX13_readHouse_4 : decode cX13_readHouse 4 = .ok (.aload_n 0, 1) := by decide +kernel
theorem dX13_readHouse_5 : decode cX13_readHouse 5 = .ok (.invokevirtual 178, 3) := by decide +kernel
theorem dX13_readHouse_8 : decode cX13_readHouse 8 = .ok (.aload_n 0, 1) := by decide +kernel
theorem dX13_readHouse_9 : decode cX13_readHouse 9 = .ok (.getfield 168, 3) := by decide +kernel
theorem dX13_readHouse_12 : decode cX13_readHouse 12 = .ok (.aload_n 0, 1) := by decide +kernel
theorem dX13_readHouse_13 : decode cX13_readHouse 13 = .ok (.getfield 165, 3) := by decide +kernel
theorem dX13_readHouse_16 : decode cX13_readHouse 16 = .ok (.if_icmp .ne 5, 3) := by decide +kernel
theorem dX13_readHouse_19 : decode cX13_readHouse 19 = .ok (.iconst 0, 1) := by decide +kernel
theorem dX13_readHouse_20 : decode cX13_readHouse 20 = .ok (.ireturn, 1) := by decide +kernel
theorem dX13_readHouse_21 : decode cX13_readHouse 21 = .ok (.iconst 0, 1) := by decide +kernel
theorem dX13_readHouse_22 : decode cX13_readHouse 22 = .ok (.istore_n 1, 1) := by decide +kernel
theorem dX13_readHouse_23 : decode cX13_readHouse 23 = .ok (.aload_n 0, 1) := by decide +kernel
theorem dX13_readHouse_24 : decode cX13_readHouse 24 = .ok (.iload_n 1, 1) := by decide +kernel
theorem dX13_readHouse_25 : decode cX13_readHouse 25 = .ok (.invokevirtual 382, 3) := by decide +kernel
theorem dX13_readHouse_28 : decode cX13_readHouse 28 = .ok (.ifCond .ne 5, 3) := by decide +kernel
theorem dX13_readHouse_31 : decode cX13_readHouse 31 = .ok (.iconst (-1), 1) := by decide +kernel
theorem dX13_readHouse_32 : decode cX13_readHouse 32 = .ok (.ireturn, 1) := by decide +kernel
theorem dX13_readHouse_33 : decode cX13_readHouse 33 = .ok (.aload_n 0, 1) := by decide +kernel
theorem dX13_readHouse_34 : decode cX13_readHouse 34 = .ok (.invokevirtual 178, 3) := by decide +kernel
theorem dX13_readHouse_37 : decode cX13_readHouse 37 = .ok (.aload_n 0, 1) := by decide +kernel
theorem dX13_readHouse_38 : decode cX13_readHouse 38 = .ok (.getfield 168, 3) := by decide +kernel
theorem dX13_readHouse_41 : decode cX13_readHouse 41 = .ok (.aload_n 0, 1) := by decide +kernel
theorem dX13_readHouse_42 : decode cX13_readHouse 42 = .ok (.getfield 165, 3) := by decide +kernel
theorem dX13_readHouse_45 : decode cX13_readHouse 45 = .ok (.if_icmp .ne 7, 3) := by decide +kernel
theorem dX13_readHouse_48 : decode cX13_readHouse 48 = .ok (.iload_n 1, 1) := by decide +kernel
theorem dX13_readHouse_49 : decode cX13_readHouse 49 = .ok (.iconst 1, 1) := by decide +kernel
theorem dX13_readHouse_50 : decode cX13_readHouse 50 = .ok (.iadd, 1) := by decide +kernel
theorem dX13_readHouse_51 : decode cX13_readHouse 51 = .ok (.ireturn, 1) := by decide +kernel
theorem dX13_readHouse_52 : decode cX13_readHouse 52 = .ok (.aload_n 0, 1) := by decide +kernel
theorem dX13_readHouse_53 : decode cX13_readHouse 53 = .ok (.bipush 59, 2) := by decide +kernel
theorem dX13_readHouse_55 : decode cX13_readHouse 55 = .ok (.bipush 59, 2) := by decide +kernel
theorem dX13_readHouse_57 : decode cX13_readHouse 57 = .ok (.invokevirtual 171, 3) := by decide +kernel
theorem dX13_readHouse_60 : decode cX13_readHouse 60 = .ok (.ifCond .ne 5, 3) := by decide +kernel
theorem dX13_readHouse_63 : decode cX13_readHouse 63 = .ok (.iconst (-1), 1) := by decide +kernel
theorem dX13_readHouse_64 : decode cX13_readHouse 64 = .ok (.ireturn, 1) := by decide +kernel
theorem dX13_readHouse_65 : decode cX13_readHouse 65 = .ok (.aload_n 0, 1) := by decide +kernel
theorem dX13_readHouse_66 : decode cX13_readHouse 66 = .ok (.dup, 1) := by decide +kernel
theorem dX13_readHouse_67 : decode cX13_readHouse 67 = .ok (.getfield 168, 3) := by decide +kernel
theorem dX13_readHouse_70 : decode cX13_readHouse 70 = .ok (.iconst 1, 1) := by decide +kernel
theorem dX13_readHouse_71 : decode cX13_readHouse 71 = .ok (.iadd, 1) := by decide +kernel
theorem dX13_readHouse_72 : decode cX13_readHouse 72 = .ok (.putfield 168, 3) := by decide +kernel
theorem dX13_readHouse_75 : decode cX13_readHouse 75 = .ok (.iinc 1 1, 3) := by decide +kernel
theorem dX13_readHouse_78 : decode cX13_readHouse 78 = .ok (.goto (-55), 3) := by decide +kernel
theorem dX13_house_0 : decode cX13_house 0 = .ok (.aload_n 0, 1) := by decide +kernel
theorem dX13_house_1 : decode cX13_house 1 = .ok (.invokevirtual 216, 3) := by decide +kernel
theorem dX13_house_4 : decode cX13_house 4 = .ok (.aload_n 0, 1) := by decide +kernel
theorem dX13_house_5 : decode cX13_house 5 = .ok (.invokevirtual 385, 3) := by decide +kernel
theorem dX13_house_8 : decode cX13_house 8 = .ok (.istore_n 1, 1) := by decide +kernel
theorem dX13_house_9 : decode cX13_house 9 = .ok (.aload_n 0, 1) := by decide +kernel
theorem dX13_house_10 : decode cX13_house 10 = .ok (.iload_n 1, 1) := by decide +kernel
theorem dX13_house_11 : decode cX13_house 11 = .ok (.ifCond .ge 10, 3) := by decide +kernel
theorem dX13_house_14 : decode cX13_house 14 = .ok (.aload_n 0, 1) := by decide +kernel
theorem dX13_house_15 : decode cX13_house 15 = .ok (.getfield 175, 3) := by decide +kernel
theorem dX13_house_18 : decode cX13_house 18 = .ok (.goto 4, 3) := by decide +kernel
theorem dX13_house_21 : decode cX13_house 21 = .ok (.iconst (-1), 1) := by decide +kernel
theorem dX13_house_22 : decode cX13_house 22 = .ok (.putfield 13, 3) := by decide +kernel
theorem dX13_house_25 : decode cX13_house 25 = .ok (.aload_n 0, 1) := by decide +kernel
theorem dX13_house_26 : decode cX13_house 26 = .ok (.iload_n 1, 1) := by decide +kernel
theorem dX13_house_27 : decode cX13_house 27 = .ok (.ifCond .ge 7, 3) := by decide +kernel
theorem dX13_house_30 : decode cX13_house 30 = .ok (.iconst 1, 1) := by decide +kernel
theorem dX13_house_31 : decode cX13_house 31 = .ok (.goto 4, 3) := by decide +kernel
theorem dX13_house_34 : decode cX13_house 34 = .ok (.iconst 0, 1) := by decide +kernel
theorem dX13_house_35 : decode cX13_house 35 = .ok (.iconst 1, 1) := by decide +kernel
theorem dX13_house_36 : decode cX13_house 36 = .ok (.invokevirtual 223, 3) := by decide +kernel
theorem dX13_house_39 : decode cX13_house 39 = .ok (.ifCond .eq 5, 3) := by decide +kernel
theorem dX13_house_42 : decode cX13_house 42 = .ok (.iconst 0, 1) := by decide +kernel
theorem dX13_house_43 : decode cX13_house 43 = .ok (.ireturn, 1) := by decide +kernel
theorem dX13_house_44 : decode cX13_house 44 = .ok (.iconst 0, 1) := by decide +kernel
theorem dX13_house_45 : decode cX13_house 45 = .ok (.istore_n 2, 1) := by decide +kernel
theorem dX13_house_46 : decode cX13_house 46 = .ok (.iload_n 2, 1) := by decide +kernel
theorem dX13_house_47 : decode cX13_house 47 = .ok (.bipush 18, 2) := by decide +kernel
theorem dX13_house_49 : decode cX13_house 49 = .ok (.if_icmp .ge 24, 3) := by decide +kernel
theorem dX13_house_52 : decode cX13_house 52 = .ok (.aload_n 0, 1) := by decide +kernel
theorem dX13_house_53 : decode cX13_house 53 = .ok (.getfield 69, 3) := by decide +kernel
theorem dX13_house_56 : decode cX13_house 56 = .ok (.iload_n 2, 1) := by decide +kernel
theorem dX13_house_57 : decode cX13_house 57 = .ok (.aload_n 0, 1) := by decide +kernel
theorem dX13_house_58 : decode cX13_house 58 = .ok (.getfield 69, 3) := by decide +kernel
theorem dX13_house_61 : decode cX13_house 61 = .ok (.bipush 18, 2) := by decide +kernel
theorem dX13_house_63 : decode cX13_house 63 = .ok (.iload_n 2, 1) := by decide +kernel
theorem dX13_house_64 : decode cX13_house 64 = .ok (.iadd, 1) := by decide +kernel
theorem dX13_house_65 : decode cX13_house 65 = .ok (.iaload, 1) := by decide +kernel
theorem dX13_house_66 : decode cX13_house 66 = .ok (.iastore, 1) := by decide +kernel
theorem dX13_house_67 : decode cX13_house 67 = .ok (.iinc 2 1, 3) := by decide +kernel
theorem dX13_house_70 : decode cX13_house 70 = .ok (.goto (-24), 3) := by decide +kernel
theorem dX13_house_73 : decode cX13_house 73 = .ok (.aload_n 0, 1) := by decide +kernel
theorem dX13_house_74 : decode cX13_house 74 = .ok (.iload_n 1, 1) := by decide +kernel
theorem dX13_house_75 : decode cX13_house 75 = .ok (.putfield 388, 3) := by decide +kernel
theorem dX13_house_78 : decode cX13_house 78 = .ok (.iload_n 1, 1) := by decide +kernel
theorem dX13_house_79 : decode cX13_house 79 = .ok (.ireturn, 1) := by decide +kernel
theorem dX13_tells_0 : decode cX13_tells 0 = .ok (.aload_n 0, 1) := by decide +kernel
theorem dX13_tells_1 : decode cX13_tells 1 = .ok (.iconst 0, 1) := by decide +kernel
theorem dX13_tells_2 : decode cX13_tells 2 = .ok (.putfield 159, 3) := by decide +kernel
theorem dX13_tells_5 : decode cX13_tells 5 = .ok (.aload_n 0, 1) := by decide +kernel
theorem dX13_tells_6 : decode cX13_tells 6 = .ok (.iload_n 1, 1) := by decide +kernel
theorem dX13_tells_7 : decode cX13_tells 7 = .ok (.iconst 0, 1) := by decide +kernel
theorem dX13_tells_8 : decode cX13_tells 8 = .ok (.bipush 17, 2) := by decide +kernel
theorem dX13_tells_10 : decode cX13_tells 10 = .ok (.invokestatic 234, 3) := by decide +kernel
theorem dX13_tells_13 : decode cX13_tells 13 = .ok (.ifCond .ne 7, 3) := by decide +kernel
theorem dX13_tells_16 : decode cX13_tells 16 = .ok (.iconst 1, 1) := by decide +kernel
theorem dX13_tells_17 : decode cX13_tells 17 = .ok (.goto 4, 3) := by decide +kernel
theorem dX13_tells_20 : decode cX13_tells 20 = .ok (.iconst 0, 1) := by decide +kernel
theorem dX13_tells_21 : decode cX13_tells 21 = .ok (.iconst 1, 1) := by decide +kernel
theorem dX13_tells_22 : decode cX13_tells 22 = .ok (.invokevirtual 223, 3) := by decide +kernel
theorem dX13_tells_25 : decode cX13_tells 25 = .ok (.ifCond .eq 7, 3) := by decide +kernel
theorem dX13_tells_28 : decode cX13_tells 28 = .ok (.iconst 0, 1) := by decide +kernel
theorem dX13_tells_29 : decode cX13_tells 29 = .ok (.goto 9, 3) := by decide +kernel
theorem dX13_tells_32 : decode cX13_tells 32 = .ok (.aload_n 0, 1) := by decide +kernel
theorem dX13_tells_33 : decode cX13_tells 33 = .ok (.getfield 69, 3) := by decide +kernel
theorem dX13_tells_36 : decode cX13_tells 36 = .ok (.iload_n 1, 1) := by decide +kernel
theorem dX13_tells_37 : decode cX13_tells 37 = .ok (.iaload, 1) := by decide +kernel
theorem dX13_tells_38 : decode cX13_tells 38 = .ok (.ireturn, 1) := by decide +kernel
theorem dX13_noLot_0 : decode cX13_noLot 0 = .ok (.iload_n 1, 1) := by decide +kernel
theorem dX13_noLot_1 : decode cX13_noLot 1 = .ok (.iconst 0, 1) := by decide +kernel
theorem dX13_noLot_2 : decode cX13_noLot 2 = .ok (.aload_n 0, 1) := by decide +kernel
theorem dX13_noLot_3 : decode cX13_noLot 3 = .ok (.getfield 391, 3) := by decide +kernel
theorem dX13_noLot_6 : decode cX13_noLot 6 = .ok (.iconst 1, 1) := by decide +kernel
theorem dX13_noLot_7 : decode cX13_noLot 7 = .ok (.isub, 1) := by decide +kernel
theorem dX13_noLot_8 : decode cX13_noLot 8 = .ok (.invokestatic 234, 3) := by decide +kernel
theorem dX13_noLot_11 : decode cX13_noLot 11 = .ok (.ifCond .ne 7, 3) := by decide +kernel
theorem dX13_noLot_14 : decode cX13_noLot 14 = .ok (.iconst 1, 1) := by decide +kernel
theorem dX13_noLot_15 : decode cX13_noLot 15 = .ok (.goto 4, 3) := by decide +kernel
theorem dX13_noLot_18 : decode cX13_noLot 18 = .ok (.iconst 0, 1) := by decide +kernel
theorem dX13_noLot_19 : decode cX13_noLot 19 = .ok (.ireturn, 1) := by decide +kernel
theorem dX13_noMachine_0 : decode cX13_noMachine 0 = .ok (.iload_n 1, 1) := by decide +kernel
theorem dX13_noMachine_1 : decode cX13_noMachine 1 = .ok (.iconst 0, 1) := by decide +kernel
theorem dX13_noMachine_2 : decode cX13_noMachine 2 = .ok (.aload_n 0, 1) := by decide +kernel
theorem dX13_noMachine_3 : decode cX13_noMachine 3 = .ok (.getfield 394, 3) := by decide +kernel
theorem dX13_noMachine_6 : decode cX13_noMachine 6 = .ok (.iconst 1, 1) := by decide +kernel
theorem dX13_noMachine_7 : decode cX13_noMachine 7 = .ok (.isub, 1) := by decide +kernel
theorem dX13_noMachine_8 : decode cX13_noMachine 8 = .ok (.invokestatic 234, 3) := by decide +kernel
theorem dX13_noMachine_11 : decode cX13_noMachine 11 = .ok (.ifCond .ne 7, 3) := by decide +kernel
theorem dX13_noMachine_14 : decode cX13_noMachine 14 = .ok (.iconst 1, 1) := by decide +kernel
theorem dX13_noMachine_15 : decode cX13_noMachine 15 = .ok (.goto 4, 3) := by decide +kernel
theorem dX13_noMachine_18 : decode cX13_noMachine 18 = .ok (.iconst 0, 1) := by decide +kernel
theorem dX13_noMachine_19 : decode cX13_noMachine 19 = .ok (.ireturn, 1) := by decide +kernel
theorem dX13_machine_0 : decode cX13_machine 0 = .ok (.aload_n 0, 1) := by decide +kernel
theorem dX13_machine_1 : decode cX13_machine 1 = .ok (.iconst 0, 1) := by decide +kernel
theorem dX13_machine_2 : decode cX13_machine 2 = .ok (.putfield 159, 3) := by decide +kernel
theorem dX13_machine_5 : decode cX13_machine 5 = .ok (.aload_n 0, 1) := by decide +kernel
theorem dX13_machine_6 : decode cX13_machine 6 = .ok (.iload_n 1, 1) := by decide +kernel
theorem dX13_machine_7 : decode cX13_machine 7 = .ok (.iconst 1, 1) := by decide +kernel
theorem dX13_machine_8 : decode cX13_machine 8 = .ok (.bipush 60, 2) := by decide +kernel
theorem dX13_machine_10 : decode cX13_machine 10 = .ok (.invokestatic 234, 3) := by decide +kernel
theorem dX13_machine_13 : decode cX13_machine 13 = .ok (.ifCond .ne 7, 3) := by decide +kernel
theorem dX13_machine_16 : decode cX13_machine 16 = .ok (.iconst 1, 1) := by decide +kernel
theorem dX13_machine_17 : decode cX13_machine 17 = .ok (.goto 4, 3) := by decide +kernel
theorem dX13_machine_20 : decode cX13_machine 20 = .ok (.iconst 0, 1) := by decide +kernel
theorem dX13_machine_21 : decode cX13_machine 21 = .ok (.iconst 1, 1) := by decide +kernel
theorem dX13_machine_22 : decode cX13_machine 22 = .ok (.invokevirtual 223, 3) := by decide +kernel
theorem dX13_machine_25 : decode cX13_machine 25 = .ok (.ifCond .ne 24, 3) := by decide +kernel
theorem dX13_machine_28 : decode cX13_machine 28 = .ok (.aload_n 0, 1) := by decide +kernel
theorem dX13_machine_29 : decode cX13_machine 29 = .ok (.aload_n 0, 1) := by decide +kernel
theorem dX13_machine_30 : decode cX13_machine 30 = .ok (.getfield 394, 3) := by decide +kernel
theorem dX13_machine_33 : decode cX13_machine 33 = .ok (.iconst 4, 1) := by decide +kernel
theorem dX13_machine_34 : decode cX13_machine 34 = .ok (.if_icmp .ne 7, 3) := by decide +kernel
theorem dX13_machine_37 : decode cX13_machine 37 = .ok (.iconst 1, 1) := by decide +kernel
theorem dX13_machine_38 : decode cX13_machine 38 = .ok (.goto 4, 3) := by decide +kernel
theorem dX13_machine_41 : decode cX13_machine 41 = .ok (.iconst 0, 1) := by decide +kernel
theorem dX13_machine_42 : decode cX13_machine 42 = .ok (.iconst 2, 1) := by decide +kernel
theorem dX13_machine_43 : decode cX13_machine 43 = .ok (.invokevirtual 223, 3) := by decide +kernel
theorem dX13_machine_46 : decode cX13_machine 46 = .ok (.ifCond .eq 5, 3) := by decide +kernel
theorem dX13_machine_49 : decode cX13_machine 49 = .ok (.iconst 0, 1) := by decide +kernel
theorem dX13_machine_50 : decode cX13_machine 50 = .ok (.ireturn, 1) := by decide +kernel
theorem dX13_machine_51 : decode cX13_machine 51 = .ok (.aload_n 0, 1) := by decide +kernel
theorem dX13_machine_52 : decode cX13_machine 52 = .ok (.getfield 72, 3) := by decide +kernel
theorem dX13_machine_55 : decode cX13_machine 55 = .ok (.aload_n 0, 1) := by decide +kernel
theorem dX13_machine_56 : decode cX13_machine 56 = .ok (.getfield 394, 3) := by decide +kernel
theorem dX13_machine_59 : decode cX13_machine 59 = .ok (.iload_n 1, 1) := by decide +kernel
theorem dX13_machine_60 : decode cX13_machine 60 = .ok (.iastore, 1) := by decide +kernel
theorem dX13_machine_61 : decode cX13_machine 61 = .ok (.aload_n 0, 1) := by decide +kernel
theorem dX13_machine_62 : decode cX13_machine 62 = .ok (.getfield 75, 3) := by decide +kernel
theorem dX13_machine_65 : decode cX13_machine 65 = .ok (.aload_n 0, 1) := by decide +kernel
theorem dX13_machine_66 : decode cX13_machine 66 = .ok (.getfield 394, 3) := by decide +kernel
theorem dX13_machine_69 : decode cX13_machine 69 = .ok (.iconst (-1), 1) := by decide +kernel
theorem dX13_machine_70 : decode cX13_machine 70 = .ok (.iastore, 1) := by decide +kernel
theorem dX13_machine_71 : decode cX13_machine 71 = .ok (.aload_n 0, 1) := by decide +kernel
theorem dX13_machine_72 : decode cX13_machine 72 = .ok (.getfield 78, 3) := by decide +kernel
theorem dX13_machine_75 : decode cX13_machine 75 = .ok (.aload_n 0, 1) := by decide +kernel
theorem dX13_machine_76 : decode cX13_machine 76 = .ok (.getfield 394, 3) := by decide +kernel
theorem dX13_machine_79 : decode cX13_machine 79 = .ok (.iconst (-1), 1) := by decide +kernel
theorem dX13_machine_80 : decode cX13_machine 80 = .ok (.iastore, 1) := by decide +kernel
theorem dX13_machine_81 : decode cX13_machine 81 = .ok (.aload_n 0, 1) := by decide +kernel
theorem dX13_machine_82 : decode cX13_machine 82 = .ok (.dup, 1) := by decide +kernel
theorem dX13_machine_83 : decode cX13_machine 83 = .ok (.getfield 394, 3) := by decide +kernel
theorem dX13_machine_86 : decode cX13_machine 86 = .ok (.iconst 1, 1) := by decide +kernel
theorem dX13_machine_87 : decode cX13_machine 87 = .ok (.iadd, 1) := by decide +kernel
theorem dX13_machine_88 : decode cX13_machine 88 = .ok (.putfield 394, 3) := by decide +kernel
theorem dX13_machine_91 : decode cX13_machine 91 = .ok (.aload_n 0, 1) := by decide +kernel
theorem dX13_machine_92 : decode cX13_machine 92 = .ok (.getfield 394, 3) := by decide +kernel
theorem dX13_machine_95 : decode cX13_machine 95 = .ok (.iconst 1, 1) := by decide +kernel
theorem dX13_machine_96 : decode cX13_machine 96 = .ok (.isub, 1) := by decide +kernel
theorem dX13_machine_97 : decode cX13_machine 97 = .ok (.ireturn, 1) := by decide +kernel
theorem dX13_adds_0 : decode cX13_adds 0 = .ok (.aload_n 0, 1) := by decide +kernel
theorem dX13_adds_1 : decode cX13_adds 1 = .ok (.getfield 391, 3) := by decide +kernel
theorem dX13_adds_4 : decode cX13_adds 4 = .ok (.istore 8, 2) := by decide +kernel
theorem dX13_adds_6 : decode cX13_adds 6 = .ok (.aload_n 0, 1) := by decide +kernel
theorem dX13_adds_7 : decode cX13_adds 7 = .ok (.dup, 1) := by decide +kernel
theorem dX13_adds_8 : decode cX13_adds 8 = .ok (.getfield 391, 3) := by decide +kernel
theorem dX13_adds_11 : decode cX13_adds 11 = .ok (.iconst 1, 1) := by decide +kernel
theorem dX13_adds_12 : decode cX13_adds 12 = .ok (.iadd, 1) := by decide +kernel
theorem dX13_adds_13 : decode cX13_adds 13 = .ok (.putfield 391, 3) := by decide +kernel
theorem dX13_adds_16 : decode cX13_adds 16 = .ok (.aload_n 0, 1) := by decide +kernel
theorem dX13_adds_17 : decode cX13_adds 17 = .ok (.getfield 84, 3) := by decide +kernel
theorem dX13_adds_20 : decode cX13_adds 20 = .ok (.iload 8, 2) := by decide +kernel
theorem dX13_adds_22 : decode cX13_adds 22 = .ok (.iload_n 1, 1) := by decide +kernel
theorem dX13_adds_23 : decode cX13_adds 23 = .ok (.iastore, 1) := by decide +kernel
theorem dX13_adds_24 : decode cX13_adds 24 = .ok (.aload_n 0, 1) := by decide +kernel
theorem dX13_adds_25 : decode cX13_adds 25 = .ok (.getfield 87, 3) := by decide +kernel
theorem dX13_adds_28 : decode cX13_adds 28 = .ok (.iload 8, 2) := by decide +kernel
theorem dX13_adds_30 : decode cX13_adds 30 = .ok (.iload_n 2, 1) := by decide +kernel
theorem dX13_adds_31 : decode cX13_adds 31 = .ok (.iastore, 1) := by decide +kernel
theorem dX13_adds_32 : decode cX13_adds 32 = .ok (.aload_n 0, 1) := by decide +kernel
theorem dX13_adds_33 : decode cX13_adds 33 = .ok (.getfield 90, 3) := by decide +kernel
theorem dX13_adds_36 : decode cX13_adds 36 = .ok (.iload 8, 2) := by decide +kernel
theorem dX13_adds_38 : decode cX13_adds 38 = .ok (.iload_n 3, 1) := by decide +kernel
theorem dX13_adds_39 : decode cX13_adds 39 = .ok (.iastore, 1) := by decide +kernel
theorem dX13_adds_40 : decode cX13_adds 40 = .ok (.aload_n 0, 1) := by decide +kernel
theorem dX13_adds_41 : decode cX13_adds 41 = .ok (.getfield 93, 3) := by decide +kernel
theorem dX13_adds_44 : decode cX13_adds 44 = .ok (.iload 8, 2) := by decide +kernel
theorem dX13_adds_46 : decode cX13_adds 46 = .ok (.iload 4, 2) := by decide +kernel
theorem dX13_adds_48 : decode cX13_adds 48 = .ok (.iastore, 1) := by decide +kernel
theorem dX13_adds_49 : decode cX13_adds 49 = .ok (.aload_n 0, 1) := by decide +kernel
theorem dX13_adds_50 : decode cX13_adds 50 = .ok (.getfield 96, 3) := by decide +kernel
theorem dX13_adds_53 : decode cX13_adds 53 = .ok (.iload 8, 2) := by decide +kernel
theorem dX13_adds_55 : decode cX13_adds 55 = .ok (.iload 5, 2) := by decide +kernel
theorem dX13_adds_57 : decode cX13_adds 57 = .ok (.iastore, 1) := by decide +kernel
theorem dX13_adds_58 : decode cX13_adds 58 = .ok (.aload_n 0, 1) := by decide +kernel
theorem dX13_adds_59 : decode cX13_adds 59 = .ok (.getfield 99, 3) := by decide +kernel
theorem dX13_adds_62 : decode cX13_adds 62 = .ok (.iload 8, 2) := by decide +kernel
theorem dX13_adds_64 : decode cX13_adds 64 = .ok (.iload 6, 2) := by decide +kernel
theorem dX13_adds_66 : decode cX13_adds 66 = .ok (.iastore, 1) := by decide +kernel
theorem dX13_adds_67 : decode cX13_adds 67 = .ok (.aload_n 0, 1) := by decide +kernel
theorem dX13_adds_68 : decode cX13_adds 68 = .ok (.getfield 102, 3) := by decide +kernel
theorem dX13_adds_71 : decode cX13_adds 71 = .ok (.iload 8, 2) := by decide +kernel
theorem dX13_adds_73 : decode cX13_adds 73 = .ok (.iload 7, 2) := by decide +kernel
theorem dX13_adds_75 : decode cX13_adds 75 = .ok (.iastore, 1) := by decide +kernel
theorem dX13_adds_76 : decode cX13_adds 76 = .ok (.aload_n 0, 1) := by decide +kernel
theorem dX13_adds_77 : decode cX13_adds 77 = .ok (.getfield 108, 3) := by decide +kernel
theorem dX13_adds_80 : decode cX13_adds 80 = .ok (.iload 8, 2) := by decide +kernel
theorem dX13_adds_82 : decode cX13_adds 82 = .ok (.iconst (-1), 1) := by decide +kernel
theorem dX13_adds_83 : decode cX13_adds 83 = .ok (.iastore, 1) := by decide +kernel
theorem dX13_adds_84 : decode cX13_adds 84 = .ok (.aload_n 0, 1) := by decide +kernel
theorem dX13_adds_85 : decode cX13_adds 85 = .ok (.getfield 114, 3) := by decide +kernel
theorem dX13_adds_88 : decode cX13_adds 88 = .ok (.iload 8, 2) := by decide +kernel
theorem dX13_adds_90 : decode cX13_adds 90 = .ok (.iconst (-1), 1) := by decide +kernel
theorem dX13_adds_91 : decode cX13_adds 91 = .ok (.iastore, 1) := by decide +kernel
theorem dX13_adds_92 : decode cX13_adds 92 = .ok (.aload_n 0, 1) := by decide +kernel
theorem dX13_adds_93 : decode cX13_adds 93 = .ok (.getfield 117, 3) := by decide +kernel
theorem dX13_adds_96 : decode cX13_adds 96 = .ok (.iload 8, 2) := by decide +kernel
theorem dX13_adds_98 : decode cX13_adds 98 = .ok (.iconst (-1), 1) := by decide +kernel
theorem dX13_adds_99 : decode cX13_adds 99 = .ok (.iastore, 1) := by decide +kernel
theorem dX13_adds_100 : decode cX13_adds 100 = .ok (.aload_n 0, 1) := by decide +kernel
theorem dX13_adds_101 : decode cX13_adds 101 = .ok (.iload 8, 2) := by decide +kernel
theorem dX13_adds_103 : decode cX13_adds 103 = .ok (.iload_n 1, 1) := by decide +kernel
theorem dX13_adds_104 : decode cX13_adds 104 = .ok (.invokevirtual 248, 3) := by decide +kernel
theorem dX13_adds_107 : decode cX13_adds 107 = .ok (.aload_n 0, 1) := by decide +kernel
theorem dX13_adds_108 : decode cX13_adds 108 = .ok (.bipush 40, 2) := by decide +kernel
theorem dX13_adds_110 : decode cX13_adds 110 = .ok (.iload 8, 2) := by decide +kernel
theorem dX13_adds_112 : decode cX13_adds 112 = .ok (.invokevirtual 227, 3) := by decide +kernel
theorem dX13_adds_115 : decode cX13_adds 115 = .ok (.iload 8, 2) := by decide +kernel
theorem dX13_adds_117 : decode cX13_adds 117 = .ok (.ireturn, 1) := by decide +kernel
theorem dX13_lot_0 : decode cX13_lot 0 = .ok (.aload_n 0, 1) := by decide +kernel
theorem dX13_lot_1 : decode cX13_lot 1 = .ok (.iconst 0, 1) := by decide +kernel
theorem dX13_lot_2 : decode cX13_lot 2 = .ok (.putfield 159, 3) := by decide +kernel
theorem dX13_lot_5 : decode cX13_lot 5 = .ok (.aload_n 0, 1) := by decide +kernel
theorem dX13_lot_6 : decode cX13_lot 6 = .ok (.aload_n 0, 1) := by decide +kernel
theorem dX13_lot_7 : decode cX13_lot 7 = .ok (.iload_n 1, 1) := by decide +kernel
theorem dX13_lot_8 : decode cX13_lot 8 = .ok (.invokevirtual 255, 3) := by decide +kernel
theorem dX13_lot_11 : decode cX13_lot 11 = .ok (.ifCond .ne 10, 3) := by decide +kernel
theorem dX13_lot_14 : decode cX13_lot 14 = .ok (.iload_n 3, 1) := by decide +kernel
theorem dX13_lot_15 : decode cX13_lot 15 = .ok (.invokestatic 298, 3) := by decide +kernel
theorem dX13_lot_18 : decode cX13_lot 18 = .ok (.ifCond .eq 7, 3) := by decide +kernel
theorem dX13_lot_21 : decode cX13_lot 21 = .ok (.iconst 1, 1) := by decide +kernel
theorem dX13_lot_22 : decode cX13_lot 22 = .ok (.goto 4, 3) := by decide +kernel
theorem dX13_lot_25 : decode cX13_lot 25 = .ok (.iconst 0, 1) := by decide +kernel
theorem dX13_lot_26 : decode cX13_lot 26 = .ok (.iconst 1, 1) := by decide +kernel
theorem dX13_lot_27 : decode cX13_lot 27 = .ok (.invokevirtual 223, 3) := by decide +kernel
theorem dX13_lot_30 : decode cX13_lot 30 = .ok (.ifCond .ne 72, 3) := by decide +kernel
theorem dX13_lot_33 : decode cX13_lot 33 = .ok (.aload_n 0, 1) := by decide +kernel
theorem dX13_lot_34 : decode cX13_lot 34 = .ok (.iload_n 2, 1) := by decide +kernel
theorem dX13_lot_35 : decode cX13_lot 35 = .ok (.iconst 1, 1) := by decide +kernel
theorem dX13_lot_36 : decode cX13_lot 36 = .ok (.bipush 60, 2) := by decide +kernel
theorem dX13_lot_38 : decode cX13_lot 38 = .ok (.invokestatic 234, 3) := by decide +kernel
theorem dX13_lot_41 : decode cX13_lot 41 = .ok (.ifCond .eq 27, 3) := by decide +kernel
theorem dX13_lot_44 : decode cX13_lot 44 = .ok (.iload 4, 2) := by decide +kernel
theorem dX13_lot_46 : decode cX13_lot 46 = .ok (.iload 5, 2) := by decide +kernel
theorem dX13_lot_48 : decode cX13_lot 48 = .ok (.iload 6, 2) := by decide +kernel
theorem dX13_lot_50 : decode cX13_lot 50 = .ok (.invokestatic 265, 3) := by decide +kernel
theorem dX13_lot_53 : decode cX13_lot 53 = .ok (.ifCond .ne 15, 3) := by decide +kernel
theorem dX13_lot_56 : decode cX13_lot 56 = .ok (.iload 7, 2) := by decide +kernel
theorem dX13_lot_58 : decode cX13_lot 58 = .ok (.iconst 0, 1) := by decide +kernel
theorem dX13_lot_59 : decode cX13_lot 59 = .ok (.sipush 400, 3) := by decide +kernel
theorem dX13_lot_62 : decode cX13_lot 62 = .ok (.invokestatic 234, 3) := by decide +kernel
theorem dX13_lot_65 : decode cX13_lot 65 = .ok (.ifCond .ne 7, 3) := by decide +kernel
theorem dX13_lot_68 : decode cX13_lot 68 = .ok (.iconst 1, 1) := by decide +kernel
theorem dX13_lot_69 : decode cX13_lot 69 = .ok (.goto 4, 3) := by decide +kernel
theorem dX13_lot_72 : decode cX13_lot 72 = .ok (.iconst 0, 1) := by decide +kernel
theorem dX13_lot_73 : decode cX13_lot 73 = .ok (.iconst 2, 1) := by decide +kernel
theorem dX13_lot_74 : decode cX13_lot 74 = .ok (.invokevirtual 223, 3) := by decide +kernel
theorem dX13_lot_77 : decode cX13_lot 77 = .ok (.ifCond .ne 25, 3) := by decide +kernel
theorem dX13_lot_80 : decode cX13_lot 80 = .ok (.aload_n 0, 1) := by decide +kernel
theorem dX13_lot_81 : decode cX13_lot 81 = .ok (.aload_n 0, 1) := by decide +kernel
theorem dX13_lot_82 : decode cX13_lot 82 = .ok (.getfield 391, 3) := by decide +kernel
theorem dX13_lot_85 : decode cX13_lot 85 = .ok (.bipush 40, 2) := by decide +kernel
theorem dX13_lot_87 : decode cX13_lot 87 = .ok (.if_icmp .ne 7, 3) := by decide +kernel
theorem dX13_lot_90 : decode cX13_lot 90 = .ok (.iconst 1, 1) := by decide +kernel
theorem dX13_lot_91 : decode cX13_lot 91 = .ok (.goto 4, 3) := by decide +kernel
theorem dX13_lot_94 : decode cX13_lot 94 = .ok (.iconst 0, 1) := by decide +kernel
theorem dX13_lot_95 : decode cX13_lot 95 = .ok (.iconst 3, 1) := by decide +kernel
theorem dX13_lot_96 : decode cX13_lot 96 = .ok (.invokevirtual 223, 3) := by decide +kernel
theorem dX13_lot_99 : decode cX13_lot 99 = .ok (.ifCond .eq 5, 3) := by decide +kernel
theorem dX13_lot_102 : decode cX13_lot 102 = .ok (.iconst 0, 1) := by decide +kernel
theorem dX13_lot_103 : decode cX13_lot 103 = .ok (.ireturn, 1) := by decide +kernel
theorem dX13_lot_104 : decode cX13_lot 104 = .ok (.aload_n 0, 1) := by decide +kernel
theorem dX13_lot_105 : decode cX13_lot 105 = .ok (.iload_n 1, 1) := by decide +kernel
theorem dX13_lot_106 : decode cX13_lot 106 = .ok (.iload_n 2, 1) := by decide +kernel
theorem dX13_lot_107 : decode cX13_lot 107 = .ok (.iload_n 3, 1) := by decide +kernel
theorem dX13_lot_108 : decode cX13_lot 108 = .ok (.iload 4, 2) := by decide +kernel
theorem dX13_lot_110 : decode cX13_lot 110 = .ok (.iload 5, 2) := by decide +kernel
theorem dX13_lot_112 : decode cX13_lot 112 = .ok (.iload 6, 2) := by decide +kernel
theorem dX13_lot_114 : decode cX13_lot 114 = .ok (.iload 7, 2) := by decide +kernel
theorem dX13_lot_116 : decode cX13_lot 116 = .ok (.invokevirtual 397, 3) := by decide +kernel
theorem dX13_lot_119 : decode cX13_lot 119 = .ok (.ireturn, 1) := by decide +kernel
theorem dX13_load_0 : decode cX13_load 0 = .ok (.aload_n 0, 1) := by decide +kernel
theorem dX13_load_1 : decode cX13_load 1 = .ok (.iconst 0, 1) := by decide +kernel
theorem dX13_load_2 : decode cX13_load 2 = .ok (.putfield 159, 3) := by decide +kernel
theorem dX13_load_5 : decode cX13_load 5 = .ok (.aload_n 0, 1) := by decide +kernel
theorem dX13_load_6 : decode cX13_load 6 = .ok (.aload_n 0, 1) := by decide +kernel
theorem dX13_load_7 : decode cX13_load 7 = .ok (.iload_n 1, 1) := by decide +kernel
theorem dX13_load_8 : decode cX13_load 8 = .ok (.invokevirtual 401, 3) := by decide +kernel
theorem dX13_load_11 : decode cX13_load 11 = .ok (.ifCond .ne 11, 3) := by decide +kernel
theorem dX13_load_14 : decode cX13_load 14 = .ok (.aload_n 0, 1) := by decide +kernel
theorem dX13_load_15 : decode cX13_load 15 = .ok (.iload_n 2, 1) := by decide +kernel
theorem dX13_load_16 : decode cX13_load 16 = .ok (.invokevirtual 404, 3) := by decide +kernel
theorem dX13_load_19 : decode cX13_load 19 = .ok (.ifCond .eq 7, 3) := by decide +kernel
theorem dX13_load_22 : decode cX13_load 22 = .ok (.iconst 1, 1) := by decide +kernel
theorem dX13_load_23 : decode cX13_load 23 = .ok (.goto 4, 3) := by decide +kernel
theorem dX13_load_26 : decode cX13_load 26 = .ok (.iconst 0, 1) := by decide +kernel
theorem dX13_load_27 : decode cX13_load 27 = .ok (.iconst 1, 1) := by decide +kernel
theorem dX13_load_28 : decode cX13_load 28 = .ok (.invokevirtual 223, 3) := by decide +kernel
theorem dX13_load_31 : decode cX13_load 31 = .ok (.ifCond .ne 27, 3) := by decide +kernel
theorem dX13_load_34 : decode cX13_load 34 = .ok (.aload_n 0, 1) := by decide +kernel
theorem dX13_load_35 : decode cX13_load 35 = .ok (.getfield 105, 3) := by decide +kernel
theorem dX13_load_38 : decode cX13_load 38 = .ok (.iload_n 1, 1) := by decide +kernel
theorem dX13_load_39 : decode cX13_load 39 = .ok (.iaload, 1) := by decide +kernel
theorem dX13_load_40 : decode cX13_load 40 = .ok (.ifCond .ne 18, 3) := by decide +kernel
theorem dX13_load_43 : decode cX13_load 43 = .ok (.aload_n 0, 1) := by decide +kernel
theorem dX13_load_44 : decode cX13_load 44 = .ok (.getfield 87, 3) := by decide +kernel
theorem dX13_load_47 : decode cX13_load 47 = .ok (.iload_n 1, 1) := by decide +kernel
theorem dX13_load_48 : decode cX13_load 48 = .ok (.iaload, 1) := by decide +kernel
theorem dX13_load_49 : decode cX13_load 49 = .ok (.aload_n 0, 1) := by decide +kernel
theorem dX13_load_50 : decode cX13_load 50 = .ok (.getfield 72, 3) := by decide +kernel
theorem dX13_load_53 : decode cX13_load 53 = .ok (.iload_n 2, 1) := by decide +kernel
theorem dX13_load_54 : decode cX13_load 54 = .ok (.iaload, 1) := by decide +kernel
theorem dX13_load_55 : decode cX13_load 55 = .ok (.if_icmp .le 5, 3) := by decide +kernel
theorem dX13_load_58 : decode cX13_load 58 = .ok (.iconst 0, 1) := by decide +kernel
theorem dX13_load_59 : decode cX13_load 59 = .ok (.ireturn, 1) := by decide +kernel
theorem dX13_load_60 : decode cX13_load 60 = .ok (.aload_n 0, 1) := by decide +kernel
theorem dX13_load_61 : decode cX13_load 61 = .ok (.getfield 105, 3) := by decide +kernel
theorem dX13_load_64 : decode cX13_load 64 = .ok (.iload_n 1, 1) := by decide +kernel
theorem dX13_load_65 : decode cX13_load 65 = .ok (.iconst 1, 1) := by decide +kernel
theorem dX13_load_66 : decode cX13_load 66 = .ok (.iastore, 1) := by decide +kernel
theorem dX13_load_67 : decode cX13_load 67 = .ok (.aload_n 0, 1) := by decide +kernel
theorem dX13_load_68 : decode cX13_load 68 = .ok (.getfield 108, 3) := by decide +kernel
theorem dX13_load_71 : decode cX13_load 71 = .ok (.iload_n 1, 1) := by decide +kernel
theorem dX13_load_72 : decode cX13_load 72 = .ok (.iload_n 2, 1) := by decide +kernel
theorem dX13_load_73 : decode cX13_load 73 = .ok (.iastore, 1) := by decide +kernel
theorem dX13_load_74 : decode cX13_load 74 = .ok (.aload_n 0, 1) := by decide +kernel
theorem dX13_load_75 : decode cX13_load 75 = .ok (.getfield 123, 3) := by decide +kernel
theorem dX13_load_78 : decode cX13_load 78 = .ok (.iload_n 1, 1) := by decide +kernel
theorem dX13_load_79 : decode cX13_load 79 = .ok (.aload_n 0, 1) := by decide +kernel
theorem dX13_load_80 : decode cX13_load 80 = .ok (.getfield 407, 3) := by decide +kernel
theorem dX13_load_83 : decode cX13_load 83 = .ok (.iastore, 1) := by decide +kernel
theorem dX13_load_84 : decode cX13_load 84 = .ok (.aload_n 0, 1) := by decide +kernel
theorem dX13_load_85 : decode cX13_load 85 = .ok (.dup, 1) := by decide +kernel
theorem dX13_load_86 : decode cX13_load 86 = .ok (.getfield 407, 3) := by decide +kernel
theorem dX13_load_89 : decode cX13_load 89 = .ok (.iconst 1, 1) := by decide +kernel
theorem dX13_load_90 : decode cX13_load 90 = .ok (.iadd, 1) := by decide +kernel
theorem dX13_load_91 : decode cX13_load 91 = .ok (.putfield 407, 3) := by decide +kernel
theorem dX13_load_94 : decode cX13_load 94 = .ok (.iconst 1, 1) := by decide +kernel
theorem dX13_load_95 : decode cX13_load 95 = .ok (.ireturn, 1) := by decide +kernel
theorem dX13_nextFor_0 : decode cX13_nextFor 0 = .ok (.iconst (-1), 1) := by decide +kernel
theorem dX13_nextFor_1 : decode cX13_nextFor 1 = .ok (.istore_n 2, 1) := by decide +kernel
theorem dX13_nextFor_2 : decode cX13_nextFor 2 = .ok (.iconst 0, 1) := by decide +kernel
theorem dX13_nextFor_3 : decode cX13_nextFor 3 = .ok (.istore_n 3, 1) := by decide +kernel
theorem dX13_nextFor_4 : decode cX13_nextFor 4 = .ok (.iload_n 3, 1) := by decide +kernel
theorem dX13_nextFor_5 : decode cX13_nextFor 5 = .ok (.aload_n 0, 1) := by decide +kernel
theorem dX13_nextFor_6 : decode cX13_nextFor 6 = .ok (.getfield 391, 3) := by decide +kernel
theorem dX13_nextFor_9 : decode cX13_nextFor 9 = .ok (.if_icmp .ge 89, 3) := by decide +kernel
theorem dX13_nextFor_12 : decode cX13_nextFor 12 = .ok (.aload_n 0, 1) := by decide +kernel
theorem dX13_nextFor_13 : decode cX13_nextFor 13 = .ok (.getfield 105, 3) := by decide +kernel
theorem dX13_nextFor_16 : decode cX13_nextFor 16 = .ok (.iload_n 3, 1) := by decide +kernel
theorem dX13_nextFor_17 : decode cX13_nextFor 17 = .ok (.iaload, 1) := by decide +kernel
theorem dX13_nextFor_18 : decode cX13_nextFor 18 = .ok (.iconst 1, 1) := by decide +kernel
theorem dX13_nextFor_19 : decode cX13_nextFor 19 = .ok (.if_icmp .ne 73, 3) := by decide +kernel
theorem dX13_nextFor_22 : decode cX13_nextFor 22 = .ok (.aload_n 0, 1) := by decide +kernel
theorem dX13_nextFor_23 : decode cX13_nextFor 23 = .ok (.getfield 108, 3) := by decide +kernel
theorem dX13_nextFor_26 : decode cX13_nextFor 26 = .ok (.iload_n 3, 1) := by decide +kernel
theorem dX13_nextFor_27 : decode cX13_nextFor 27 = .ok (.iaload, 1) := by decide +kernel
theorem dX13_nextFor_28 : decode cX13_nextFor 28 = .ok (.iload_n 1, 1) := by decide +kernel
theorem dX13_nextFor_29 : decode cX13_nextFor 29 = .ok (.if_icmp .eq 6, 3) := by decide +kernel
theorem dX13_nextFor_32 : decode cX13_nextFor 32 = .ok (.goto 60, 3) := by decide +kernel
theorem dX13_nextFor_35 : decode cX13_nextFor 35 = .ok (.aload_n 0, 1) := by decide +kernel
theorem dX13_nextFor_36 : decode cX13_nextFor 36 = .ok (.getfield 78, 3) := by decide +kernel
theorem dX13_nextFor_39 : decode cX13_nextFor 39 = .ok (.iload_n 1, 1) := by decide +kernel
theorem dX13_nextFor_40 : decode cX13_nextFor 40 = .ok (.iaload, 1) := by decide +kernel
theorem dX13_nextFor_41 : decode cX13_nextFor 41 = .ok (.ifCond .lt 30, 3) := by decide +kernel
theorem dX13_nextFor_44 : decode cX13_nextFor 44 = .ok (.aload_n 0, 1) := by decide +kernel
theorem dX13_nextFor_45 : decode cX13_nextFor 45 = .ok (.getfield 48, 3) := by decide +kernel
theorem dX13_nextFor_48 : decode cX13_nextFor 48 = .ok (.bipush 6, 2) := by decide +kernel
theorem dX13_nextFor_50 : decode cX13_nextFor 50 = .ok (.aload_n 0, 1) := by decide +kernel
theorem dX13_nextFor_51 : decode cX13_nextFor 51 = .ok (.getfield 78, 3) := by decide +kernel
theorem dX13_nextFor_54 : decode cX13_nextFor 54 = .ok (.iload_n 1, 1) := by decide +kernel
theorem dX13_nextFor_55 : decode cX13_nextFor 55 = .ok (.iaload, 1) := by decide +kernel
theorem dX13_nextFor_56 : decode cX13_nextFor 56 = .ok (.imul, 1) := by decide +kernel
theorem dX13_nextFor_57 : decode cX13_nextFor 57 = .ok (.aload_n 0, 1) := by decide +kernel
theorem dX13_nextFor_58 : decode cX13_nextFor 58 = .ok (.getfield 90, 3) := by decide +kernel
theorem dX13_nextFor_61 : decode cX13_nextFor 61 = .ok (.iload_n 3, 1) := by decide +kernel
theorem dX13_nextFor_62 : decode cX13_nextFor 62 = .ok (.iaload, 1) := by decide +kernel
theorem dX13_nextFor_63 : decode cX13_nextFor 63 = .ok (.iadd, 1) := by decide +kernel
theorem dX13_nextFor_64 : decode cX13_nextFor 64 = .ok (.iaload, 1) := by decide +kernel
theorem dX13_nextFor_65 : decode cX13_nextFor 65 = .ok (.ifCond .ge 6, 3) := by decide +kernel
theorem dX13_nextFor_68 : decode cX13_nextFor 68 = .ok (.goto 24, 3) := by decide +kernel
theorem dX13_nextFor_71 : decode cX13_nextFor 71 = .ok (.iload_n 2, 1) := by decide +kernel
theorem dX13_nextFor_72 : decode cX13_nextFor 72 = .ok (.ifCond .lt 18, 3) := by decide +kernel
theorem dX13_nextFor_75 : decode cX13_nextFor 75 = .ok (.aload_n 0, 1) := by decide +kernel
theorem dX13_nextFor_76 : decode cX13_nextFor 76 = .ok (.getfield 123, 3) := by decide +kernel
theorem dX13_nextFor_79 : decode cX13_nextFor 79 = .ok (.iload_n 3, 1) := by decide +kernel
theorem dX13_nextFor_80 : decode cX13_nextFor 80 = .ok (.iaload, 1) := by decide +kernel
theorem dX13_nextFor_81 : decode cX13_nextFor 81 = .ok (.aload_n 0, 1) := by decide +kernel
theorem dX13_nextFor_82 : decode cX13_nextFor 82 = .ok (.getfield 123, 3) := by decide +kernel
theorem dX13_nextFor_85 : decode cX13_nextFor 85 = .ok (.iload_n 2, 1) := by decide +kernel
theorem dX13_nextFor_86 : decode cX13_nextFor 86 = .ok (.iaload, 1) := by decide +kernel
theorem dX13_nextFor_87 : decode cX13_nextFor 87 = .ok (.if_icmp .ge 5, 3) := by decide +kernel
theorem dX13_nextFor_90 : decode cX13_nextFor 90 = .ok (.iload_n 3, 1) := by decide +kernel
theorem dX13_nextFor_91 : decode cX13_nextFor 91 = .ok (.istore_n 2, 1) := by decide +kernel
theorem dX13_nextFor_92 : decode cX13_nextFor 92 = .ok (.iinc 3 1, 3) := by decide +kernel
theorem dX13_nextFor_95 : decode cX13_nextFor 95 = .ok (.goto (-91), 3) := by decide +kernel
theorem dX13_nextFor_98 : decode cX13_nextFor 98 = .ok (.iload_n 2, 1) := by decide +kernel
theorem dX13_nextFor_99 : decode cX13_nextFor 99 = .ok (.ireturn, 1) := by decide +kernel
theorem dX13_bathes_0 : decode cX13_bathes 0 = .ok (.aload_n 0, 1) := by decide +kernel
theorem dX13_bathes_1 : decode cX13_bathes 1 = .ok (.getfield 24, 3) := by decide +kernel
theorem dX13_bathes_4 : decode cX13_bathes 4 = .ok (.bipush 20, 2) := by decide +kernel
theorem dX13_bathes_6 : decode cX13_bathes 6 = .ok (.iload_n 1, 1) := by decide +kernel
theorem dX13_bathes_7 : decode cX13_bathes 7 = .ok (.imul, 1) := by decide +kernel
theorem dX13_bathes_8 : decode cX13_bathes 8 = .ok (.aload_n 0, 1) := by decide +kernel
theorem dX13_bathes_9 : decode cX13_bathes 9 = .ok (.getfield 111, 3) := by decide +kernel
theorem dX13_bathes_12 : decode cX13_bathes 12 = .ok (.iload_n 1, 1) := by decide +kernel
theorem dX13_bathes_13 : decode cX13_bathes 13 = .ok (.iaload, 1) := by decide +kernel
theorem dX13_bathes_14 : decode cX13_bathes 14 = .ok (.iadd, 1) := by decide +kernel
theorem dX13_bathes_15 : decode cX13_bathes 15 = .ok (.iaload, 1) := by decide +kernel
theorem dX13_bathes_16 : decode cX13_bathes 16 = .ok (.istore_n 2, 1) := by decide +kernel
theorem dX13_bathes_17 : decode cX13_bathes 17 = .ok (.aload_n 0, 1) := by decide +kernel
theorem dX13_bathes_18 : decode cX13_bathes 18 = .ok (.getfield 27, 3) := by decide +kernel
theorem dX13_bathes_21 : decode cX13_bathes 21 = .ok (.bipush 20, 2) := by decide +kernel
theorem dX13_bathes_23 : decode cX13_bathes 23 = .ok (.iload_n 1, 1) := by decide +kernel
theorem dX13_bathes_24 : decode cX13_bathes 24 = .ok (.imul, 1) := by decide +kernel
theorem dX13_bathes_25 : decode cX13_bathes 25 = .ok (.aload_n 0, 1) := by decide +kernel
theorem dX13_bathes_26 : decode cX13_bathes 26 = .ok (.getfield 111, 3) := by decide +kernel
theorem dX13_bathes_29 : decode cX13_bathes 29 = .ok (.iload_n 1, 1) := by decide +kernel
theorem dX13_bathes_30 : decode cX13_bathes 30 = .ok (.iaload, 1) := by decide +kernel
theorem dX13_bathes_31 : decode cX13_bathes 31 = .ok (.iadd, 1) := by decide +kernel
theorem dX13_bathes_32 : decode cX13_bathes 32 = .ok (.iaload, 1) := by decide +kernel
theorem dX13_bathes_33 : decode cX13_bathes 33 = .ok (.istore_n 3, 1) := by decide +kernel
theorem dX13_bathes_34 : decode cX13_bathes 34 = .ok (.aload_n 0, 1) := by decide +kernel
theorem dX13_bathes_35 : decode cX13_bathes 35 = .ok (.getfield 87, 3) := by decide +kernel
theorem dX13_bathes_38 : decode cX13_bathes 38 = .ok (.iload_n 1, 1) := by decide +kernel
theorem dX13_bathes_39 : decode cX13_bathes 39 = .ok (.iaload, 1) := by decide +kernel
theorem dX13_bathes_40 : decode cX13_bathes 40 = .ok (.istore 4, 2) := by decide +kernel
theorem dX13_bathes_42 : decode cX13_bathes 42 = .ok (.iload 4, 2) := by decide +kernel
theorem dX13_bathes_44 : decode cX13_bathes 44 = .ok (.aload_n 0, 1) := by decide +kernel
theorem dX13_bathes_45 : decode cX13_bathes 45 = .ok (.getfield 69, 3) := by decide +kernel
theorem dX13_bathes_48 : decode cX13_bathes 48 = .ok (.bipush 8, 2) := by decide +kernel
theorem dX13_bathes_50 : decode cX13_bathes 50 = .ok (.iaload, 1) := by decide +kernel
theorem dX13_bathes_51 : decode cX13_bathes 51 = .ok (.imul, 1) := by decide +kernel
theorem dX13_bathes_52 : decode cX13_bathes 52 = .ok (.istore 5, 2) := by decide +kernel
theorem dX13_bathes_54 : decode cX13_bathes 54 = .ok (.aload_n 0, 1) := by decide +kernel
theorem dX13_bathes_55 : decode cX13_bathes 55 = .ok (.iload 5, 2) := by decide +kernel
theorem dX13_bathes_57 : decode cX13_bathes 57 = .ok (.aload_n 0, 1) := by decide +kernel
theorem dX13_bathes_58 : decode cX13_bathes 58 = .ok (.getfield 69, 3) := by decide +kernel
theorem dX13_bathes_61 : decode cX13_bathes 61 = .ok (.iload_n 2, 1) := by decide +kernel
theorem dX13_bathes_62 : decode cX13_bathes 62 = .ok (.iaload, 1) := by decide +kernel
theorem dX13_bathes_63 : decode cX13_bathes 63 = .ok (.invokevirtual 334, 3) := by decide +kernel
theorem dX13_bathes_66 : decode cX13_bathes 66 = .ok (.aload_n 0, 1) := by decide +kernel
theorem dX13_bathes_67 : decode cX13_bathes 67 = .ok (.iload_n 1, 1) := by decide +kernel
theorem dX13_bathes_68 : decode cX13_bathes 68 = .ok (.aload_n 0, 1) := by decide +kernel
theorem dX13_bathes_69 : decode cX13_bathes 69 = .ok (.getfield 84, 3) := by decide +kernel
theorem dX13_bathes_72 : decode cX13_bathes 72 = .ok (.iload_n 1, 1) := by decide +kernel
theorem dX13_bathes_73 : decode cX13_bathes 73 = .ok (.iaload, 1) := by decide +kernel
theorem dX13_bathes_74 : decode cX13_bathes 74 = .ok (.iload_n 2, 1) := by decide +kernel
theorem dX13_bathes_75 : decode cX13_bathes 75 = .ok (.iload_n 3, 1) := by decide +kernel
theorem dX13_bathes_76 : decode cX13_bathes 76 = .ok (.invokevirtual 251, 3) := by decide +kernel
theorem dX13_bathes_79 : decode cX13_bathes 79 = .ok (.aload_n 0, 1) := by decide +kernel
theorem dX13_bathes_80 : decode cX13_bathes 80 = .ok (.getfield 316, 3) := by decide +kernel
theorem dX13_bathes_83 : decode cX13_bathes 83 = .ok (.iload 4, 2) := by decide +kernel
theorem dX13_bathes_85 : decode cX13_bathes 85 = .ok (.iload_n 2, 1) := by decide +kernel
theorem dX13_bathes_86 : decode cX13_bathes 86 = .ok (.ifCond .ne 7, 3) := by decide +kernel
theorem dX13_bathes_89 : decode cX13_bathes 89 = .ok (.iload_n 3, 1) := by decide +kernel
theorem dX13_bathes_90 : decode cX13_bathes 90 = .ok (.goto 28, 3) := by decide +kernel
theorem dX13_bathes_93 : decode cX13_bathes 93 = .ok (.iload_n 2, 1) := by decide +kernel
theorem dX13_bathes_94 : decode cX13_bathes 94 = .ok (.iconst 1, 1) := by decide +kernel
theorem dX13_bathes_95 : decode cX13_bathes 95 = .ok (.if_icmp .ne 9, 3) := by decide +kernel
theorem dX13_bathes_98 : decode cX13_bathes 98 = .ok (.iconst 2, 1) := by decide +kernel
theorem dX13_bathes_99 : decode cX13_bathes 99 = .ok (.iload_n 3, 1) := by decide +kernel
theorem dX13_bathes_100 : decode cX13_bathes 100 = .ok (.imul, 1) := by decide +kernel
theorem dX13_bathes_101 : decode cX13_bathes 101 = .ok (.goto 17, 3) := by decide +kernel
theorem dX13_bathes_104 : decode cX13_bathes 104 = .ok (.iload_n 2, 1) := by decide +kernel
theorem dX13_bathes_105 : decode cX13_bathes 105 = .ok (.iconst 2, 1) := by decide +kernel
theorem dX13_bathes_106 : decode cX13_bathes 106 = .ok (.if_icmp .ne 11, 3) := by decide +kernel
theorem dX13_bathes_109 : decode cX13_bathes 109 = .ok (.iconst 3, 1) := by decide +kernel
theorem dX13_bathes_110 : decode cX13_bathes 110 = .ok (.iload_n 3, 1) := by decide +kernel
theorem dX13_bathes_111 : decode cX13_bathes 111 = .ok (.imul, 1) := by decide +kernel
theorem dX13_bathes_112 : decode cX13_bathes 112 = .ok (.iconst 5, 1) := by decide +kernel
theorem dX13_bathes_113 : decode cX13_bathes 113 = .ok (.iadd, 1) := by decide +kernel
theorem dX13_bathes_114 : decode cX13_bathes 114 = .ok (.goto 4, 3) := by decide +kernel
theorem dX13_bathes_117 : decode cX13_bathes 117 = .ok (.iconst 1, 1) := by decide +kernel
theorem dX13_bathes_118 : decode cX13_bathes 118 = .ok (.imul, 1) := by decide +kernel
theorem dX13_bathes_119 : decode cX13_bathes 119 = .ok (.iadd, 1) := by decide +kernel
theorem dX13_bathes_120 : decode cX13_bathes 120 = .ok (.istore 6, 2) := by decide +kernel
theorem dX13_bathes_122 : decode cX13_bathes 122 = .ok (.aload_n 0, 1) := by decide +kernel
theorem dX13_bathes_123 : decode cX13_bathes 123 = .ok (.getfield 69, 3) := by decide +kernel
theorem dX13_bathes_126 : decode cX13_bathes 126 = .ok (.iconst 4, 1) := by decide +kernel
theorem dX13_bathes_127 : decode cX13_bathes 127 = .ok (.iload_n 2, 1) := by decide +kernel
theorem dX13_bathes_128 : decode cX13_bathes 128 = .ok (.iadd, 1) := by decide +kernel
theorem dX13_bathes_129 : decode cX13_bathes 129 = .ok (.iaload, 1) := by decide +kernel
theorem dX13_bathes_130 : decode cX13_bathes 130 = .ok (.istore 7, 2) := by decide +kernel
theorem dX13_bathes_132 : decode cX13_bathes 132 = .ok (.iload 7, 2) := by decide +kernel
theorem dX13_bathes_134 : decode cX13_bathes 134 = .ok (.iconst 0, 1) := by decide +kernel
theorem dX13_bathes_135 : decode cX13_bathes 135 = .ok (.aload_n 0, 1) := by decide +kernel
theorem dX13_bathes_136 : decode cX13_bathes 136 = .ok (.getfield 308, 3) := by decide +kernel
theorem dX13_bathes_139 : decode cX13_bathes 139 = .ok (.iconst 1, 1) := by decide +kernel
theorem dX13_bathes_140 : decode cX13_bathes 140 = .ok (.isub, 1) := by decide +kernel
theorem dX13_bathes_141 : decode cX13_bathes 141 = .ok (.invokestatic 234, 3) := by decide +kernel
theorem dX13_bathes_144 : decode cX13_bathes 144 = .ok (.ifCond .eq 16, 3) := by decide +kernel
theorem dX13_bathes_147 : decode cX13_bathes 147 = .ok (.aload_n 0, 1) := by decide +kernel
theorem dX13_bathes_148 : decode cX13_bathes 148 = .ok (.iload 7, 2) := by decide +kernel
theorem dX13_bathes_150 : decode cX13_bathes 150 = .ok (.iload 5, 2) := by decide +kernel
theorem dX13_bathes_152 : decode cX13_bathes 152 = .ok (.iload 6, 2) := by decide +kernel
theorem dX13_bathes_154 : decode cX13_bathes 154 = .ok (.invokevirtual 341, 3) := by decide +kernel
theorem dX13_bathes_157 : decode cX13_bathes 157 = .ok (.goto 25, 3) := by decide +kernel
theorem dX13_bathes_160 : decode cX13_bathes 160 = .ok (.aload_n 0, 1) := by decide +kernel
theorem dX13_bathes_161 : decode cX13_bathes 161 = .ok (.dup, 1) := by decide +kernel
theorem dX13_bathes_162 : decode cX13_bathes 162 = .ok (.getfield 328, 3) := by decide +kernel
theorem dX13_bathes_165 : decode cX13_bathes 165 = .ok (.iload 5, 2) := by decide +kernel
theorem dX13_bathes_167 : decode cX13_bathes 167 = .ok (.iadd, 1) := by decide +kernel
theorem dX13_bathes_168 : decode cX13_bathes 168 = .ok (.putfield 328, 3) := by decide +kernel
theorem dX13_bathes_171 : decode cX13_bathes 171 = .ok (.aload_n 0, 1) := by decide +kernel
theorem dX13_bathes_172 : decode cX13_bathes 172 = .ok (.dup, 1) := by decide +kernel
theorem dX13_bathes_173 : decode cX13_bathes 173 = .ok (.getfield 331, 3) := by decide +kernel
theorem dX13_bathes_176 : decode cX13_bathes 176 = .ok (.iload 6, 2) := by decide +kernel
theorem dX13_bathes_178 : decode cX13_bathes 178 = .ok (.iadd, 1) := by decide +kernel
theorem dX13_bathes_179 : decode cX13_bathes 179 = .ok (.putfield 331, 3) := by decide +kernel
theorem dX13_bathes_182 : decode cX13_bathes 182 = .ok (.aload_n 0, 1) := by decide +kernel
theorem dX13_bathes_183 : decode cX13_bathes 183 = .ok (.getfield 111, 3) := by decide +kernel
theorem dX13_bathes_186 : decode cX13_bathes 186 = .ok (.iload_n 1, 1) := by decide +kernel
theorem dX13_bathes_187 : decode cX13_bathes 187 = .ok (.dup2, 1) := by decide +kernel
theorem dX13_bathes_188 : decode cX13_bathes 188 = .ok (.iaload, 1) := by decide +kernel
theorem dX13_bathes_189 : decode cX13_bathes 189 = .ok (.iconst 1, 1) := by decide +kernel
theorem dX13_bathes_190 : decode cX13_bathes 190 = .ok (.iadd, 1) := by decide +kernel
theorem dX13_bathes_191 : decode cX13_bathes 191 = .ok (.iastore, 1) := by decide +kernel
theorem dX13_bathes_192 : decode cX13_bathes 192 = .ok (.return_, 1) := by decide +kernel
theorem dX13_washes_0 : decode cX13_washes 0 = .ok (.aload_n 0, 1) := by decide +kernel
theorem dX13_washes_1 : decode cX13_washes 1 = .ok (.getfield 75, 3) := by decide +kernel
theorem dX13_washes_4 : decode cX13_washes 4 = .ok (.iload_n 1, 1) := by decide +kernel
theorem dX13_washes_5 : decode cX13_washes 5 = .ok (.iaload, 1) := by decide +kernel
theorem dX13_washes_6 : decode cX13_washes 6 = .ok (.istore_n 2, 1) := by decide +kernel
theorem dX13_washes_7 : decode cX13_washes 7 = .ok (.aload_n 0, 1) := by decide +kernel
theorem dX13_washes_8 : decode cX13_washes 8 = .ok (.getfield 111, 3) := by decide +kernel
theorem dX13_washes_11 : decode cX13_washes 11 = .ok (.iload_n 2, 1) := by decide +kernel
theorem dX13_washes_12 : decode cX13_washes 12 = .ok (.iaload, 1) := by decide +kernel
theorem dX13_washes_13 : decode cX13_washes 13 = .ok (.aload_n 0, 1) := by decide +kernel
theorem dX13_washes_14 : decode cX13_washes 14 = .ok (.getfield 21, 3) := by decide +kernel
theorem dX13_washes_17 : decode cX13_washes 17 = .ok (.iload_n 2, 1) := by decide +kernel
theorem dX13_washes_18 : decode cX13_washes 18 = .ok (.iaload, 1) := by decide +kernel
theorem dX13_washes_19 : decode cX13_washes 19 = .ok (.if_icmp .ge 4, 3) := by decide +kernel
theorem dX13_washes_22 : decode cX13_washes 22 = .ok (.return_, 1) := by decide +kernel
theorem dX13_washes_23 : decode cX13_washes 23 = .ok (.aload_n 0, 1) := by decide +kernel
theorem dX13_washes_24 : decode cX13_washes 24 = .ok (.getfield 105, 3) := by decide +kernel
theorem dX13_washes_27 : decode cX13_washes 27 = .ok (.iload_n 2, 1) := by decide +kernel
theorem dX13_washes_28 : decode cX13_washes 28 = .ok (.iconst 3, 1) := by decide +kernel
theorem dX13_washes_29 : decode cX13_washes 29 = .ok (.iastore, 1) := by decide +kernel
theorem dX13_washes_30 : decode cX13_washes 30 = .ok (.aload_n 0, 1) := by decide +kernel
theorem dX13_washes_31 : decode cX13_washes 31 = .ok (.getfield 114, 3) := by decide +kernel
theorem dX13_washes_34 : decode cX13_washes 34 = .ok (.iload_n 2, 1) := by decide +kernel
theorem dX13_washes_35 : decode cX13_washes 35 = .ok (.aload_n 0, 1) := by decide +kernel
theorem dX13_washes_36 : decode cX13_washes 36 = .ok (.getfield 410, 3) := by decide +kernel
theorem dX13_washes_39 : decode cX13_washes 39 = .ok (.iastore, 1) := by decide +kernel
theorem dX13_washes_40 : decode cX13_washes 40 = .ok (.aload_n 0, 1) := by decide +kernel
theorem dX13_washes_41 : decode cX13_washes 41 = .ok (.getfield 108, 3) := by decide +kernel
theorem dX13_washes_44 : decode cX13_washes 44 = .ok (.iload_n 2, 1) := by decide +kernel
theorem dX13_washes_45 : decode cX13_washes 45 = .ok (.iconst (-1), 1) := by decide +kernel
theorem dX13_washes_46 : decode cX13_washes 46 = .ok (.iastore, 1) := by decide +kernel
theorem dX13_washes_47 : decode cX13_washes 47 = .ok (.aload_n 0, 1) := by decide +kernel
theorem dX13_washes_48 : decode cX13_washes 48 = .ok (.getfield 75, 3) := by decide +kernel
theorem dX13_washes_51 : decode cX13_washes 51 = .ok (.iload_n 1, 1) := by decide +kernel
theorem dX13_washes_52 : decode cX13_washes 52 = .ok (.iconst (-1), 1) := by decide +kernel
theorem dX13_washes_53 : decode cX13_washes 53 = .ok (.iastore, 1) := by decide +kernel
theorem dX13_washes_54 : decode cX13_washes 54 = .ok (.return_, 1) := by decide +kernel
theorem dX13_step_0 : decode cX13_step 0 = .ok (.aload_n 0, 1) := by decide +kernel
theorem dX13_step_1 : decode cX13_step 1 = .ok (.getfield 75, 3) := by decide +kernel
theorem dX13_step_4 : decode cX13_step 4 = .ok (.iload_n 1, 1) := by decide +kernel
theorem dX13_step_5 : decode cX13_step 5 = .ok (.iaload, 1) := by decide +kernel
theorem dX13_step_6 : decode cX13_step 6 = .ok (.ifCond .lt 74, 3) := by decide +kernel
theorem dX13_step_9 : decode cX13_step 9 = .ok (.bipush 20, 2) := by decide +kernel
theorem dX13_step_11 : decode cX13_step 11 = .ok (.aload_n 0, 1) := by decide +kernel
theorem dX13_step_12 : decode cX13_step 12 = .ok (.getfield 75, 3) := by decide +kernel
theorem dX13_step_15 : decode cX13_step 15 = .ok (.iload_n 1, 1) := by decide +kernel
theorem dX13_step_16 : decode cX13_step 16 = .ok (.iaload, 1) := by decide +kernel
theorem dX13_step_17 : decode cX13_step 17 = .ok (.imul, 1) := by decide +kernel
theorem dX13_step_18 : decode cX13_step 18 = .ok (.aload_n 0, 1) := by decide +kernel
theorem dX13_step_19 : decode cX13_step 19 = .ok (.getfield 111, 3) := by decide +kernel
theorem dX13_step_22 : decode cX13_step 22 = .ok (.aload_n 0, 1) := by decide +kernel
theorem dX13_step_23 : decode cX13_step 23 = .ok (.getfield 75, 3) := by decide +kernel
theorem dX13_step_26 : decode cX13_step 26 = .ok (.iload_n 1, 1) := by decide +kernel
theorem dX13_step_27 : decode cX13_step 27 = .ok (.iaload, 1) := by decide +kernel
theorem dX13_step_28 : decode cX13_step 28 = .ok (.iaload, 1) := by decide +kernel
theorem dX13_step_29 : decode cX13_step 29 = .ok (.iadd, 1) := by decide +kernel
theorem dX13_step_30 : decode cX13_step 30 = .ok (.istore_n 3, 1) := by decide +kernel
theorem dX13_step_31 : decode cX13_step 31 = .ok (.aload_n 0, 1) := by decide +kernel
theorem dX13_step_32 : decode cX13_step 32 = .ok (.getfield 69, 3) := by decide +kernel
theorem dX13_step_35 : decode cX13_step 35 = .ok (.bipush 9, 2) := by decide +kernel
theorem dX13_step_37 : decode cX13_step 37 = .ok (.aload_n 0, 1) := by decide +kernel
theorem dX13_step_38 : decode cX13_step 38 = .ok (.getfield 24, 3) := by decide +kernel
theorem dX13_step_41 : decode cX13_step 41 = .ok (.iload_n 3, 1) := by decide +kernel
theorem dX13_step_42 : decode cX13_step 42 = .ok (.iaload, 1) := by decide +kernel
theorem dX13_step_43 : decode cX13_step 43 = .ok (.iadd, 1) := by decide +kernel
theorem dX13_step_44 : decode cX13_step 44 = .ok (.iaload, 1) := by decide +kernel
theorem dX13_step_45 : decode cX13_step 45 = .ok (.aload_n 0, 1) := by decide +kernel
theorem dX13_step_46 : decode cX13_step 46 = .ok (.getfield 27, 3) := by decide +kernel
theorem dX13_step_49 : decode cX13_step 49 = .ok (.iload_n 3, 1) := by decide +kernel
theorem dX13_step_50 : decode cX13_step 50 = .ok (.iaload, 1) := by decide +kernel
theorem dX13_step_51 : decode cX13_step 51 = .ok (.imul, 1) := by decide +kernel
theorem dX13_step_52 : decode cX13_step 52 = .ok (.istore 4, 2) := by decide +kernel
theorem dX13_step_54 : decode cX13_step 54 = .ok (.iload 4, 2) := by decide +kernel
theorem dX13_step_56 : decode cX13_step 56 = .ok (.iload_n 2, 1) := by decide +kernel
theorem dX13_step_57 : decode cX13_step 57 = .ok (.if_icmp .le 5, 3) := by decide +kernel
theorem dX13_step_60 : decode cX13_step 60 = .ok (.iconst (-1), 1) := by decide +kernel
theorem dX13_step_61 : decode cX13_step 61 = .ok (.ireturn, 1) := by decide +kernel
theorem dX13_step_62 : decode cX13_step 62 = .ok (.aload_n 0, 1) := by decide +kernel
theorem dX13_step_63 : decode cX13_step 63 = .ok (.aload_n 0, 1) := by decide +kernel
theorem dX13_step_64 : decode cX13_step 64 = .ok (.getfield 75, 3) := by decide +kernel
theorem dX13_step_67 : decode cX13_step 67 = .ok (.iload_n 1, 1) := by decide +kernel
theorem dX13_step_68 : decode cX13_step 68 = .ok (.iaload, 1) := by decide +kernel
theorem dX13_step_69 : decode cX13_step 69 = .ok (.invokevirtual 413, 3) := by decide +kernel
theorem dX13_step_72 : decode cX13_step 72 = .ok (.aload_n 0, 1) := by decide +kernel
theorem dX13_step_73 : decode cX13_step 73 = .ok (.iload_n 1, 1) := by decide +kernel
theorem dX13_step_74 : decode cX13_step 74 = .ok (.invokevirtual 417, 3) := by decide +kernel
theorem dX13_step_77 : decode cX13_step 77 = .ok (.iload 4, 2) := by decide +kernel
theorem dX13_step_79 : decode cX13_step 79 = .ok (.ireturn, 1) := by decide +kernel
theorem dX13_step_80 : decode cX13_step 80 = .ok (.aload_n 0, 1) := by decide +kernel
theorem dX13_step_81 : decode cX13_step 81 = .ok (.iload_n 1, 1) := by decide +kernel
theorem dX13_step_82 : decode cX13_step 82 = .ok (.invokevirtual 420, 3) := by decide +kernel
theorem dX13_step_85 : decode cX13_step 85 = .ok (.istore_n 3, 1) := by decide +kernel
theorem dX13_step_86 : decode cX13_step 86 = .ok (.iload_n 3, 1) := by decide +kernel
theorem dX13_step_87 : decode cX13_step 87 = .ok (.ifCond .lt 12, 3) := by decide +kernel
theorem dX13_step_90 : decode cX13_step 90 = .ok (.aload_n 0, 1) := by decide +kernel
theorem dX13_step_91 : decode cX13_step 91 = .ok (.getfield 78, 3) := by decide +kernel
theorem dX13_step_94 : decode cX13_step 94 = .ok (.iload_n 1, 1) := by decide +kernel
theorem dX13_step_95 : decode cX13_step 95 = .ok (.iaload, 1) := by decide +kernel
theorem dX13_step_96 : decode cX13_step 96 = .ok (.ifCond .ge 7, 3) := by decide +kernel
theorem dX13_step_99 : decode cX13_step 99 = .ok (.iconst 0, 1) := by decide +kernel
theorem dX13_step_100 : decode cX13_step 100 = .ok (.goto 24, 3) := by decide +kernel
theorem dX13_step_103 : decode cX13_step 103 = .ok (.aload_n 0, 1) := by decide +kernel
theorem dX13_step_104 : decode cX13_step 104 = .ok (.getfield 48, 3) := by decide +kernel
theorem dX13_step_107 : decode cX13_step 107 = .ok (.bipush 6, 2) := by decide +kernel
theorem dX13_step_109 : decode cX13_step 109 = .ok (.aload_n 0, 1) := by decide +kernel
theorem dX13_step_110 : decode cX13_step 110 = .ok (.getfield 78, 3) := by decide +kernel
theorem dX13_step_113 : decode cX13_step 113 = .ok (.iload_n 1, 1) := by decide +kernel
theorem dX13_step_114 : decode cX13_step 114 = .ok (.iaload, 1) := by decide +kernel
theorem dX13_step_115 : decode cX13_step 115 = .ok (.imul, 1) := by decide +kernel
theorem dX13_step_116 : decode cX13_step 116 = .ok (.aload_n 0, 1) := by decide +kernel
theorem dX13_step_117 : decode cX13_step 117 = .ok (.getfield 90, 3) := by decide +kernel
theorem dX13_step_120 : decode cX13_step 120 = .ok (.iload_n 3, 1) := by decide +kernel
theorem dX13_step_121 : decode cX13_step 121 = .ok (.iaload, 1) := by decide +kernel
theorem dX13_step_122 : decode cX13_step 122 = .ok (.iadd, 1) := by decide +kernel
theorem dX13_step_123 : decode cX13_step 123 = .ok (.iaload, 1) := by decide +kernel
theorem dX13_step_124 : decode cX13_step 124 = .ok (.istore 4, 2) := by decide +kernel
theorem dX13_step_126 : decode cX13_step 126 = .ok (.iload_n 3, 1) := by decide +kernel
theorem dX13_step_127 : decode cX13_step 127 = .ok (.ifCond .lt 9, 3) := by decide +kernel
theorem dX13_step_130 : decode cX13_step 130 = .ok (.iload 4, 2) := by decide +kernel
theorem dX13_step_132 : decode cX13_step 132 = .ok (.iload_n 2, 1) := by decide +kernel
theorem dX13_step_133 : decode cX13_step 133 = .ok (.if_icmp .le 5, 3) := by decide +kernel
theorem dX13_step_136 : decode cX13_step 136 = .ok (.iconst (-1), 1) := by decide +kernel
theorem dX13_step_137 : decode cX13_step 137 = .ok (.ireturn, 1) := by decide +kernel
theorem dX13_step_138 : decode cX13_step 138 = .ok (.aload_n 0, 1) := by decide +kernel
theorem dX13_step_139 : decode cX13_step 139 = .ok (.dup, 1) := by decide +kernel
theorem dX13_step_140 : decode cX13_step 140 = .ok (.getfield 322, 3) := by decide +kernel
theorem dX13_step_143 : decode cX13_step 143 = .ok (.iload 4, 2) := by decide +kernel
theorem dX13_step_145 : decode cX13_step 145 = .ok (.iadd, 1) := by decide +kernel
theorem dX13_step_146 : decode cX13_step 146 = .ok (.putfield 322, 3) := by decide +kernel
theorem dX13_step_149 : decode cX13_step 149 = .ok (.aload_n 0, 1) := by decide +kernel
theorem dX13_step_150 : decode cX13_step 150 = .ok (.dup, 1) := by decide +kernel
theorem dX13_step_151 : decode cX13_step 151 = .ok (.getfield 328, 3) := by decide +kernel
theorem dX13_step_154 : decode cX13_step 154 = .ok (.iload 4, 2) := by decide +kernel
theorem dX13_step_156 : decode cX13_step 156 = .ok (.iadd, 1) := by decide +kernel
theorem dX13_step_157 : decode cX13_step 157 = .ok (.putfield 328, 3) := by decide +kernel
theorem dX13_step_160 : decode cX13_step 160 = .ok (.aload_n 0, 1) := by decide +kernel
theorem dX13_step_161 : decode cX13_step 161 = .ok (.dup, 1) := by decide +kernel
theorem dX13_step_162 : decode cX13_step 162 = .ok (.getfield 331, 3) := by decide +kernel
theorem dX13_step_165 : decode cX13_step 165 = .ok (.iload 4, 2) := by decide +kernel
theorem dX13_step_167 : decode cX13_step 167 = .ok (.iadd, 1) := by decide +kernel
theorem dX13_step_168 : decode cX13_step 168 = .ok (.putfield 331, 3) := by decide +kernel
theorem dX13_step_171 : decode cX13_step 171 = .ok (.aload_n 0, 1) := by decide +kernel
theorem dX13_step_172 : decode cX13_step 172 = .ok (.getfield 105, 3) := by decide +kernel
theorem dX13_step_175 : decode cX13_step 175 = .ok (.iload_n 3, 1) := by decide +kernel
theorem dX13_step_176 : decode cX13_step 176 = .ok (.iconst 2, 1) := by decide +kernel
theorem dX13_step_177 : decode cX13_step 177 = .ok (.iastore, 1) := by decide +kernel
theorem dX13_step_178 : decode cX13_step 178 = .ok (.aload_n 0, 1) := by decide +kernel
theorem dX13_step_179 : decode cX13_step 179 = .ok (.getfield 75, 3) := by decide +kernel
theorem dX13_step_182 : decode cX13_step 182 = .ok (.iload_n 1, 1) := by decide +kernel
theorem dX13_step_183 : decode cX13_step 183 = .ok (.iload_n 3, 1) := by decide +kernel
theorem dX13_step_184 : decode cX13_step 184 = .ok (.iastore, 1) := by decide +kernel
theorem dX13_step_185 : decode cX13_step 185 = .ok (.aload_n 0, 1) := by decide +kernel
theorem dX13_step_186 : decode cX13_step 186 = .ok (.getfield 78, 3) := by decide +kernel
theorem dX13_step_189 : decode cX13_step 189 = .ok (.iload_n 1, 1) := by decide +kernel
theorem dX13_step_190 : decode cX13_step 190 = .ok (.aload_n 0, 1) := by decide +kernel
theorem dX13_step_191 : decode cX13_step 191 = .ok (.getfield 90, 3) := by decide +kernel
theorem dX13_step_194 : decode cX13_step 194 = .ok (.iload_n 3, 1) := by decide +kernel
theorem dX13_step_195 : decode cX13_step 195 = .ok (.iaload, 1) := by decide +kernel
theorem dX13_step_196 : decode cX13_step 196 = .ok (.iastore, 1) := by decide +kernel
theorem dX13_step_197 : decode cX13_step 197 = .ok (.aload_n 0, 1) := by decide +kernel
theorem dX13_step_198 : decode cX13_step 198 = .ok (.iload_n 1, 1) := by decide +kernel
theorem dX13_step_199 : decode cX13_step 199 = .ok (.invokevirtual 417, 3) := by decide +kernel
theorem dX13_step_202 : decode cX13_step 202 = .ok (.iload 4, 2) := by decide +kernel
theorem dX13_step_204 : decode cX13_step 204 = .ok (.ireturn, 1) := by decide +kernel
theorem dX13_days_0 : decode cX13_days 0 = .ok (.aload_n 0, 1) := by decide +kernel
theorem dX13_days_1 : decode cX13_days 1 = .ok (.iconst 0, 1) := by decide +kernel
theorem dX13_days_2 : decode cX13_days 2 = .ok (.putfield 159, 3) := by decide +kernel
theorem dX13_days_5 : decode cX13_days 5 = .ok (.aload_n 0, 1) := by decide +kernel
theorem dX13_days_6 : decode cX13_days 6 = .ok (.iload_n 1, 1) := by decide +kernel
theorem dX13_days_7 : decode cX13_days 7 = .ok (.iconst 0, 1) := by decide +kernel
theorem dX13_days_8 : decode cX13_days 8 = .ok (.bipush 60, 2) := by decide +kernel
theorem dX13_days_10 : decode cX13_days 10 = .ok (.invokestatic 234, 3) := by decide +kernel
theorem dX13_days_13 : decode cX13_days 13 = .ok (.ifCond .ne 7, 3) := by decide +kernel
theorem dX13_days_16 : decode cX13_days 16 = .ok (.iconst 1, 1) := by decide +kernel
theorem dX13_days_17 : decode cX13_days 17 = .ok (.goto 4, 3) := by decide +kernel
theorem dX13_days_20 : decode cX13_days 20 = .ok (.iconst 0, 1) := by decide +kernel
theorem dX13_days_21 : decode cX13_days 21 = .ok (.iconst 1, 1) := by decide +kernel
theorem dX13_days_22 : decode cX13_days 22 = .ok (.invokevirtual 223, 3) := by decide +kernel
theorem dX13_days_25 : decode cX13_days 25 = .ok (.ifCond .eq 5, 3) := by decide +kernel
theorem dX13_days_28 : decode cX13_days 28 = .ok (.iconst 0, 1) := by decide +kernel
theorem dX13_days_29 : decode cX13_days 29 = .ok (.ireturn, 1) := by decide +kernel
theorem dX13_days_30 : decode cX13_days 30 = .ok (.iconst 0, 1) := by decide +kernel
theorem dX13_days_31 : decode cX13_days 31 = .ok (.istore_n 2, 1) := by decide +kernel
theorem dX13_days_32 : decode cX13_days 32 = .ok (.iload_n 2, 1) := by decide +kernel
theorem dX13_days_33 : decode cX13_days 33 = .ok (.iload_n 1, 1) := by decide +kernel
theorem dX13_days_34 : decode cX13_days 34 = .ok (.if_icmp .ge 94, 3) := by decide +kernel
theorem dX13_days_37 : decode cX13_days 37 = .ok (.aload_n 0, 1) := by decide +kernel
theorem dX13_days_38 : decode cX13_days 38 = .ok (.getfield 410, 3) := by decide +kernel
theorem dX13_days_41 : decode cX13_days 41 = .ok (.sipush 400, 3) := by decide +kernel
theorem dX13_days_44 : decode cX13_days 44 = .ok (.if_icmp .ge 84, 3) := by decide +kernel
theorem dX13_days_47 : decode cX13_days 47 = .ok (.aload_n 0, 1) := by decide +kernel
theorem dX13_days_48 : decode cX13_days 48 = .ok (.dup, 1) := by decide +kernel
theorem dX13_days_49 : decode cX13_days 49 = .ok (.getfield 410, 3) := by decide +kernel
theorem dX13_days_52 : decode cX13_days 52 = .ok (.iconst 1, 1) := by decide +kernel
theorem dX13_days_53 : decode cX13_days 53 = .ok (.iadd, 1) := by decide +kernel
theorem dX13_days_54 : decode cX13_days 54 = .ok (.putfield 410, 3) := by decide +kernel
theorem dX13_days_57 : decode cX13_days 57 = .ok (.iconst 0, 1) := by decide +kernel
theorem dX13_days_58 : decode cX13_days 58 = .ok (.istore_n 3, 1) := by decide +kernel
theorem dX13_days_59 : decode cX13_days 59 = .ok (.iload_n 3, 1) := by decide +kernel
theorem dX13_days_60 : decode cX13_days 60 = .ok (.aload_n 0, 1) := by decide +kernel
theorem dX13_days_61 : decode cX13_days 61 = .ok (.getfield 394, 3) := by decide +kernel
theorem dX13_days_64 : decode cX13_days 64 = .ok (.if_icmp .ge 58, 3) := by decide +kernel
theorem dX13_days_67 : decode cX13_days 67 = .ok (.sipush 480, 3) := by decide +kernel
theorem dX13_days_70 : decode cX13_days 70 = .ok (.istore 4, 2) := by decide +kernel
theorem dX13_days_72 : decode cX13_days 72 = .ok (.aload_n 0, 1) := by decide +kernel
theorem dX13_days_73 : decode cX13_days 73 = .ok (.iload_n 3, 1) := by decide +kernel
theorem dX13_days_74 : decode cX13_days 74 = .ok (.iload 4, 2) := by decide +kernel
theorem dX13_days_76 : decode cX13_days 76 = .ok (.invokevirtual 423, 3) := by decide +kernel
theorem dX13_days_79 : decode cX13_days 79 = .ok (.istore 5, 2) := by decide +kernel
theorem dX13_days_81 : decode cX13_days 81 = .ok (.iload 5, 2) := by decide +kernel
theorem dX13_days_83 : decode cX13_days 83 = .ok (.ifCond .lt 33, 3) := by decide +kernel
theorem dX13_days_86 : decode cX13_days 86 = .ok (.iload 4, 2) := by decide +kernel
theorem dX13_days_88 : decode cX13_days 88 = .ok (.iload 5, 2) := by decide +kernel
theorem dX13_days_90 : decode cX13_days 90 = .ok (.isub, 1) := by decide +kernel
theorem dX13_days_91 : decode cX13_days 91 = .ok (.istore 4, 2) := by decide +kernel
theorem dX13_days_93 : decode cX13_days 93 = .ok (.aload_n 0, 1) := by decide +kernel
theorem dX13_days_94 : decode cX13_days 94 = .ok (.getfield 81, 3) := by decide +kernel
theorem dX13_days_97 : decode cX13_days 97 = .ok (.iload_n 3, 1) := by decide +kernel
theorem dX13_days_98 : decode cX13_days 98 = .ok (.dup2, 1) := by decide +kernel
theorem dX13_days_99 : decode cX13_days 99 = .ok (.iaload, 1) := by decide +kernel
theorem dX13_days_100 : decode cX13_days 100 = .ok (.iload 5, 2) := by decide +kernel
theorem dX13_days_102 : decode cX13_days 102 = .ok (.iadd, 1) := by decide +kernel
theorem dX13_days_103 : decode cX13_days 103 = .ok (.iastore, 1) := by decide +kernel
theorem dX13_days_104 : decode cX13_days 104 = .ok (.aload_n 0, 1) := by decide +kernel
theorem dX13_days_105 : decode cX13_days 105 = .ok (.iload_n 3, 1) := by decide +kernel
theorem dX13_days_106 : decode cX13_days 106 = .ok (.iload 4, 2) := by decide +kernel
theorem dX13_days_108 : decode cX13_days 108 = .ok (.invokevirtual 423, 3) := by decide +kernel
theorem dX13_days_111 : decode cX13_days 111 = .ok (.istore 5, 2) := by decide +kernel
theorem dX13_days_113 : decode cX13_days 113 = .ok (.goto (-32), 3) := by decide +kernel
theorem dX13_days_116 : decode cX13_days 116 = .ok (.iinc 3 1, 3) := by decide +kernel
theorem dX13_days_119 : decode cX13_days 119 = .ok (.goto (-60), 3) := by decide +kernel
theorem dX13_days_122 : decode cX13_days 122 = .ok (.iinc 2 1, 3) := by decide +kernel
theorem dX13_days_125 : decode cX13_days 125 = .ok (.goto (-93), 3) := by decide +kernel
theorem dX13_days_128 : decode cX13_days 128 = .ok (.aload_n 0, 1) := by decide +kernel
theorem dX13_days_129 : decode cX13_days 129 = .ok (.getfield 410, 3) := by decide +kernel
theorem dX13_days_132 : decode cX13_days 132 = .ok (.ireturn, 1) := by decide +kernel
theorem dX13_piecesOf_0 : decode cX13_piecesOf 0 = .ok (.iconst 0, 1) := by decide +kernel
theorem dX13_piecesOf_1 : decode cX13_piecesOf 1 = .ok (.istore_n 3, 1) := by decide +kernel
theorem dX13_piecesOf_2 : decode cX13_piecesOf 2 = .ok (.iconst 0, 1) := by decide +kernel
theorem dX13_piecesOf_3 : decode cX13_piecesOf 3 = .ok (.istore 4, 2) := by decide +kernel
theorem dX13_piecesOf_5 : decode cX13_piecesOf 5 = .ok (.iload 4, 2) := by decide +kernel
theorem dX13_piecesOf_7 : decode cX13_piecesOf 7 = .ok (.aload_n 0, 1) := by decide +kernel
theorem dX13_piecesOf_8 : decode cX13_piecesOf 8 = .ok (.getfield 87, 3) := by decide +kernel
theorem dX13_piecesOf_11 : decode cX13_piecesOf 11 = .ok (.iload_n 1, 1) := by decide +kernel
theorem dX13_piecesOf_12 : decode cX13_piecesOf 12 = .ok (.iaload, 1) := by decide +kernel
theorem dX13_piecesOf_13 : decode cX13_piecesOf 13 = .ok (.if_icmp .ge 33, 3) := by decide +kernel
theorem dX13_piecesOf_16 : decode cX13_piecesOf 16 = .ok (.iload_n 3, 1) := by decide +kernel
theorem dX13_piecesOf_17 : decode cX13_piecesOf 17 = .ok (.aload_n 0, 1) := by decide +kernel
theorem dX13_piecesOf_18 : decode cX13_piecesOf 18 = .ok (.getfield 126, 3) := by decide +kernel
theorem dX13_piecesOf_21 : decode cX13_piecesOf 21 = .ok (.bipush 60, 2) := by decide +kernel
theorem dX13_piecesOf_23 : decode cX13_piecesOf 23 = .ok (.iload_n 1, 1) := by decide +kernel
theorem dX13_piecesOf_24 : decode cX13_piecesOf 24 = .ok (.imul, 1) := by decide +kernel
theorem dX13_piecesOf_25 : decode cX13_piecesOf 25 = .ok (.iload 4, 2) := by decide +kernel
theorem dX13_piecesOf_27 : decode cX13_piecesOf 27 = .ok (.iadd, 1) := by decide +kernel
theorem dX13_piecesOf_28 : decode cX13_piecesOf 28 = .ok (.iaload, 1) := by decide +kernel
theorem dX13_piecesOf_29 : decode cX13_piecesOf 29 = .ok (.iload_n 2, 1) := by decide +kernel
theorem dX13_piecesOf_30 : decode cX13_piecesOf 30 = .ok (.if_icmp .ne 7, 3) := by decide +kernel
theorem dX13_piecesOf_33 : decode cX13_piecesOf 33 = .ok (.iconst 1, 1) := by decide +kernel
theorem dX13_piecesOf_34 : decode cX13_piecesOf 34 = .ok (.goto 4, 3) := by decide +kernel
theorem dX13_piecesOf_37 : decode cX13_piecesOf 37 = .ok (.iconst 0, 1) := by decide +kernel
theorem dX13_piecesOf_38 : decode cX13_piecesOf 38 = .ok (.iadd, 1) := by decide +kernel
theorem dX13_piecesOf_39 : decode cX13_piecesOf 39 = .ok (.istore_n 3, 1) := by decide +kernel
theorem dX13_piecesOf_40 : decode cX13_piecesOf 40 = .ok (.iinc 4 1, 3) := by decide +kernel
theorem dX13_piecesOf_43 : decode cX13_piecesOf 43 = .ok (.goto (-38), 3) := by decide +kernel
theorem dX13_piecesOf_46 : decode cX13_piecesOf 46 = .ok (.iload_n 3, 1) := by decide +kernel
theorem dX13_piecesOf_47 : decode cX13_piecesOf 47 = .ok (.ireturn, 1) := by decide +kernel
theorem dX13_led_0 : decode cX13_led 0 = .ok (.aload_n 0, 1) := by decide +kernel
theorem dX13_led_1 : decode cX13_led 1 = .ok (.iconst 0, 1) := by decide +kernel
theorem dX13_led_2 : decode cX13_led 2 = .ok (.putfield 159, 3) := by decide +kernel
theorem dX13_led_5 : decode cX13_led 5 = .ok (.aload_n 0, 1) := by decide +kernel
theorem dX13_led_6 : decode cX13_led 6 = .ok (.aload_n 0, 1) := by decide +kernel
theorem dX13_led_7 : decode cX13_led 7 = .ok (.iload_n 1, 1) := by decide +kernel
theorem dX13_led_8 : decode cX13_led 8 = .ok (.invokevirtual 401, 3) := by decide +kernel
theorem dX13_led_11 : decode cX13_led 11 = .ok (.iconst 1, 1) := by decide +kernel
theorem dX13_led_12 : decode cX13_led 12 = .ok (.invokevirtual 223, 3) := by decide +kernel
theorem dX13_led_15 : decode cX13_led 15 = .ok (.ifCond .eq 5, 3) := by decide +kernel
theorem dX13_led_18 : decode cX13_led 18 = .ok (.iconst 0, 1) := by decide +kernel
theorem dX13_led_19 : decode cX13_led 19 = .ok (.ireturn, 1) := by decide +kernel
theorem dX13_led_20 : decode cX13_led 20 = .ok (.iload_n 2, 1) := by decide +kernel
theorem dX13_led_21 : decode cX13_led 21 = .ok (.tableswitch 194 0 15 #[79, 86, 93, 100, 107, 114, 114, 114, 114, 114, 127, 134, 141, 148, 155, 187], 79) := by decide +kernel
theorem dX13_led_100 : decode cX13_led 100 = .ok (.aload_n 0, 1) := by decide +kernel
theorem dX13_led_101 : decode cX13_led 101 = .ok (.getfield 105, 3) := by decide +kernel
theorem dX13_led_104 : decode cX13_led 104 = .ok (.iload_n 1, 1) := by decide +kernel
theorem dX13_led_105 : decode cX13_led 105 = .ok (.iaload, 1) := by decide +kernel
theorem dX13_led_106 : decode cX13_led 106 = .ok (.ireturn, 1) := by decide +kernel
theorem dX13_led_107 : decode cX13_led 107 = .ok (.aload_n 0, 1) := by decide +kernel
theorem dX13_led_108 : decode cX13_led 108 = .ok (.getfield 108, 3) := by decide +kernel
theorem dX13_led_111 : decode cX13_led 111 = .ok (.iload_n 1, 1) := by decide +kernel
theorem dX13_led_112 : decode cX13_led 112 = .ok (.iaload, 1) := by decide +kernel
theorem dX13_led_113 : decode cX13_led 113 = .ok (.ireturn, 1) := by decide +kernel
theorem dX13_led_114 : decode cX13_led 114 = .ok (.aload_n 0, 1) := by decide +kernel
theorem dX13_led_115 : decode cX13_led 115 = .ok (.getfield 111, 3) := by decide +kernel
theorem dX13_led_118 : decode cX13_led 118 = .ok (.iload_n 1, 1) := by decide +kernel
theorem dX13_led_119 : decode cX13_led 119 = .ok (.iaload, 1) := by decide +kernel
theorem dX13_led_120 : decode cX13_led 120 = .ok (.ireturn, 1) := by decide +kernel
theorem dX13_led_121 : decode cX13_led 121 = .ok (.aload_n 0, 1) := by decide +kernel
theorem dX13_led_122 : decode cX13_led 122 = .ok (.getfield 21, 3) := by decide +kernel
theorem dX13_led_125 : decode cX13_led 125 = .ok (.iload_n 1, 1) := by decide +kernel
theorem dX13_led_126 : decode cX13_led 126 = .ok (.iaload, 1) := by decide +kernel
theorem dX13_led_127 : decode cX13_led 127 = .ok (.ireturn, 1) := by decide +kernel
theorem dX13_led_128 : decode cX13_led 128 = .ok (.aload_n 0, 1) := by decide +kernel
theorem dX13_led_129 : decode cX13_led 129 = .ok (.getfield 114, 3) := by decide +kernel
theorem dX13_led_132 : decode cX13_led 132 = .ok (.iload_n 1, 1) := by decide +kernel
theorem dX13_led_133 : decode cX13_led 133 = .ok (.iaload, 1) := by decide +kernel
theorem dX13_led_134 : decode cX13_led 134 = .ok (.ireturn, 1) := by decide +kernel
theorem dX13_led_135 : decode cX13_led 135 = .ok (.aload_n 0, 1) := by decide +kernel
theorem dX13_led_136 : decode cX13_led 136 = .ok (.getfield 39, 3) := by decide +kernel
theorem dX13_led_139 : decode cX13_led 139 = .ok (.iconst 5, 1) := by decide +kernel
theorem dX13_led_140 : decode cX13_led 140 = .ok (.iload_n 1, 1) := by decide +kernel
theorem dX13_led_141 : decode cX13_led 141 = .ok (.imul, 1) := by decide +kernel
theorem dX13_led_142 : decode cX13_led 142 = .ok (.iload_n 2, 1) := by decide +kernel
theorem dX13_led_143 : decode cX13_led 143 = .ok (.iadd, 1) := by decide +kernel
theorem dX13_led_144 : decode cX13_led 144 = .ok (.iconst 5, 1) := by decide +kernel
theorem dX13_led_145 : decode cX13_led 145 = .ok (.isub, 1) := by decide +kernel
theorem dX13_led_146 : decode cX13_led 146 = .ok (.iaload, 1) := by decide +kernel
theorem dX13_led_147 : decode cX13_led 147 = .ok (.ireturn, 1) := by decide +kernel
theorem dX13_led_148 : decode cX13_led 148 = .ok (.aload_n 0, 1) := by decide +kernel
theorem dX13_led_149 : decode cX13_led 149 = .ok (.getfield 117, 3) := by decide +kernel
theorem dX13_led_152 : decode cX13_led 152 = .ok (.iload_n 1, 1) := by decide +kernel
theorem dX13_led_153 : decode cX13_led 153 = .ok (.iaload, 1) := by decide +kernel
theorem dX13_led_154 : decode cX13_led 154 = .ok (.ireturn, 1) := by decide +kernel
theorem dX13_led_155 : decode cX13_led 155 = .ok (.aload_n 0, 1) := by decide +kernel
theorem dX13_led_156 : decode cX13_led 156 = .ok (.getfield 87, 3) := by decide +kernel
theorem dX13_led_159 : decode cX13_led 159 = .ok (.iload_n 1, 1) := by decide +kernel
theorem dX13_led_160 : decode cX13_led 160 = .ok (.iaload, 1) := by decide +kernel
theorem dX13_led_161 : decode cX13_led 161 = .ok (.ireturn, 1) := by decide +kernel
theorem dX13_led_162 : decode cX13_led 162 = .ok (.aload_n 0, 1) := by decide +kernel
theorem dX13_led_163 : decode cX13_led 163 = .ok (.iload_n 1, 1) := by decide +kernel
theorem dX13_led_164 : decode cX13_led 164 = .ok (.iconst 0, 1) := by decide +kernel
theorem dX13_led_165 : decode cX13_led 165 = .ok (.invokevirtual 426, 3) := by decide +kernel
theorem dX13_led_168 : decode cX13_led 168 = .ok (.ireturn, 1) := by decide +kernel
theorem dX13_led_169 : decode cX13_led 169 = .ok (.aload_n 0, 1) := by decide +kernel
theorem dX13_led_170 : decode cX13_led 170 = .ok (.iload_n 1, 1) := by decide +kernel
theorem dX13_led_171 : decode cX13_led 171 = .ok (.iconst 2, 1) := by decide +kernel
theorem dX13_led_172 : decode cX13_led 172 = .ok (.invokevirtual 426, 3) := by decide +kernel
theorem dX13_led_175 : decode cX13_led 175 = .ok (.ireturn, 1) := by decide +kernel
theorem dX13_led_176 : decode cX13_led 176 = .ok (.aload_n 0, 1) := by decide +kernel
theorem dX13_led_177 : decode cX13_led 177 = .ok (.iload_n 1, 1) := by decide +kernel
theorem dX13_led_178 : decode cX13_led 178 = .ok (.aload_n 0, 1) := by decide +kernel
theorem dX13_led_179 : decode cX13_led 179 = .ok (.getfield 93, 3) := by decide +kernel
theorem dX13_led_182 : decode cX13_led 182 = .ok (.iload_n 1, 1) := by decide +kernel
theorem dX13_led_183 : decode cX13_led 183 = .ok (.iaload, 1) := by decide +kernel
theorem dX13_led_184 : decode cX13_led 184 = .ok (.aload_n 0, 1) := by decide +kernel
theorem dX13_led_185 : decode cX13_led 185 = .ok (.getfield 96, 3) := by decide +kernel
theorem dX13_led_188 : decode cX13_led 188 = .ok (.iload_n 1, 1) := by decide +kernel
theorem dX13_led_189 : decode cX13_led 189 = .ok (.iaload, 1) := by decide +kernel
theorem dX13_led_190 : decode cX13_led 190 = .ok (.aload_n 0, 1) := by decide +kernel
theorem dX13_led_191 : decode cX13_led 191 = .ok (.getfield 99, 3) := by decide +kernel
theorem dX13_led_194 : decode cX13_led 194 = .ok (.iload_n 1, 1) := by decide +kernel
theorem dX13_led_195 : decode cX13_led 195 = .ok (.iaload, 1) := by decide +kernel
theorem dX13_led_196 : decode cX13_led 196 = .ok (.invokevirtual 268, 3) := by decide +kernel
theorem dX13_led_199 : decode cX13_led 199 = .ok (.ifCond .eq 7, 3) := by decide +kernel
theorem dX13_led_202 : decode cX13_led 202 = .ok (.iconst 1, 1) := by decide +kernel
theorem dX13_led_203 : decode cX13_led 203 = .ok (.goto 4, 3) := by decide +kernel
theorem dX13_led_206 : decode cX13_led 206 = .ok (.iconst 0, 1) := by decide +kernel
theorem dX13_led_207 : decode cX13_led 207 = .ok (.ireturn, 1) := by decide +kernel
theorem dX13_led_208 : decode cX13_led 208 = .ok (.aload_n 0, 1) := by decide +kernel
theorem dX13_led_209 : decode cX13_led 209 = .ok (.getfield 84, 3) := by decide +kernel
theorem dX13_led_212 : decode cX13_led 212 = .ok (.iload_n 1, 1) := by decide +kernel
theorem dX13_led_213 : decode cX13_led 213 = .ok (.iaload, 1) := by decide +kernel
theorem dX13_led_214 : decode cX13_led 214 = .ok (.ireturn, 1) := by decide +kernel
theorem dX13_led_215 : decode cX13_led 215 = .ok (.aload_n 0, 1) := by decide +kernel
theorem dX13_led_216 : decode cX13_led 216 = .ok (.iconst 2, 1) := by decide +kernel
theorem dX13_led_217 : decode cX13_led 217 = .ok (.putfield 159, 3) := by decide +kernel
theorem dX13_led_220 : decode cX13_led 220 = .ok (.iconst 0, 1) := by decide +kernel
theorem dX13_led_221 : decode cX13_led 221 = .ok (.ireturn, 1) := by decide +kernel
theorem dX13_works_0 : decode cX13_works 0 = .ok (.aload_n 0, 1) := by decide +kernel
theorem dX13_works_1 : decode cX13_works 1 = .ok (.iconst 0, 1) := by decide +kernel
theorem dX13_works_2 : decode cX13_works 2 = .ok (.putfield 159, 3) := by decide +kernel
theorem dX13_works_5 : decode cX13_works 5 = .ok (.aload_n 0, 1) := by decide +kernel
theorem dX13_works_6 : decode cX13_works 6 = .ok (.aload_n 0, 1) := by decide +kernel
theorem dX13_works_7 : decode cX13_works 7 = .ok (.iload_n 1, 1) := by decide +kernel
theorem dX13_works_8 : decode cX13_works 8 = .ok (.invokevirtual 404, 3) := by decide +kernel
theorem dX13_works_11 : decode cX13_works 11 = .ok (.iconst 1, 1) := by decide +kernel
theorem dX13_works_12 : decode cX13_works 12 = .ok (.invokevirtual 223, 3) := by decide +kernel
theorem dX13_works_15 : decode cX13_works 15 = .ok (.ifCond .eq 5, 3) := by decide +kernel
theorem dX13_works_18 : decode cX13_works 18 = .ok (.iconst 0, 1) := by decide +kernel
theorem dX13_works_19 : decode cX13_works 19 = .ok (.ireturn, 1) := by decide +kernel
theorem dX13_works_20 : decode cX13_works 20 = .ok (.iconst 0, 1) := by decide +kernel
theorem dX13_works_21 : decode cX13_works 21 = .ok (.istore_n 3, 1) := by decide +kernel
theorem dX13_works_22 : decode cX13_works 22 = .ok (.iload_n 2, 1) := by decide +kernel
theorem dX13_works_23 : decode cX13_works 23 = .ok (.tableswitch 111 0 4 #[33, 40, 47, 97, 104], 33) := by decide +kernel
theorem dX13_works_56 : decode cX13_works 56 = .ok (.aload_n 0, 1) := by decide +kernel
theorem dX13_works_57 : decode cX13_works 57 = .ok (.getfield 72, 3) := by decide +kernel
theorem dX13_works_60 : decode cX13_works 60 = .ok (.iload_n 1, 1) := by decide +kernel
theorem dX13_works_61 : decode cX13_works 61 = .ok (.iaload, 1) := by decide +kernel
theorem dX13_works_62 : decode cX13_works 62 = .ok (.ireturn, 1) := by decide +kernel
theorem dX13_works_63 : decode cX13_works 63 = .ok (.aload_n 0, 1) := by decide +kernel
theorem dX13_works_64 : decode cX13_works 64 = .ok (.getfield 75, 3) := by decide +kernel
theorem dX13_works_67 : decode cX13_works 67 = .ok (.iload_n 1, 1) := by decide +kernel
theorem dX13_works_68 : decode cX13_works 68 = .ok (.iaload, 1) := by decide +kernel
theorem dX13_works_69 : decode cX13_works 69 = .ok (.ireturn, 1) := by decide +kernel
theorem dX13_works_70 : decode cX13_works 70 = .ok (.iconst 0, 1) := by decide +kernel
theorem dX13_works_71 : decode cX13_works 71 = .ok (.istore 4, 2) := by decide +kernel
theorem dX13_works_73 : decode cX13_works 73 = .ok (.iload 4, 2) := by decide +kernel
theorem dX13_works_75 : decode cX13_works 75 = .ok (.aload_n 0, 1) := by decide +kernel
theorem dX13_works_76 : decode cX13_works 76 = .ok (.getfield 391, 3) := by decide +kernel
theorem dX13_works_79 : decode cX13_works 79 = .ok (.if_icmp .ge 39, 3) := by decide +kernel
theorem dX13_works_82 : decode cX13_works 82 = .ok (.iload_n 3, 1) := by decide +kernel
theorem dX13_works_83 : decode cX13_works 83 = .ok (.aload_n 0, 1) := by decide +kernel
theorem dX13_works_84 : decode cX13_works 84 = .ok (.getfield 105, 3) := by decide +kernel
theorem dX13_works_87 : decode cX13_works 87 = .ok (.iload 4, 2) := by decide +kernel
theorem dX13_works_89 : decode cX13_works 89 = .ok (.iaload, 1) := by decide +kernel
theorem dX13_works_90 : decode cX13_works 90 = .ok (.iconst 1, 1) := by decide +kernel
theorem dX13_works_91 : decode cX13_works 91 = .ok (.if_icmp .ne 18, 3) := by decide +kernel
theorem dX13_works_94 : decode cX13_works 94 = .ok (.aload_n 0, 1) := by decide +kernel
theorem dX13_works_95 : decode cX13_works 95 = .ok (.getfield 108, 3) := by decide +kernel
theorem dX13_works_98 : decode cX13_works 98 = .ok (.iload 4, 2) := by decide +kernel
theorem dX13_works_100 : decode cX13_works 100 = .ok (.iaload, 1) := by decide +kernel
theorem dX13_works_101 : decode cX13_works 101 = .ok (.iload_n 1, 1) := by decide +kernel
theorem dX13_works_102 : decode cX13_works 102 = .ok (.if_icmp .ne 7, 3) := by decide +kernel
theorem dX13_works_105 : decode cX13_works 105 = .ok (.iconst 1, 1) := by decide +kernel
theorem dX13_works_106 : decode cX13_works 106 = .ok (.goto 4, 3) := by decide +kernel
theorem dX13_works_109 : decode cX13_works 109 = .ok (.iconst 0, 1) := by decide +kernel
theorem dX13_works_110 : decode cX13_works 110 = .ok (.iadd, 1) := by decide +kernel
theorem dX13_works_111 : decode cX13_works 111 = .ok (.istore_n 3, 1) := by decide +kernel
theorem dX13_works_112 : decode cX13_works 112 = .ok (.iinc 4 1, 3) := by decide +kernel
theorem dX13_works_115 : decode cX13_works 115 = .ok (.goto (-42), 3) := by decide +kernel
theorem dX13_works_118 : decode cX13_works 118 = .ok (.iload_n 3, 1) := by decide +kernel
theorem dX13_works_119 : decode cX13_works 119 = .ok (.ireturn, 1) := by decide +kernel
theorem dX13_works_120 : decode cX13_works 120 = .ok (.aload_n 0, 1) := by decide +kernel
theorem dX13_works_121 : decode cX13_works 121 = .ok (.getfield 78, 3) := by decide +kernel
theorem dX13_works_124 : decode cX13_works 124 = .ok (.iload_n 1, 1) := by decide +kernel
theorem dX13_works_125 : decode cX13_works 125 = .ok (.iaload, 1) := by decide +kernel
theorem dX13_works_126 : decode cX13_works 126 = .ok (.ireturn, 1) := by decide +kernel
theorem dX13_works_127 : decode cX13_works 127 = .ok (.aload_n 0, 1) := by decide +kernel
theorem dX13_works_128 : decode cX13_works 128 = .ok (.getfield 81, 3) := by decide +kernel
theorem dX13_works_131 : decode cX13_works 131 = .ok (.iload_n 1, 1) := by decide +kernel
theorem dX13_works_132 : decode cX13_works 132 = .ok (.iaload, 1) := by decide +kernel
theorem dX13_works_133 : decode cX13_works 133 = .ok (.ireturn, 1) := by decide +kernel
theorem dX13_works_134 : decode cX13_works 134 = .ok (.aload_n 0, 1) := by decide +kernel
theorem dX13_works_135 : decode cX13_works 135 = .ok (.iconst 2, 1) := by decide +kernel
theorem dX13_works_136 : decode cX13_works 136 = .ok (.putfield 159, 3) := by decide +kernel
theorem dX13_works_139 : decode cX13_works 139 = .ok (.iconst 0, 1) := by decide +kernel
theorem dX13_works_140 : decode cX13_works 140 = .ok (.ireturn, 1) := by decide +kernel
theorem dX13_noPiece_0 : decode cX13_noPiece 0 = .ok (.aload_n 0, 1) := by decide +kernel
theorem dX13_noPiece_1 : decode cX13_noPiece 1 = .ok (.iload_n 1, 1) := by decide +kernel
theorem dX13_noPiece_2 : decode cX13_noPiece 2 = .ok (.invokevirtual 401, 3) := by decide +kernel
theorem dX13_noPiece_5 : decode cX13_noPiece 5 = .ok (.ifCond .ne 19, 3) := by decide +kernel
theorem dX13_noPiece_8 : decode cX13_noPiece 8 = .ok (.iload_n 2, 1) := by decide +kernel
theorem dX13_noPiece_9 : decode cX13_noPiece 9 = .ok (.iconst 0, 1) := by decide +kernel
theorem dX13_noPiece_10 : decode cX13_noPiece 10 = .ok (.aload_n 0, 1) := by decide +kernel
theorem dX13_noPiece_11 : decode cX13_noPiece 11 = .ok (.getfield 87, 3) := by decide +kernel
theorem dX13_noPiece_14 : decode cX13_noPiece 14 = .ok (.iload_n 1, 1) := by decide +kernel
theorem dX13_noPiece_15 : decode cX13_noPiece 15 = .ok (.iaload, 1) := by decide +kernel
theorem dX13_noPiece_16 : decode cX13_noPiece 16 = .ok (.iconst 1, 1) := by decide +kernel
theorem dX13_noPiece_17 : decode cX13_noPiece 17 = .ok (.isub, 1) := by decide +kernel
theorem dX13_noPiece_18 : decode cX13_noPiece 18 = .ok (.invokestatic 234, 3) := by decide +kernel
theorem dX13_noPiece_21 : decode cX13_noPiece 21 = .ok (.ifCond .ne 7, 3) := by decide +kernel
theorem dX13_noPiece_24 : decode cX13_noPiece 24 = .ok (.iconst 1, 1) := by decide +kernel
theorem dX13_noPiece_25 : decode cX13_noPiece 25 = .ok (.goto 4, 3) := by decide +kernel
theorem dX13_noPiece_28 : decode cX13_noPiece 28 = .ok (.iconst 0, 1) := by decide +kernel
theorem dX13_noPiece_29 : decode cX13_noPiece 29 = .ok (.ireturn, 1) := by decide +kernel
theorem dX13_measure_0 : decode cX13_measure 0 = .ok (.aload_n 0, 1) := by decide +kernel
theorem dX13_measure_1 : decode cX13_measure 1 = .ok (.iconst 0, 1) := by decide +kernel
theorem dX13_measure_2 : decode cX13_measure 2 = .ok (.putfield 159, 3) := by decide +kernel
theorem dX13_measure_5 : decode cX13_measure 5 = .ok (.aload_n 0, 1) := by decide +kernel
theorem dX13_measure_6 : decode cX13_measure 6 = .ok (.aload_n 0, 1) := by decide +kernel
theorem dX13_measure_7 : decode cX13_measure 7 = .ok (.iload_n 1, 1) := by decide +kernel
theorem dX13_measure_8 : decode cX13_measure 8 = .ok (.iload_n 2, 1) := by decide +kernel
theorem dX13_measure_9 : decode cX13_measure 9 = .ok (.invokevirtual 429, 3) := by decide +kernel
theorem dX13_measure_12 : decode cX13_measure 12 = .ok (.iconst 1, 1) := by decide +kernel
theorem dX13_measure_13 : decode cX13_measure 13 = .ok (.invokevirtual 223, 3) := by decide +kernel
theorem dX13_measure_16 : decode cX13_measure 16 = .ok (.ifCond .ne 50, 3) := by decide +kernel
theorem dX13_measure_19 : decode cX13_measure 19 = .ok (.aload_n 0, 1) := by decide +kernel
theorem dX13_measure_20 : decode cX13_measure 20 = .ok (.aload_n 0, 1) := by decide +kernel
theorem dX13_measure_21 : decode cX13_measure 21 = .ok (.getfield 105, 3) := by decide +kernel
theorem dX13_measure_24 : decode cX13_measure 24 = .ok (.iload_n 1, 1) := by decide +kernel
theorem dX13_measure_25 : decode cX13_measure 25 = .ok (.iaload, 1) := by decide +kernel
theorem dX13_measure_26 : decode cX13_measure 26 = .ok (.iconst 3, 1) := by decide +kernel
theorem dX13_measure_27 : decode cX13_measure 27 = .ok (.if_icmp .eq 7, 3) := by decide +kernel
theorem dX13_measure_30 : decode cX13_measure 30 = .ok (.iconst 1, 1) := by decide +kernel
theorem dX13_measure_31 : decode cX13_measure 31 = .ok (.goto 4, 3) := by decide +kernel
theorem dX13_measure_34 : decode cX13_measure 34 = .ok (.iconst 0, 1) := by decide +kernel
theorem dX13_measure_35 : decode cX13_measure 35 = .ok (.iconst 2, 1) := by decide +kernel
theorem dX13_measure_36 : decode cX13_measure 36 = .ok (.invokevirtual 223, 3) := by decide +kernel
theorem dX13_measure_39 : decode cX13_measure 39 = .ok (.ifCond .ne 27, 3) := by decide +kernel
theorem dX13_measure_42 : decode cX13_measure 42 = .ok (.aload_n 0, 1) := by decide +kernel
theorem dX13_measure_43 : decode cX13_measure 43 = .ok (.iload_n 3, 1) := by decide +kernel
theorem dX13_measure_44 : decode cX13_measure 44 = .ok (.iconst 0, 1) := by decide +kernel
theorem dX13_measure_45 : decode cX13_measure 45 = .ok (.sipush 255, 3) := by decide +kernel
theorem dX13_measure_48 : decode cX13_measure 48 = .ok (.invokestatic 234, 3) := by decide +kernel
theorem dX13_measure_51 : decode cX13_measure 51 = .ok (.ifCond .ne 7, 3) := by decide +kernel
theorem dX13_measure_54 : decode cX13_measure 54 = .ok (.iconst 1, 1) := by decide +kernel
theorem dX13_measure_55 : decode cX13_measure 55 = .ok (.goto 4, 3) := by decide +kernel
theorem dX13_measure_58 : decode cX13_measure 58 = .ok (.iconst 0, 1) := by decide +kernel
theorem dX13_measure_59 : decode cX13_measure 59 = .ok (.iconst 3, 1) := by decide +kernel
theorem dX13_measure_60 : decode cX13_measure 60 = .ok (.invokevirtual 223, 3) := by decide +kernel
theorem dX13_measure_63 : decode cX13_measure 63 = .ok (.ifCond .eq 5, 3) := by decide +kernel
theorem dX13_measure_66 : decode cX13_measure 66 = .ok (.iconst 0, 1) := by decide +kernel
theorem dX13_measure_67 : decode cX13_measure 67 = .ok (.ireturn, 1) := by decide +kernel
theorem dX13_measure_68 : decode cX13_measure 68 = .ok (.aload_n 0, 1) := by decide +kernel
theorem dX13_measure_69 : decode cX13_measure 69 = .ok (.getfield 432, 3) := by decide +kernel
theorem dX13_measure_72 : decode cX13_measure 72 = .ok (.sipush 250, 3) := by decide +kernel
theorem dX13_measure_75 : decode cX13_measure 75 = .ok (.if_icmp .ne 5, 3) := by decide +kernel
theorem dX13_measure_78 : decode cX13_measure 78 = .ok (.iconst (-1), 1) := by decide +kernel
theorem dX13_measure_79 : decode cX13_measure 79 = .ok (.ireturn, 1) := by decide +kernel
theorem dX13_measure_80 : decode cX13_measure 80 = .ok (.aload_n 0, 1) := by decide +kernel
theorem dX13_measure_81 : decode cX13_measure 81 = .ok (.getfield 129, 3) := by decide +kernel
theorem dX13_measure_84 : decode cX13_measure 84 = .ok (.aload_n 0, 1) := by decide +kernel
theorem dX13_measure_85 : decode cX13_measure 85 = .ok (.getfield 432, 3) := by decide +kernel
theorem dX13_measure_88 : decode cX13_measure 88 = .ok (.iload_n 1, 1) := by decide +kernel
theorem dX13_measure_89 : decode cX13_measure 89 = .ok (.iastore, 1) := by decide +kernel
theorem dX13_measure_90 : decode cX13_measure 90 = .ok (.aload_n 0, 1) := by decide +kernel
theorem dX13_measure_91 : decode cX13_measure 91 = .ok (.getfield 132, 3) := by decide +kernel
theorem dX13_measure_94 : decode cX13_measure 94 = .ok (.aload_n 0, 1) := by decide +kernel
theorem dX13_measure_95 : decode cX13_measure 95 = .ok (.getfield 432, 3) := by decide +kernel
theorem dX13_measure_98 : decode cX13_measure 98 = .ok (.iload_n 2, 1) := by decide +kernel
theorem dX13_measure_99 : decode cX13_measure 99 = .ok (.iastore, 1) := by decide +kernel
theorem dX13_measure_100 : decode cX13_measure 100 = .ok (.aload_n 0, 1) := by decide +kernel
theorem dX13_measure_101 : decode cX13_measure 101 = .ok (.getfield 135, 3) := by decide +kernel
theorem dX13_measure_104 : decode cX13_measure 104 = .ok (.aload_n 0, 1) := by decide +kernel
theorem dX13_measure_105 : decode cX13_measure 105 = .ok (.getfield 432, 3) := by decide +kernel
theorem dX13_measure_108 : decode cX13_measure 108 = .ok (.iload_n 3, 1) := by decide +kernel
theorem dX13_measure_109 : decode cX13_measure 109 = .ok (.iastore, 1) := by decide +kernel
theorem dX13_measure_110 : decode cX13_measure 110 = .ok (.aload_n 0, 1) := by decide +kernel
theorem dX13_measure_111 : decode cX13_measure 111 = .ok (.getfield 138, 3) := by decide +kernel
theorem dX13_measure_114 : decode cX13_measure 114 = .ok (.aload_n 0, 1) := by decide +kernel
theorem dX13_measure_115 : decode cX13_measure 115 = .ok (.getfield 432, 3) := by decide +kernel
theorem dX13_measure_118 : decode cX13_measure 118 = .ok (.aload_n 0, 1) := by decide +kernel
theorem dX13_measure_119 : decode cX13_measure 119 = .ok (.getfield 410, 3) := by decide +kernel
theorem dX13_measure_122 : decode cX13_measure 122 = .ok (.iastore, 1) := by decide +kernel
theorem dX13_measure_123 : decode cX13_measure 123 = .ok (.aload_n 0, 1) := by decide +kernel
theorem dX13_measure_124 : decode cX13_measure 124 = .ok (.dup, 1) := by decide +kernel
theorem dX13_measure_125 : decode cX13_measure 125 = .ok (.getfield 432, 3) := by decide +kernel
theorem dX13_measure_128 : decode cX13_measure 128 = .ok (.iconst 1, 1) := by decide +kernel
theorem dX13_measure_129 : decode cX13_measure 129 = .ok (.iadd, 1) := by decide +kernel
theorem dX13_measure_130 : decode cX13_measure 130 = .ok (.putfield 432, 3) := by decide +kernel
theorem dX13_measure_133 : decode cX13_measure 133 = .ok (.aload_n 0, 1) := by decide +kernel
theorem dX13_measure_134 : decode cX13_measure 134 = .ok (.dup, 1) := by decide +kernel
theorem dX13_measure_135 : decode cX13_measure 135 = .ok (.getfield 435, 3) := by decide +kernel
theorem dX13_measure_138 : decode cX13_measure 138 = .ok (.iload_n 3, 1) := by decide +kernel
theorem dX13_measure_139 : decode cX13_measure 139 = .ok (.aload_n 0, 1) := by decide +kernel
theorem dX13_measure_140 : decode cX13_measure 140 = .ok (.getfield 39, 3) := by decide +kernel
theorem dX13_measure_143 : decode cX13_measure 143 = .ok (.iconst 5, 1) := by decide +kernel
theorem dX13_measure_144 : decode cX13_measure 144 = .ok (.iload_n 1, 1) := by decide +kernel
theorem dX13_measure_145 : decode cX13_measure 145 = .ok (.imul, 1) := by decide +kernel
theorem dX13_measure_146 : decode cX13_measure 146 = .ok (.iaload, 1) := by decide +kernel
theorem dX13_measure_147 : decode cX13_measure 147 = .ok (.aload_n 0, 1) := by decide +kernel
theorem dX13_measure_148 : decode cX13_measure 148 = .ok (.getfield 39, 3) := by decide +kernel
theorem dX13_measure_151 : decode cX13_measure 151 = .ok (.iconst 5, 1) := by decide +kernel
theorem dX13_measure_152 : decode cX13_measure 152 = .ok (.iload_n 1, 1) := by decide +kernel
theorem dX13_measure_153 : decode cX13_measure 153 = .ok (.imul, 1) := by decide +kernel
theorem dX13_measure_154 : decode cX13_measure 154 = .ok (.iconst 1, 1) := by decide +kernel
theorem dX13_measure_155 : decode cX13_measure 155 = .ok (.iadd, 1) := by decide +kernel
theorem dX13_measure_156 : decode cX13_measure 156 = .ok (.iaload, 1) := by decide +kernel
theorem dX13_measure_157 : decode cX13_measure 157 = .ok (.invokestatic 234, 3) := by decide +kernel
theorem dX13_measure_160 : decode cX13_measure 160 = .ok (.ifCond .eq 7, 3) := by decide +kernel
theorem dX13_measure_163 : decode cX13_measure 163 = .ok (.iconst 0, 1) := by decide +kernel
theorem dX13_measure_164 : decode cX13_measure 164 = .ok (.goto 4, 3) := by decide +kernel
theorem dX13_measure_167 : decode cX13_measure 167 = .ok (.iconst 1, 1) := by decide +kernel
theorem dX13_measure_168 : decode cX13_measure 168 = .ok (.iadd, 1) := by decide +kernel
theorem dX13_measure_169 : decode cX13_measure 169 = .ok (.putfield 435, 3) := by decide +kernel
theorem dX13_measure_172 : decode cX13_measure 172 = .ok (.aload_n 0, 1) := by decide +kernel
theorem dX13_measure_173 : decode cX13_measure 173 = .ok (.getfield 432, 3) := by decide +kernel
theorem dX13_measure_176 : decode cX13_measure 176 = .ok (.iconst 1, 1) := by decide +kernel
theorem dX13_measure_177 : decode cX13_measure 177 = .ok (.isub, 1) := by decide +kernel
theorem dX13_measure_178 : decode cX13_measure 178 = .ok (.ireturn, 1) := by decide +kernel
theorem dX13_shadeOf_0 : decode cX13_shadeOf 0 = .ok (.aload_n 0, 1) := by decide +kernel
theorem dX13_shadeOf_1 : decode cX13_shadeOf 1 = .ok (.getfield 432, 3) := by decide +kernel
theorem dX13_shadeOf_4 : decode cX13_shadeOf 4 = .ok (.iconst 1, 1) := by decide +kernel
theorem dX13_shadeOf_5 : decode cX13_shadeOf 5 = .ok (.isub, 1) := by decide +kernel
theorem dX13_shadeOf_6 : decode cX13_shadeOf 6 = .ok (.istore 4, 2) := by decide +kernel
theorem dX13_shadeOf_8 : decode cX13_shadeOf 8 = .ok (.iload 4, 2) := by decide +kernel
theorem dX13_shadeOf_10 : decode cX13_shadeOf 10 = .ok (.ifCond .lt 50, 3) := by decide +kernel
theorem dX13_shadeOf_13 : decode cX13_shadeOf 13 = .ok (.aload_n 0, 1) := by decide +kernel
theorem dX13_shadeOf_14 : decode cX13_shadeOf 14 = .ok (.getfield 129, 3) := by decide +kernel
theorem dX13_shadeOf_17 : decode cX13_shadeOf 17 = .ok (.iload 4, 2) := by decide +kernel
theorem dX13_shadeOf_19 : decode cX13_shadeOf 19 = .ok (.iaload, 1) := by decide +kernel
theorem dX13_shadeOf_20 : decode cX13_shadeOf 20 = .ok (.iload_n 1, 1) := by decide +kernel
theorem dX13_shadeOf_21 : decode cX13_shadeOf 21 = .ok (.if_icmp .ne 33, 3) := by decide +kernel
theorem dX13_shadeOf_24 : decode cX13_shadeOf 24 = .ok (.aload_n 0, 1) := by decide +kernel
theorem dX13_shadeOf_25 : decode cX13_shadeOf 25 = .ok (.getfield 132, 3) := by decide +kernel
theorem dX13_shadeOf_28 : decode cX13_shadeOf 28 = .ok (.iload 4, 2) := by decide +kernel
theorem dX13_shadeOf_30 : decode cX13_shadeOf 30 = .ok (.iaload, 1) := by decide +kernel
theorem dX13_shadeOf_31 : decode cX13_shadeOf 31 = .ok (.iload_n 2, 1) := by decide +kernel
theorem dX13_shadeOf_32 : decode cX13_shadeOf 32 = .ok (.if_icmp .ne 22, 3) := by decide +kernel
theorem dX13_shadeOf_35 : decode cX13_shadeOf 35 = .ok (.aload_n 0, 1) := by decide +kernel
theorem dX13_shadeOf_36 : decode cX13_shadeOf 36 = .ok (.getfield 138, 3) := by decide +kernel
theorem dX13_shadeOf_39 : decode cX13_shadeOf 39 = .ok (.iload 4, 2) := by decide +kernel
theorem dX13_shadeOf_41 : decode cX13_shadeOf 41 = .ok (.iaload, 1) := by decide +kernel
theorem dX13_shadeOf_42 : decode cX13_shadeOf 42 = .ok (.iload_n 3, 1) := by decide +kernel
theorem dX13_shadeOf_43 : decode cX13_shadeOf 43 = .ok (.if_icmp .gt 11, 3) := by decide +kernel
theorem dX13_shadeOf_46 : decode cX13_shadeOf 46 = .ok (.aload_n 0, 1) := by decide +kernel
theorem dX13_shadeOf_47 : decode cX13_shadeOf 47 = .ok (.getfield 135, 3) := by decide +kernel
theorem dX13_shadeOf_50 : decode cX13_shadeOf 50 = .ok (.iload 4, 2) := by decide +kernel
theorem dX13_shadeOf_52 : decode cX13_shadeOf 52 = .ok (.iaload, 1) := by decide +kernel
theorem dX13_shadeOf_53 : decode cX13_shadeOf 53 = .ok (.ireturn, 1) := by decide +kernel
theorem dX13_shadeOf_54 : decode cX13_shadeOf 54 = .ok (.iinc 4 (-1), 3) := by decide +kernel
theorem dX13_shadeOf_57 : decode cX13_shadeOf 57 = .ok (.goto (-49), 3) := by decide +kernel
theorem dX13_shadeOf_60 : decode cX13_shadeOf 60 = .ok (.iconst (-1), 1) := by decide +kernel
theorem dX13_shadeOf_61 : decode cX13_shadeOf 61 = .ok (.ireturn, 1) := by decide +kernel
theorem dX13_knownOf_0 : decode cX13_knownOf 0 = .ok (.aload_n 0, 1) := by decide +kernel
theorem dX13_knownOf_1 : decode cX13_knownOf 1 = .ok (.iload_n 1, 1) := by decide +kernel
theorem dX13_knownOf_2 : decode cX13_knownOf 2 = .ok (.iload_n 2, 1) := by decide +kernel
theorem dX13_knownOf_3 : decode cX13_knownOf 3 = .ok (.iload_n 3, 1) := by decide +kernel
theorem dX13_knownOf_4 : decode cX13_knownOf 4 = .ok (.invokevirtual 438, 3) := by decide +kernel
theorem dX13_knownOf_7 : decode cX13_knownOf 7 = .ok (.istore 4, 2) := by decide +kernel
theorem dX13_knownOf_9 : decode cX13_knownOf 9 = .ok (.iload 4, 2) := by decide +kernel
theorem dX13_knownOf_11 : decode cX13_knownOf 11 = .ok (.ifCond .ge 7, 3) := by decide +kernel
theorem dX13_knownOf_14 : decode cX13_knownOf 14 = .ok (.iconst 0, 1) := by decide +kernel
theorem dX13_knownOf_15 : decode cX13_knownOf 15 = .ok (.goto 34, 3) := by decide +kernel
theorem dX13_knownOf_18 : decode cX13_knownOf 18 = .ok (.iload 4, 2) := by decide +kernel
theorem dX13_knownOf_20 : decode cX13_knownOf 20 = .ok (.aload_n 0, 1) := by decide +kernel
theorem dX13_knownOf_21 : decode cX13_knownOf 21 = .ok (.getfield 96, 3) := by decide +kernel
theorem dX13_knownOf_24 : decode cX13_knownOf 24 = .ok (.iload_n 1, 1) := by decide +kernel
theorem dX13_knownOf_25 : decode cX13_knownOf 25 = .ok (.iaload, 1) := by decide +kernel
theorem dX13_knownOf_26 : decode cX13_knownOf 26 = .ok (.if_icmp .le 7, 3) := by decide +kernel
theorem dX13_knownOf_29 : decode cX13_knownOf 29 = .ok (.iconst 3, 1) := by decide +kernel
theorem dX13_knownOf_30 : decode cX13_knownOf 30 = .ok (.goto 19, 3) := by decide +kernel
theorem dX13_knownOf_33 : decode cX13_knownOf 33 = .ok (.iload 4, 2) := by decide +kernel
theorem dX13_knownOf_35 : decode cX13_knownOf 35 = .ok (.aload_n 0, 1) := by decide +kernel
theorem dX13_knownOf_36 : decode cX13_knownOf 36 = .ok (.getfield 93, 3) := by decide +kernel
theorem dX13_knownOf_39 : decode cX13_knownOf 39 = .ok (.iload_n 1, 1) := by decide +kernel
theorem dX13_knownOf_40 : decode cX13_knownOf 40 = .ok (.iaload, 1) := by decide +kernel
theorem dX13_knownOf_41 : decode cX13_knownOf 41 = .ok (.if_icmp .ge 7, 3) := by decide +kernel
theorem dX13_knownOf_44 : decode cX13_knownOf 44 = .ok (.iconst 1, 1) := by decide +kernel
theorem dX13_knownOf_45 : decode cX13_knownOf 45 = .ok (.goto 4, 3) := by decide +kernel
theorem dX13_knownOf_48 : decode cX13_knownOf 48 = .ok (.iconst 2, 1) := by decide +kernel
theorem dX13_knownOf_49 : decode cX13_knownOf 49 = .ok (.ireturn, 1) := by decide +kernel
theorem dX13_known_0 : decode cX13_known 0 = .ok (.aload_n 0, 1) := by decide +kernel
theorem dX13_known_1 : decode cX13_known 1 = .ok (.iconst 0, 1) := by decide +kernel
theorem dX13_known_2 : decode cX13_known 2 = .ok (.putfield 159, 3) := by decide +kernel
theorem dX13_known_5 : decode cX13_known 5 = .ok (.aload_n 0, 1) := by decide +kernel
theorem dX13_known_6 : decode cX13_known 6 = .ok (.aload_n 0, 1) := by decide +kernel
theorem dX13_known_7 : decode cX13_known 7 = .ok (.iload_n 1, 1) := by decide +kernel
theorem dX13_known_8 : decode cX13_known 8 = .ok (.iload_n 2, 1) := by decide +kernel
theorem dX13_known_9 : decode cX13_known 9 = .ok (.invokevirtual 429, 3) := by decide +kernel
theorem dX13_known_12 : decode cX13_known 12 = .ok (.iconst 1, 1) := by decide +kernel
theorem dX13_known_13 : decode cX13_known 13 = .ok (.invokevirtual 223, 3) := by decide +kernel
theorem dX13_known_16 : decode cX13_known 16 = .ok (.ifCond .eq 7, 3) := by decide +kernel
theorem dX13_known_19 : decode cX13_known 19 = .ok (.iconst 0, 1) := by decide +kernel
theorem dX13_known_20 : decode cX13_known 20 = .ok (.goto 10, 3) := by decide +kernel
theorem dX13_known_23 : decode cX13_known 23 = .ok (.aload_n 0, 1) := by decide +kernel
theorem dX13_known_24 : decode cX13_known 24 = .ok (.iload_n 1, 1) := by decide +kernel
theorem dX13_known_25 : decode cX13_known 25 = .ok (.iload_n 2, 1) := by decide +kernel
theorem dX13_known_26 : decode cX13_known 26 = .ok (.iload_n 3, 1) := by decide +kernel
theorem dX13_known_27 : decode cX13_known 27 = .ok (.invokevirtual 441, 3) := by decide +kernel
theorem dX13_known_30 : decode cX13_known 30 = .ok (.ireturn, 1) := by decide +kernel
theorem dX13_sortedOf_0 : decode cX13_sortedOf 0 = .ok (.iconst 0, 1) := by decide +kernel
theorem dX13_sortedOf_1 : decode cX13_sortedOf 1 = .ok (.istore 4, 2) := by decide +kernel
theorem dX13_sortedOf_3 : decode cX13_sortedOf 3 = .ok (.iconst 0, 1) := by decide +kernel
theorem dX13_sortedOf_4 : decode cX13_sortedOf 4 = .ok (.istore 5, 2) := by decide +kernel
theorem dX13_sortedOf_6 : decode cX13_sortedOf 6 = .ok (.iload 5, 2) := by decide +kernel
theorem dX13_sortedOf_8 : decode cX13_sortedOf 8 = .ok (.aload_n 0, 1) := by decide +kernel
theorem dX13_sortedOf_9 : decode cX13_sortedOf 9 = .ok (.getfield 87, 3) := by decide +kernel
theorem dX13_sortedOf_12 : decode cX13_sortedOf 12 = .ok (.iload_n 1, 1) := by decide +kernel
theorem dX13_sortedOf_13 : decode cX13_sortedOf 13 = .ok (.iaload, 1) := by decide +kernel
theorem dX13_sortedOf_14 : decode cX13_sortedOf 14 = .ok (.if_icmp .ge 46, 3) := by decide +kernel
theorem dX13_sortedOf_17 : decode cX13_sortedOf 17 = .ok (.iload 4, 2) := by decide +kernel
theorem dX13_sortedOf_19 : decode cX13_sortedOf 19 = .ok (.aload_n 0, 1) := by decide +kernel
theorem dX13_sortedOf_20 : decode cX13_sortedOf 20 = .ok (.getfield 126, 3) := by decide +kernel
theorem dX13_sortedOf_23 : decode cX13_sortedOf 23 = .ok (.bipush 60, 2) := by decide +kernel
theorem dX13_sortedOf_25 : decode cX13_sortedOf 25 = .ok (.iload_n 1, 1) := by decide +kernel
theorem dX13_sortedOf_26 : decode cX13_sortedOf 26 = .ok (.imul, 1) := by decide +kernel
theorem dX13_sortedOf_27 : decode cX13_sortedOf 27 = .ok (.iload 5, 2) := by decide +kernel
theorem dX13_sortedOf_29 : decode cX13_sortedOf 29 = .ok (.iadd, 1) := by decide +kernel
theorem dX13_sortedOf_30 : decode cX13_sortedOf 30 = .ok (.iaload, 1) := by decide +kernel
theorem dX13_sortedOf_31 : decode cX13_sortedOf 31 = .ok (.ifCond .ne 19, 3) := by decide +kernel
theorem dX13_sortedOf_34 : decode cX13_sortedOf 34 = .ok (.aload_n 0, 1) := by decide +kernel
theorem dX13_sortedOf_35 : decode cX13_sortedOf 35 = .ok (.iload_n 1, 1) := by decide +kernel
theorem dX13_sortedOf_36 : decode cX13_sortedOf 36 = .ok (.iload 5, 2) := by decide +kernel
theorem dX13_sortedOf_38 : decode cX13_sortedOf 38 = .ok (.iload_n 2, 1) := by decide +kernel
theorem dX13_sortedOf_39 : decode cX13_sortedOf 39 = .ok (.invokevirtual 441, 3) := by decide +kernel
theorem dX13_sortedOf_42 : decode cX13_sortedOf 42 = .ok (.iload_n 3, 1) := by decide +kernel
theorem dX13_sortedOf_43 : decode cX13_sortedOf 43 = .ok (.if_icmp .ne 7, 3) := by decide +kernel
theorem dX13_sortedOf_46 : decode cX13_sortedOf 46 = .ok (.iconst 1, 1) := by decide +kernel
theorem dX13_sortedOf_47 : decode cX13_sortedOf 47 = .ok (.goto 4, 3) := by decide +kernel
theorem dX13_sortedOf_50 : decode cX13_sortedOf 50 = .ok (.iconst 0, 1) := by decide +kernel
theorem dX13_sortedOf_51 : decode cX13_sortedOf 51 = .ok (.iadd, 1) := by decide +kernel
theorem dX13_sortedOf_52 : decode cX13_sortedOf 52 = .ok (.istore 4, 2) := by decide +kernel
theorem dX13_sortedOf_54 : decode cX13_sortedOf 54 = .ok (.iinc 5 1, 3) := by decide +kernel
theorem dX13_sortedOf_57 : decode cX13_sortedOf 57 = .ok (.goto (-51), 3) := by decide +kernel
theorem dX13_sortedOf_60 : decode cX13_sortedOf 60 = .ok (.iload 4, 2) := by decide +kernel
theorem dX13_sortedOf_62 : decode cX13_sortedOf 62 = .ok (.ireturn, 1) := by decide +kernel
theorem dX13_sorted_0 : decode cX13_sorted 0 = .ok (.aload_n 0, 1) := by decide +kernel
theorem dX13_sorted_1 : decode cX13_sorted 1 = .ok (.iconst 0, 1) := by decide +kernel
theorem dX13_sorted_2 : decode cX13_sorted 2 = .ok (.putfield 159, 3) := by decide +kernel
theorem dX13_sorted_5 : decode cX13_sorted 5 = .ok (.aload_n 0, 1) := by decide +kernel
theorem dX13_sorted_6 : decode cX13_sorted 6 = .ok (.aload_n 0, 1) := by decide +kernel
theorem dX13_sorted_7 : decode cX13_sorted 7 = .ok (.iload_n 1, 1) := by decide +kernel
theorem dX13_sorted_8 : decode cX13_sorted 8 = .ok (.invokevirtual 401, 3) := by decide +kernel
theorem dX13_sorted_11 : decode cX13_sorted 11 = .ok (.iconst 1, 1) := by decide +kernel
theorem dX13_sorted_12 : decode cX13_sorted 12 = .ok (.invokevirtual 223, 3) := by decide +kernel
theorem dX13_sorted_15 : decode cX13_sorted 15 = .ok (.ifCond .ne 25, 3) := by decide +kernel
theorem dX13_sorted_18 : decode cX13_sorted 18 = .ok (.aload_n 0, 1) := by decide +kernel
theorem dX13_sorted_19 : decode cX13_sorted 19 = .ok (.iload_n 3, 1) := by decide +kernel
theorem dX13_sorted_20 : decode cX13_sorted 20 = .ok (.iconst 0, 1) := by decide +kernel
theorem dX13_sorted_21 : decode cX13_sorted 21 = .ok (.iconst 3, 1) := by decide +kernel
theorem dX13_sorted_22 : decode cX13_sorted 22 = .ok (.invokestatic 234, 3) := by decide +kernel
theorem dX13_sorted_25 : decode cX13_sorted 25 = .ok (.ifCond .ne 7, 3) := by decide +kernel
theorem dX13_sorted_28 : decode cX13_sorted 28 = .ok (.iconst 1, 1) := by decide +kernel
theorem dX13_sorted_29 : decode cX13_sorted 29 = .ok (.goto 4, 3) := by decide +kernel
theorem dX13_sorted_32 : decode cX13_sorted 32 = .ok (.iconst 0, 1) := by decide +kernel
theorem dX13_sorted_33 : decode cX13_sorted 33 = .ok (.iconst 2, 1) := by decide +kernel
theorem dX13_sorted_34 : decode cX13_sorted 34 = .ok (.invokevirtual 223, 3) := by decide +kernel
theorem dX13_sorted_37 : decode cX13_sorted 37 = .ok (.ifCond .eq 7, 3) := by decide +kernel
theorem dX13_sorted_40 : decode cX13_sorted 40 = .ok (.iconst 0, 1) := by decide +kernel
theorem dX13_sorted_41 : decode cX13_sorted 41 = .ok (.goto 10, 3) := by decide +kernel
theorem dX13_sorted_44 : decode cX13_sorted 44 = .ok (.aload_n 0, 1) := by decide +kernel
theorem dX13_sorted_45 : decode cX13_sorted 45 = .ok (.iload_n 1, 1) := by decide +kernel
theorem dX13_sorted_46 : decode cX13_sorted 46 = .ok (.iload_n 2, 1) := by decide +kernel
theorem dX13_sorted_47 : decode cX13_sorted 47 = .ok (.iload_n 3, 1) := by decide +kernel
theorem dX13_sorted_48 : decode cX13_sorted 48 = .ok (.invokevirtual 444, 3) := by decide +kernel
theorem dX13_sorted_51 : decode cX13_sorted 51 = .ok (.ireturn, 1) := by decide +kernel
theorem dX13_again_0 : decode cX13_again 0 = .ok (.aload_n 0, 1) := by decide +kernel
theorem dX13_again_1 : decode cX13_again 1 = .ok (.iconst 0, 1) := by decide +kernel
theorem dX13_again_2 : decode cX13_again 2 = .ok (.putfield 159, 3) := by decide +kernel
theorem dX13_again_5 : decode cX13_again 5 = .ok (.aload_n 0, 1) := by decide +kernel
theorem dX13_again_6 : decode cX13_again 6 = .ok (.aload_n 0, 1) := by decide +kernel
theorem dX13_again_7 : decode cX13_again 7 = .ok (.iload_n 1, 1) := by decide +kernel
theorem dX13_again_8 : decode cX13_again 8 = .ok (.invokevirtual 401, 3) := by decide +kernel
theorem dX13_again_11 : decode cX13_again 11 = .ok (.iconst 1, 1) := by decide +kernel
theorem dX13_again_12 : decode cX13_again 12 = .ok (.invokevirtual 223, 3) := by decide +kernel
theorem dX13_again_15 : decode cX13_again 15 = .ok (.ifCond .ne 26, 3) := by decide +kernel
theorem dX13_again_18 : decode cX13_again 18 = .ok (.aload_n 0, 1) := by decide +kernel
theorem dX13_again_19 : decode cX13_again 19 = .ok (.aload_n 0, 1) := by decide +kernel
theorem dX13_again_20 : decode cX13_again 20 = .ok (.getfield 105, 3) := by decide +kernel
theorem dX13_again_23 : decode cX13_again 23 = .ok (.iload_n 1, 1) := by decide +kernel
theorem dX13_again_24 : decode cX13_again 24 = .ok (.iaload, 1) := by decide +kernel
theorem dX13_again_25 : decode cX13_again 25 = .ok (.iconst 3, 1) := by decide +kernel
theorem dX13_again_26 : decode cX13_again 26 = .ok (.if_icmp .eq 7, 3) := by decide +kernel
theorem dX13_again_29 : decode cX13_again 29 = .ok (.iconst 1, 1) := by decide +kernel
theorem dX13_again_30 : decode cX13_again 30 = .ok (.goto 4, 3) := by decide +kernel
theorem dX13_again_33 : decode cX13_again 33 = .ok (.iconst 0, 1) := by decide +kernel
theorem dX13_again_34 : decode cX13_again 34 = .ok (.iconst 2, 1) := by decide +kernel
theorem dX13_again_35 : decode cX13_again 35 = .ok (.invokevirtual 223, 3) := by decide +kernel
theorem dX13_again_38 : decode cX13_again 38 = .ok (.ifCond .eq 5, 3) := by decide +kernel
theorem dX13_again_41 : decode cX13_again 41 = .ok (.iconst 0, 1) := by decide +kernel
theorem dX13_again_42 : decode cX13_again 42 = .ok (.ireturn, 1) := by decide +kernel
theorem dX13_again_43 : decode cX13_again 43 = .ok (.aload_n 0, 1) := by decide +kernel
theorem dX13_again_44 : decode cX13_again 44 = .ok (.iload_n 1, 1) := by decide +kernel
theorem dX13_again_45 : decode cX13_again 45 = .ok (.aload_n 0, 1) := by decide +kernel
theorem dX13_again_46 : decode cX13_again 46 = .ok (.getfield 410, 3) := by decide +kernel
theorem dX13_again_49 : decode cX13_again 49 = .ok (.iconst 3, 1) := by decide +kernel
theorem dX13_again_50 : decode cX13_again 50 = .ok (.invokevirtual 444, 3) := by decide +kernel
theorem dX13_again_53 : decode cX13_again 53 = .ok (.istore_n 2, 1) := by decide +kernel
theorem dX13_again_54 : decode cX13_again 54 = .ok (.aload_n 0, 1) := by decide +kernel
theorem dX13_again_55 : decode cX13_again 55 = .ok (.getfield 120, 3) := by decide +kernel
theorem dX13_again_58 : decode cX13_again 58 = .ok (.iload_n 1, 1) := by decide +kernel
theorem dX13_again_59 : decode cX13_again 59 = .ok (.iaload, 1) := by decide +kernel
theorem dX13_again_60 : decode cX13_again 60 = .ok (.aload_n 0, 1) := by decide +kernel
theorem dX13_again_61 : decode cX13_again 61 = .ok (.getfield 69, 3) := by decide +kernel
theorem dX13_again_64 : decode cX13_again 64 = .ok (.bipush 13, 2) := by decide +kernel
theorem dX13_again_66 : decode cX13_again 66 = .ok (.iaload, 1) := by decide +kernel
theorem dX13_again_67 : decode cX13_again 67 = .ok (.if_icmp .ge 16, 3) := by decide +kernel
theorem dX13_again_70 : decode cX13_again 70 = .ok (.iload_n 2, 1) := by decide +kernel
theorem dX13_again_71 : decode cX13_again 71 = .ok (.ifCond .eq 12, 3) := by decide +kernel
theorem dX13_again_74 : decode cX13_again 74 = .ok (.aload_n 0, 1) := by decide +kernel
theorem dX13_again_75 : decode cX13_again 75 = .ok (.getfield 391, 3) := by decide +kernel
theorem dX13_again_78 : decode cX13_again 78 = .ok (.bipush 40, 2) := by decide +kernel
theorem dX13_again_80 : decode cX13_again 80 = .ok (.if_icmp .ne 5, 3) := by decide +kernel
theorem dX13_again_83 : decode cX13_again 83 = .ok (.iconst (-1), 1) := by decide +kernel
theorem dX13_again_84 : decode cX13_again 84 = .ok (.ireturn, 1) := by decide +kernel
theorem dX13_again_85 : decode cX13_again 85 = .ok (.aload_n 0, 1) := by decide +kernel
theorem dX13_again_86 : decode cX13_again 86 = .ok (.aload_n 0, 1) := by decide +kernel
theorem dX13_again_87 : decode cX13_again 87 = .ok (.getfield 84, 3) := by decide +kernel
theorem dX13_again_90 : decode cX13_again 90 = .ok (.iload_n 1, 1) := by decide +kernel
theorem dX13_again_91 : decode cX13_again 91 = .ok (.iaload, 1) := by decide +kernel
theorem dX13_again_92 : decode cX13_again 92 = .ok (.iload_n 2, 1) := by decide +kernel
theorem dX13_again_93 : decode cX13_again 93 = .ok (.aload_n 0, 1) := by decide +kernel
theorem dX13_again_94 : decode cX13_again 94 = .ok (.getfield 90, 3) := by decide +kernel
theorem dX13_again_97 : decode cX13_again 97 = .ok (.iload_n 1, 1) := by decide +kernel
theorem dX13_again_98 : decode cX13_again 98 = .ok (.iaload, 1) := by decide +kernel
theorem dX13_again_99 : decode cX13_again 99 = .ok (.aload_n 0, 1) := by decide +kernel
theorem dX13_again_100 : decode cX13_again 100 = .ok (.getfield 93, 3) := by decide +kernel
theorem dX13_again_103 : decode cX13_again 103 = .ok (.iload_n 1, 1) := by decide +kernel
theorem dX13_again_104 : decode cX13_again 104 = .ok (.iaload, 1) := by decide +kernel
theorem dX13_again_105 : decode cX13_again 105 = .ok (.aload_n 0, 1) := by decide +kernel
theorem dX13_again_106 : decode cX13_again 106 = .ok (.getfield 96, 3) := by decide +kernel
theorem dX13_again_109 : decode cX13_again 109 = .ok (.iload_n 1, 1) := by decide +kernel
theorem dX13_again_110 : decode cX13_again 110 = .ok (.iaload, 1) := by decide +kernel
theorem dX13_again_111 : decode cX13_again 111 = .ok (.aload_n 0, 1) := by decide +kernel
theorem dX13_again_112 : decode cX13_again 112 = .ok (.getfield 99, 3) := by decide +kernel
theorem dX13_again_115 : decode cX13_again 115 = .ok (.iload_n 1, 1) := by decide +kernel
theorem dX13_again_116 : decode cX13_again 116 = .ok (.iaload, 1) := by decide +kernel
theorem dX13_again_117 : decode cX13_again 117 = .ok (.aload_n 0, 1) := by decide +kernel
theorem dX13_again_118 : decode cX13_again 118 = .ok (.getfield 102, 3) := by decide +kernel
theorem dX13_again_121 : decode cX13_again 121 = .ok (.iload_n 1, 1) := by decide +kernel
theorem dX13_again_122 : decode cX13_again 122 = .ok (.iaload, 1) := by decide +kernel
theorem dX13_again_123 : decode cX13_again 123 = .ok (.invokevirtual 397, 3) := by decide +kernel
theorem dX13_again_126 : decode cX13_again 126 = .ok (.istore_n 3, 1) := by decide +kernel
theorem dX13_again_127 : decode cX13_again 127 = .ok (.aload_n 0, 1) := by decide +kernel
theorem dX13_again_128 : decode cX13_again 128 = .ok (.getfield 117, 3) := by decide +kernel
theorem dX13_again_131 : decode cX13_again 131 = .ok (.iload_n 3, 1) := by decide +kernel
theorem dX13_again_132 : decode cX13_again 132 = .ok (.iload_n 1, 1) := by decide +kernel
theorem dX13_again_133 : decode cX13_again 133 = .ok (.iastore, 1) := by decide +kernel
theorem dX13_again_134 : decode cX13_again 134 = .ok (.aload_n 0, 1) := by decide +kernel
theorem dX13_again_135 : decode cX13_again 135 = .ok (.getfield 120, 3) := by decide +kernel
theorem dX13_again_138 : decode cX13_again 138 = .ok (.iload_n 3, 1) := by decide +kernel
theorem dX13_again_139 : decode cX13_again 139 = .ok (.aload_n 0, 1) := by decide +kernel
theorem dX13_again_140 : decode cX13_again 140 = .ok (.getfield 120, 3) := by decide +kernel
theorem dX13_again_143 : decode cX13_again 143 = .ok (.iload_n 1, 1) := by decide +kernel
theorem dX13_again_144 : decode cX13_again 144 = .ok (.iaload, 1) := by decide +kernel
theorem dX13_again_145 : decode cX13_again 145 = .ok (.iconst 1, 1) := by decide +kernel
theorem dX13_again_146 : decode cX13_again 146 = .ok (.iadd, 1) := by decide +kernel
theorem dX13_again_147 : decode cX13_again 147 = .ok (.iastore, 1) := by decide +kernel
theorem dX13_again_148 : decode cX13_again 148 = .ok (.aload_n 0, 1) := by decide +kernel
theorem dX13_again_149 : decode cX13_again 149 = .ok (.getfield 21, 3) := by decide +kernel
theorem dX13_again_152 : decode cX13_again 152 = .ok (.iload_n 3, 1) := by decide +kernel
theorem dX13_again_153 : decode cX13_again 153 = .ok (.iconst 1, 1) := by decide +kernel
theorem dX13_again_154 : decode cX13_again 154 = .ok (.iastore, 1) := by decide +kernel
theorem dX13_again_155 : decode cX13_again 155 = .ok (.aload_n 0, 1) := by decide +kernel
theorem dX13_again_156 : decode cX13_again 156 = .ok (.getfield 24, 3) := by decide +kernel
theorem dX13_again_159 : decode cX13_again 159 = .ok (.bipush 20, 2) := by decide +kernel
theorem dX13_again_161 : decode cX13_again 161 = .ok (.iload_n 3, 1) := by decide +kernel
theorem dX13_again_162 : decode cX13_again 162 = .ok (.imul, 1) := by decide +kernel
theorem dX13_again_163 : decode cX13_again 163 = .ok (.aload_n 0, 1) := by decide +kernel
theorem dX13_again_164 : decode cX13_again 164 = .ok (.getfield 69, 3) := by decide +kernel
theorem dX13_again_167 : decode cX13_again 167 = .ok (.bipush 14, 2) := by decide +kernel
theorem dX13_again_169 : decode cX13_again 169 = .ok (.iaload, 1) := by decide +kernel
theorem dX13_again_170 : decode cX13_again 170 = .ok (.iastore, 1) := by decide +kernel
theorem dX13_again_171 : decode cX13_again 171 = .ok (.aload_n 0, 1) := by decide +kernel
theorem dX13_again_172 : decode cX13_again 172 = .ok (.getfield 27, 3) := by decide +kernel
theorem dX13_again_175 : decode cX13_again 175 = .ok (.bipush 20, 2) := by decide +kernel
theorem dX13_again_177 : decode cX13_again 177 = .ok (.iload_n 3, 1) := by decide +kernel
theorem dX13_again_178 : decode cX13_again 178 = .ok (.imul, 1) := by decide +kernel
theorem dX13_again_179 : decode cX13_again 179 = .ok (.aload_n 0, 1) := by decide +kernel
theorem dX13_again_180 : decode cX13_again 180 = .ok (.getfield 69, 3) := by decide +kernel
theorem dX13_again_183 : decode cX13_again 183 = .ok (.bipush 15, 2) := by decide +kernel
theorem dX13_again_185 : decode cX13_again 185 = .ok (.iaload, 1) := by decide +kernel
theorem dX13_again_186 : decode cX13_again 186 = .ok (.iastore, 1) := by decide +kernel
theorem dX13_again_187 : decode cX13_again 187 = .ok (.iconst 2, 1) := by decide +kernel
theorem dX13_again_188 : decode cX13_again 188 = .ok (.istore 4, 2) := by decide +kernel
theorem dX13_again_190 : decode cX13_again 190 = .ok (.iload 4, 2) := by decide +kernel
theorem dX13_again_192 : decode cX13_again 192 = .ok (.iconst 5, 1) := by decide +kernel
theorem dX13_again_193 : decode cX13_again 193 = .ok (.if_icmp .ge 31, 3) := by decide +kernel
theorem dX13_again_196 : decode cX13_again 196 = .ok (.aload_n 0, 1) := by decide +kernel
theorem dX13_again_197 : decode cX13_again 197 = .ok (.getfield 39, 3) := by decide +kernel
theorem dX13_again_200 : decode cX13_again 200 = .ok (.iconst 5, 1) := by decide +kernel
theorem dX13_again_201 : decode cX13_again 201 = .ok (.iload_n 3, 1) := by decide +kernel
theorem dX13_again_202 : decode cX13_again 202 = .ok (.imul, 1) := by decide +kernel
theorem dX13_again_203 : decode cX13_again 203 = .ok (.iload 4, 2) := by decide +kernel
theorem dX13_again_205 : decode cX13_again 205 = .ok (.iadd, 1) := by decide +kernel
theorem dX13_again_206 : decode cX13_again 206 = .ok (.aload_n 0, 1) := by decide +kernel
theorem dX13_again_207 : decode cX13_again 207 = .ok (.getfield 39, 3) := by decide +kernel
theorem dX13_again_210 : decode cX13_again 210 = .ok (.iconst 5, 1) := by decide +kernel
theorem dX13_again_211 : decode cX13_again 211 = .ok (.iload_n 1, 1) := by decide +kernel
theorem dX13_again_212 : decode cX13_again 212 = .ok (.imul, 1) := by decide +kernel
theorem dX13_again_213 : decode cX13_again 213 = .ok (.iload 4, 2) := by decide +kernel
theorem dX13_again_215 : decode cX13_again 215 = .ok (.iadd, 1) := by decide +kernel
theorem dX13_again_216 : decode cX13_again 216 = .ok (.iaload, 1) := by decide +kernel
theorem dX13_again_217 : decode cX13_again 217 = .ok (.iastore, 1) := by decide +kernel
theorem dX13_again_218 : decode cX13_again 218 = .ok (.iinc 4 1, 3) := by decide +kernel
theorem dX13_again_221 : decode cX13_again 221 = .ok (.goto (-31), 3) := by decide +kernel
theorem dX13_again_224 : decode cX13_again 224 = .ok (.aload_n 0, 1) := by decide +kernel
theorem dX13_again_225 : decode cX13_again 225 = .ok (.getfield 39, 3) := by decide +kernel
theorem dX13_again_228 : decode cX13_again 228 = .ok (.iconst 5, 1) := by decide +kernel
theorem dX13_again_229 : decode cX13_again 229 = .ok (.iload_n 3, 1) := by decide +kernel
theorem dX13_again_230 : decode cX13_again 230 = .ok (.imul, 1) := by decide +kernel
theorem dX13_again_231 : decode cX13_again 231 = .ok (.ldc_w 304, 3) := by decide +kernel
theorem dX13_again_234 : decode cX13_again 234 = .ok (.iastore, 1) := by decide +kernel
theorem dX13_again_235 : decode cX13_again 235 = .ok (.aload_n 0, 1) := by decide +kernel
theorem dX13_again_236 : decode cX13_again 236 = .ok (.getfield 39, 3) := by decide +kernel
theorem dX13_again_239 : decode cX13_again 239 = .ok (.iconst 5, 1) := by decide +kernel
theorem dX13_again_240 : decode cX13_again 240 = .ok (.iload_n 3, 1) := by decide +kernel
theorem dX13_again_241 : decode cX13_again 241 = .ok (.imul, 1) := by decide +kernel
theorem dX13_again_242 : decode cX13_again 242 = .ok (.iconst 1, 1) := by decide +kernel
theorem dX13_again_243 : decode cX13_again 243 = .ok (.iadd, 1) := by decide +kernel
theorem dX13_again_244 : decode cX13_again 244 = .ok (.iconst (-1), 1) := by decide +kernel
theorem dX13_again_245 : decode cX13_again 245 = .ok (.iastore, 1) := by decide +kernel
theorem dX13_again_246 : decode cX13_again 246 = .ok (.iconst 0, 1) := by decide +kernel
theorem dX13_again_247 : decode cX13_again 247 = .ok (.istore 4, 2) := by decide +kernel
theorem dX13_again_249 : decode cX13_again 249 = .ok (.iload 4, 2) := by decide +kernel
theorem dX13_again_251 : decode cX13_again 251 = .ok (.aload_n 0, 1) := by decide +kernel
theorem dX13_again_252 : decode cX13_again 252 = .ok (.getfield 87, 3) := by decide +kernel
theorem dX13_again_255 : decode cX13_again 255 = .ok (.iload_n 1, 1) := by decide +kernel
theorem dX13_again_256 : decode cX13_again 256 = .ok (.iaload, 1) := by decide +kernel
theorem dX13_again_257 : decode cX13_again 257 = .ok (.if_icmp .ge 119, 3) := by decide +kernel
theorem dX13_again_260 : decode cX13_again 260 = .ok (.aload_n 0, 1) := by decide +kernel
theorem dX13_again_261 : decode cX13_again 261 = .ok (.getfield 126, 3) := by decide +kernel
theorem dX13_again_264 : decode cX13_again 264 = .ok (.bipush 60, 2) := by decide +kernel
theorem dX13_again_266 : decode cX13_again 266 = .ok (.iload_n 1, 1) := by decide +kernel
theorem dX13_again_267 : decode cX13_again 267 = .ok (.imul, 1) := by decide +kernel
theorem dX13_again_268 : decode cX13_again 268 = .ok (.iload 4, 2) := by decide +kernel
theorem dX13_again_270 : decode cX13_again 270 = .ok (.iadd, 1) := by decide +kernel
theorem dX13_again_271 : decode cX13_again 271 = .ok (.iaload, 1) := by decide +kernel
theorem dX13_again_272 : decode cX13_again 272 = .ok (.ifCond .ne 98, 3) := by decide +kernel
theorem dX13_again_275 : decode cX13_again 275 = .ok (.aload_n 0, 1) := by decide +kernel
theorem dX13_again_276 : decode cX13_again 276 = .ok (.iload_n 1, 1) := by decide +kernel
theorem dX13_again_277 : decode cX13_again 277 = .ok (.iload 4, 2) := by decide +kernel
theorem dX13_again_279 : decode cX13_again 279 = .ok (.aload_n 0, 1) := by decide +kernel
theorem dX13_again_280 : decode cX13_again 280 = .ok (.getfield 410, 3) := by decide +kernel
theorem dX13_again_283 : decode cX13_again 283 = .ok (.invokevirtual 441, 3) := by decide +kernel
theorem dX13_again_286 : decode cX13_again 286 = .ok (.iconst 3, 1) := by decide +kernel
theorem dX13_again_287 : decode cX13_again 287 = .ok (.if_icmp .eq 6, 3) := by decide +kernel
theorem dX13_again_290 : decode cX13_again 290 = .ok (.goto 80, 3) := by decide +kernel
theorem dX13_again_293 : decode cX13_again 293 = .ok (.aload_n 0, 1) := by decide +kernel
theorem dX13_again_294 : decode cX13_again 294 = .ok (.getfield 126, 3) := by decide +kernel
theorem dX13_again_297 : decode cX13_again 297 = .ok (.bipush 60, 2) := by decide +kernel
theorem dX13_again_299 : decode cX13_again 299 = .ok (.iload_n 1, 1) := by decide +kernel
theorem dX13_again_300 : decode cX13_again 300 = .ok (.imul, 1) := by decide +kernel
theorem dX13_again_301 : decode cX13_again 301 = .ok (.iload 4, 2) := by decide +kernel
theorem dX13_again_303 : decode cX13_again 303 = .ok (.iadd, 1) := by decide +kernel
theorem dX13_again_304 : decode cX13_again 304 = .ok (.iconst 1, 1) := by decide +kernel
theorem dX13_again_305 : decode cX13_again 305 = .ok (.iastore, 1) := by decide +kernel
theorem dX13_again_306 : decode cX13_again 306 = .ok (.aload_n 0, 1) := by decide +kernel
theorem dX13_again_307 : decode cX13_again 307 = .ok (.getfield 39, 3) := by decide +kernel
theorem dX13_again_310 : decode cX13_again 310 = .ok (.iconst 5, 1) := by decide +kernel
theorem dX13_again_311 : decode cX13_again 311 = .ok (.iload_n 3, 1) := by decide +kernel
theorem dX13_again_312 : decode cX13_again 312 = .ok (.imul, 1) := by decide +kernel
theorem dX13_again_313 : decode cX13_again 313 = .ok (.aload_n 0, 1) := by decide +kernel
theorem dX13_again_314 : decode cX13_again 314 = .ok (.getfield 39, 3) := by decide +kernel
theorem dX13_again_317 : decode cX13_again 317 = .ok (.iconst 5, 1) := by decide +kernel
theorem dX13_again_318 : decode cX13_again 318 = .ok (.iload_n 3, 1) := by decide +kernel
theorem dX13_again_319 : decode cX13_again 319 = .ok (.imul, 1) := by decide +kernel
theorem dX13_again_320 : decode cX13_again 320 = .ok (.iaload, 1) := by decide +kernel
theorem dX13_again_321 : decode cX13_again 321 = .ok (.aload_n 0, 1) := by decide +kernel
theorem dX13_again_322 : decode cX13_again 322 = .ok (.iload_n 1, 1) := by decide +kernel
theorem dX13_again_323 : decode cX13_again 323 = .ok (.iload 4, 2) := by decide +kernel
theorem dX13_again_325 : decode cX13_again 325 = .ok (.aload_n 0, 1) := by decide +kernel
theorem dX13_again_326 : decode cX13_again 326 = .ok (.getfield 410, 3) := by decide +kernel
theorem dX13_again_329 : decode cX13_again 329 = .ok (.invokevirtual 438, 3) := by decide +kernel
theorem dX13_again_332 : decode cX13_again 332 = .ok (.invokestatic 305, 3) := by decide +kernel
theorem dX13_again_335 : decode cX13_again 335 = .ok (.iastore, 1) := by decide +kernel
theorem dX13_again_336 : decode cX13_again 336 = .ok (.aload_n 0, 1) := by decide +kernel
theorem dX13_again_337 : decode cX13_again 337 = .ok (.getfield 39, 3) := by decide +kernel
theorem dX13_again_340 : decode cX13_again 340 = .ok (.iconst 5, 1) := by decide +kernel
theorem dX13_again_341 : decode cX13_again 341 = .ok (.iload_n 3, 1) := by decide +kernel
theorem dX13_again_342 : decode cX13_again 342 = .ok (.imul, 1) := by decide +kernel
theorem dX13_again_343 : decode cX13_again 343 = .ok (.iconst 1, 1) := by decide +kernel
theorem dX13_again_344 : decode cX13_again 344 = .ok (.iadd, 1) := by decide +kernel
theorem dX13_again_345 : decode cX13_again 345 = .ok (.aload_n 0, 1) := by decide +kernel
theorem dX13_again_346 : decode cX13_again 346 = .ok (.getfield 39, 3) := by decide +kernel
theorem dX13_again_349 : decode cX13_again 349 = .ok (.iconst 5, 1) := by decide +kernel
theorem dX13_again_350 : decode cX13_again 350 = .ok (.iload_n 3, 1) := by decide +kernel
theorem dX13_again_351 : decode cX13_again 351 = .ok (.imul, 1) := by decide +kernel
theorem dX13_again_352 : decode cX13_again 352 = .ok (.iconst 1, 1) := by decide +kernel
theorem dX13_again_353 : decode cX13_again 353 = .ok (.iadd, 1) := by decide +kernel
theorem dX13_again_354 : decode cX13_again 354 = .ok (.iaload, 1) := by decide +kernel
theorem dX13_again_355 : decode cX13_again 355 = .ok (.aload_n 0, 1) := by decide +kernel
theorem dX13_again_356 : decode cX13_again 356 = .ok (.iload_n 1, 1) := by decide +kernel
theorem dX13_again_357 : decode cX13_again 357 = .ok (.iload 4, 2) := by decide +kernel
theorem dX13_again_359 : decode cX13_again 359 = .ok (.aload_n 0, 1) := by decide +kernel
theorem dX13_again_360 : decode cX13_again 360 = .ok (.getfield 410, 3) := by decide +kernel
theorem dX13_again_363 : decode cX13_again 363 = .ok (.invokevirtual 438, 3) := by decide +kernel
theorem dX13_again_366 : decode cX13_again 366 = .ok (.invokestatic 238, 3) := by decide +kernel
theorem dX13_again_369 : decode cX13_again 369 = .ok (.iastore, 1) := by decide +kernel
theorem dX13_again_370 : decode cX13_again 370 = .ok (.iinc 4 1, 3) := by decide +kernel
theorem dX13_again_373 : decode cX13_again 373 = .ok (.goto (-124), 3) := by decide +kernel
theorem dX13_again_376 : decode cX13_again 376 = .ok (.iload_n 3, 1) := by decide +kernel
theorem dX13_again_377 : decode cX13_again 377 = .ok (.ireturn, 1) := by decide +kernel
theorem dX13_gathers_0 : decode cX13_gathers 0 = .ok (.aload_n 0, 1) := by decide +kernel
theorem dX13_gathers_1 : decode cX13_gathers 1 = .ok (.iconst 0, 1) := by decide +kernel
theorem dX13_gathers_2 : decode cX13_gathers 2 = .ok (.putfield 447, 3) := by decide +kernel
theorem dX13_gathers_5 : decode cX13_gathers 5 = .ok (.iconst 0, 1) := by decide +kernel
theorem dX13_gathers_6 : decode cX13_gathers 6 = .ok (.istore_n 2, 1) := by decide +kernel
theorem dX13_gathers_7 : decode cX13_gathers 7 = .ok (.iload_n 2, 1) := by decide +kernel
theorem dX13_gathers_8 : decode cX13_gathers 8 = .ok (.aload_n 0, 1) := by decide +kernel
theorem dX13_gathers_9 : decode cX13_gathers 9 = .ok (.getfield 391, 3) := by decide +kernel
theorem dX13_gathers_12 : decode cX13_gathers 12 = .ok (.if_icmp .ge 185, 3) := by decide +kernel
theorem dX13_gathers_15 : decode cX13_gathers 15 = .ok (.iconst 0, 1) := by decide +kernel
theorem dX13_gathers_16 : decode cX13_gathers 16 = .ok (.istore_n 3, 1) := by decide +kernel
theorem dX13_gathers_17 : decode cX13_gathers 17 = .ok (.iload_n 3, 1) := by decide +kernel
theorem dX13_gathers_18 : decode cX13_gathers 18 = .ok (.aload_n 0, 1) := by decide +kernel
theorem dX13_gathers_19 : decode cX13_gathers 19 = .ok (.getfield 87, 3) := by decide +kernel
theorem dX13_gathers_22 : decode cX13_gathers 22 = .ok (.iload_n 2, 1) := by decide +kernel
theorem dX13_gathers_23 : decode cX13_gathers 23 = .ok (.iaload, 1) := by decide +kernel
theorem dX13_gathers_24 : decode cX13_gathers 24 = .ok (.if_icmp .ge 167, 3) := by decide +kernel
theorem dX13_gathers_27 : decode cX13_gathers 27 = .ok (.aload_n 0, 1) := by decide +kernel
theorem dX13_gathers_28 : decode cX13_gathers 28 = .ok (.getfield 84, 3) := by decide +kernel
theorem dX13_gathers_31 : decode cX13_gathers 31 = .ok (.iload_n 2, 1) := by decide +kernel
theorem dX13_gathers_32 : decode cX13_gathers 32 = .ok (.iaload, 1) := by decide +kernel
theorem dX13_gathers_33 : decode cX13_gathers 33 = .ok (.iload_n 1, 1) := by decide +kernel
theorem dX13_gathers_34 : decode cX13_gathers 34 = .ok (.if_icmp .ne 151, 3) := by decide +kernel
theorem dX13_gathers_37 : decode cX13_gathers 37 = .ok (.aload_n 0, 1) := by decide +kernel
theorem dX13_gathers_38 : decode cX13_gathers 38 = .ok (.getfield 105, 3) := by decide +kernel
theorem dX13_gathers_41 : decode cX13_gathers 41 = .ok (.iload_n 2, 1) := by decide +kernel
theorem dX13_gathers_42 : decode cX13_gathers 42 = .ok (.iaload, 1) := by decide +kernel
theorem dX13_gathers_43 : decode cX13_gathers 43 = .ok (.iconst 3, 1) := by decide +kernel
theorem dX13_gathers_44 : decode cX13_gathers 44 = .ok (.if_icmp .ne 141, 3) := by decide +kernel
theorem dX13_gathers_47 : decode cX13_gathers 47 = .ok (.aload_n 0, 1) := by decide +kernel
theorem dX13_gathers_48 : decode cX13_gathers 48 = .ok (.getfield 126, 3) := by decide +kernel
theorem dX13_gathers_51 : decode cX13_gathers 51 = .ok (.bipush 60, 2) := by decide +kernel
theorem dX13_gathers_53 : decode cX13_gathers 53 = .ok (.iload_n 2, 1) := by decide +kernel
theorem dX13_gathers_54 : decode cX13_gathers 54 = .ok (.imul, 1) := by decide +kernel
theorem dX13_gathers_55 : decode cX13_gathers 55 = .ok (.iload_n 3, 1) := by decide +kernel
theorem dX13_gathers_56 : decode cX13_gathers 56 = .ok (.iadd, 1) := by decide +kernel
theorem dX13_gathers_57 : decode cX13_gathers 57 = .ok (.iaload, 1) := by decide +kernel
theorem dX13_gathers_58 : decode cX13_gathers 58 = .ok (.ifCond .ne 127, 3) := by decide +kernel
theorem dX13_gathers_61 : decode cX13_gathers 61 = .ok (.aload_n 0, 1) := by decide +kernel
theorem dX13_gathers_62 : decode cX13_gathers 62 = .ok (.iload_n 2, 1) := by decide +kernel
theorem dX13_gathers_63 : decode cX13_gathers 63 = .ok (.iload_n 3, 1) := by decide +kernel
theorem dX13_gathers_64 : decode cX13_gathers 64 = .ok (.aload_n 0, 1) := by decide +kernel
theorem dX13_gathers_65 : decode cX13_gathers 65 = .ok (.getfield 410, 3) := by decide +kernel
theorem dX13_gathers_68 : decode cX13_gathers 68 = .ok (.invokevirtual 441, 3) := by decide +kernel
theorem dX13_gathers_71 : decode cX13_gathers 71 = .ok (.iconst 2, 1) := by decide +kernel
theorem dX13_gathers_72 : decode cX13_gathers 72 = .ok (.if_icmp .eq 6, 3) := by decide +kernel
theorem dX13_gathers_75 : decode cX13_gathers 75 = .ok (.goto 110, 3) := by decide +kernel
theorem dX13_gathers_78 : decode cX13_gathers 78 = .ok (.aload_n 0, 1) := by decide +kernel
theorem dX13_gathers_79 : decode cX13_gathers 79 = .ok (.iload_n 2, 1) := by decide +kernel
theorem dX13_gathers_80 : decode cX13_gathers 80 = .ok (.iload_n 3, 1) := by decide +kernel
theorem dX13_gathers_81 : decode cX13_gathers 81 = .ok (.aload_n 0, 1) := by decide +kernel
theorem dX13_gathers_82 : decode cX13_gathers 82 = .ok (.getfield 410, 3) := by decide +kernel
theorem dX13_gathers_85 : decode cX13_gathers 85 = .ok (.invokevirtual 438, 3) := by decide +kernel
theorem dX13_gathers_88 : decode cX13_gathers 88 = .ok (.istore 4, 2) := by decide +kernel
theorem dX13_gathers_90 : decode cX13_gathers 90 = .ok (.aload_n 0, 1) := by decide +kernel
theorem dX13_gathers_91 : decode cX13_gathers 91 = .ok (.getfield 447, 3) := by decide +kernel
theorem dX13_gathers_94 : decode cX13_gathers 94 = .ok (.istore 5, 2) := by decide +kernel
theorem dX13_gathers_96 : decode cX13_gathers 96 = .ok (.iload 5, 2) := by decide +kernel
theorem dX13_gathers_98 : decode cX13_gathers 98 = .ok (.ifCond .le 55, 3) := by decide +kernel
theorem dX13_gathers_101 : decode cX13_gathers 101 = .ok (.aload_n 0, 1) := by decide +kernel
theorem dX13_gathers_102 : decode cX13_gathers 102 = .ok (.getfield 144, 3) := by decide +kernel
theorem dX13_gathers_105 : decode cX13_gathers 105 = .ok (.iload 5, 2) := by decide +kernel
theorem dX13_gathers_107 : decode cX13_gathers 107 = .ok (.iconst 1, 1) := by decide +kernel
theorem dX13_gathers_108 : decode cX13_gathers 108 = .ok (.isub, 1) := by decide +kernel
theorem dX13_gathers_109 : decode cX13_gathers 109 = .ok (.iaload, 1) := by decide +kernel
theorem dX13_gathers_110 : decode cX13_gathers 110 = .ok (.iload 4, 2) := by decide +kernel
theorem dX13_gathers_112 : decode cX13_gathers 112 = .ok (.if_icmp .le 41, 3) := by decide +kernel
theorem dX13_gathers_115 : decode cX13_gathers 115 = .ok (.aload_n 0, 1) := by decide +kernel
theorem dX13_gathers_116 : decode cX13_gathers 116 = .ok (.getfield 144, 3) := by decide +kernel
theorem dX13_gathers_119 : decode cX13_gathers 119 = .ok (.iload 5, 2) := by decide +kernel
theorem dX13_gathers_121 : decode cX13_gathers 121 = .ok (.aload_n 0, 1) := by decide +kernel
theorem dX13_gathers_122 : decode cX13_gathers 122 = .ok (.getfield 144, 3) := by decide +kernel
theorem dX13_gathers_125 : decode cX13_gathers 125 = .ok (.iload 5, 2) := by decide +kernel
theorem dX13_gathers_127 : decode cX13_gathers 127 = .ok (.iconst 1, 1) := by decide +kernel
theorem dX13_gathers_128 : decode cX13_gathers 128 = .ok (.isub, 1) := by decide +kernel
theorem dX13_gathers_129 : decode cX13_gathers 129 = .ok (.iaload, 1) := by decide +kernel
theorem dX13_gathers_130 : decode cX13_gathers 130 = .ok (.iastore, 1) := by decide +kernel
theorem dX13_gathers_131 : decode cX13_gathers 131 = .ok (.aload_n 0, 1) := by decide +kernel
theorem dX13_gathers_132 : decode cX13_gathers 132 = .ok (.getfield 141, 3) := by decide +kernel
theorem dX13_gathers_135 : decode cX13_gathers 135 = .ok (.iload 5, 2) := by decide +kernel
theorem dX13_gathers_137 : decode cX13_gathers 137 = .ok (.aload_n 0, 1) := by decide +kernel
theorem dX13_gathers_138 : decode cX13_gathers 138 = .ok (.getfield 141, 3) := by decide +kernel
theorem dX13_gathers_141 : decode cX13_gathers 141 = .ok (.iload 5, 2) := by decide +kernel
theorem dX13_gathers_143 : decode cX13_gathers 143 = .ok (.iconst 1, 1) := by decide +kernel
theorem dX13_gathers_144 : decode cX13_gathers 144 = .ok (.isub, 1) := by decide +kernel
theorem dX13_gathers_145 : decode cX13_gathers 145 = .ok (.iaload, 1) := by decide +kernel
theorem dX13_gathers_146 : decode cX13_gathers 146 = .ok (.iastore, 1) := by decide +kernel
theorem dX13_gathers_147 : decode cX13_gathers 147 = .ok (.iinc 5 (-1), 3) := by decide +kernel
theorem dX13_gathers_150 : decode cX13_gathers 150 = .ok (.goto (-54), 3) := by decide +kernel
theorem dX13_gathers_153 : decode cX13_gathers 153 = .ok (.aload_n 0, 1) := by decide +kernel
theorem dX13_gathers_154 : decode cX13_gathers 154 = .ok (.getfield 144, 3) := by decide +kernel
theorem dX13_gathers_157 : decode cX13_gathers 157 = .ok (.iload 5, 2) := by decide +kernel
theorem dX13_gathers_159 : decode cX13_gathers 159 = .ok (.iload 4, 2) := by decide +kernel
theorem dX13_gathers_161 : decode cX13_gathers 161 = .ok (.iastore, 1) := by decide +kernel
theorem dX13_gathers_162 : decode cX13_gathers 162 = .ok (.aload_n 0, 1) := by decide +kernel
theorem dX13_gathers_163 : decode cX13_gathers 163 = .ok (.getfield 141, 3) := by decide +kernel
theorem dX13_gathers_166 : decode cX13_gathers 166 = .ok (.iload 5, 2) := by decide +kernel
theorem dX13_gathers_168 : decode cX13_gathers 168 = .ok (.bipush 60, 2) := by decide +kernel
theorem dX13_gathers_170 : decode cX13_gathers 170 = .ok (.iload_n 2, 1) := by decide +kernel
theorem dX13_gathers_171 : decode cX13_gathers 171 = .ok (.imul, 1) := by decide +kernel
theorem dX13_gathers_172 : decode cX13_gathers 172 = .ok (.iload_n 3, 1) := by decide +kernel
theorem dX13_gathers_173 : decode cX13_gathers 173 = .ok (.iadd, 1) := by decide +kernel
theorem dX13_gathers_174 : decode cX13_gathers 174 = .ok (.iastore, 1) := by decide +kernel
theorem dX13_gathers_175 : decode cX13_gathers 175 = .ok (.aload_n 0, 1) := by decide +kernel
theorem dX13_gathers_176 : decode cX13_gathers 176 = .ok (.dup, 1) := by decide +kernel
theorem dX13_gathers_177 : decode cX13_gathers 177 = .ok (.getfield 447, 3) := by decide +kernel
theorem dX13_gathers_180 : decode cX13_gathers 180 = .ok (.iconst 1, 1) := by decide +kernel
theorem dX13_gathers_181 : decode cX13_gathers 181 = .ok (.iadd, 1) := by decide +kernel
theorem dX13_gathers_182 : decode cX13_gathers 182 = .ok (.putfield 447, 3) := by decide +kernel
theorem dX13_gathers_185 : decode cX13_gathers 185 = .ok (.iinc 3 1, 3) := by decide +kernel
theorem dX13_gathers_188 : decode cX13_gathers 188 = .ok (.goto (-171), 3) := by decide +kernel
theorem dX13_gathers_191 : decode cX13_gathers 191 = .ok (.iinc 2 1, 3) := by decide +kernel
theorem dX13_gathers_194 : decode cX13_gathers 194 = .ok (.goto (-187), 3) := by decide +kernel
theorem dX13_gathers_197 : decode cX13_gathers 197 = .ok (.return_, 1) := by decide +kernel
theorem dX13_packsOf_0 : decode cX13_packsOf 0 = .ok (.iconst 0, 1) := by decide +kernel
theorem dX13_packsOf_1 : decode cX13_packsOf 1 = .ok (.istore_n 2, 1) := by decide +kernel
theorem dX13_packsOf_2 : decode cX13_packsOf 2 = .ok (.iconst 0, 1) := by decide +kernel
theorem dX13_packsOf_3 : decode cX13_packsOf 3 = .ok (.istore_n 3, 1) := by decide +kernel
theorem dX13_packsOf_4 : decode cX13_packsOf 4 = .ok (.iload_n 3, 1) := by decide +kernel
theorem dX13_packsOf_5 : decode cX13_packsOf 5 = .ok (.aload_n 0, 1) := by decide +kernel
theorem dX13_packsOf_6 : decode cX13_packsOf 6 = .ok (.getfield 69, 3) := by decide +kernel
theorem dX13_packsOf_9 : decode cX13_packsOf 9 = .ok (.bipush 16, 2) := by decide +kernel
theorem dX13_packsOf_11 : decode cX13_packsOf 11 = .ok (.iaload, 1) := by decide +kernel
theorem dX13_packsOf_12 : decode cX13_packsOf 12 = .ok (.iadd, 1) := by decide +kernel
theorem dX13_packsOf_13 : decode cX13_packsOf 13 = .ok (.aload_n 0, 1) := by decide +kernel
theorem dX13_packsOf_14 : decode cX13_packsOf 14 = .ok (.getfield 447, 3) := by decide +kernel
theorem dX13_packsOf_17 : decode cX13_packsOf 17 = .ok (.if_icmp .gt 135, 3) := by decide +kernel
theorem dX13_packsOf_20 : decode cX13_packsOf 20 = .ok (.aload_n 0, 1) := by decide +kernel
theorem dX13_packsOf_21 : decode cX13_packsOf 21 = .ok (.getfield 144, 3) := by decide +kernel
theorem dX13_packsOf_24 : decode cX13_packsOf 24 = .ok (.iload_n 3, 1) := by decide +kernel
theorem dX13_packsOf_25 : decode cX13_packsOf 25 = .ok (.aload_n 0, 1) := by decide +kernel
theorem dX13_packsOf_26 : decode cX13_packsOf 26 = .ok (.getfield 69, 3) := by decide +kernel
theorem dX13_packsOf_29 : decode cX13_packsOf 29 = .ok (.bipush 16, 2) := by decide +kernel
theorem dX13_packsOf_31 : decode cX13_packsOf 31 = .ok (.iaload, 1) := by decide +kernel
theorem dX13_packsOf_32 : decode cX13_packsOf 32 = .ok (.iadd, 1) := by decide +kernel
theorem dX13_packsOf_33 : decode cX13_packsOf 33 = .ok (.iconst 1, 1) := by decide +kernel
theorem dX13_packsOf_34 : decode cX13_packsOf 34 = .ok (.isub, 1) := by decide +kernel
theorem dX13_packsOf_35 : decode cX13_packsOf 35 = .ok (.iaload, 1) := by decide +kernel
theorem dX13_packsOf_36 : decode cX13_packsOf 36 = .ok (.aload_n 0, 1) := by decide +kernel
theorem dX13_packsOf_37 : decode cX13_packsOf 37 = .ok (.getfield 144, 3) := by decide +kernel
theorem dX13_packsOf_40 : decode cX13_packsOf 40 = .ok (.iload_n 3, 1) := by decide +kernel
theorem dX13_packsOf_41 : decode cX13_packsOf 41 = .ok (.iaload, 1) := by decide +kernel
theorem dX13_packsOf_42 : decode cX13_packsOf 42 = .ok (.isub, 1) := by decide +kernel
theorem dX13_packsOf_43 : decode cX13_packsOf 43 = .ok (.aload_n 0, 1) := by decide +kernel
theorem dX13_packsOf_44 : decode cX13_packsOf 44 = .ok (.getfield 69, 3) := by decide +kernel
theorem dX13_packsOf_47 : decode cX13_packsOf 47 = .ok (.bipush 17, 2) := by decide +kernel
theorem dX13_packsOf_49 : decode cX13_packsOf 49 = .ok (.iaload, 1) := by decide +kernel
theorem dX13_packsOf_50 : decode cX13_packsOf 50 = .ok (.if_icmp .le 9, 3) := by decide +kernel
theorem dX13_packsOf_53 : decode cX13_packsOf 53 = .ok (.iinc 3 1, 3) := by decide +kernel
theorem dX13_packsOf_56 : decode cX13_packsOf 56 = .ok (.goto (-52), 3) := by decide +kernel
theorem dX13_packsOf_59 : decode cX13_packsOf 59 = .ok (.iload_n 3, 1) := by decide +kernel
theorem dX13_packsOf_60 : decode cX13_packsOf 60 = .ok (.istore 4, 2) := by decide +kernel
theorem dX13_packsOf_62 : decode cX13_packsOf 62 = .ok (.iload 4, 2) := by decide +kernel
theorem dX13_packsOf_64 : decode cX13_packsOf 64 = .ok (.iload_n 3, 1) := by decide +kernel
theorem dX13_packsOf_65 : decode cX13_packsOf 65 = .ok (.aload_n 0, 1) := by decide +kernel
theorem dX13_packsOf_66 : decode cX13_packsOf 66 = .ok (.getfield 69, 3) := by decide +kernel
theorem dX13_packsOf_69 : decode cX13_packsOf 69 = .ok (.bipush 16, 2) := by decide +kernel
theorem dX13_packsOf_71 : decode cX13_packsOf 71 = .ok (.iaload, 1) := by decide +kernel
theorem dX13_packsOf_72 : decode cX13_packsOf 72 = .ok (.iadd, 1) := by decide +kernel
theorem dX13_packsOf_73 : decode cX13_packsOf 73 = .ok (.if_icmp .ge 63, 3) := by decide +kernel
theorem dX13_packsOf_76 : decode cX13_packsOf 76 = .ok (.iload_n 2, 1) := by decide +kernel
theorem dX13_packsOf_77 : decode cX13_packsOf 77 = .ok (.iload_n 1, 1) := by decide +kernel
theorem dX13_packsOf_78 : decode cX13_packsOf 78 = .ok (.if_icmp .ge 58, 3) := by decide +kernel
theorem dX13_packsOf_81 : decode cX13_packsOf 81 = .ok (.aload_n 0, 1) := by decide +kernel
theorem dX13_packsOf_82 : decode cX13_packsOf 82 = .ok (.getfield 126, 3) := by decide +kernel
theorem dX13_packsOf_85 : decode cX13_packsOf 85 = .ok (.aload_n 0, 1) := by decide +kernel
theorem dX13_packsOf_86 : decode cX13_packsOf 86 = .ok (.getfield 141, 3) := by decide +kernel
theorem dX13_packsOf_89 : decode cX13_packsOf 89 = .ok (.iload 4, 2) := by decide +kernel
theorem dX13_packsOf_91 : decode cX13_packsOf 91 = .ok (.iaload, 1) := by decide +kernel
theorem dX13_packsOf_92 : decode cX13_packsOf 92 = .ok (.iconst 2, 1) := by decide +kernel
theorem dX13_packsOf_93 : decode cX13_packsOf 93 = .ok (.iastore, 1) := by decide +kernel
theorem dX13_packsOf_94 : decode cX13_packsOf 94 = .ok (.aload_n 0, 1) := by decide +kernel
theorem dX13_packsOf_95 : decode cX13_packsOf 95 = .ok (.dup, 1) := by decide +kernel
theorem dX13_packsOf_96 : decode cX13_packsOf 96 = .ok (.getfield 450, 3) := by decide +kernel
theorem dX13_packsOf_99 : decode cX13_packsOf 99 = .ok (.aload_n 0, 1) := by decide +kernel
theorem dX13_packsOf_100 : decode cX13_packsOf 100 = .ok (.getfield 410, 3) := by decide +kernel
theorem dX13_packsOf_103 : decode cX13_packsOf 103 = .ok (.aload_n 0, 1) := by decide +kernel
theorem dX13_packsOf_104 : decode cX13_packsOf 104 = .ok (.getfield 102, 3) := by decide +kernel
theorem dX13_packsOf_107 : decode cX13_packsOf 107 = .ok (.aload_n 0, 1) := by decide +kernel
theorem dX13_packsOf_108 : decode cX13_packsOf 108 = .ok (.getfield 141, 3) := by decide +kernel
theorem dX13_packsOf_111 : decode cX13_packsOf 111 = .ok (.iload 4, 2) := by decide +kernel
theorem dX13_packsOf_113 : decode cX13_packsOf 113 = .ok (.iaload, 1) := by decide +kernel
theorem dX13_packsOf_114 : decode cX13_packsOf 114 = .ok (.bipush 60, 2) := by decide +kernel
theorem dX13_packsOf_116 : decode cX13_packsOf 116 = .ok (.idiv, 1) := by decide +kernel
theorem dX13_packsOf_117 : decode cX13_packsOf 117 = .ok (.iaload, 1) := by decide +kernel
theorem dX13_packsOf_118 : decode cX13_packsOf 118 = .ok (.if_icmp .le 7, 3) := by decide +kernel
theorem dX13_packsOf_121 : decode cX13_packsOf 121 = .ok (.iconst 1, 1) := by decide +kernel
theorem dX13_packsOf_122 : decode cX13_packsOf 122 = .ok (.goto 4, 3) := by decide +kernel
theorem dX13_packsOf_125 : decode cX13_packsOf 125 = .ok (.iconst 0, 1) := by decide +kernel
theorem dX13_packsOf_126 : decode cX13_packsOf 126 = .ok (.iadd, 1) := by decide +kernel
theorem dX13_packsOf_127 : decode cX13_packsOf 127 = .ok (.putfield 450, 3) := by decide +kernel
theorem dX13_packsOf_130 : decode cX13_packsOf 130 = .ok (.iinc 4 1, 3) := by decide +kernel
theorem dX13_packsOf_133 : decode cX13_packsOf 133 = .ok (.goto (-71), 3) := by decide +kernel
theorem dX13_packsOf_136 : decode cX13_packsOf 136 = .ok (.iinc 2 1, 3) := by decide +kernel
theorem dX13_packsOf_139 : decode cX13_packsOf 139 = .ok (.iload_n 3, 1) := by decide +kernel
theorem dX13_packsOf_140 : decode cX13_packsOf 140 = .ok (.aload_n 0, 1) := by decide +kernel
theorem dX13_packsOf_141 : decode cX13_packsOf 141 = .ok (.getfield 69, 3) := by decide +kernel
theorem dX13_packsOf_144 : decode cX13_packsOf 144 = .ok (.bipush 16, 2) := by decide +kernel
theorem dX13_packsOf_146 : decode cX13_packsOf 146 = .ok (.iaload, 1) := by decide +kernel
theorem dX13_packsOf_147 : decode cX13_packsOf 147 = .ok (.iadd, 1) := by decide +kernel
theorem dX13_packsOf_148 : decode cX13_packsOf 148 = .ok (.istore_n 3, 1) := by decide +kernel
theorem dX13_packsOf_149 : decode cX13_packsOf 149 = .ok (.goto (-145), 3) := by decide +kernel
theorem dX13_packsOf_152 : decode cX13_packsOf 152 = .ok (.iload_n 2, 1) := by decide +kernel
theorem dX13_packsOf_153 : decode cX13_packsOf 153 = .ok (.ireturn, 1) := by decide +kernel
theorem dX13_deliver_0 : decode cX13_deliver 0 = .ok (.aload_n 0, 1) := by decide +kernel
theorem dX13_deliver_1 : decode cX13_deliver 1 = .ok (.iconst 0, 1) := by decide +kernel
theorem dX13_deliver_2 : decode cX13_deliver 2 = .ok (.putfield 159, 3) := by decide +kernel
theorem dX13_deliver_5 : decode cX13_deliver 5 = .ok (.aload_n 0, 1) := by decide +kernel
theorem dX13_deliver_6 : decode cX13_deliver 6 = .ok (.aload_n 0, 1) := by decide +kernel
theorem dX13_deliver_7 : decode cX13_deliver 7 = .ok (.iload_n 1, 1) := by decide +kernel
theorem dX13_deliver_8 : decode cX13_deliver 8 = .ok (.invokevirtual 255, 3) := by decide +kernel
theorem dX13_deliver_11 : decode cX13_deliver 11 = .ok (.iconst 1, 1) := by decide +kernel
theorem dX13_deliver_12 : decode cX13_deliver 12 = .ok (.invokevirtual 223, 3) := by decide +kernel
theorem dX13_deliver_15 : decode cX13_deliver 15 = .ok (.ifCond .ne 26, 3) := by decide +kernel
theorem dX13_deliver_18 : decode cX13_deliver 18 = .ok (.aload_n 0, 1) := by decide +kernel
theorem dX13_deliver_19 : decode cX13_deliver 19 = .ok (.iload_n 2, 1) := by decide +kernel
theorem dX13_deliver_20 : decode cX13_deliver 20 = .ok (.iconst 1, 1) := by decide +kernel
theorem dX13_deliver_21 : decode cX13_deliver 21 = .ok (.bipush 20, 2) := by decide +kernel
theorem dX13_deliver_23 : decode cX13_deliver 23 = .ok (.invokestatic 234, 3) := by decide +kernel
theorem dX13_deliver_26 : decode cX13_deliver 26 = .ok (.ifCond .ne 7, 3) := by decide +kernel
theorem dX13_deliver_29 : decode cX13_deliver 29 = .ok (.iconst 1, 1) := by decide +kernel
theorem dX13_deliver_30 : decode cX13_deliver 30 = .ok (.goto 4, 3) := by decide +kernel
theorem dX13_deliver_33 : decode cX13_deliver 33 = .ok (.iconst 0, 1) := by decide +kernel
theorem dX13_deliver_34 : decode cX13_deliver 34 = .ok (.iconst 2, 1) := by decide +kernel
theorem dX13_deliver_35 : decode cX13_deliver 35 = .ok (.invokevirtual 223, 3) := by decide +kernel
theorem dX13_deliver_38 : decode cX13_deliver 38 = .ok (.ifCond .eq 5, 3) := by decide +kernel
theorem dX13_deliver_41 : decode cX13_deliver 41 = .ok (.iconst 0, 1) := by decide +kernel
theorem dX13_deliver_42 : decode cX13_deliver 42 = .ok (.ireturn, 1) := by decide +kernel
theorem dX13_deliver_43 : decode cX13_deliver 43 = .ok (.aload_n 0, 1) := by decide +kernel
theorem dX13_deliver_44 : decode cX13_deliver 44 = .ok (.iload_n 1, 1) := by decide +kernel
theorem dX13_deliver_45 : decode cX13_deliver 45 = .ok (.invokevirtual 453, 3) := by decide +kernel
theorem dX13_deliver_48 : decode cX13_deliver 48 = .ok (.aload_n 0, 1) := by decide +kernel
theorem dX13_deliver_49 : decode cX13_deliver 49 = .ok (.iconst 0, 1) := by decide +kernel
theorem dX13_deliver_50 : decode cX13_deliver 50 = .ok (.invokevirtual 456, 3) := by decide +kernel
theorem dX13_deliver_53 : decode cX13_deliver 53 = .ok (.iload_n 2, 1) := by decide +kernel
theorem dX13_deliver_54 : decode cX13_deliver 54 = .ok (.if_icmp .ge 5, 3) := by decide +kernel
theorem dX13_deliver_57 : decode cX13_deliver 57 = .ok (.iconst (-1), 1) := by decide +kernel
theorem dX13_deliver_58 : decode cX13_deliver 58 = .ok (.ireturn, 1) := by decide +kernel
theorem dX13_deliver_59 : decode cX13_deliver 59 = .ok (.aload_n 0, 1) := by decide +kernel
theorem dX13_deliver_60 : decode cX13_deliver 60 = .ok (.getfield 450, 3) := by decide +kernel
theorem dX13_deliver_63 : decode cX13_deliver 63 = .ok (.istore_n 3, 1) := by decide +kernel
theorem dX13_deliver_64 : decode cX13_deliver 64 = .ok (.aload_n 0, 1) := by decide +kernel
theorem dX13_deliver_65 : decode cX13_deliver 65 = .ok (.iload_n 2, 1) := by decide +kernel
theorem dX13_deliver_66 : decode cX13_deliver 66 = .ok (.invokevirtual 456, 3) := by decide +kernel
theorem dX13_deliver_69 : decode cX13_deliver 69 = .ok (.istore 4, 2) := by decide +kernel
theorem dX13_deliver_71 : decode cX13_deliver 71 = .ok (.aload_n 0, 1) := by decide +kernel
theorem dX13_deliver_72 : decode cX13_deliver 72 = .ok (.dup, 1) := by decide +kernel
theorem dX13_deliver_73 : decode cX13_deliver 73 = .ok (.getfield 459, 3) := by decide +kernel
theorem dX13_deliver_76 : decode cX13_deliver 76 = .ok (.iload_n 2, 1) := by decide +kernel
theorem dX13_deliver_77 : decode cX13_deliver 77 = .ok (.iadd, 1) := by decide +kernel
theorem dX13_deliver_78 : decode cX13_deliver 78 = .ok (.putfield 459, 3) := by decide +kernel
theorem dX13_deliver_81 : decode cX13_deliver 81 = .ok (.aload_n 0, 1) := by decide +kernel
theorem dX13_deliver_82 : decode cX13_deliver 82 = .ok (.getfield 450, 3) := by decide +kernel
theorem dX13_deliver_85 : decode cX13_deliver 85 = .ok (.iload_n 3, 1) := by decide +kernel
theorem dX13_deliver_86 : decode cX13_deliver 86 = .ok (.isub, 1) := by decide +kernel
theorem dX13_deliver_87 : decode cX13_deliver 87 = .ok (.ireturn, 1) := by decide +kernel
theorem dX13_ready_0 : decode cX13_ready 0 = .ok (.aload_n 0, 1) := by decide +kernel
theorem dX13_ready_1 : decode cX13_ready 1 = .ok (.iconst 0, 1) := by decide +kernel
theorem dX13_ready_2 : decode cX13_ready 2 = .ok (.putfield 159, 3) := by decide +kernel
theorem dX13_ready_5 : decode cX13_ready 5 = .ok (.aload_n 0, 1) := by decide +kernel
theorem dX13_ready_6 : decode cX13_ready 6 = .ok (.aload_n 0, 1) := by decide +kernel
theorem dX13_ready_7 : decode cX13_ready 7 = .ok (.iload_n 1, 1) := by decide +kernel
theorem dX13_ready_8 : decode cX13_ready 8 = .ok (.invokevirtual 255, 3) := by decide +kernel
theorem dX13_ready_11 : decode cX13_ready 11 = .ok (.iconst 1, 1) := by decide +kernel
theorem dX13_ready_12 : decode cX13_ready 12 = .ok (.invokevirtual 223, 3) := by decide +kernel
theorem dX13_ready_15 : decode cX13_ready 15 = .ok (.ifCond .eq 5, 3) := by decide +kernel
theorem dX13_ready_18 : decode cX13_ready 18 = .ok (.iconst 0, 1) := by decide +kernel
theorem dX13_ready_19 : decode cX13_ready 19 = .ok (.ireturn, 1) := by decide +kernel
theorem dX13_ready_20 : decode cX13_ready 20 = .ok (.aload_n 0, 1) := by decide +kernel
theorem dX13_ready_21 : decode cX13_ready 21 = .ok (.iload_n 1, 1) := by decide +kernel
theorem dX13_ready_22 : decode cX13_ready 22 = .ok (.invokevirtual 453, 3) := by decide +kernel
theorem dX13_ready_25 : decode cX13_ready 25 = .ok (.aload_n 0, 1) := by decide +kernel
theorem dX13_ready_26 : decode cX13_ready 26 = .ok (.iconst 0, 1) := by decide +kernel
theorem dX13_ready_27 : decode cX13_ready 27 = .ok (.invokevirtual 456, 3) := by decide +kernel
theorem dX13_ready_30 : decode cX13_ready 30 = .ok (.ireturn, 1) := by decide +kernel
theorem dX13_pattern_0 : decode cX13_pattern 0 = .ok (.aload_n 0, 1) := by decide +kernel
theorem dX13_pattern_1 : decode cX13_pattern 1 = .ok (.iconst 0, 1) := by decide +kernel
theorem dX13_pattern_2 : decode cX13_pattern 2 = .ok (.putfield 159, 3) := by decide +kernel
theorem dX13_pattern_5 : decode cX13_pattern 5 = .ok (.aload_n 0, 1) := by decide +kernel
theorem dX13_pattern_6 : decode cX13_pattern 6 = .ok (.iload_n 1, 1) := by decide +kernel
theorem dX13_pattern_7 : decode cX13_pattern 7 = .ok (.iconst 1, 1) := by decide +kernel
theorem dX13_pattern_8 : decode cX13_pattern 8 = .ok (.bipush 6, 2) := by decide +kernel
theorem dX13_pattern_10 : decode cX13_pattern 10 = .ok (.invokestatic 234, 3) := by decide +kernel
theorem dX13_pattern_13 : decode cX13_pattern 13 = .ok (.ifCond .eq 12, 3) := by decide +kernel
theorem dX13_pattern_16 : decode cX13_pattern 16 = .ok (.iload_n 2, 1) := by decide +kernel
theorem dX13_pattern_17 : decode cX13_pattern 17 = .ok (.iconst 1, 1) := by decide +kernel
theorem dX13_pattern_18 : decode cX13_pattern 18 = .ok (.iconst 4, 1) := by decide +kernel
theorem dX13_pattern_19 : decode cX13_pattern 19 = .ok (.invokestatic 234, 3) := by decide +kernel
theorem dX13_pattern_22 : decode cX13_pattern 22 = .ok (.ifCond .ne 7, 3) := by decide +kernel
theorem dX13_pattern_25 : decode cX13_pattern 25 = .ok (.iconst 1, 1) := by decide +kernel
theorem dX13_pattern_26 : decode cX13_pattern 26 = .ok (.goto 4, 3) := by decide +kernel
theorem dX13_pattern_29 : decode cX13_pattern 29 = .ok (.iconst 0, 1) := by decide +kernel
theorem dX13_pattern_30 : decode cX13_pattern 30 = .ok (.iconst 1, 1) := by decide +kernel
theorem dX13_pattern_31 : decode cX13_pattern 31 = .ok (.invokevirtual 223, 3) := by decide +kernel
theorem dX13_pattern_34 : decode cX13_pattern 34 = .ok (.ifCond .eq 4, 3) := by decide +kernel
theorem dX13_pattern_37 : decode cX13_pattern 37 = .ok (.return_, 1) := by decide +kernel
theorem dX13_pattern_38 : decode cX13_pattern 38 = .ok (.aload_n 0, 1) := by decide +kernel
theorem dX13_pattern_39 : decode cX13_pattern 39 = .ok (.iload_n 1, 1) := by decide +kernel
theorem dX13_pattern_40 : decode cX13_pattern 40 = .ok (.putfield 147, 3) := by decide +kernel
theorem dX13_pattern_43 : decode cX13_pattern 43 = .ok (.aload_n 0, 1) := by decide +kernel
theorem dX13_pattern_44 : decode cX13_pattern 44 = .ok (.iload_n 2, 1) := by decide +kernel
theorem dX13_pattern_45 : decode cX13_pattern 45 = .ok (.putfield 150, 3) := by decide +kernel
theorem dX13_pattern_48 : decode cX13_pattern 48 = .ok (.iconst 0, 1) := by decide +kernel
theorem dX13_pattern_49 : decode cX13_pattern 49 = .ok (.istore_n 3, 1) := by decide +kernel
theorem dX13_pattern_50 : decode cX13_pattern 50 = .ok (.iload_n 3, 1) := by decide +kernel
theorem dX13_pattern_51 : decode cX13_pattern 51 = .ok (.bipush 24, 2) := by decide +kernel
theorem dX13_pattern_53 : decode cX13_pattern 53 = .ok (.if_icmp .ge 16, 3) := by decide +kernel
theorem dX13_pattern_56 : decode cX13_pattern 56 = .ok (.aload_n 0, 1) := by decide +kernel
theorem dX13_pattern_57 : decode cX13_pattern 57 = .ok (.getfield 153, 3) := by decide +kernel
theorem dX13_pattern_60 : decode cX13_pattern 60 = .ok (.iload_n 3, 1) := by decide +kernel
theorem dX13_pattern_61 : decode cX13_pattern 61 = .ok (.iconst 0, 1) := by decide +kernel
theorem dX13_pattern_62 : decode cX13_pattern 62 = .ok (.iastore, 1) := by decide +kernel
theorem dX13_pattern_63 : decode cX13_pattern 63 = .ok (.iinc 3 1, 3) := by decide +kernel
theorem dX13_pattern_66 : decode cX13_pattern 66 = .ok (.goto (-16), 3) := by decide +kernel
theorem dX13_pattern_69 : decode cX13_pattern 69 = .ok (.return_, 1) := by decide +kernel
theorem dX13_heat_0 : decode cX13_heat 0 = .ok (.aload_n 0, 1) := by decide +kernel
theorem dX13_heat_1 : decode cX13_heat 1 = .ok (.iconst 0, 1) := by decide +kernel
theorem dX13_heat_2 : decode cX13_heat 2 = .ok (.putfield 159, 3) := by decide +kernel
theorem dX13_heat_5 : decode cX13_heat 5 = .ok (.aload_n 0, 1) := by decide +kernel
theorem dX13_heat_6 : decode cX13_heat 6 = .ok (.iload_n 1, 1) := by decide +kernel
theorem dX13_heat_7 : decode cX13_heat 7 = .ok (.iconst 0, 1) := by decide +kernel
theorem dX13_heat_8 : decode cX13_heat 8 = .ok (.aload_n 0, 1) := by decide +kernel
theorem dX13_heat_9 : decode cX13_heat 9 = .ok (.getfield 147, 3) := by decide +kernel
theorem dX13_heat_12 : decode cX13_heat 12 = .ok (.iconst 1, 1) := by decide +kernel
theorem dX13_heat_13 : decode cX13_heat 13 = .ok (.isub, 1) := by decide +kernel
theorem dX13_heat_14 : decode cX13_heat 14 = .ok (.invokestatic 234, 3) := by decide +kernel
theorem dX13_heat_17 : decode cX13_heat 17 = .ok (.ifCond .eq 27, 3) := by decide +kernel
theorem dX13_heat_20 : decode cX13_heat 20 = .ok (.iload_n 2, 1) := by decide +kernel
theorem dX13_heat_21 : decode cX13_heat 21 = .ok (.iconst 0, 1) := by decide +kernel
theorem dX13_heat_22 : decode cX13_heat 22 = .ok (.aload_n 0, 1) := by decide +kernel
theorem dX13_heat_23 : decode cX13_heat 23 = .ok (.getfield 150, 3) := by decide +kernel
theorem dX13_heat_26 : decode cX13_heat 26 = .ok (.iconst 1, 1) := by decide +kernel
theorem dX13_heat_27 : decode cX13_heat 27 = .ok (.isub, 1) := by decide +kernel
theorem dX13_heat_28 : decode cX13_heat 28 = .ok (.invokestatic 234, 3) := by decide +kernel
theorem dX13_heat_31 : decode cX13_heat 31 = .ok (.ifCond .eq 13, 3) := by decide +kernel
theorem dX13_heat_34 : decode cX13_heat 34 = .ok (.iload_n 3, 1) := by decide +kernel
theorem dX13_heat_35 : decode cX13_heat 35 = .ok (.iconst 0, 1) := by decide +kernel
theorem dX13_heat_36 : decode cX13_heat 36 = .ok (.bipush 9, 2) := by decide +kernel
theorem dX13_heat_38 : decode cX13_heat 38 = .ok (.invokestatic 234, 3) := by decide +kernel
theorem dX13_heat_41 : decode cX13_heat 41 = .ok (.ifCond .ne 7, 3) := by decide +kernel
theorem dX13_heat_44 : decode cX13_heat 44 = .ok (.iconst 1, 1) := by decide +kernel
theorem dX13_heat_45 : decode cX13_heat 45 = .ok (.goto 4, 3) := by decide +kernel
theorem dX13_heat_48 : decode cX13_heat 48 = .ok (.iconst 0, 1) := by decide +kernel
theorem dX13_heat_49 : decode cX13_heat 49 = .ok (.iconst 1, 1) := by decide +kernel
theorem dX13_heat_50 : decode cX13_heat 50 = .ok (.invokevirtual 223, 3) := by decide +kernel
theorem dX13_heat_53 : decode cX13_heat 53 = .ok (.ifCond .eq 5, 3) := by decide +kernel
theorem dX13_heat_56 : decode cX13_heat 56 = .ok (.iconst 0, 1) := by decide +kernel
theorem dX13_heat_57 : decode cX13_heat 57 = .ok (.ireturn, 1) := by decide +kernel
theorem dX13_heat_58 : decode cX13_heat 58 = .ok (.aload_n 0, 1) := by decide +kernel
theorem dX13_heat_59 : decode cX13_heat 59 = .ok (.getfield 153, 3) := by decide +kernel
theorem dX13_heat_62 : decode cX13_heat 62 = .ok (.bipush 6, 2) := by decide +kernel
theorem dX13_heat_64 : decode cX13_heat 64 = .ok (.iload_n 2, 1) := by decide +kernel
theorem dX13_heat_65 : decode cX13_heat 65 = .ok (.imul, 1) := by decide +kernel
theorem dX13_heat_66 : decode cX13_heat 66 = .ok (.iload_n 1, 1) := by decide +kernel
theorem dX13_heat_67 : decode cX13_heat 67 = .ok (.iadd, 1) := by decide +kernel
theorem dX13_heat_68 : decode cX13_heat 68 = .ok (.iaload, 1) := by decide +kernel
theorem dX13_heat_69 : decode cX13_heat 69 = .ok (.iload_n 3, 1) := by decide +kernel
theorem dX13_heat_70 : decode cX13_heat 70 = .ok (.if_icmp .eq 7, 3) := by decide +kernel
theorem dX13_heat_73 : decode cX13_heat 73 = .ok (.iconst 1, 1) := by decide +kernel
theorem dX13_heat_74 : decode cX13_heat 74 = .ok (.goto 4, 3) := by decide +kernel
theorem dX13_heat_77 : decode cX13_heat 77 = .ok (.iconst 0, 1) := by decide +kernel
theorem dX13_heat_78 : decode cX13_heat 78 = .ok (.istore 4, 2) := by decide +kernel
theorem dX13_heat_80 : decode cX13_heat 80 = .ok (.aload_n 0, 1) := by decide +kernel
theorem dX13_heat_81 : decode cX13_heat 81 = .ok (.getfield 153, 3) := by decide +kernel
theorem dX13_heat_84 : decode cX13_heat 84 = .ok (.bipush 6, 2) := by decide +kernel
theorem dX13_heat_86 : decode cX13_heat 86 = .ok (.iload_n 2, 1) := by decide +kernel
theorem dX13_heat_87 : decode cX13_heat 87 = .ok (.imul, 1) := by decide +kernel
theorem dX13_heat_88 : decode cX13_heat 88 = .ok (.iload_n 1, 1) := by decide +kernel
theorem dX13_heat_89 : decode cX13_heat 89 = .ok (.iadd, 1) := by decide +kernel
theorem dX13_heat_90 : decode cX13_heat 90 = .ok (.iload_n 3, 1) := by decide +kernel
theorem dX13_heat_91 : decode cX13_heat 91 = .ok (.iastore, 1) := by decide +kernel
theorem dX13_heat_92 : decode cX13_heat 92 = .ok (.iload 4, 2) := by decide +kernel
theorem dX13_heat_94 : decode cX13_heat 94 = .ok (.ireturn, 1) := by decide +kernel
theorem dX13_burn_0 : decode cX13_burn 0 = .ok (.aload_n 0, 1) := by decide +kernel
theorem dX13_burn_1 : decode cX13_burn 1 = .ok (.iconst 0, 1) := by decide +kernel
theorem dX13_burn_2 : decode cX13_burn 2 = .ok (.putfield 159, 3) := by decide +kernel
theorem dX13_burn_5 : decode cX13_burn 5 = .ok (.aload_n 0, 1) := by decide +kernel
theorem dX13_burn_6 : decode cX13_burn 6 = .ok (.iload_n 1, 1) := by decide +kernel
theorem dX13_burn_7 : decode cX13_burn 7 = .ok (.iconst 0, 1) := by decide +kernel
theorem dX13_burn_8 : decode cX13_burn 8 = .ok (.iconst 1, 1) := by decide +kernel
theorem dX13_burn_9 : decode cX13_burn 9 = .ok (.invokestatic 234, 3) := by decide +kernel
theorem dX13_burn_12 : decode cX13_burn 12 = .ok (.ifCond .ne 7, 3) := by decide +kernel
theorem dX13_burn_15 : decode cX13_burn 15 = .ok (.iconst 1, 1) := by decide +kernel
theorem dX13_burn_16 : decode cX13_burn 16 = .ok (.goto 4, 3) := by decide +kernel
theorem dX13_burn_19 : decode cX13_burn 19 = .ok (.iconst 0, 1) := by decide +kernel
theorem dX13_burn_20 : decode cX13_burn 20 = .ok (.iconst 1, 1) := by decide +kernel
theorem dX13_burn_21 : decode cX13_burn 21 = .ok (.invokevirtual 223, 3) := by decide +kernel
theorem dX13_burn_24 : decode cX13_burn 24 = .ok (.ifCond .ne 34, 3) := by decide +kernel
theorem dX13_burn_27 : decode cX13_burn 27 = .ok (.aload_n 0, 1) := by decide +kernel
theorem dX13_burn_28 : decode cX13_burn 28 = .ok (.iload_n 2, 1) := by decide +kernel
theorem dX13_burn_29 : decode cX13_burn 29 = .ok (.iconst 0, 1) := by decide +kernel
theorem dX13_burn_30 : decode cX13_burn 30 = .ok (.iconst 5, 1) := by decide +kernel
theorem dX13_burn_31 : decode cX13_burn 31 = .ok (.invokestatic 234, 3) := by decide +kernel
theorem dX13_burn_34 : decode cX13_burn 34 = .ok (.ifCond .eq 12, 3) := by decide +kernel
theorem dX13_burn_37 : decode cX13_burn 37 = .ok (.iload_n 3, 1) := by decide +kernel
theorem dX13_burn_38 : decode cX13_burn 38 = .ok (.iconst 0, 1) := by decide +kernel
theorem dX13_burn_39 : decode cX13_burn 39 = .ok (.iconst 3, 1) := by decide +kernel
theorem dX13_burn_40 : decode cX13_burn 40 = .ok (.invokestatic 234, 3) := by decide +kernel
theorem dX13_burn_43 : decode cX13_burn 43 = .ok (.ifCond .ne 7, 3) := by decide +kernel
theorem dX13_burn_46 : decode cX13_burn 46 = .ok (.iconst 1, 1) := by decide +kernel
theorem dX13_burn_47 : decode cX13_burn 47 = .ok (.goto 4, 3) := by decide +kernel
theorem dX13_burn_50 : decode cX13_burn 50 = .ok (.iconst 0, 1) := by decide +kernel
theorem dX13_burn_51 : decode cX13_burn 51 = .ok (.iconst 2, 1) := by decide +kernel
theorem dX13_burn_52 : decode cX13_burn 52 = .ok (.invokevirtual 223, 3) := by decide +kernel
theorem dX13_burn_55 : decode cX13_burn 55 = .ok (.ifCond .eq 4, 3) := by decide +kernel
theorem dX13_burn_58 : decode cX13_burn 58 = .ok (.return_, 1) := by decide +kernel
theorem dX13_burn_59 : decode cX13_burn 59 = .ok (.iconst 0, 1) := by decide +kernel
theorem dX13_burn_60 : decode cX13_burn 60 = .ok (.istore 4, 2) := by decide +kernel
theorem dX13_burn_62 : decode cX13_burn 62 = .ok (.iload 4, 2) := by decide +kernel
theorem dX13_burn_64 : decode cX13_burn 64 = .ok (.bipush 8, 2) := by decide +kernel
theorem dX13_burn_66 : decode cX13_burn 66 = .ok (.if_icmp .ge 91, 3) := by decide +kernel
theorem dX13_burn_69 : decode cX13_burn 69 = .ok (.iconst 0, 1) := by decide +kernel
theorem dX13_burn_70 : decode cX13_burn 70 = .ok (.istore 5, 2) := by decide +kernel
theorem dX13_burn_72 : decode cX13_burn 72 = .ok (.iload 5, 2) := by decide +kernel
theorem dX13_burn_74 : decode cX13_burn 74 = .ok (.bipush 12, 2) := by decide +kernel
theorem dX13_burn_76 : decode cX13_burn 76 = .ok (.if_icmp .ge 75, 3) := by decide +kernel
theorem dX13_burn_79 : decode cX13_burn 79 = .ok (.bipush 12, 2) := by decide +kernel
theorem dX13_burn_81 : decode cX13_burn 81 = .ok (.bipush 8, 2) := by decide +kernel
theorem dX13_burn_83 : decode cX13_burn 83 = .ok (.iload_n 1, 1) := by decide +kernel
theorem dX13_burn_84 : decode cX13_burn 84 = .ok (.imul, 1) := by decide +kernel
theorem dX13_burn_85 : decode cX13_burn 85 = .ok (.iload 4, 2) := by decide +kernel
theorem dX13_burn_87 : decode cX13_burn 87 = .ok (.iadd, 1) := by decide +kernel
theorem dX13_burn_88 : decode cX13_burn 88 = .ok (.imul, 1) := by decide +kernel
theorem dX13_burn_89 : decode cX13_burn 89 = .ok (.iload 5, 2) := by decide +kernel
theorem dX13_burn_91 : decode cX13_burn 91 = .ok (.iadd, 1) := by decide +kernel
theorem dX13_burn_92 : decode cX13_burn 92 = .ok (.istore 6, 2) := by decide +kernel
theorem dX13_burn_94 : decode cX13_burn 94 = .ok (.aload_n 0, 1) := by decide +kernel
theorem dX13_burn_95 : decode cX13_burn 95 = .ok (.getfield 156, 3) := by decide +kernel
theorem dX13_burn_98 : decode cX13_burn 98 = .ok (.iload 6, 2) := by decide +kernel
theorem dX13_burn_100 : decode cX13_burn 100 = .ok (.bipush 99, 2) := by decide +kernel
theorem dX13_burn_102 : decode cX13_burn 102 = .ok (.aload_n 0, 1) := by decide +kernel
theorem dX13_burn_103 : decode cX13_burn 103 = .ok (.getfield 156, 3) := by decide +kernel
theorem dX13_burn_106 : decode cX13_burn 106 = .ok (.iload 6, 2) := by decide +kernel
theorem dX13_burn_108 : decode cX13_burn 108 = .ok (.iaload, 1) := by decide +kernel
theorem dX13_burn_109 : decode cX13_burn 109 = .ok (.aload_n 0, 1) := by decide +kernel
theorem dX13_burn_110 : decode cX13_burn 110 = .ok (.getfield 153, 3) := by decide +kernel
theorem dX13_burn_113 : decode cX13_burn 113 = .ok (.bipush 6, 2) := by decide +kernel
theorem dX13_burn_115 : decode cX13_burn 115 = .ok (.iload 4, 2) := by decide +kernel
theorem dX13_burn_117 : decode cX13_burn 117 = .ok (.iload_n 3, 1) := by decide +kernel
theorem dX13_burn_118 : decode cX13_burn 118 = .ok (.isub, 1) := by decide +kernel
theorem dX13_burn_119 : decode cX13_burn 119 = .ok (.aload_n 0, 1) := by decide +kernel
theorem dX13_burn_120 : decode cX13_burn 120 = .ok (.getfield 150, 3) := by decide +kernel
theorem dX13_burn_123 : decode cX13_burn 123 = .ok (.invokestatic 462, 3) := by decide +kernel
theorem dX13_burn_126 : decode cX13_burn 126 = .ok (.imul, 1) := by decide +kernel
theorem dX13_burn_127 : decode cX13_burn 127 = .ok (.iload 5, 2) := by decide +kernel
theorem dX13_burn_129 : decode cX13_burn 129 = .ok (.iload_n 2, 1) := by decide +kernel
theorem dX13_burn_130 : decode cX13_burn 130 = .ok (.isub, 1) := by decide +kernel
theorem dX13_burn_131 : decode cX13_burn 131 = .ok (.aload_n 0, 1) := by decide +kernel
theorem dX13_burn_132 : decode cX13_burn 132 = .ok (.getfield 147, 3) := by decide +kernel
theorem dX13_burn_135 : decode cX13_burn 135 = .ok (.invokestatic 462, 3) := by decide +kernel
theorem dX13_burn_138 : decode cX13_burn 138 = .ok (.iadd, 1) := by decide +kernel
theorem dX13_burn_139 : decode cX13_burn 139 = .ok (.iaload, 1) := by decide +kernel
theorem dX13_burn_140 : decode cX13_burn 140 = .ok (.iadd, 1) := by decide +kernel
theorem dX13_burn_141 : decode cX13_burn 141 = .ok (.invokestatic 305, 3) := by decide +kernel
theorem dX13_burn_144 : decode cX13_burn 144 = .ok (.iastore, 1) := by decide +kernel
theorem dX13_burn_145 : decode cX13_burn 145 = .ok (.iinc 5 1, 3) := by decide +kernel
theorem dX13_burn_148 : decode cX13_burn 148 = .ok (.goto (-76), 3) := by decide +kernel
theorem dX13_burn_151 : decode cX13_burn 151 = .ok (.iinc 4 1, 3) := by decide +kernel
theorem dX13_burn_154 : decode cX13_burn 154 = .ok (.goto (-92), 3) := by decide +kernel
theorem dX13_burn_157 : decode cX13_burn 157 = .ok (.return_, 1) := by decide +kernel
theorem dX13_burned_0 : decode cX13_burned 0 = .ok (.aload_n 0, 1) := by decide +kernel
theorem dX13_burned_1 : decode cX13_burned 1 = .ok (.iconst 0, 1) := by decide +kernel
theorem dX13_burned_2 : decode cX13_burned 2 = .ok (.putfield 159, 3) := by decide +kernel
theorem dX13_burned_5 : decode cX13_burned 5 = .ok (.aload_n 0, 1) := by decide +kernel
theorem dX13_burned_6 : decode cX13_burned 6 = .ok (.iload_n 1, 1) := by decide +kernel
theorem dX13_burned_7 : decode cX13_burned 7 = .ok (.iconst 0, 1) := by decide +kernel
theorem dX13_burned_8 : decode cX13_burned 8 = .ok (.iconst 1, 1) := by decide +kernel
theorem dX13_burned_9 : decode cX13_burned 9 = .ok (.invokestatic 234, 3) := by decide +kernel
theorem dX13_burned_12 : decode cX13_burned 12 = .ok (.ifCond .ne 7, 3) := by decide +kernel
theorem dX13_burned_15 : decode cX13_burned 15 = .ok (.iconst 1, 1) := by decide +kernel
theorem dX13_burned_16 : decode cX13_burned 16 = .ok (.goto 4, 3) := by decide +kernel
theorem dX13_burned_19 : decode cX13_burned 19 = .ok (.iconst 0, 1) := by decide +kernel
theorem dX13_burned_20 : decode cX13_burned 20 = .ok (.iconst 1, 1) := by decide +kernel
theorem dX13_burned_21 : decode cX13_burned 21 = .ok (.invokevirtual 223, 3) := by decide +kernel
theorem dX13_burned_24 : decode cX13_burned 24 = .ok (.ifCond .ne 36, 3) := by decide +kernel
theorem dX13_burned_27 : decode cX13_burned 27 = .ok (.aload_n 0, 1) := by decide +kernel
theorem dX13_burned_28 : decode cX13_burned 28 = .ok (.iload_n 2, 1) := by decide +kernel
theorem dX13_burned_29 : decode cX13_burned 29 = .ok (.iconst 0, 1) := by decide +kernel
theorem dX13_burned_30 : decode cX13_burned 30 = .ok (.bipush 11, 2) := by decide +kernel
theorem dX13_burned_32 : decode cX13_burned 32 = .ok (.invokestatic 234, 3) := by decide +kernel
theorem dX13_burned_35 : decode cX13_burned 35 = .ok (.ifCond .eq 13, 3) := by decide +kernel
theorem dX13_burned_38 : decode cX13_burned 38 = .ok (.iload_n 3, 1) := by decide +kernel
theorem dX13_burned_39 : decode cX13_burned 39 = .ok (.iconst 0, 1) := by decide +kernel
theorem dX13_burned_40 : decode cX13_burned 40 = .ok (.bipush 7, 2) := by decide +kernel
theorem dX13_burned_42 : decode cX13_burned 42 = .ok (.invokestatic 234, 3) := by decide +kernel
theorem dX13_burned_45 : decode cX13_burned 45 = .ok (.ifCond .ne 7, 3) := by decide +kernel
theorem dX13_burned_48 : decode cX13_burned 48 = .ok (.iconst 1, 1) := by decide +kernel
theorem dX13_burned_49 : decode cX13_burned 49 = .ok (.goto 4, 3) := by decide +kernel
theorem dX13_burned_52 : decode cX13_burned 52 = .ok (.iconst 0, 1) := by decide +kernel
theorem dX13_burned_53 : decode cX13_burned 53 = .ok (.iconst 2, 1) := by decide +kernel
theorem dX13_burned_54 : decode cX13_burned 54 = .ok (.invokevirtual 223, 3) := by decide +kernel
theorem dX13_burned_57 : decode cX13_burned 57 = .ok (.ifCond .eq 5, 3) := by decide +kernel
theorem dX13_burned_60 : decode cX13_burned 60 = .ok (.iconst 0, 1) := by decide +kernel
theorem dX13_burned_61 : decode cX13_burned 61 = .ok (.ireturn, 1) := by decide +kernel
theorem dX13_burned_62 : decode cX13_burned 62 = .ok (.aload_n 0, 1) := by decide +kernel
theorem dX13_burned_63 : decode cX13_burned 63 = .ok (.getfield 156, 3) := by decide +kernel
theorem dX13_burned_66 : decode cX13_burned 66 = .ok (.bipush 12, 2) := by decide +kernel
theorem dX13_burned_68 : decode cX13_burned 68 = .ok (.bipush 8, 2) := by decide +kernel
theorem dX13_burned_70 : decode cX13_burned 70 = .ok (.iload_n 1, 1) := by decide +kernel
theorem dX13_burned_71 : decode cX13_burned 71 = .ok (.imul, 1) := by decide +kernel
theorem dX13_burned_72 : decode cX13_burned 72 = .ok (.iload_n 3, 1) := by decide +kernel
theorem dX13_burned_73 : decode cX13_burned 73 = .ok (.iadd, 1) := by decide +kernel
theorem dX13_burned_74 : decode cX13_burned 74 = .ok (.imul, 1) := by decide +kernel
theorem dX13_burned_75 : decode cX13_burned 75 = .ok (.iload_n 2, 1) := by decide +kernel
theorem dX13_burned_76 : decode cX13_burned 76 = .ok (.iadd, 1) := by decide +kernel
theorem dX13_burned_77 : decode cX13_burned 77 = .ok (.iaload, 1) := by decide +kernel
theorem dX13_burned_78 : decode cX13_burned 78 = .ok (.ireturn, 1) := by decide +kernel
theorem dX13_seamOf_0 : decode cX13_seamOf 0 = .ok (.iconst 0, 1) := by decide +kernel
theorem dX13_seamOf_1 : decode cX13_seamOf 1 = .ok (.istore_n 2, 1) := by decide +kernel
theorem dX13_seamOf_2 : decode cX13_seamOf 2 = .ok (.iconst 0, 1) := by decide +kernel
theorem dX13_seamOf_3 : decode cX13_seamOf 3 = .ok (.istore_n 3, 1) := by decide +kernel
theorem dX13_seamOf_4 : decode cX13_seamOf 4 = .ok (.iload_n 3, 1) := by decide +kernel
theorem dX13_seamOf_5 : decode cX13_seamOf 5 = .ok (.bipush 8, 2) := by decide +kernel
theorem dX13_seamOf_7 : decode cX13_seamOf 7 = .ok (.if_icmp .ge 51, 3) := by decide +kernel
theorem dX13_seamOf_10 : decode cX13_seamOf 10 = .ok (.iload_n 2, 1) := by decide +kernel
theorem dX13_seamOf_11 : decode cX13_seamOf 11 = .ok (.aload_n 0, 1) := by decide +kernel
theorem dX13_seamOf_12 : decode cX13_seamOf 12 = .ok (.getfield 156, 3) := by decide +kernel
theorem dX13_seamOf_15 : decode cX13_seamOf 15 = .ok (.bipush 12, 2) := by decide +kernel
theorem dX13_seamOf_17 : decode cX13_seamOf 17 = .ok (.iload_n 3, 1) := by decide +kernel
theorem dX13_seamOf_18 : decode cX13_seamOf 18 = .ok (.imul, 1) := by decide +kernel
theorem dX13_seamOf_19 : decode cX13_seamOf 19 = .ok (.bipush 12, 2) := by decide +kernel
theorem dX13_seamOf_21 : decode cX13_seamOf 21 = .ok (.iadd, 1) := by decide +kernel
theorem dX13_seamOf_22 : decode cX13_seamOf 22 = .ok (.iconst 1, 1) := by decide +kernel
theorem dX13_seamOf_23 : decode cX13_seamOf 23 = .ok (.isub, 1) := by decide +kernel
theorem dX13_seamOf_24 : decode cX13_seamOf 24 = .ok (.iaload, 1) := by decide +kernel
theorem dX13_seamOf_25 : decode cX13_seamOf 25 = .ok (.aload_n 0, 1) := by decide +kernel
theorem dX13_seamOf_26 : decode cX13_seamOf 26 = .ok (.getfield 156, 3) := by decide +kernel
theorem dX13_seamOf_29 : decode cX13_seamOf 29 = .ok (.bipush 12, 2) := by decide +kernel
theorem dX13_seamOf_31 : decode cX13_seamOf 31 = .ok (.bipush 8, 2) := by decide +kernel
theorem dX13_seamOf_33 : decode cX13_seamOf 33 = .ok (.iload_n 3, 1) := by decide +kernel
theorem dX13_seamOf_34 : decode cX13_seamOf 34 = .ok (.iload_n 1, 1) := by decide +kernel
theorem dX13_seamOf_35 : decode cX13_seamOf 35 = .ok (.iadd, 1) := by decide +kernel
theorem dX13_seamOf_36 : decode cX13_seamOf 36 = .ok (.bipush 8, 2) := by decide +kernel
theorem dX13_seamOf_38 : decode cX13_seamOf 38 = .ok (.irem, 1) := by decide +kernel
theorem dX13_seamOf_39 : decode cX13_seamOf 39 = .ok (.iadd, 1) := by decide +kernel
theorem dX13_seamOf_40 : decode cX13_seamOf 40 = .ok (.imul, 1) := by decide +kernel
theorem dX13_seamOf_41 : decode cX13_seamOf 41 = .ok (.iaload, 1) := by decide +kernel
theorem dX13_seamOf_42 : decode cX13_seamOf 42 = .ok (.if_icmp .eq 7, 3) := by decide +kernel
theorem dX13_seamOf_45 : decode cX13_seamOf 45 = .ok (.iconst 1, 1) := by decide +kernel
theorem dX13_seamOf_46 : decode cX13_seamOf 46 = .ok (.goto 4, 3) := by decide +kernel
theorem dX13_seamOf_49 : decode cX13_seamOf 49 = .ok (.iconst 0, 1) := by decide +kernel
theorem dX13_seamOf_50 : decode cX13_seamOf 50 = .ok (.iadd, 1) := by decide +kernel
theorem dX13_seamOf_51 : decode cX13_seamOf 51 = .ok (.istore_n 2, 1) := by decide +kernel
theorem dX13_seamOf_52 : decode cX13_seamOf 52 = .ok (.iinc 3 1, 3) := by decide +kernel
theorem dX13_seamOf_55 : decode cX13_seamOf 55 = .ok (.goto (-51), 3) := by decide +kernel
theorem dX13_seamOf_58 : decode cX13_seamOf 58 = .ok (.iload_n 2, 1) := by decide +kernel
theorem dX13_seamOf_59 : decode cX13_seamOf 59 = .ok (.ireturn, 1) := by decide +kernel
theorem dX13_seam_0 : decode cX13_seam 0 = .ok (.aload_n 0, 1) := by decide +kernel
theorem dX13_seam_1 : decode cX13_seam 1 = .ok (.iconst 0, 1) := by decide +kernel
theorem dX13_seam_2 : decode cX13_seam 2 = .ok (.putfield 159, 3) := by decide +kernel
theorem dX13_seam_5 : decode cX13_seam 5 = .ok (.aload_n 0, 1) := by decide +kernel
theorem dX13_seam_6 : decode cX13_seam 6 = .ok (.iload_n 1, 1) := by decide +kernel
theorem dX13_seam_7 : decode cX13_seam 7 = .ok (.iconst 0, 1) := by decide +kernel
theorem dX13_seam_8 : decode cX13_seam 8 = .ok (.bipush 7, 2) := by decide +kernel
theorem dX13_seam_10 : decode cX13_seam 10 = .ok (.invokestatic 234, 3) := by decide +kernel
theorem dX13_seam_13 : decode cX13_seam 13 = .ok (.ifCond .ne 7, 3) := by decide +kernel
theorem dX13_seam_16 : decode cX13_seam 16 = .ok (.iconst 1, 1) := by decide +kernel
theorem dX13_seam_17 : decode cX13_seam 17 = .ok (.goto 4, 3) := by decide +kernel
theorem dX13_seam_20 : decode cX13_seam 20 = .ok (.iconst 0, 1) := by decide +kernel
theorem dX13_seam_21 : decode cX13_seam 21 = .ok (.iconst 1, 1) := by decide +kernel
theorem dX13_seam_22 : decode cX13_seam 22 = .ok (.invokevirtual 223, 3) := by decide +kernel
theorem dX13_seam_25 : decode cX13_seam 25 = .ok (.ifCond .eq 7, 3) := by decide +kernel
theorem dX13_seam_28 : decode cX13_seam 28 = .ok (.iconst 0, 1) := by decide +kernel
theorem dX13_seam_29 : decode cX13_seam 29 = .ok (.goto 8, 3) := by decide +kernel
theorem dX13_seam_32 : decode cX13_seam 32 = .ok (.aload_n 0, 1) := by decide +kernel
theorem dX13_seam_33 : decode cX13_seam 33 = .ok (.iload_n 1, 1) := by decide +kernel
theorem dX13_seam_34 : decode cX13_seam 34 = .ok (.invokevirtual 465, 3) := by decide +kernel
theorem dX13_seam_37 : decode cX13_seam 37 = .ok (.ireturn, 1) := by decide +kernel
theorem dX13_shift_0 : decode cX13_shift 0 = .ok (.aload_n 0, 1) := by decide +kernel
theorem dX13_shift_1 : decode cX13_shift 1 = .ok (.iconst 0, 1) := by decide +kernel
theorem dX13_shift_2 : decode cX13_shift 2 = .ok (.putfield 159, 3) := by decide +kernel
theorem dX13_shift_5 : decode cX13_shift 5 = .ok (.iconst 0, 1) := by decide +kernel
theorem dX13_shift_6 : decode cX13_shift 6 = .ok (.istore_n 1, 1) := by decide +kernel
theorem dX13_shift_7 : decode cX13_shift 7 = .ok (.iconst 1, 1) := by decide +kernel
theorem dX13_shift_8 : decode cX13_shift 8 = .ok (.istore_n 2, 1) := by decide +kernel
theorem dX13_shift_9 : decode cX13_shift 9 = .ok (.iload_n 2, 1) := by decide +kernel
theorem dX13_shift_10 : decode cX13_shift 10 = .ok (.bipush 8, 2) := by decide +kernel
theorem dX13_shift_12 : decode cX13_shift 12 = .ok (.if_icmp .ge 24, 3) := by decide +kernel
theorem dX13_shift_15 : decode cX13_shift 15 = .ok (.aload_n 0, 1) := by decide +kernel
theorem dX13_shift_16 : decode cX13_shift 16 = .ok (.iload_n 2, 1) := by decide +kernel
theorem dX13_shift_17 : decode cX13_shift 17 = .ok (.invokevirtual 465, 3) := by decide +kernel
theorem dX13_shift_20 : decode cX13_shift 20 = .ok (.aload_n 0, 1) := by decide +kernel
theorem dX13_shift_21 : decode cX13_shift 21 = .ok (.iload_n 1, 1) := by decide +kernel
theorem dX13_shift_22 : decode cX13_shift 22 = .ok (.invokevirtual 465, 3) := by decide +kernel
theorem dX13_shift_25 : decode cX13_shift 25 = .ok (.if_icmp .ge 5, 3) := by decide +kernel
theorem dX13_shift_28 : decode cX13_shift 28 = .ok (.iload_n 2, 1) := by decide +kernel
theorem dX13_shift_29 : decode cX13_shift 29 = .ok (.istore_n 1, 1) := by decide +kernel
theorem dX13_shift_30 : decode cX13_shift 30 = .ok (.iinc 2 1, 3) := by decide +kernel
theorem dX13_shift_33 : decode cX13_shift 33 = .ok (.goto (-24), 3) := by decide +kernel
theorem dX13_shift_36 : decode cX13_shift 36 = .ok (.iload_n 1, 1) := by decide +kernel
theorem dX13_shift_37 : decode cX13_shift 37 = .ok (.ireturn, 1) := by decide +kernel
theorem dX13_count_0 : decode cX13_count 0 = .ok (.aload_n 0, 1) := by decide +kernel
theorem dX13_count_1 : decode cX13_count 1 = .ok (.iconst 0, 1) := by decide +kernel
theorem dX13_count_2 : decode cX13_count 2 = .ok (.putfield 159, 3) := by decide +kernel
theorem dX13_count_5 : decode cX13_count 5 = .ok (.iconst 0, 1) := by decide +kernel
theorem dX13_count_6 : decode cX13_count 6 = .ok (.istore_n 2, 1) := by decide +kernel
theorem dX13_count_7 : decode cX13_count 7 = .ok (.iload_n 1, 1) := by decide +kernel
theorem dX13_count_8 : decode cX13_count 8 = .ok (.tableswitch 243 0 18 #[92, 97, 105, 110, 115, 120, 125, 152, 157, 162, 167, 172, 177, 182, 218, 223, 228, 233, 238], 92) := by decide +kernel
theorem dX13_count_100 : decode cX13_count 100 = .ok (.aload_n 0, 1) := by decide +kernel
theorem dX13_count_101 : decode cX13_count 101 = .ok (.getfield 231, 3) := by decide +kernel
theorem dX13_count_104 : decode cX13_count 104 = .ok (.ireturn, 1) := by decide +kernel
theorem dX13_count_105 : decode cX13_count 105 = .ok (.aload_n 0, 1) := by decide +kernel
theorem dX13_count_106 : decode cX13_count 106 = .ok (.getfield 21, 3) := by decide +kernel
theorem dX13_count_109 : decode cX13_count 109 = .ok (.bipush 40, 2) := by decide +kernel
theorem dX13_count_111 : decode cX13_count 111 = .ok (.iaload, 1) := by decide +kernel
theorem dX13_count_112 : decode cX13_count 112 = .ok (.ireturn, 1) := by decide +kernel
theorem dX13_count_113 : decode cX13_count 113 = .ok (.aload_n 0, 1) := by decide +kernel
theorem dX13_count_114 : decode cX13_count 114 = .ok (.getfield 301, 3) := by decide +kernel
theorem dX13_count_117 : decode cX13_count 117 = .ok (.ireturn, 1) := by decide +kernel
theorem dX13_count_118 : decode cX13_count 118 = .ok (.aload_n 0, 1) := by decide +kernel
theorem dX13_count_119 : decode cX13_count 119 = .ok (.getfield 308, 3) := by decide +kernel
theorem dX13_count_122 : decode cX13_count 122 = .ok (.ireturn, 1) := by decide +kernel
theorem dX13_count_123 : decode cX13_count 123 = .ok (.aload_n 0, 1) := by decide +kernel
theorem dX13_count_124 : decode cX13_count 124 = .ok (.getfield 322, 3) := by decide +kernel
theorem dX13_count_127 : decode cX13_count 127 = .ok (.ireturn, 1) := by decide +kernel
theorem dX13_count_128 : decode cX13_count 128 = .ok (.aload_n 0, 1) := by decide +kernel
theorem dX13_count_129 : decode cX13_count 129 = .ok (.getfield 328, 3) := by decide +kernel
theorem dX13_count_132 : decode cX13_count 132 = .ok (.ireturn, 1) := by decide +kernel
theorem dX13_count_133 : decode cX13_count 133 = .ok (.iconst 0, 1) := by decide +kernel
theorem dX13_count_134 : decode cX13_count 134 = .ok (.istore_n 3, 1) := by decide +kernel
theorem dX13_count_135 : decode cX13_count 135 = .ok (.iload_n 3, 1) := by decide +kernel
theorem dX13_count_136 : decode cX13_count 136 = .ok (.aload_n 0, 1) := by decide +kernel
theorem dX13_count_137 : decode cX13_count 137 = .ok (.getfield 308, 3) := by decide +kernel
theorem dX13_count_140 : decode cX13_count 140 = .ok (.if_icmp .ge 18, 3) := by decide +kernel
theorem dX13_count_143 : decode cX13_count 143 = .ok (.iload_n 2, 1) := by decide +kernel
theorem dX13_count_144 : decode cX13_count 144 = .ok (.aload_n 0, 1) := by decide +kernel
theorem dX13_count_145 : decode cX13_count 145 = .ok (.getfield 63, 3) := by decide +kernel
theorem dX13_count_148 : decode cX13_count 148 = .ok (.iload_n 3, 1) := by decide +kernel
theorem dX13_count_149 : decode cX13_count 149 = .ok (.iaload, 1) := by decide +kernel
theorem dX13_count_150 : decode cX13_count 150 = .ok (.iadd, 1) := by decide +kernel
theorem dX13_count_151 : decode cX13_count 151 = .ok (.istore_n 2, 1) := by decide +kernel
theorem dX13_count_152 : decode cX13_count 152 = .ok (.iinc 3 1, 3) := by decide +kernel
theorem dX13_count_155 : decode cX13_count 155 = .ok (.goto (-20), 3) := by decide +kernel
theorem dX13_count_158 : decode cX13_count 158 = .ok (.iload_n 2, 1) := by decide +kernel
theorem dX13_count_159 : decode cX13_count 159 = .ok (.ireturn, 1) := by decide +kernel
theorem dX13_count_160 : decode cX13_count 160 = .ok (.aload_n 0, 1) := by decide +kernel
theorem dX13_count_161 : decode cX13_count 161 = .ok (.getfield 337, 3) := by decide +kernel
theorem dX13_count_164 : decode cX13_count 164 = .ok (.ireturn, 1) := by decide +kernel
theorem dX13_count_165 : decode cX13_count 165 = .ok (.aload_n 0, 1) := by decide +kernel
theorem dX13_count_166 : decode cX13_count 166 = .ok (.getfield 331, 3) := by decide +kernel
theorem dX13_count_169 : decode cX13_count 169 = .ok (.ireturn, 1) := by decide +kernel
theorem dX13_count_170 : decode cX13_count 170 = .ok (.aload_n 0, 1) := by decide +kernel
theorem dX13_count_171 : decode cX13_count 171 = .ok (.getfield 344, 3) := by decide +kernel
theorem dX13_count_174 : decode cX13_count 174 = .ok (.ireturn, 1) := by decide +kernel
theorem dX13_count_175 : decode cX13_count 175 = .ok (.aload_n 0, 1) := by decide +kernel
theorem dX13_count_176 : decode cX13_count 176 = .ok (.getfield 410, 3) := by decide +kernel
theorem dX13_count_179 : decode cX13_count 179 = .ok (.ireturn, 1) := by decide +kernel
theorem dX13_count_180 : decode cX13_count 180 = .ok (.aload_n 0, 1) := by decide +kernel
theorem dX13_count_181 : decode cX13_count 181 = .ok (.getfield 394, 3) := by decide +kernel
theorem dX13_count_184 : decode cX13_count 184 = .ok (.ireturn, 1) := by decide +kernel
theorem dX13_count_185 : decode cX13_count 185 = .ok (.aload_n 0, 1) := by decide +kernel
theorem dX13_count_186 : decode cX13_count 186 = .ok (.getfield 391, 3) := by decide +kernel
theorem dX13_count_189 : decode cX13_count 189 = .ok (.ireturn, 1) := by decide +kernel
theorem dX13_count_190 : decode cX13_count 190 = .ok (.iconst 0, 1) := by decide +kernel
theorem dX13_count_191 : decode cX13_count 191 = .ok (.istore_n 3, 1) := by decide +kernel
theorem dX13_count_192 : decode cX13_count 192 = .ok (.iload_n 3, 1) := by decide +kernel
theorem dX13_count_193 : decode cX13_count 193 = .ok (.aload_n 0, 1) := by decide +kernel
theorem dX13_count_194 : decode cX13_count 194 = .ok (.getfield 391, 3) := by decide +kernel
theorem dX13_count_197 : decode cX13_count 197 = .ok (.if_icmp .ge 27, 3) := by decide +kernel
theorem dX13_count_200 : decode cX13_count 200 = .ok (.iload_n 2, 1) := by decide +kernel
theorem dX13_count_201 : decode cX13_count 201 = .ok (.aload_n 0, 1) := by decide +kernel
theorem dX13_count_202 : decode cX13_count 202 = .ok (.getfield 105, 3) := by decide +kernel
theorem dX13_count_205 : decode cX13_count 205 = .ok (.iload_n 3, 1) := by decide +kernel
theorem dX13_count_206 : decode cX13_count 206 = .ok (.iaload, 1) := by decide +kernel
theorem dX13_count_207 : decode cX13_count 207 = .ok (.iconst 3, 1) := by decide +kernel
theorem dX13_count_208 : decode cX13_count 208 = .ok (.if_icmp .ne 7, 3) := by decide +kernel
theorem dX13_count_211 : decode cX13_count 211 = .ok (.iconst 1, 1) := by decide +kernel
theorem dX13_count_212 : decode cX13_count 212 = .ok (.goto 4, 3) := by decide +kernel
theorem dX13_count_215 : decode cX13_count 215 = .ok (.iconst 0, 1) := by decide +kernel
theorem dX13_count_216 : decode cX13_count 216 = .ok (.iadd, 1) := by decide +kernel
theorem dX13_count_217 : decode cX13_count 217 = .ok (.istore_n 2, 1) := by decide +kernel
theorem dX13_count_218 : decode cX13_count 218 = .ok (.iinc 3 1, 3) := by decide +kernel
theorem dX13_count_221 : decode cX13_count 221 = .ok (.goto (-29), 3) := by decide +kernel
theorem dX13_count_224 : decode cX13_count 224 = .ok (.iload_n 2, 1) := by decide +kernel
theorem dX13_count_225 : decode cX13_count 225 = .ok (.ireturn, 1) := by decide +kernel
theorem dX13_count_226 : decode cX13_count 226 = .ok (.aload_n 0, 1) := by decide +kernel
theorem dX13_count_227 : decode cX13_count 227 = .ok (.getfield 432, 3) := by decide +kernel
theorem dX13_count_230 : decode cX13_count 230 = .ok (.ireturn, 1) := by decide +kernel
theorem dX13_count_231 : decode cX13_count 231 = .ok (.aload_n 0, 1) := by decide +kernel
theorem dX13_count_232 : decode cX13_count 232 = .ok (.getfield 435, 3) := by decide +kernel
theorem dX13_count_235 : decode cX13_count 235 = .ok (.ireturn, 1) := by decide +kernel
theorem dX13_count_236 : decode cX13_count 236 = .ok (.aload_n 0, 1) := by decide +kernel
theorem dX13_count_237 : decode cX13_count 237 = .ok (.getfield 459, 3) := by decide +kernel
theorem dX13_count_240 : decode cX13_count 240 = .ok (.ireturn, 1) := by decide +kernel
theorem dX13_count_241 : decode cX13_count 241 = .ok (.aload_n 0, 1) := by decide +kernel
theorem dX13_count_242 : decode cX13_count 242 = .ok (.getfield 450, 3) := by decide +kernel
theorem dX13_count_245 : decode cX13_count 245 = .ok (.ireturn, 1) := by decide +kernel
theorem dX13_count_246 : decode cX13_count 246 = .ok (.aload_n 0, 1) := by decide +kernel
theorem dX13_count_247 : decode cX13_count 247 = .ok (.getfield 388, 3) := by decide +kernel
theorem dX13_count_250 : decode cX13_count 250 = .ok (.ireturn, 1) := by decide +kernel
theorem dX13_count_251 : decode cX13_count 251 = .ok (.iconst (-1), 1) := by decide +kernel
theorem dX13_count_252 : decode cX13_count 252 = .ok (.ireturn, 1) := by decide +kernel
