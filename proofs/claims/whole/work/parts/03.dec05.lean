theorem dX9_init_0 : decode cX9_init 0 = .ok (.aload_n 0, 1) := by decide +kernel
theorem dX9_init_1 : decode cX9_init 1 = .ok (.invokespecial 1, 3) := by decide +kernel
theorem dX9_init_4 : decode cX9_init 4 = .ok (.aload_n 0, 1) := by decide +kernel
theorem dX9_init_5 : decode cX9_init 5 = .ok (.sipush 296, 3) := by decide +kernel
theorem dX9_init_8 : decode cX9_init 8 = .ok (.newarray .int, 2) := by decide +kernel
theorem dX9_init_10 : decode cX9_init 10 = .ok (.putfield 7, 3) := by decide +kernel
theorem dX9_init_13 : decode cX9_init 13 = .ok (.aload_n 0, 1) := by decide +kernel
theorem dX9_init_14 : decode cX9_init 14 = .ok (.iconst 4, 1) := by decide +kernel
theorem dX9_init_15 : decode cX9_init 15 = .ok (.newarray .int, 2) := by decide +kernel
theorem dX9_init_17 : decode cX9_init 17 = .ok (.dup, 1) := by decide +kernel
theorem dX9_init_18 : decode cX9_init 18 = .ok (.iconst 0, 1) := by decide +kernel
theorem dX9_init_19 : decode cX9_init 19 = .ok (.iconst 3, 1) := by decide +kernel
theorem dX9_init_20 : decode cX9_init 20 = .ok (.iastore, 1) := by decide +kernel
theorem dX9_init_21 : decode cX9_init 21 = .ok (.dup, 1) := by decide +kernel
theorem dX9_init_22 : decode cX9_init 22 = .ok (.iconst 1, 1) := by decide +kernel
theorem dX9_init_23 : decode cX9_init 23 = .ok (.iconst 2, 1) := by decide +kernel
theorem dX9_init_24 : decode cX9_init 24 = .ok (.iastore, 1) := by decide +kernel
theorem dX9_init_25 : decode cX9_init 25 = .ok (.dup, 1) := by decide +kernel
theorem dX9_init_26 : decode cX9_init 26 = .ok (.iconst 2, 1) := by decide +kernel
theorem dX9_init_27 : decode cX9_init 27 = .ok (.bipush 9, 2) := by decide +kernel
theorem dX9_init_29 : decode cX9_init 29 = .ok (.iastore, 1) := by decide +kernel
theorem dX9_init_30 : decode cX9_init 30 = .ok (.dup, 1) := by decide +kernel
theorem dX9_init_31 : decode cX9_init 31 = .ok (.iconst 3, 1) := by decide +kernel
theorem dX9_init_32 : decode cX9_init 32 = .ok (.bipush 6, 2) := by decide +kernel
theorem dX9_init_34 : decode cX9_init 34 = .ok (.iastore, 1) := by decide +kernel
theorem dX9_init_35 : decode cX9_init 35 = .ok (.putfield 13, 3) := by decide +kernel
theorem dX9_init_38 : decode cX9_init 38 = .ok (.aload_n 0, 1) := by decide +kernel
theorem dX9_init_39 : decode cX9_init 39 = .ok (.bipush 74, 2) := by decide +kernel
theorem dX9_init_41 : decode cX9_init 41 = .ok (.newarray .int, 2) := by decide +kernel
theorem dX9_init_43 : decode cX9_init 43 = .ok (.putfield 16, 3) := by decide +kernel
theorem dX9_init_46 : decode cX9_init 46 = .ok (.aload_n 0, 1) := by decide +kernel
theorem dX9_init_47 : decode cX9_init 47 = .ok (.sipush 160, 3) := by decide +kernel
theorem dX9_init_50 : decode cX9_init 50 = .ok (.newarray .int, 2) := by decide +kernel
theorem dX9_init_52 : decode cX9_init 52 = .ok (.putfield 19, 3) := by decide +kernel
theorem dX9_init_55 : decode cX9_init 55 = .ok (.aload_n 0, 1) := by decide +kernel
theorem dX9_init_56 : decode cX9_init 56 = .ok (.bipush 10, 2) := by decide +kernel
theorem dX9_init_58 : decode cX9_init 58 = .ok (.newarray .int, 2) := by decide +kernel
theorem dX9_init_60 : decode cX9_init 60 = .ok (.dup, 1) := by decide +kernel
theorem dX9_init_61 : decode cX9_init 61 = .ok (.iconst 0, 1) := by decide +kernel
theorem dX9_init_62 : decode cX9_init 62 = .ok (.iconst 0, 1) := by decide +kernel
theorem dX9_init_63 : decode cX9_init 63 = .ok (.iastore, 1) := by decide +kernel
theorem dX9_init_64 : decode cX9_init 64 = .ok (.dup, 1) := by decide +kernel
theorem dX9_init_65 : decode cX9_init 65 = .ok (.iconst 1, 1) := by decide +kernel
theorem dX9_init_66 : decode cX9_init 66 = .ok (.iconst 5, 1) := by decide +kernel
theorem dX9_init_67 : decode cX9_init 67 = .ok (.iastore, 1) := by decide +kernel
theorem dX9_init_68 : decode cX9_init 68 = .ok (.dup, 1) := by decide +kernel
theorem dX9_init_69 : decode cX9_init 69 = .ok (.iconst 2, 1) := by decide +kernel
theorem dX9_init_70 : decode cX9_init 70 = .ok (.bipush 10, 2) := by decide +kernel
theorem dX9_init_72 : decode cX9_init 72 = .ok (.iastore, 1) := by decide +kernel
theorem dX9_init_73 : decode cX9_init 73 = .ok (.dup, 1) := by decide +kernel
theorem dX9_init_74 : decode cX9_init 74 = .ok (.iconst 3, 1) := by decide +kernel
theorem dX9_init_75 : decode cX9_init 75 = .ok (.bipush 13, 2) := by decide +kernel
theorem dX9_init_77 : decode cX9_init 77 = .ok (.iastore, 1) := by decide +kernel
theorem dX9_init_78 : decode cX9_init 78 = .ok (.dup, 1) := by decide +kernel
theorem dX9_init_79 : decode cX9_init 79 = .ok (.iconst 4, 1) := by decide +kernel
theorem dX9_init_80 : decode cX9_init 80 = .ok (.bipush 20, 2) := by decide +kernel
theorem dX9_init_82 : decode cX9_init 82 = .ok (.iastore, 1) := by decide +kernel
theorem dX9_init_83 : decode cX9_init 83 = .ok (.dup, 1) := by decide +kernel
theorem dX9_init_84 : decode cX9_init 84 = .ok (.iconst 5, 1) := by decide +kernel
theorem dX9_init_85 : decode cX9_init 85 = .ok (.bipush 25, 2) := by decide +kernel
theorem dX9_init_87 : decode cX9_init 87 = .ok (.iastore, 1) := by decide +kernel
theorem dX9_init_88 : decode cX9_init 88 = .ok (.dup, 1) := by decide +kernel
theorem dX9_init_89 : decode cX9_init 89 = .ok (.bipush 6, 2) := by decide +kernel
theorem dX9_init_91 : decode cX9_init 91 = .ok (.bipush 29, 2) := by decide +kernel
theorem dX9_init_93 : decode cX9_init 93 = .ok (.iastore, 1) := by decide +kernel
theorem dX9_init_94 : decode cX9_init 94 = .ok (.dup, 1) := by decide +kernel
theorem dX9_init_95 : decode cX9_init 95 = .ok (.bipush 7, 2) := by decide +kernel
theorem dX9_init_97 : decode cX9_init 97 = .ok (.bipush 33, 2) := by decide +kernel
theorem dX9_init_99 : decode cX9_init 99 = .ok (.iastore, 1) := by decide +kernel
theorem dX9_init_100 : decode cX9_init 100 = .ok (.dup, 1) := by decide +kernel
theorem dX9_init_101 : decode cX9_init 101 = .ok (.bipush 8, 2) := by decide +kernel
theorem dX9_init_103 : decode cX9_init 103 = .ok (.bipush 37, 2) := by decide +kernel
theorem dX9_init_105 : decode cX9_init 105 = .ok (.iastore, 1) := by decide +kernel
theorem dX9_init_106 : decode cX9_init 106 = .ok (.dup, 1) := by decide +kernel
theorem dX9_init_107 : decode cX9_init 107 = .ok (.bipush 9, 2) := by decide +kernel
theorem dX9_init_109 : decode cX9_init 109 = .ok (.bipush 41, 2) := by decide +kernel
theorem dX9_init_111 : decode cX9_init 111 = .ok (.iastore, 1) := by decide +kernel
theorem dX9_init_112 : decode cX9_init 112 = .ok (.putfield 22, 3) := by decide +kernel
theorem dX9_init_115 : decode cX9_init 115 = .ok (.aload_n 0, 1) := by decide +kernel
theorem dX9_init_116 : decode cX9_init 116 = .ok (.bipush 41, 2) := by decide +kernel
theorem dX9_init_118 : decode cX9_init 118 = .ok (.newarray .int, 2) := by decide +kernel
theorem dX9_init_120 : decode cX9_init 120 = .ok (.dup, 1) := by decide +kernel
theorem dX9_init_121 : decode cX9_init 121 = .ok (.iconst 0, 1) := by decide +kernel
theorem dX9_init_122 : decode cX9_init 122 = .ok (.bipush 112, 2) := by decide +kernel
theorem dX9_init_124 : decode cX9_init 124 = .ok (.iastore, 1) := by decide +kernel
theorem dX9_init_125 : decode cX9_init 125 = .ok (.dup, 1) := by decide +kernel
theorem dX9_init_126 : decode cX9_init 126 = .ok (.iconst 1, 1) := by decide +kernel
theorem dX9_init_127 : decode cX9_init 127 = .ok (.bipush 108, 2) := by decide +kernel
theorem dX9_init_129 : decode cX9_init 129 = .ok (.iastore, 1) := by decide +kernel
theorem dX9_init_130 : decode cX9_init 130 = .ok (.dup, 1) := by decide +kernel
theorem dX9_init_131 : decode cX9_init 131 = .ok (.iconst 2, 1) := by decide +kernel
theorem dX9_init_132 : decode cX9_init 132 = .ok (.bipush 97, 2) := by decide +kernel
theorem dX9_init_134 : decode cX9_init 134 = .ok (.iastore, 1) := by decide +kernel
theorem dX9_init_135 : decode cX9_init 135 = .ok (.dup, 1) := by decide +kernel
theorem dX9_init_136 : decode cX9_init 136 = .ok (.iconst 3, 1) := by decide +kernel
theorem dX9_init_137 : decode cX9_init 137 = .ok (.bipush 105, 2) := by decide +kernel
theorem dX9_init_139 : decode cX9_init 139 = .ok (.iastore, 1) := by decide +kernel
theorem dX9_init_140 : decode cX9_init 140 = .ok (.dup, 1) := by decide +kernel
theorem dX9_init_141 : decode cX9_init 141 = .ok (.iconst 4, 1) := by decide +kernel
theorem dX9_init_142 : decode cX9_init 142 = .ok (.bipush 110, 2) := by decide +kernel
theorem dX9_init_144 : decode cX9_init 144 = .ok (.iastore, 1) := by decide +kernel
theorem dX9_init_145 : decode cX9_init 145 = .ok (.dup, 1) := by decide +kernel
theorem dX9_init_146 : decode cX9_init 146 = .ok (.iconst 5, 1) := by decide +kernel
theorem dX9_init_147 : decode cX9_init 147 = .ok (.bipush 121, 2) := by decide +kernel
theorem dX9_init_149 : decode cX9_init 149 = .ok (.iastore, 1) := by decide +kernel
theorem dX9_init_150 : decode cX9_init 150 = .ok (.dup, 1) := by decide +kernel
theorem dX9_init_151 : decode cX9_init 151 = .ok (.bipush 6, 2) := by decide +kernel
theorem dX9_init_153 : decode cX9_init 153 = .ok (.bipush 111, 2) := by decide +kernel
theorem dX9_init_155 : decode cX9_init 155 = .ok (.iastore, 1) := by decide +kernel
theorem dX9_init_156 : decode cX9_init 156 = .ok (.dup, 1) := by decide +kernel
theorem dX9_init_157 : decode cX9_init 157 = .ok (.bipush 7, 2) := by decide +kernel
theorem dX9_init_159 : decode cX9_init 159 = .ok (.bipush 117, 2) := by decide +kernel
theorem dX9_init_161 : decode cX9_init 161 = .ok (.iastore, 1) := by decide +kernel
theorem dX9_init_162 : decode cX9_init 162 = .ok (.dup, 1) := by decide +kernel
theorem dX9_init_163 : decode cX9_init 163 = .ok (.bipush 8, 2) := by decide +kernel
theorem dX9_init_165 : decode cX9_init 165 = .ok (.bipush 110, 2) := by decide +kernel
theorem dX9_init_167 : decode cX9_init 167 = .ok (.iastore, 1) := by decide +kernel
theorem dX9_init_168 : decode cX9_init 168 = .ok (.dup, 1) := by decide +kernel
theorem dX9_init_169 : decode cX9_init 169 = .ok (.bipush 9, 2) := by decide +kernel
theorem dX9_init_171 : decode cX9_init 171 = .ok (.bipush 103, 2) := by decide +kernel
theorem dX9_init_173 : decode cX9_init 173 = .ok (.iastore, 1) := by decide +kernel
theorem dX9_init_174 : decode cX9_init 174 = .ok (.dup, 1) := by decide +kernel
theorem dX9_init_175 : decode cX9_init 175 = .ok (.bipush 10, 2) := by decide +kernel
theorem dX9_init_177 : decode cX9_init 177 = .ok (.bipush 111, 2) := by decide +kernel
theorem dX9_init_179 : decode cX9_init 179 = .ok (.iastore, 1) := by decide +kernel
theorem dX9_init_180 : decode cX9_init 180 = .ok (.dup, 1) := by decide +kernel
theorem dX9_init_181 : decode cX9_init 181 = .ok (.bipush 11, 2) := by decide +kernel
theorem dX9_init_183 : decode cX9_init 183 = .ok (.bipush 108, 2) := by decide +kernel
theorem dX9_init_185 : decode cX9_init 185 = .ok (.iastore, 1) := by decide +kernel
theorem dX9_init_186 : decode cX9_init 186 = .ok (.dup, 1) := by decide +kernel
theorem dX9_init_187 : decode cX9_init 187 = .ok (.bipush 12, 2) := by decide +kernel
theorem dX9_init_189 : decode cX9_init 189 = .ok (.bipush 100, 2) := by decide +kernel
theorem dX9_init_191 : decode cX9_init 191 = .ok (.iastore, 1) := by decide +kernel
theorem dX9_init_192 : decode cX9_init 192 = .ok (.dup, 1) := by decide +kernel
theorem dX9_init_193 : decode cX9_init 193 = .ok (.bipush 13, 2) := by decide +kernel
theorem dX9_init_195 : decode cX9_init 195 = .ok (.bipush 100, 2) := by decide +kernel
theorem dX9_init_197 : decode cX9_init 197 = .ok (.iastore, 1) := by decide +kernel
theorem dX9_init_198 : decode cX9_init 198 = .ok (.dup, 1) := by decide +kernel
theorem dX9_init_199 : decode cX9_init 199 = .ok (.bipush 14, 2) := by decide +kernel
theorem dX9_init_201 : decode cX9_init 201 = .ok (.bipush 114, 2) := by decide +kernel
theorem dX9_init_203 : decode cX9_init 203 = .ok (.iastore, 1) := by decide +kernel
theorem dX9_init_204 : decode cX9_init 204 = .ok (.dup, 1) := by decide +kernel
theorem dX9_init_205 : decode cX9_init 205 = .ok (.bipush 15, 2) := by decide +kernel
theorem dX9_init_207 : decode cX9_init 207 = .ok (.bipush 101, 2) := by decide +kernel
theorem dX9_init_209 : decode cX9_init 209 = .ok (.iastore, 1) := by decide +kernel
theorem dX9_init_210 : decode cX9_init 210 = .ok (.dup, 1) := by decide +kernel
theorem dX9_init_211 : decode cX9_init 211 = .ok (.bipush 16, 2) := by decide +kernel
theorem dX9_init_213 : decode cX9_init 213 = .ok (.bipush 97, 2) := by decide +kernel
theorem dX9_init_215 : decode cX9_init 215 = .ok (.iastore, 1) := by decide +kernel
theorem dX9_init_216 : decode cX9_init 216 = .ok (.dup, 1) := by decide +kernel
theorem dX9_init_217 : decode cX9_init 217 = .ok (.bipush 17, 2) := by decide +kernel
theorem dX9_init_219 : decode cX9_init 219 = .ok (.bipush 109, 2) := by decide +kernel
theorem dX9_init_221 : decode cX9_init 221 = .ok (.iastore, 1) := by decide +kernel
theorem dX9_init_222 : decode cX9_init 222 = .ok (.dup, 1) := by decide +kernel
theorem dX9_init_223 : decode cX9_init 223 = .ok (.bipush 18, 2) := by decide +kernel
theorem dX9_init_225 : decode cX9_init 225 = .ok (.bipush 101, 2) := by decide +kernel
theorem dX9_init_227 : decode cX9_init 227 = .ok (.iastore, 1) := by decide +kernel
theorem dX9_init_228 : decode cX9_init 228 = .ok (.dup, 1) := by decide +kernel
theorem dX9_init_229 : decode cX9_init 229 = .ok (.bipush 19, 2) := by decide +kernel
theorem dX9_init_231 : decode cX9_init 231 = .ok (.bipush 114, 2) := by decide +kernel
theorem dX9_init_233 : decode cX9_init 233 = .ok (.iastore, 1) := by decide +kernel
theorem dX9_init_234 : decode cX9_init 234 = .ok (.dup, 1) := by decide +kernel
theorem dX9_init_235 : decode cX9_init 235 = .ok (.bipush 20, 2) := by decide +kernel
theorem dX9_init_237 : decode cX9_init 237 = .ok (.bipush 116, 2) := by decide +kernel
theorem dX9_init_239 : decode cX9_init 239 = .ok (.iastore, 1) := by decide +kernel
theorem dX9_init_240 : decode cX9_init 240 = .ok (.dup, 1) := by decide +kernel
theorem dX9_init_241 : decode cX9_init 241 = .ok (.bipush 21, 2) := by decide +kernel
theorem dX9_init_243 : decode cX9_init 243 = .ok (.bipush 104, 2) := by decide +kernel
theorem dX9_init_245 : decode cX9_init 245 = .ok (.iastore, 1) := by decide +kernel
theorem dX9_init_246 : decode cX9_init 246 = .ok (.dup, 1) := by decide +kernel
theorem dX9_init_247 : decode cX9_init 247 = .ok (.bipush 22, 2) := by decide +kernel
theorem dX9_init_249 : decode cX9_init 249 = .ok (.bipush 105, 2) := by decide +kernel
theorem dX9_init_251 : decode cX9_init 251 = .ok (.iastore, 1) := by decide +kernel
theorem dX9_init_252 : decode cX9_init 252 = .ok (.dup, 1) := by decide +kernel
theorem dX9_init_253 : decode cX9_init 253 = .ok (.bipush 23, 2) := by decide +kernel
theorem dX9_init_255 : decode cX9_init 255 = .ok (.bipush 110, 2) := by decide +kernel
theorem dX9_init_257 : decode cX9_init 257 = .ok (.iastore, 1) := by decide +kernel
theorem dX9_init_258 : decode cX9_init 258 = .ok (.dup, 1) := by decide +kernel
theorem dX9_init_259 : decode cX9_init 259 = .ok (.bipush 24, 2) := by decide +kernel
theorem dX9_init_261 : decode cX9_init 261 = .ok (.bipush 103, 2) := by decide +kernel
theorem dX9_init_263 : decode cX9_init 263 = .ok (.iastore, 1) := by decide +kernel
theorem dX9_init_264 : decode cX9_init 264 = .ok (.dup, 1) := by decide +kernel
theorem dX9_init_265 : decode cX9_init 265 = .ok (.bipush 25, 2) := by decide +kernel
theorem dX9_init_267 : decode cX9_init 267 = .ok (.bipush 116, 2) := by decide +kernel
theorem dX9_init_269 : decode cX9_init 269 = .ok (.iastore, 1) := by decide +kernel
theorem dX9_init_270 : decode cX9_init 270 = .ok (.dup, 1) := by decide +kernel
theorem dX9_init_271 : decode cX9_init 271 = .ok (.bipush 26, 2) := by decide +kernel
theorem dX9_init_273 : decode cX9_init 273 = .ok (.bipush 117, 2) := by decide +kernel
theorem dX9_init_275 : decode cX9_init 275 = .ok (.iastore, 1) := by decide +kernel
theorem dX9_init_276 : decode cX9_init 276 = .ok (.dup, 1) := by decide +kernel
theorem dX9_init_277 : decode cX9_init 277 = .ok (.bipush 27, 2) := by decide +kernel
theorem dX9_init_279 : decode cX9_init 279 = .ok (.bipush 114, 2) := by decide +kernel
theorem dX9_init_281 : decode cX9_init 281 = .ok (.iastore, 1) := by decide +kernel
theorem dX9_init_282 : decode cX9_init 282 = .ok (.dup, 1) := by decide +kernel
theorem dX9_init_283 : decode cX9_init 283 = .ok (.bipush 28, 2) := by decide +kernel
theorem dX9_init_285 : decode cX9_init 285 = .ok (.bipush 110, 2) := by decide +kernel
theorem dX9_init_287 : decode cX9_init 287 = .ok (.iastore, 1) := by decide +kernel
theorem dX9_init_288 : decode cX9_init 288 = .ok (.dup, 1) := by decide +kernel
theorem dX9_init_289 : decode cX9_init 289 = .ok (.bipush 29, 2) := by decide +kernel
theorem dX9_init_291 : decode cX9_init 291 = .ok (.bipush 114, 2) := by decide +kernel
theorem dX9_init_293 : decode cX9_init 293 = .ok (.iastore, 1) := by decide +kernel
theorem dX9_init_294 : decode cX9_init 294 = .ok (.dup, 1) := by decide +kernel
theorem dX9_init_295 : decode cX9_init 295 = .ok (.bipush 30, 2) := by decide +kernel
theorem dX9_init_297 : decode cX9_init 297 = .ok (.bipush 111, 2) := by decide +kernel
theorem dX9_init_299 : decode cX9_init 299 = .ok (.iastore, 1) := by decide +kernel
theorem dX9_init_300 : decode cX9_init 300 = .ok (.dup, 1) := by decide +kernel
theorem dX9_init_301 : decode cX9_init 301 = .ok (.bipush 31, 2) := by decide +kernel
theorem dX9_init_303 : decode cX9_init 303 = .ok (.bipush 116, 2) := by decide +kernel
theorem dX9_init_305 : decode cX9_init 305 = .ok (.iastore, 1) := by decide +kernel
theorem dX9_init_306 : decode cX9_init 306 = .ok (.dup, 1) := by decide +kernel
theorem dX9_init_307 : decode cX9_init 307 = .ok (.bipush 32, 2) := by decide +kernel
theorem dX9_init_309 : decode cX9_init 309 = .ok (.bipush 97, 2) := by decide +kernel
theorem dX9_init_311 : decode cX9_init 311 = .ok (.iastore, 1) := by decide +kernel
theorem dX9_init_312 : decode cX9_init 312 = .ok (.dup, 1) := by decide +kernel
theorem dX9_init_313 : decode cX9_init 313 = .ok (.bipush 33, 2) := by decide +kernel
theorem dX9_init_315 : decode cX9_init 315 = .ok (.bipush 119, 2) := by decide +kernel
theorem dX9_init_317 : decode cX9_init 317 = .ok (.iastore, 1) := by decide +kernel
theorem dX9_init_318 : decode cX9_init 318 = .ok (.dup, 1) := by decide +kernel
theorem dX9_init_319 : decode cX9_init 319 = .ok (.bipush 34, 2) := by decide +kernel
theorem dX9_init_321 : decode cX9_init 321 = .ok (.bipush 111, 2) := by decide +kernel
theorem dX9_init_323 : decode cX9_init 323 = .ok (.iastore, 1) := by decide +kernel
theorem dX9_init_324 : decode cX9_init 324 = .ok (.dup, 1) := by decide +kernel
theorem dX9_init_325 : decode cX9_init 325 = .ok (.bipush 35, 2) := by decide +kernel
theorem dX9_init_327 : decode cX9_init 327 = .ok (.bipush 114, 2) := by decide +kernel
theorem dX9_init_329 : decode cX9_init 329 = .ok (.iastore, 1) := by decide +kernel
theorem dX9_init_330 : decode cX9_init 330 = .ok (.dup, 1) := by decide +kernel
theorem dX9_init_331 : decode cX9_init 331 = .ok (.bipush 36, 2) := by decide +kernel
theorem dX9_init_333 : decode cX9_init 333 = .ok (.bipush 107, 2) := by decide +kernel
theorem dX9_init_335 : decode cX9_init 335 = .ok (.iastore, 1) := by decide +kernel
theorem dX9_init_336 : decode cX9_init 336 = .ok (.dup, 1) := by decide +kernel
theorem dX9_init_337 : decode cX9_init 337 = .ok (.bipush 37, 2) := by decide +kernel
theorem dX9_init_339 : decode cX9_init 339 = .ok (.bipush 116, 2) := by decide +kernel
theorem dX9_init_341 : decode cX9_init 341 = .ok (.iastore, 1) := by decide +kernel
theorem dX9_init_342 : decode cX9_init 342 = .ok (.dup, 1) := by decide +kernel
theorem dX9_init_343 : decode cX9_init 343 = .ok (.bipush 38, 2) := by decide +kernel
theorem dX9_init_345 : decode cX9_init 345 = .ok (.bipush 101, 2) := by decide +kernel
theorem dX9_init_347 : decode cX9_init 347 = .ok (.iastore, 1) := by decide +kernel
theorem dX9_init_348 : decode cX9_init 348 = .ok (.dup, 1) := by decide +kernel
theorem dX9_init_349 : decode cX9_init 349 = .ok (.bipush 39, 2) := by decide +kernel
theorem dX9_init_351 : decode cX9_init 351 = .ok (.bipush 108, 2) := by decide +kernel
theorem dX9_init_353 : decode cX9_init 353 = .ok (.iastore, 1) := by decide +kernel
theorem dX9_init_354 : decode cX9_init 354 = .ok (.dup, 1) := by decide +kernel
theorem dX9_init_355 : decode cX9_init 355 = .ok (.bipush 40, 2) := by decide +kernel
theorem dX9_init_357 : decode cX9_init 357 = .ok (.bipush 108, 2) := by decide +kernel
theorem dX9_init_359 : decode cX9_init 359 = .ok (.iastore, 1) := by decide +kernel
theorem dX9_init_360 : decode cX9_init 360 = .ok (.putfield 25, 3) := by decide +kernel
theorem dX9_init_363 : decode cX9_init 363 = .ok (.aload_n 0, 1) := by decide +kernel
theorem dX9_init_364 : decode cX9_init 364 = .ok (.sipush 150, 3) := by decide +kernel
theorem dX9_init_367 : decode cX9_init 367 = .ok (.newarray .int, 2) := by decide +kernel
theorem dX9_init_369 : decode cX9_init 369 = .ok (.putfield 28, 3) := by decide +kernel
theorem dX9_init_372 : decode cX9_init 372 = .ok (.aload_n 0, 1) := by decide +kernel
theorem dX9_init_373 : decode cX9_init 373 = .ok (.sipush 150, 3) := by decide +kernel
theorem dX9_init_376 : decode cX9_init 376 = .ok (.newarray .int, 2) := by decide +kernel
theorem dX9_init_378 : decode cX9_init 378 = .ok (.putfield 31, 3) := by decide +kernel
theorem dX9_init_381 : decode cX9_init 381 = .ok (.aload_n 0, 1) := by decide +kernel
theorem dX9_init_382 : decode cX9_init 382 = .ok (.sipush 2112, 3) := by decide +kernel
theorem dX9_init_385 : decode cX9_init 385 = .ok (.newarray .int, 2) := by decide +kernel
theorem dX9_init_387 : decode cX9_init 387 = .ok (.putfield 34, 3) := by decide +kernel
theorem dX9_init_390 : decode cX9_init 390 = .ok (.aload_n 0, 1) := by decide +kernel
theorem dX9_init_391 : decode cX9_init 391 = .ok (.bipush 24, 2) := by decide +kernel
theorem dX9_init_393 : decode cX9_init 393 = .ok (.newarray .int, 2) := by decide +kernel
theorem dX9_init_395 : decode cX9_init 395 = .ok (.putfield 37, 3) := by decide +kernel
theorem dX9_init_398 : decode cX9_init 398 = .ok (.aload_n 0, 1) := by decide +kernel
theorem dX9_init_399 : decode cX9_init 399 = .ok (.bipush 90, 2) := by decide +kernel
theorem dX9_init_401 : decode cX9_init 401 = .ok (.newarray .int, 2) := by decide +kernel
theorem dX9_init_403 : decode cX9_init 403 = .ok (.putfield 40, 3) := by decide +kernel
theorem dX9_init_406 : decode cX9_init 406 = .ok (.aload_n 0, 1) := by decide +kernel
theorem dX9_init_407 : decode cX9_init 407 = .ok (.iconst 2, 1) := by decide +kernel
theorem dX9_init_408 : decode cX9_init 408 = .ok (.newarray .boolean, 2) := by decide +kernel
theorem dX9_init_410 : decode cX9_init 410 = .ok (.putfield 43, 3) := by decide +kernel
theorem dX9_init_413 : decode cX9_init 413 = .ok (.aload_n 0, 1) := by decide +kernel
theorem dX9_init_414 : decode cX9_init 414 = .ok (.iconst 4, 1) := by decide +kernel
theorem dX9_init_415 : decode cX9_init 415 = .ok (.newarray .int, 2) := by decide +kernel
theorem dX9_init_417 : decode cX9_init 417 = .ok (.dup, 1) := by decide +kernel
theorem dX9_init_418 : decode cX9_init 418 = .ok (.iconst 0, 1) := by decide +kernel
theorem dX9_init_419 : decode cX9_init 419 = .ok (.bipush (-4), 2) := by decide +kernel
theorem dX9_init_421 : decode cX9_init 421 = .ok (.iastore, 1) := by decide +kernel
theorem dX9_init_422 : decode cX9_init 422 = .ok (.dup, 1) := by decide +kernel
theorem dX9_init_423 : decode cX9_init 423 = .ok (.iconst 1, 1) := by decide +kernel
theorem dX9_init_424 : decode cX9_init 424 = .ok (.bipush (-4), 2) := by decide +kernel
theorem dX9_init_426 : decode cX9_init 426 = .ok (.iastore, 1) := by decide +kernel
theorem dX9_init_427 : decode cX9_init 427 = .ok (.dup, 1) := by decide +kernel
theorem dX9_init_428 : decode cX9_init 428 = .ok (.iconst 2, 1) := by decide +kernel
theorem dX9_init_429 : decode cX9_init 429 = .ok (.bipush (-4), 2) := by decide +kernel
theorem dX9_init_431 : decode cX9_init 431 = .ok (.iastore, 1) := by decide +kernel
theorem dX9_init_432 : decode cX9_init 432 = .ok (.dup, 1) := by decide +kernel
theorem dX9_init_433 : decode cX9_init 433 = .ok (.iconst 3, 1) := by decide +kernel
theorem dX9_init_434 : decode cX9_init 434 = .ok (.bipush (-4), 2) := by decide +kernel
theorem dX9_init_436 : decode cX9_init 436 = .ok (.iastore, 1) := by decide +kernel
theorem dX9_init_437 : decode cX9_init 437 = .ok (.putfield 47, 3) := by decide +kernel
theorem dX9_init_440 : decode cX9_init 440 = .ok (.aload_n 0, 1) := by decide +kernel
theorem dX9_init_441 : decode cX9_init 441 = .ok (.iconst 4, 1) := by decide +kernel
theorem dX9_init_442 : decode cX9_init 442 = .ok (.newarray .int, 2) := by decide +kernel
theorem dX9_init_444 : decode cX9_init 444 = .ok (.putfield 50, 3) := by decide +kernel
theorem dX9_init_447 : decode cX9_init 447 = .ok (.aload_n 0, 1) := by decide +kernel
theorem dX9_init_448 : decode cX9_init 448 = .ok (.sipush 160, 3) := by decide +kernel
theorem dX9_init_451 : decode cX9_init 451 = .ok (.newarray .int, 2) := by decide +kernel
theorem dX9_init_453 : decode cX9_init 453 = .ok (.putfield 53, 3) := by decide +kernel
theorem dX9_init_456 : decode cX9_init 456 = .ok (.return_, 1) := by decide +kernel
theorem dX9_in_0 : decode cX9_in 0 = .ok (.lload_n 0, 1) := by decide +kernel
theorem dX9_in_1 : decode cX9_in 1 = .ok (.lload_n 2, 1) := by decide +kernel
theorem dX9_in_2 : decode cX9_in 2 = .ok (.lcmp, 1) := by decide +kernel
theorem dX9_in_3 : decode cX9_in 3 = .ok (.ifCond .lt 14, 3) := by decide +kernel
theorem dX9_in_6 : decode cX9_in 6 = .ok (.lload_n 0, 1) := by decide +kernel
theorem dX9_in_7 : decode cX9_in 7 = .ok (.lload 4, 2) := by decide +kernel
theorem dX9_in_9 : decode cX9_in 9 = .ok (.lcmp, 1) := by decide +kernel
theorem dX9_in_10 : decode cX9_in 10 = .ok (.ifCond .gt 7, 3) := by decide +kernel
theorem dX9_in_13 : decode cX9_in 13 = .ok (.iconst 1, 1) := by decide +kernel
theorem dX9_in_14 : decode cX9_in 14 = .ok (.goto 4, 3) := by decide +kernel
theorem dX9_in_17 : decode cX9_in 17 = .ok (.iconst 0, 1) := by decide +kernel
theorem dX9_in_18 : decode cX9_in 18 = .ok (.ireturn, 1) := by decide +kernel
theorem dX9_feed_0 : decode cX9_feed 0 = .ok (.iload_n 1, 1) := by decide +kernel
theorem dX9_feed_1 : decode cX9_feed 1 = .ok (.i2l, 1) := by decide +kernel
theorem dX9_feed_2 : decode cX9_feed 2 = .ok (.lconst 0, 1) := by decide +kernel
theorem dX9_feed_3 : decode cX9_feed 3 = .ok (.ldc2_w 56, 3) := by decide +kernel
theorem dX9_feed_6 : decode cX9_feed 6 = .ok (.invokestatic 58, 3) := by decide +kernel
theorem dX9_feed_9 : decode cX9_feed 9 = .ok (.ifCond .ne 5, 3) := by decide +kernel
theorem dX9_feed_12 : decode cX9_feed 12 = .ok (.iconst (-1), 1) := by decide +kernel
theorem dX9_feed_13 : decode cX9_feed 13 = .ok (.ireturn, 1) := by decide +kernel
theorem dX9_feed_14 : decode cX9_feed 14 = .ok (.aload_n 0, 1) := by decide +kernel
theorem dX9_feed_15 : decode cX9_feed 15 = .ok (.getfield 62, 3) := by decide +kernel
theorem dX9_feed_18 : decode cX9_feed 18 = .ok (.sipush 160, 3) := by decide +kernel
theorem dX9_feed_21 : decode cX9_feed 21 = .ok (.if_icmp .ne 6, 3) := by decide +kernel
theorem dX9_feed_24 : decode cX9_feed 24 = .ok (.bipush (-3), 2) := by decide +kernel
theorem dX9_feed_26 : decode cX9_feed 26 = .ok (.ireturn, 1) := by decide +kernel
theorem dX9_feed_27 : decode cX9_feed 27 = .ok (.aload_n 0, 1) := by decide +kernel
theorem dX9_feed_28 : decode cX9_feed 28 = .ok (.getfield 19, 3) := by decide +kernel
theorem dX9_feed_31 : decode cX9_feed 31 = .ok (.aload_n 0, 1) := by decide +kernel
theorem dX9_feed_32 : decode cX9_feed 32 = .ok (.getfield 62, 3) := by decide +kernel
theorem dX9_feed_35 : decode cX9_feed 35 = .ok (.iload_n 1, 1) := by decide +kernel
theorem dX9_feed_36 : decode cX9_feed 36 = .ok (.iastore, 1) := by decide +kernel
theorem dX9_feed_37 : decode cX9_feed 37 = .ok (.aload_n 0, 1) := by decide +kernel
theorem dX9_feed_38 : decode cX9_feed 38 = .ok (.dup, 1) := by decide +kernel
theorem dX9_feed_39 : decode cX9_feed 39 = .ok (.getfield 62, 3) := by decide +kernel
theorem dX9_feed_42 : decode cX9_feed 42 = .ok (.iconst 1, 1) := by decide +kernel
theorem dX9_feed_43 : decode cX9_feed 43 = .ok (.iadd, 1) := by decide +kernel
theorem dX9_feed_44 : decode cX9_feed 44 = .ok (.putfield 62, 3) := by decide +kernel
theorem dX9_feed_47 : decode cX9_feed 47 = .ok (.aload_n 0, 1) := by decide +kernel
theorem dX9_feed_48 : decode cX9_feed 48 = .ok (.getfield 62, 3) := by decide +kernel
theorem dX9_feed_51 : decode cX9_feed 51 = .ok (.ireturn, 1) := by decide +kernel
theorem dX9_end_0 : decode cX9_end 0 = .ok (.iload_n 1, 1) := by decide +kernel
theorem dX9_end_1 : decode cX9_end 1 = .ok (.i2l, 1) := by decide +kernel
theorem dX9_end_2 : decode cX9_end 2 = .ok (.lconst 0, 1) := by decide +kernel
theorem dX9_end_3 : decode cX9_end 3 = .ok (.aload_n 0, 1) := by decide +kernel
theorem dX9_end_4 : decode cX9_end 4 = .ok (.getfield 62, 3) := by decide +kernel
theorem dX9_end_7 : decode cX9_end 7 = .ok (.i2l, 1) := by decide +kernel
theorem dX9_end_8 : decode cX9_end 8 = .ok (.invokestatic 58, 3) := by decide +kernel
theorem dX9_end_11 : decode cX9_end 11 = .ok (.ifCond .ne 5, 3) := by decide +kernel
theorem dX9_end_14 : decode cX9_end 14 = .ok (.iconst (-1), 1) := by decide +kernel
theorem dX9_end_15 : decode cX9_end 15 = .ok (.ireturn, 1) := by decide +kernel
theorem dX9_end_16 : decode cX9_end 16 = .ok (.aload_n 0, 1) := by decide +kernel
theorem dX9_end_17 : decode cX9_end 17 = .ok (.getfield 62, 3) := by decide +kernel
theorem dX9_end_20 : decode cX9_end 20 = .ok (.istore_n 2, 1) := by decide +kernel
theorem dX9_end_21 : decode cX9_end 21 = .ok (.aload_n 0, 1) := by decide +kernel
theorem dX9_end_22 : decode cX9_end 22 = .ok (.iload_n 1, 1) := by decide +kernel
theorem dX9_end_23 : decode cX9_end 23 = .ok (.putfield 62, 3) := by decide +kernel
theorem dX9_end_26 : decode cX9_end 26 = .ok (.iload_n 2, 1) := by decide +kernel
theorem dX9_end_27 : decode cX9_end 27 = .ok (.ireturn, 1) := by decide +kernel
theorem dX9_byteAt_0 : decode cX9_byteAt 0 = .ok (.iload_n 1, 1) := by decide +kernel
theorem dX9_byteAt_1 : decode cX9_byteAt 1 = .ok (.aload_n 0, 1) := by decide +kernel
theorem dX9_byteAt_2 : decode cX9_byteAt 2 = .ok (.getfield 62, 3) := by decide +kernel
theorem dX9_byteAt_5 : decode cX9_byteAt 5 = .ok (.if_icmp .ge 12, 3) := by decide +kernel
theorem dX9_byteAt_8 : decode cX9_byteAt 8 = .ok (.aload_n 0, 1) := by decide +kernel
theorem dX9_byteAt_9 : decode cX9_byteAt 9 = .ok (.getfield 19, 3) := by decide +kernel
theorem dX9_byteAt_12 : decode cX9_byteAt 12 = .ok (.iload_n 1, 1) := by decide +kernel
theorem dX9_byteAt_13 : decode cX9_byteAt 13 = .ok (.iaload, 1) := by decide +kernel
theorem dX9_byteAt_14 : decode cX9_byteAt 14 = .ok (.goto 5, 3) := by decide +kernel
theorem dX9_byteAt_17 : decode cX9_byteAt 17 = .ok (.bipush (-4), 2) := by decide +kernel
theorem dX9_byteAt_19 : decode cX9_byteAt 19 = .ok (.ireturn, 1) := by decide +kernel
theorem dX9_fails_0 : decode cX9_fails 0 = .ok (.aload_n 0, 1) := by decide +kernel
theorem dX9_fails_1 : decode cX9_fails 1 = .ok (.getfield 66, 3) := by decide +kernel
theorem dX9_fails_4 : decode cX9_fails 4 = .ok (.ifCond .ne 16, 3) := by decide +kernel
theorem dX9_fails_7 : decode cX9_fails 7 = .ok (.aload_n 0, 1) := by decide +kernel
theorem dX9_fails_8 : decode cX9_fails 8 = .ok (.iload_n 1, 1) := by decide +kernel
theorem dX9_fails_9 : decode cX9_fails 9 = .ok (.putfield 66, 3) := by decide +kernel
theorem dX9_fails_12 : decode cX9_fails 12 = .ok (.aload_n 0, 1) := by decide +kernel
theorem dX9_fails_13 : decode cX9_fails 13 = .ok (.aload_n 0, 1) := by decide +kernel
theorem dX9_fails_14 : decode cX9_fails 14 = .ok (.getfield 69, 3) := by decide +kernel
theorem dX9_fails_17 : decode cX9_fails 17 = .ok (.putfield 72, 3) := by decide +kernel
theorem dX9_fails_20 : decode cX9_fails 20 = .ok (.return_, 1) := by decide +kernel
theorem dX9_nameHere_0 : decode cX9_nameHere 0 = .ok (.iconst 0, 1) := by decide +kernel
theorem dX9_nameHere_1 : decode cX9_nameHere 1 = .ok (.istore_n 1, 1) := by decide +kernel
theorem dX9_nameHere_2 : decode cX9_nameHere 2 = .ok (.iload_n 1, 1) := by decide +kernel
theorem dX9_nameHere_3 : decode cX9_nameHere 3 = .ok (.bipush 9, 2) := by decide +kernel
theorem dX9_nameHere_5 : decode cX9_nameHere 5 = .ok (.if_icmp .ge 113, 3) := by decide +kernel
theorem dX9_nameHere_8 : decode cX9_nameHere 8 = .ok (.aload_n 0, 1) := by decide +kernel
theorem dX9_nameHere_9 : decode cX9_nameHere 9 = .ok (.getfield 75, 3) := by decide +kernel
theorem dX9_nameHere_12 : decode cX9_nameHere 12 = .ok (.iconst 1, 1) := by decide +kernel
theorem dX9_nameHere_13 : decode cX9_nameHere 13 = .ok (.if_icmp .ne 105, 3) := by decide +kernel
theorem dX9_nameHere_16 : decode cX9_nameHere 16 = .ok (.aload_n 0, 1) := by decide +kernel
theorem dX9_nameHere_17 : decode cX9_nameHere 17 = .ok (.getfield 78, 3) := by decide +kernel
theorem dX9_nameHere_20 : decode cX9_nameHere 20 = .ok (.aload_n 0, 1) := by decide +kernel
theorem dX9_nameHere_21 : decode cX9_nameHere 21 = .ok (.getfield 69, 3) := by decide +kernel
theorem dX9_nameHere_24 : decode cX9_nameHere 24 = .ok (.isub, 1) := by decide +kernel
theorem dX9_nameHere_25 : decode cX9_nameHere 25 = .ok (.aload_n 0, 1) := by decide +kernel
theorem dX9_nameHere_26 : decode cX9_nameHere 26 = .ok (.getfield 22, 3) := by decide +kernel
theorem dX9_nameHere_29 : decode cX9_nameHere 29 = .ok (.iload_n 1, 1) := by decide +kernel
theorem dX9_nameHere_30 : decode cX9_nameHere 30 = .ok (.iconst 1, 1) := by decide +kernel
theorem dX9_nameHere_31 : decode cX9_nameHere 31 = .ok (.iadd, 1) := by decide +kernel
theorem dX9_nameHere_32 : decode cX9_nameHere 32 = .ok (.iaload, 1) := by decide +kernel
theorem dX9_nameHere_33 : decode cX9_nameHere 33 = .ok (.aload_n 0, 1) := by decide +kernel
theorem dX9_nameHere_34 : decode cX9_nameHere 34 = .ok (.getfield 22, 3) := by decide +kernel
theorem dX9_nameHere_37 : decode cX9_nameHere 37 = .ok (.iload_n 1, 1) := by decide +kernel
theorem dX9_nameHere_38 : decode cX9_nameHere 38 = .ok (.iaload, 1) := by decide +kernel
theorem dX9_nameHere_39 : decode cX9_nameHere 39 = .ok (.isub, 1) := by decide +kernel
theorem dX9_nameHere_40 : decode cX9_nameHere 40 = .ok (.if_icmp .ne 7, 3) := by decide +kernel
theorem dX9_nameHere_43 : decode cX9_nameHere 43 = .ok (.iconst 1, 1) := by decide +kernel
theorem dX9_nameHere_44 : decode cX9_nameHere 44 = .ok (.goto 4, 3) := by decide +kernel
theorem dX9_nameHere_47 : decode cX9_nameHere 47 = .ok (.iconst 0, 1) := by decide +kernel
theorem dX9_nameHere_48 : decode cX9_nameHere 48 = .ok (.istore_n 2, 1) := by decide +kernel
theorem dX9_nameHere_49 : decode cX9_nameHere 49 = .ok (.iconst 0, 1) := by decide +kernel
theorem dX9_nameHere_50 : decode cX9_nameHere 50 = .ok (.istore_n 3, 1) := by decide +kernel
theorem dX9_nameHere_51 : decode cX9_nameHere 51 = .ok (.iload_n 2, 1) := by decide +kernel
theorem dX9_nameHere_52 : decode cX9_nameHere 52 = .ok (.ifCond .eq 54, 3) := by decide +kernel
theorem dX9_nameHere_55 : decode cX9_nameHere 55 = .ok (.iload_n 3, 1) := by decide +kernel
theorem dX9_nameHere_56 : decode cX9_nameHere 56 = .ok (.aload_n 0, 1) := by decide +kernel
theorem dX9_nameHere_57 : decode cX9_nameHere 57 = .ok (.getfield 78, 3) := by decide +kernel
theorem dX9_nameHere_60 : decode cX9_nameHere 60 = .ok (.aload_n 0, 1) := by decide +kernel
theorem dX9_nameHere_61 : decode cX9_nameHere 61 = .ok (.getfield 69, 3) := by decide +kernel
theorem dX9_nameHere_64 : decode cX9_nameHere 64 = .ok (.isub, 1) := by decide +kernel
theorem dX9_nameHere_65 : decode cX9_nameHere 65 = .ok (.if_icmp .ge 41, 3) := by decide +kernel
theorem dX9_nameHere_68 : decode cX9_nameHere 68 = .ok (.aload_n 0, 1) := by decide +kernel
theorem dX9_nameHere_69 : decode cX9_nameHere 69 = .ok (.aload_n 0, 1) := by decide +kernel
theorem dX9_nameHere_70 : decode cX9_nameHere 70 = .ok (.getfield 69, 3) := by decide +kernel
theorem dX9_nameHere_73 : decode cX9_nameHere 73 = .ok (.iload_n 3, 1) := by decide +kernel
theorem dX9_nameHere_74 : decode cX9_nameHere 74 = .ok (.iadd, 1) := by decide +kernel
theorem dX9_nameHere_75 : decode cX9_nameHere 75 = .ok (.invokevirtual 81, 3) := by decide +kernel
theorem dX9_nameHere_78 : decode cX9_nameHere 78 = .ok (.aload_n 0, 1) := by decide +kernel
theorem dX9_nameHere_79 : decode cX9_nameHere 79 = .ok (.getfield 25, 3) := by decide +kernel
theorem dX9_nameHere_82 : decode cX9_nameHere 82 = .ok (.aload_n 0, 1) := by decide +kernel
theorem dX9_nameHere_83 : decode cX9_nameHere 83 = .ok (.getfield 22, 3) := by decide +kernel
theorem dX9_nameHere_86 : decode cX9_nameHere 86 = .ok (.iload_n 1, 1) := by decide +kernel
theorem dX9_nameHere_87 : decode cX9_nameHere 87 = .ok (.iaload, 1) := by decide +kernel
theorem dX9_nameHere_88 : decode cX9_nameHere 88 = .ok (.iload_n 3, 1) := by decide +kernel
theorem dX9_nameHere_89 : decode cX9_nameHere 89 = .ok (.iadd, 1) := by decide +kernel
theorem dX9_nameHere_90 : decode cX9_nameHere 90 = .ok (.iaload, 1) := by decide +kernel
theorem dX9_nameHere_91 : decode cX9_nameHere 91 = .ok (.if_icmp .ne 7, 3) := by decide +kernel
theorem dX9_nameHere_94 : decode cX9_nameHere 94 = .ok (.iconst 1, 1) := by decide +kernel
theorem dX9_nameHere_95 : decode cX9_nameHere 95 = .ok (.goto 4, 3) := by decide +kernel
theorem dX9_nameHere_98 : decode cX9_nameHere 98 = .ok (.iconst 0, 1) := by decide +kernel
theorem dX9_nameHere_99 : decode cX9_nameHere 99 = .ok (.istore_n 2, 1) := by decide +kernel
theorem dX9_nameHere_100 : decode cX9_nameHere 100 = .ok (.iinc 3 1, 3) := by decide +kernel
theorem dX9_nameHere_103 : decode cX9_nameHere 103 = .ok (.goto (-52), 3) := by decide +kernel
theorem dX9_nameHere_106 : decode cX9_nameHere 106 = .ok (.iload_n 2, 1) := by decide +kernel
theorem dX9_nameHere_107 : decode cX9_nameHere 107 = .ok (.ifCond .eq 5, 3) := by decide +kernel
theorem dX9_nameHere_110 : decode cX9_nameHere 110 = .ok (.iload_n 1, 1) := by decide +kernel
theorem dX9_nameHere_111 : decode cX9_nameHere 111 = .ok (.ireturn, 1) := by decide +kernel
theorem dX9_nameHere_112 : decode cX9_nameHere 112 = .ok (.iinc 1 1, 3) := by decide +kernel
theorem dX9_nameHere_115 : decode cX9_nameHere 115 = .ok (.goto (-113), 3) := by decide +kernel
theorem dX9_nameHere_118 : decode cX9_nameHere 118 = .ok (.bipush (-4), 2) := by decide +kernel
theorem dX9_nameHere_120 : decode cX9_nameHere 120 = .ok (.ireturn, 1) := by decide +kernel
theorem dX9_step_0 : decode cX9_step 0 = .ok (.aload_n 0, 1) := by decide +kernel
theorem dX9_step_1 : decode cX9_step 1 = .ok (.getfield 66, 3) := by decide +kernel
theorem dX9_step_4 : decode cX9_step 4 = .ok (.ifCond .le 4, 3) := by decide +kernel
theorem dX9_step_7 : decode cX9_step 7 = .ok (.return_, 1) := by decide +kernel
theorem dX9_step_8 : decode cX9_step 8 = .ok (.aload_n 0, 1) := by decide +kernel
theorem dX9_step_9 : decode cX9_step 9 = .ok (.aload_n 0, 1) := by decide +kernel
theorem dX9_step_10 : decode cX9_step 10 = .ok (.getfield 78, 3) := by decide +kernel
theorem dX9_step_13 : decode cX9_step 13 = .ok (.invokevirtual 81, 3) := by decide +kernel
theorem dX9_step_16 : decode cX9_step 16 = .ok (.bipush 32, 2) := by decide +kernel
theorem dX9_step_18 : decode cX9_step 18 = .ok (.if_icmp .ne 16, 3) := by decide +kernel
theorem dX9_step_21 : decode cX9_step 21 = .ok (.aload_n 0, 1) := by decide +kernel
theorem dX9_step_22 : decode cX9_step 22 = .ok (.dup, 1) := by decide +kernel
theorem dX9_step_23 : decode cX9_step 23 = .ok (.getfield 78, 3) := by decide +kernel
theorem dX9_step_26 : decode cX9_step 26 = .ok (.iconst 1, 1) := by decide +kernel
theorem dX9_step_27 : decode cX9_step 27 = .ok (.iadd, 1) := by decide +kernel
theorem dX9_step_28 : decode cX9_step 28 = .ok (.putfield 78, 3) := by decide +kernel
theorem dX9_step_31 : decode cX9_step 31 = .ok (.goto (-23), 3) := by decide +kernel
theorem dX9_step_34 : decode cX9_step 34 = .ok (.aload_n 0, 1) := by decide +kernel
theorem dX9_step_35 : decode cX9_step 35 = .ok (.aload_n 0, 1) := by decide +kernel
theorem dX9_step_36 : decode cX9_step 36 = .ok (.getfield 78, 3) := by decide +kernel
theorem dX9_step_39 : decode cX9_step 39 = .ok (.putfield 69, 3) := by decide +kernel
theorem dX9_step_42 : decode cX9_step 42 = .ok (.aload_n 0, 1) := by decide +kernel
theorem dX9_step_43 : decode cX9_step 43 = .ok (.aload_n 0, 1) := by decide +kernel
theorem dX9_step_44 : decode cX9_step 44 = .ok (.getfield 78, 3) := by decide +kernel
theorem dX9_step_47 : decode cX9_step 47 = .ok (.invokevirtual 81, 3) := by decide +kernel
theorem dX9_step_50 : decode cX9_step 50 = .ok (.istore_n 1, 1) := by decide +kernel
theorem dX9_step_51 : decode cX9_step 51 = .ok (.aload_n 0, 1) := by decide +kernel
theorem dX9_step_52 : decode cX9_step 52 = .ok (.iconst 0, 1) := by decide +kernel
theorem dX9_step_53 : decode cX9_step 53 = .ok (.putfield 85, 3) := by decide +kernel
theorem dX9_step_56 : decode cX9_step 56 = .ok (.iload_n 1, 1) := by decide +kernel
theorem dX9_step_57 : decode cX9_step 57 = .ok (.bipush (-4), 2) := by decide +kernel
theorem dX9_step_59 : decode cX9_step 59 = .ok (.if_icmp .ne 11, 3) := by decide +kernel
theorem dX9_step_62 : decode cX9_step 62 = .ok (.aload_n 0, 1) := by decide +kernel
theorem dX9_step_63 : decode cX9_step 63 = .ok (.iconst 0, 1) := by decide +kernel
theorem dX9_step_64 : decode cX9_step 64 = .ok (.putfield 75, 3) := by decide +kernel
theorem dX9_step_67 : decode cX9_step 67 = .ok (.goto 202, 3) := by decide +kernel
theorem dX9_step_70 : decode cX9_step 70 = .ok (.iload_n 1, 1) := by decide +kernel
theorem dX9_step_71 : decode cX9_step 71 = .ok (.i2l, 1) := by decide +kernel
theorem dX9_step_72 : decode cX9_step 72 = .ok (.ldc2_w 88, 3) := by decide +kernel
theorem dX9_step_75 : decode cX9_step 75 = .ok (.ldc2_w 90, 3) := by decide +kernel
theorem dX9_step_78 : decode cX9_step 78 = .ok (.invokestatic 58, 3) := by decide +kernel
theorem dX9_step_81 : decode cX9_step 81 = .ok (.ifCond .eq 45, 3) := by decide +kernel
theorem dX9_step_84 : decode cX9_step 84 = .ok (.aload_n 0, 1) := by decide +kernel
theorem dX9_step_85 : decode cX9_step 85 = .ok (.aload_n 0, 1) := by decide +kernel
theorem dX9_step_86 : decode cX9_step 86 = .ok (.getfield 78, 3) := by decide +kernel
theorem dX9_step_89 : decode cX9_step 89 = .ok (.invokevirtual 81, 3) := by decide +kernel
theorem dX9_step_92 : decode cX9_step 92 = .ok (.i2l, 1) := by decide +kernel
theorem dX9_step_93 : decode cX9_step 93 = .ok (.ldc2_w 88, 3) := by decide +kernel
theorem dX9_step_96 : decode cX9_step 96 = .ok (.ldc2_w 90, 3) := by decide +kernel
theorem dX9_step_99 : decode cX9_step 99 = .ok (.invokestatic 58, 3) := by decide +kernel
theorem dX9_step_102 : decode cX9_step 102 = .ok (.ifCond .eq 16, 3) := by decide +kernel
theorem dX9_step_105 : decode cX9_step 105 = .ok (.aload_n 0, 1) := by decide +kernel
theorem dX9_step_106 : decode cX9_step 106 = .ok (.dup, 1) := by decide +kernel
theorem dX9_step_107 : decode cX9_step 107 = .ok (.getfield 78, 3) := by decide +kernel
theorem dX9_step_110 : decode cX9_step 110 = .ok (.iconst 1, 1) := by decide +kernel
theorem dX9_step_111 : decode cX9_step 111 = .ok (.iadd, 1) := by decide +kernel
theorem dX9_step_112 : decode cX9_step 112 = .ok (.putfield 78, 3) := by decide +kernel
theorem dX9_step_115 : decode cX9_step 115 = .ok (.goto (-31), 3) := by decide +kernel
theorem dX9_step_118 : decode cX9_step 118 = .ok (.aload_n 0, 1) := by decide +kernel
theorem dX9_step_119 : decode cX9_step 119 = .ok (.iconst 1, 1) := by decide +kernel
theorem dX9_step_120 : decode cX9_step 120 = .ok (.putfield 75, 3) := by decide +kernel
theorem dX9_step_123 : decode cX9_step 123 = .ok (.goto 146, 3) := by decide +kernel
theorem dX9_step_126 : decode cX9_step 126 = .ok (.iload_n 1, 1) := by decide +kernel
theorem dX9_step_127 : decode cX9_step 127 = .ok (.i2l, 1) := by decide +kernel
theorem dX9_step_128 : decode cX9_step 128 = .ok (.ldc2_w 92, 3) := by decide +kernel
theorem dX9_step_131 : decode cX9_step 131 = .ok (.ldc2_w 94, 3) := by decide +kernel
theorem dX9_step_134 : decode cX9_step 134 = .ok (.invokestatic 58, 3) := by decide +kernel
theorem dX9_step_137 : decode cX9_step 137 = .ok (.ifCond .eq 106, 3) := by decide +kernel
theorem dX9_step_140 : decode cX9_step 140 = .ok (.aload_n 0, 1) := by decide +kernel
theorem dX9_step_141 : decode cX9_step 141 = .ok (.aload_n 0, 1) := by decide +kernel
theorem dX9_step_142 : decode cX9_step 142 = .ok (.getfield 78, 3) := by decide +kernel
theorem dX9_step_145 : decode cX9_step 145 = .ok (.invokevirtual 81, 3) := by decide +kernel
theorem dX9_step_148 : decode cX9_step 148 = .ok (.i2l, 1) := by decide +kernel
theorem dX9_step_149 : decode cX9_step 149 = .ok (.ldc2_w 92, 3) := by decide +kernel
theorem dX9_step_152 : decode cX9_step 152 = .ok (.ldc2_w 94, 3) := by decide +kernel
theorem dX9_step_155 : decode cX9_step 155 = .ok (.invokestatic 58, 3) := by decide +kernel
theorem dX9_step_158 : decode cX9_step 158 = .ok (.ifCond .eq 59, 3) := by decide +kernel
theorem dX9_step_161 : decode cX9_step 161 = .ok (.aload_n 0, 1) := by decide +kernel
theorem dX9_step_162 : decode cX9_step 162 = .ok (.aload_n 0, 1) := by decide +kernel
theorem dX9_step_163 : decode cX9_step 163 = .ok (.getfield 78, 3) := by decide +kernel
theorem dX9_step_166 : decode cX9_step 166 = .ok (.aload_n 0, 1) := by decide +kernel
theorem dX9_step_167 : decode cX9_step 167 = .ok (.getfield 69, 3) := by decide +kernel
theorem dX9_step_170 : decode cX9_step 170 = .ok (.isub, 1) := by decide +kernel
theorem dX9_step_171 : decode cX9_step 171 = .ok (.iconst 2, 1) := by decide +kernel
theorem dX9_step_172 : decode cX9_step 172 = .ok (.if_icmp .ge 25, 3) := by decide +kernel
theorem dX9_step_175 : decode cX9_step 175 = .ok (.bipush 10, 2) := by decide +kernel
theorem dX9_step_177 : decode cX9_step 177 = .ok (.aload_n 0, 1) := by decide +kernel
theorem dX9_step_178 : decode cX9_step 178 = .ok (.getfield 85, 3) := by decide +kernel
theorem dX9_step_181 : decode cX9_step 181 = .ok (.imul, 1) := by decide +kernel
theorem dX9_step_182 : decode cX9_step 182 = .ok (.aload_n 0, 1) := by decide +kernel
theorem dX9_step_183 : decode cX9_step 183 = .ok (.aload_n 0, 1) := by decide +kernel
theorem dX9_step_184 : decode cX9_step 184 = .ok (.getfield 78, 3) := by decide +kernel
theorem dX9_step_187 : decode cX9_step 187 = .ok (.invokevirtual 81, 3) := by decide +kernel
theorem dX9_step_190 : decode cX9_step 190 = .ok (.iadd, 1) := by decide +kernel
theorem dX9_step_191 : decode cX9_step 191 = .ok (.bipush 48, 2) := by decide +kernel
theorem dX9_step_193 : decode cX9_step 193 = .ok (.isub, 1) := by decide +kernel
theorem dX9_step_194 : decode cX9_step 194 = .ok (.goto 7, 3) := by decide +kernel
theorem dX9_step_197 : decode cX9_step 197 = .ok (.aload_n 0, 1) := by decide +kernel
theorem dX9_step_198 : decode cX9_step 198 = .ok (.getfield 85, 3) := by decide +kernel
theorem dX9_step_201 : decode cX9_step 201 = .ok (.putfield 85, 3) := by decide +kernel
theorem dX9_step_204 : decode cX9_step 204 = .ok (.aload_n 0, 1) := by decide +kernel
theorem dX9_step_205 : decode cX9_step 205 = .ok (.dup, 1) := by decide +kernel
theorem dX9_step_206 : decode cX9_step 206 = .ok (.getfield 78, 3) := by decide +kernel
theorem dX9_step_209 : decode cX9_step 209 = .ok (.iconst 1, 1) := by decide +kernel
theorem dX9_step_210 : decode cX9_step 210 = .ok (.iadd, 1) := by decide +kernel
theorem dX9_step_211 : decode cX9_step 211 = .ok (.putfield 78, 3) := by decide +kernel
theorem dX9_step_214 : decode cX9_step 214 = .ok (.goto (-74), 3) := by decide +kernel
theorem dX9_step_217 : decode cX9_step 217 = .ok (.aload_n 0, 1) := by decide +kernel
theorem dX9_step_218 : decode cX9_step 218 = .ok (.iconst 2, 1) := by decide +kernel
theorem dX9_step_219 : decode cX9_step 219 = .ok (.putfield 75, 3) := by decide +kernel
theorem dX9_step_222 : decode cX9_step 222 = .ok (.aload_n 0, 1) := by decide +kernel
theorem dX9_step_223 : decode cX9_step 223 = .ok (.getfield 78, 3) := by decide +kernel
theorem dX9_step_226 : decode cX9_step 226 = .ok (.aload_n 0, 1) := by decide +kernel
theorem dX9_step_227 : decode cX9_step 227 = .ok (.getfield 69, 3) := by decide +kernel
theorem dX9_step_230 : decode cX9_step 230 = .ok (.isub, 1) := by decide +kernel
theorem dX9_step_231 : decode cX9_step 231 = .ok (.iconst 2, 1) := by decide +kernel
theorem dX9_step_232 : decode cX9_step 232 = .ok (.if_icmp .le 37, 3) := by decide +kernel
theorem dX9_step_235 : decode cX9_step 235 = .ok (.aload_n 0, 1) := by decide +kernel
theorem dX9_step_236 : decode cX9_step 236 = .ok (.iconst 1, 1) := by decide +kernel
theorem dX9_step_237 : decode cX9_step 237 = .ok (.invokevirtual 96, 3) := by decide +kernel
theorem dX9_step_240 : decode cX9_step 240 = .ok (.goto 29, 3) := by decide +kernel
theorem dX9_step_243 : decode cX9_step 243 = .ok (.aload_n 0, 1) := by decide +kernel
theorem dX9_step_244 : decode cX9_step 244 = .ok (.iconst 3, 1) := by decide +kernel
theorem dX9_step_245 : decode cX9_step 245 = .ok (.putfield 75, 3) := by decide +kernel
theorem dX9_step_248 : decode cX9_step 248 = .ok (.aload_n 0, 1) := by decide +kernel
theorem dX9_step_249 : decode cX9_step 249 = .ok (.dup, 1) := by decide +kernel
theorem dX9_step_250 : decode cX9_step 250 = .ok (.getfield 78, 3) := by decide +kernel
theorem dX9_step_253 : decode cX9_step 253 = .ok (.iconst 1, 1) := by decide +kernel
theorem dX9_step_254 : decode cX9_step 254 = .ok (.iadd, 1) := by decide +kernel
theorem dX9_step_255 : decode cX9_step 255 = .ok (.putfield 78, 3) := by decide +kernel
theorem dX9_step_258 : decode cX9_step 258 = .ok (.iload_n 1, 1) := by decide +kernel
theorem dX9_step_259 : decode cX9_step 259 = .ok (.bipush 59, 2) := by decide +kernel
theorem dX9_step_261 : decode cX9_step 261 = .ok (.if_icmp .eq 8, 3) := by decide +kernel
theorem dX9_step_264 : decode cX9_step 264 = .ok (.aload_n 0, 1) := by decide +kernel
theorem dX9_step_265 : decode cX9_step 265 = .ok (.iconst 1, 1) := by decide +kernel
theorem dX9_step_266 : decode cX9_step 266 = .ok (.invokevirtual 96, 3) := by decide +kernel
theorem dX9_step_269 : decode cX9_step 269 = .ok (.return_, 1) := by decide +kernel
theorem dX9_other_0 : decode cX9_other 0 = .ok (.aload_n 0, 1) := by decide +kernel
theorem dX9_other_1 : decode cX9_other 1 = .ok (.getfield 66, 3) := by decide +kernel
theorem dX9_other_4 : decode cX9_other 4 = .ok (.ifCond .ne 16, 3) := by decide +kernel
theorem dX9_other_7 : decode cX9_other 7 = .ok (.aload_n 0, 1) := by decide +kernel
theorem dX9_other_8 : decode cX9_other 8 = .ok (.getfield 75, 3) := by decide +kernel
theorem dX9_other_11 : decode cX9_other 11 = .ok (.iconst 2, 1) := by decide +kernel
theorem dX9_other_12 : decode cX9_other 12 = .ok (.if_icmp .eq 8, 3) := by decide +kernel
theorem dX9_other_15 : decode cX9_other 15 = .ok (.aload_n 0, 1) := by decide +kernel
theorem dX9_other_16 : decode cX9_other 16 = .ok (.iconst 2, 1) := by decide +kernel
theorem dX9_other_17 : decode cX9_other 17 = .ok (.invokevirtual 96, 3) := by decide +kernel
theorem dX9_other_20 : decode cX9_other 20 = .ok (.aload_n 0, 1) := by decide +kernel
theorem dX9_other_21 : decode cX9_other 21 = .ok (.getfield 66, 3) := by decide +kernel
theorem dX9_other_24 : decode cX9_other 24 = .ok (.ifCond .ne 23, 3) := by decide +kernel
theorem dX9_other_27 : decode cX9_other 27 = .ok (.aload_n 0, 1) := by decide +kernel
theorem dX9_other_28 : decode cX9_other 28 = .ok (.getfield 85, 3) := by decide +kernel
theorem dX9_other_31 : decode cX9_other 31 = .ok (.i2l, 1) := by decide +kernel
theorem dX9_other_32 : decode cX9_other 32 = .ok (.iload_n 1, 1) := by decide +kernel
theorem dX9_other_33 : decode cX9_other 33 = .ok (.i2l, 1) := by decide +kernel
theorem dX9_other_34 : decode cX9_other 34 = .ok (.iload_n 2, 1) := by decide +kernel
theorem dX9_other_35 : decode cX9_other 35 = .ok (.i2l, 1) := by decide +kernel
theorem dX9_other_36 : decode cX9_other 36 = .ok (.invokestatic 58, 3) := by decide +kernel
theorem dX9_other_39 : decode cX9_other 39 = .ok (.ifCond .ne 8, 3) := by decide +kernel
theorem dX9_other_42 : decode cX9_other 42 = .ok (.aload_n 0, 1) := by decide +kernel
theorem dX9_other_43 : decode cX9_other 43 = .ok (.iconst 3, 1) := by decide +kernel
theorem dX9_other_44 : decode cX9_other 44 = .ok (.invokevirtual 96, 3) := by decide +kernel
theorem dX9_other_47 : decode cX9_other 47 = .ok (.aload_n 0, 1) := by decide +kernel
theorem dX9_other_48 : decode cX9_other 48 = .ok (.getfield 66, 3) := by decide +kernel
theorem dX9_other_51 : decode cX9_other 51 = .ok (.ifCond .ne 24, 3) := by decide +kernel
theorem dX9_other_54 : decode cX9_other 54 = .ok (.iload_n 3, 1) := by decide +kernel
theorem dX9_other_55 : decode cX9_other 55 = .ok (.ifCond .eq 20, 3) := by decide +kernel
theorem dX9_other_58 : decode cX9_other 58 = .ok (.iload_n 3, 1) := by decide +kernel
theorem dX9_other_59 : decode cX9_other 59 = .ok (.aload_n 0, 1) := by decide +kernel
theorem dX9_other_60 : decode cX9_other 60 = .ok (.getfield 85, 3) := by decide +kernel
theorem dX9_other_63 : decode cX9_other 63 = .ok (.ishr, 1) := by decide +kernel
theorem dX9_other_64 : decode cX9_other 64 = .ok (.iconst 1, 1) := by decide +kernel
theorem dX9_other_65 : decode cX9_other 65 = .ok (.iand, 1) := by decide +kernel
theorem dX9_other_66 : decode cX9_other 66 = .ok (.iconst 1, 1) := by decide +kernel
theorem dX9_other_67 : decode cX9_other 67 = .ok (.if_icmp .ne 8, 3) := by decide +kernel
theorem dX9_other_70 : decode cX9_other 70 = .ok (.aload_n 0, 1) := by decide +kernel
theorem dX9_other_71 : decode cX9_other 71 = .ok (.iconst 4, 1) := by decide +kernel
theorem dX9_other_72 : decode cX9_other 72 = .ok (.invokevirtual 96, 3) := by decide +kernel
theorem dX9_other_75 : decode cX9_other 75 = .ok (.aload_n 0, 1) := by decide +kernel
theorem dX9_other_76 : decode cX9_other 76 = .ok (.getfield 66, 3) := by decide +kernel
theorem dX9_other_79 : decode cX9_other 79 = .ok (.ifCond .ne 10, 3) := by decide +kernel
theorem dX9_other_82 : decode cX9_other 82 = .ok (.aload_n 0, 1) := by decide +kernel
theorem dX9_other_83 : decode cX9_other 83 = .ok (.getfield 85, 3) := by decide +kernel
theorem dX9_other_86 : decode cX9_other 86 = .ok (.goto 4, 3) := by decide +kernel
theorem dX9_other_89 : decode cX9_other 89 = .ok (.iload_n 1, 1) := by decide +kernel
theorem dX9_other_90 : decode cX9_other 90 = .ok (.istore 4, 2) := by decide +kernel
theorem dX9_other_92 : decode cX9_other 92 = .ok (.aload_n 0, 1) := by decide +kernel
theorem dX9_other_93 : decode cX9_other 93 = .ok (.invokevirtual 100, 3) := by decide +kernel
theorem dX9_other_96 : decode cX9_other 96 = .ok (.iload 4, 2) := by decide +kernel
theorem dX9_other_98 : decode cX9_other 98 = .ok (.ireturn, 1) := by decide +kernel
theorem dX9_oneHere_0 : decode cX9_oneHere 0 = .ok (.aload_n 0, 1) := by decide +kernel
theorem dX9_oneHere_1 : decode cX9_oneHere 1 = .ok (.iconst 0, 1) := by decide +kernel
theorem dX9_oneHere_2 : decode cX9_oneHere 2 = .ok (.iconst 4, 1) := by decide +kernel
theorem dX9_oneHere_3 : decode cX9_oneHere 3 = .ok (.iconst 0, 1) := by decide +kernel
theorem dX9_oneHere_4 : decode cX9_oneHere 4 = .ok (.invokevirtual 103, 3) := by decide +kernel
theorem dX9_oneHere_7 : decode cX9_oneHere 7 = .ok (.istore_n 1, 1) := by decide +kernel
theorem dX9_oneHere_8 : decode cX9_oneHere 8 = .ok (.aload_n 0, 1) := by decide +kernel
theorem dX9_oneHere_9 : decode cX9_oneHere 9 = .ok (.iload_n 1, 1) := by decide +kernel
theorem dX9_oneHere_10 : decode cX9_oneHere 10 = .ok (.aload_n 0, 1) := by decide +kernel
theorem dX9_oneHere_11 : decode cX9_oneHere 11 = .ok (.getfield 107, 3) := by decide +kernel
theorem dX9_oneHere_14 : decode cX9_oneHere 14 = .ok (.if_icmp .le 7, 3) := by decide +kernel
theorem dX9_oneHere_17 : decode cX9_oneHere 17 = .ok (.iload_n 1, 1) := by decide +kernel
theorem dX9_oneHere_18 : decode cX9_oneHere 18 = .ok (.goto 7, 3) := by decide +kernel
theorem dX9_oneHere_21 : decode cX9_oneHere 21 = .ok (.aload_n 0, 1) := by decide +kernel
theorem dX9_oneHere_22 : decode cX9_oneHere 22 = .ok (.getfield 107, 3) := by decide +kernel
theorem dX9_oneHere_25 : decode cX9_oneHere 25 = .ok (.putfield 107, 3) := by decide +kernel
theorem dX9_oneHere_28 : decode cX9_oneHere 28 = .ok (.iload_n 1, 1) := by decide +kernel
theorem dX9_oneHere_29 : decode cX9_oneHere 29 = .ok (.ireturn, 1) := by decide +kernel
theorem dX9_readRota_0 : decode cX9_readRota 0 = .ok (.aload_n 0, 1) := by decide +kernel
theorem dX9_readRota_1 : decode cX9_readRota 1 = .ok (.getfield 66, 3) := by decide +kernel
theorem dX9_readRota_4 : decode cX9_readRota 4 = .ok (.ifCond .ne 98, 3) := by decide +kernel
theorem dX9_readRota_7 : decode cX9_readRota 7 = .ok (.aload_n 0, 1) := by decide +kernel
theorem dX9_readRota_8 : decode cX9_readRota 8 = .ok (.getfield 75, 3) := by decide +kernel
theorem dX9_readRota_11 : decode cX9_readRota 11 = .ok (.iconst 2, 1) := by decide +kernel
theorem dX9_readRota_12 : decode cX9_readRota 12 = .ok (.if_icmp .ne 90, 3) := by decide +kernel
theorem dX9_readRota_15 : decode cX9_readRota 15 = .ok (.aload_n 0, 1) := by decide +kernel
theorem dX9_readRota_16 : decode cX9_readRota 16 = .ok (.getfield 110, 3) := by decide +kernel
theorem dX9_readRota_19 : decode cX9_readRota 19 = .ok (.bipush 10, 2) := by decide +kernel
theorem dX9_readRota_21 : decode cX9_readRota 21 = .ok (.if_icmp .ne 11, 3) := by decide +kernel
theorem dX9_readRota_24 : decode cX9_readRota 24 = .ok (.aload_n 0, 1) := by decide +kernel
theorem dX9_readRota_25 : decode cX9_readRota 25 = .ok (.iconst 5, 1) := by decide +kernel
theorem dX9_readRota_26 : decode cX9_readRota 26 = .ok (.invokevirtual 96, 3) := by decide +kernel
theorem dX9_readRota_29 : decode cX9_readRota 29 = .ok (.goto (-29), 3) := by decide +kernel
theorem dX9_readRota_32 : decode cX9_readRota 32 = .ok (.aload_n 0, 1) := by decide +kernel
theorem dX9_readRota_33 : decode cX9_readRota 33 = .ok (.iconst 0, 1) := by decide +kernel
theorem dX9_readRota_34 : decode cX9_readRota 34 = .ok (.iconst 5, 1) := by decide +kernel
theorem dX9_readRota_35 : decode cX9_readRota 35 = .ok (.iconst 0, 1) := by decide +kernel
theorem dX9_readRota_36 : decode cX9_readRota 36 = .ok (.invokevirtual 103, 3) := by decide +kernel
theorem dX9_readRota_39 : decode cX9_readRota 39 = .ok (.istore_n 1, 1) := by decide +kernel
theorem dX9_readRota_40 : decode cX9_readRota 40 = .ok (.aload_n 0, 1) := by decide +kernel
theorem dX9_readRota_41 : decode cX9_readRota 41 = .ok (.iload_n 1, 1) := by decide +kernel
theorem dX9_readRota_42 : decode cX9_readRota 42 = .ok (.iconst 5, 1) := by decide +kernel
theorem dX9_readRota_43 : decode cX9_readRota 43 = .ok (.if_icmp .ge 15, 3) := by decide +kernel
theorem dX9_readRota_46 : decode cX9_readRota 46 = .ok (.iload_n 1, 1) := by decide +kernel
theorem dX9_readRota_47 : decode cX9_readRota 47 = .ok (.aload_n 0, 1) := by decide +kernel
theorem dX9_readRota_48 : decode cX9_readRota 48 = .ok (.getfield 107, 3) := by decide +kernel
theorem dX9_readRota_51 : decode cX9_readRota 51 = .ok (.if_icmp .le 7, 3) := by decide +kernel
theorem dX9_readRota_54 : decode cX9_readRota 54 = .ok (.iload_n 1, 1) := by decide +kernel
theorem dX9_readRota_55 : decode cX9_readRota 55 = .ok (.goto 7, 3) := by decide +kernel
theorem dX9_readRota_58 : decode cX9_readRota 58 = .ok (.aload_n 0, 1) := by decide +kernel
theorem dX9_readRota_59 : decode cX9_readRota 59 = .ok (.getfield 107, 3) := by decide +kernel
theorem dX9_readRota_62 : decode cX9_readRota 62 = .ok (.putfield 107, 3) := by decide +kernel
theorem dX9_readRota_65 : decode cX9_readRota 65 = .ok (.aload_n 0, 1) := by decide +kernel
theorem dX9_readRota_66 : decode cX9_readRota 66 = .ok (.getfield 16, 3) := by decide +kernel
theorem dX9_readRota_69 : decode cX9_readRota 69 = .ok (.bipush 26, 2) := by decide +kernel
theorem dX9_readRota_71 : decode cX9_readRota 71 = .ok (.aload_n 0, 1) := by decide +kernel
theorem dX9_readRota_72 : decode cX9_readRota 72 = .ok (.getfield 110, 3) := by decide +kernel
theorem dX9_readRota_75 : decode cX9_readRota 75 = .ok (.iadd, 1) := by decide +kernel
theorem dX9_readRota_76 : decode cX9_readRota 76 = .ok (.iload_n 1, 1) := by decide +kernel
theorem dX9_readRota_77 : decode cX9_readRota 77 = .ok (.iconst 5, 1) := by decide +kernel
theorem dX9_readRota_78 : decode cX9_readRota 78 = .ok (.if_icmp .ge 9, 3) := by decide +kernel
theorem dX9_readRota_81 : decode cX9_readRota 81 = .ok (.iload_n 1, 1) := by decide +kernel
theorem dX9_readRota_82 : decode cX9_readRota 82 = .ok (.iconst 1, 1) := by decide +kernel
theorem dX9_readRota_83 : decode cX9_readRota 83 = .ok (.iadd, 1) := by decide +kernel
theorem dX9_readRota_84 : decode cX9_readRota 84 = .ok (.goto 4, 3) := by decide +kernel
theorem dX9_readRota_87 : decode cX9_readRota 87 = .ok (.iconst 0, 1) := by decide +kernel
theorem dX9_readRota_88 : decode cX9_readRota 88 = .ok (.iastore, 1) := by decide +kernel
theorem dX9_readRota_89 : decode cX9_readRota 89 = .ok (.aload_n 0, 1) := by decide +kernel
theorem dX9_readRota_90 : decode cX9_readRota 90 = .ok (.dup, 1) := by decide +kernel
theorem dX9_readRota_91 : decode cX9_readRota 91 = .ok (.getfield 110, 3) := by decide +kernel
theorem dX9_readRota_94 : decode cX9_readRota 94 = .ok (.iconst 1, 1) := by decide +kernel
theorem dX9_readRota_95 : decode cX9_readRota 95 = .ok (.iadd, 1) := by decide +kernel
theorem dX9_readRota_96 : decode cX9_readRota 96 = .ok (.putfield 110, 3) := by decide +kernel
theorem dX9_readRota_99 : decode cX9_readRota 99 = .ok (.goto (-99), 3) := by decide +kernel
theorem dX9_readRota_102 : decode cX9_readRota 102 = .ok (.return_, 1) := by decide +kernel
theorem dX9_readTell_0 : decode cX9_readTell 0 = .ok (.bipush 57, 2) := by decide +kernel
theorem dX9_readTell_2 : decode cX9_readTell 2 = .ok (.iconst 4, 1) := by decide +kernel
theorem dX9_readTell_3 : decode cX9_readTell 3 = .ok (.aload_n 0, 1) := by decide +kernel
theorem dX9_readTell_4 : decode cX9_readTell 4 = .ok (.getfield 16, 3) := by decide +kernel
theorem dX9_readTell_7 : decode cX9_readTell 7 = .ok (.bipush 73, 2) := by decide +kernel
theorem dX9_readTell_9 : decode cX9_readTell 9 = .ok (.iaload, 1) := by decide +kernel
theorem dX9_readTell_10 : decode cX9_readTell 10 = .ok (.imul, 1) := by decide +kernel
theorem dX9_readTell_11 : decode cX9_readTell 11 = .ok (.iadd, 1) := by decide +kernel
theorem dX9_readTell_12 : decode cX9_readTell 12 = .ok (.istore_n 1, 1) := by decide +kernel
theorem dX9_readTell_13 : decode cX9_readTell 13 = .ok (.aload_n 0, 1) := by decide +kernel
theorem dX9_readTell_14 : decode cX9_readTell 14 = .ok (.getfield 16, 3) := by decide +kernel
theorem dX9_readTell_17 : decode cX9_readTell 17 = .ok (.iload_n 1, 1) := by decide +kernel
theorem dX9_readTell_18 : decode cX9_readTell 18 = .ok (.aload_n 0, 1) := by decide +kernel
theorem dX9_readTell_19 : decode cX9_readTell 19 = .ok (.iconst 0, 1) := by decide +kernel
theorem dX9_readTell_20 : decode cX9_readTell 20 = .ok (.bipush 9, 2) := by decide +kernel
theorem dX9_readTell_22 : decode cX9_readTell 22 = .ok (.iconst 0, 1) := by decide +kernel
theorem dX9_readTell_23 : decode cX9_readTell 23 = .ok (.invokevirtual 103, 3) := by decide +kernel
theorem dX9_readTell_26 : decode cX9_readTell 26 = .ok (.iastore, 1) := by decide +kernel
theorem dX9_readTell_27 : decode cX9_readTell 27 = .ok (.aload_n 0, 1) := by decide +kernel
theorem dX9_readTell_28 : decode cX9_readTell 28 = .ok (.getfield 16, 3) := by decide +kernel
theorem dX9_readTell_31 : decode cX9_readTell 31 = .ok (.iload_n 1, 1) := by decide +kernel
theorem dX9_readTell_32 : decode cX9_readTell 32 = .ok (.iconst 1, 1) := by decide +kernel
theorem dX9_readTell_33 : decode cX9_readTell 33 = .ok (.iadd, 1) := by decide +kernel
theorem dX9_readTell_34 : decode cX9_readTell 34 = .ok (.aload_n 0, 1) := by decide +kernel
theorem dX9_readTell_35 : decode cX9_readTell 35 = .ok (.invokevirtual 113, 3) := by decide +kernel
theorem dX9_readTell_38 : decode cX9_readTell 38 = .ok (.iastore, 1) := by decide +kernel
theorem dX9_readTell_39 : decode cX9_readTell 39 = .ok (.aload_n 0, 1) := by decide +kernel
theorem dX9_readTell_40 : decode cX9_readTell 40 = .ok (.getfield 66, 3) := by decide +kernel
theorem dX9_readTell_43 : decode cX9_readTell 43 = .ok (.ifCond .ne 31, 3) := by decide +kernel
theorem dX9_readTell_46 : decode cX9_readTell 46 = .ok (.aload_n 0, 1) := by decide +kernel
theorem dX9_readTell_47 : decode cX9_readTell 47 = .ok (.getfield 75, 3) := by decide +kernel
theorem dX9_readTell_50 : decode cX9_readTell 50 = .ok (.iconst 2, 1) := by decide +kernel
theorem dX9_readTell_51 : decode cX9_readTell 51 = .ok (.if_icmp .ne 23, 3) := by decide +kernel
theorem dX9_readTell_54 : decode cX9_readTell 54 = .ok (.aload_n 0, 1) := by decide +kernel
theorem dX9_readTell_55 : decode cX9_readTell 55 = .ok (.getfield 85, 3) := by decide +kernel
theorem dX9_readTell_58 : decode cX9_readTell 58 = .ok (.aload_n 0, 1) := by decide +kernel
theorem dX9_readTell_59 : decode cX9_readTell 59 = .ok (.getfield 16, 3) := by decide +kernel
theorem dX9_readTell_62 : decode cX9_readTell 62 = .ok (.iload_n 1, 1) := by decide +kernel
theorem dX9_readTell_63 : decode cX9_readTell 63 = .ok (.iconst 1, 1) := by decide +kernel
theorem dX9_readTell_64 : decode cX9_readTell 64 = .ok (.iadd, 1) := by decide +kernel
theorem dX9_readTell_65 : decode cX9_readTell 65 = .ok (.iaload, 1) := by decide +kernel
theorem dX9_readTell_66 : decode cX9_readTell 66 = .ok (.if_icmp .ne 8, 3) := by decide +kernel
theorem dX9_readTell_69 : decode cX9_readTell 69 = .ok (.aload_n 0, 1) := by decide +kernel
theorem dX9_readTell_70 : decode cX9_readTell 70 = .ok (.iconst 3, 1) := by decide +kernel
theorem dX9_readTell_71 : decode cX9_readTell 71 = .ok (.invokevirtual 96, 3) := by decide +kernel
theorem dX9_readTell_74 : decode cX9_readTell 74 = .ok (.aload_n 0, 1) := by decide +kernel
theorem dX9_readTell_75 : decode cX9_readTell 75 = .ok (.getfield 16, 3) := by decide +kernel
theorem dX9_readTell_78 : decode cX9_readTell 78 = .ok (.iload_n 1, 1) := by decide +kernel
theorem dX9_readTell_79 : decode cX9_readTell 79 = .ok (.iconst 2, 1) := by decide +kernel
theorem dX9_readTell_80 : decode cX9_readTell 80 = .ok (.iadd, 1) := by decide +kernel
theorem dX9_readTell_81 : decode cX9_readTell 81 = .ok (.aload_n 0, 1) := by decide +kernel
theorem dX9_readTell_82 : decode cX9_readTell 82 = .ok (.invokevirtual 113, 3) := by decide +kernel
theorem dX9_readTell_85 : decode cX9_readTell 85 = .ok (.iastore, 1) := by decide +kernel
theorem dX9_readTell_86 : decode cX9_readTell 86 = .ok (.aload_n 0, 1) := by decide +kernel
theorem dX9_readTell_87 : decode cX9_readTell 87 = .ok (.getfield 16, 3) := by decide +kernel
theorem dX9_readTell_90 : decode cX9_readTell 90 = .ok (.iload_n 1, 1) := by decide +kernel
theorem dX9_readTell_91 : decode cX9_readTell 91 = .ok (.iconst 3, 1) := by decide +kernel
theorem dX9_readTell_92 : decode cX9_readTell 92 = .ok (.iadd, 1) := by decide +kernel
theorem dX9_readTell_93 : decode cX9_readTell 93 = .ok (.aload_n 0, 1) := by decide +kernel
theorem dX9_readTell_94 : decode cX9_readTell 94 = .ok (.iconst 0, 1) := by decide +kernel
theorem dX9_readTell_95 : decode cX9_readTell 95 = .ok (.iconst 2, 1) := by decide +kernel
theorem dX9_readTell_96 : decode cX9_readTell 96 = .ok (.iconst 0, 1) := by decide +kernel
theorem dX9_readTell_97 : decode cX9_readTell 97 = .ok (.invokevirtual 103, 3) := by decide +kernel
theorem dX9_readTell_100 : decode cX9_readTell 100 = .ok (.iastore, 1) := by decide +kernel
theorem dX9_readTell_101 : decode cX9_readTell 101 = .ok (.aload_n 0, 1) := by decide +kernel
theorem dX9_readTell_102 : decode cX9_readTell 102 = .ok (.getfield 16, 3) := by decide +kernel
theorem dX9_readTell_105 : decode cX9_readTell 105 = .ok (.bipush 73, 2) := by decide +kernel
theorem dX9_readTell_107 : decode cX9_readTell 107 = .ok (.dup2, 1) := by decide +kernel
theorem dX9_readTell_108 : decode cX9_readTell 108 = .ok (.iaload, 1) := by decide +kernel
theorem dX9_readTell_109 : decode cX9_readTell 109 = .ok (.iconst 1, 1) := by decide +kernel
theorem dX9_readTell_110 : decode cX9_readTell 110 = .ok (.iadd, 1) := by decide +kernel
theorem dX9_readTell_111 : decode cX9_readTell 111 = .ok (.iastore, 1) := by decide +kernel
theorem dX9_readTell_112 : decode cX9_readTell 112 = .ok (.return_, 1) := by decide +kernel
theorem dX9_readWork_0 : decode cX9_readWork 0 = .ok (.bipush 36, 2) := by decide +kernel
theorem dX9_readWork_2 : decode cX9_readWork 2 = .ok (.iconst 4, 1) := by decide +kernel
theorem dX9_readWork_3 : decode cX9_readWork 3 = .ok (.aload_n 0, 1) := by decide +kernel
theorem dX9_readWork_4 : decode cX9_readWork 4 = .ok (.getfield 16, 3) := by decide +kernel
theorem dX9_readWork_7 : decode cX9_readWork 7 = .ok (.bipush 56, 2) := by decide +kernel
theorem dX9_readWork_9 : decode cX9_readWork 9 = .ok (.iaload, 1) := by decide +kernel
theorem dX9_readWork_10 : decode cX9_readWork 10 = .ok (.imul, 1) := by decide +kernel
theorem dX9_readWork_11 : decode cX9_readWork 11 = .ok (.iadd, 1) := by decide +kernel
theorem dX9_readWork_12 : decode cX9_readWork 12 = .ok (.istore_n 1, 1) := by decide +kernel
theorem dX9_readWork_13 : decode cX9_readWork 13 = .ok (.aload_n 0, 1) := by decide +kernel
theorem dX9_readWork_14 : decode cX9_readWork 14 = .ok (.getfield 16, 3) := by decide +kernel
theorem dX9_readWork_17 : decode cX9_readWork 17 = .ok (.iload_n 1, 1) := by decide +kernel
theorem dX9_readWork_18 : decode cX9_readWork 18 = .ok (.aload_n 0, 1) := by decide +kernel
theorem dX9_readWork_19 : decode cX9_readWork 19 = .ok (.invokevirtual 113, 3) := by decide +kernel
theorem dX9_readWork_22 : decode cX9_readWork 22 = .ok (.iastore, 1) := by decide +kernel
theorem dX9_readWork_23 : decode cX9_readWork 23 = .ok (.aload_n 0, 1) := by decide +kernel
theorem dX9_readWork_24 : decode cX9_readWork 24 = .ok (.getfield 16, 3) := by decide +kernel
theorem dX9_readWork_27 : decode cX9_readWork 27 = .ok (.iload_n 1, 1) := by decide +kernel
theorem dX9_readWork_28 : decode cX9_readWork 28 = .ok (.iconst 1, 1) := by decide +kernel
theorem dX9_readWork_29 : decode cX9_readWork 29 = .ok (.iadd, 1) := by decide +kernel
theorem dX9_readWork_30 : decode cX9_readWork 30 = .ok (.aload_n 0, 1) := by decide +kernel
theorem dX9_readWork_31 : decode cX9_readWork 31 = .ok (.iconst 0, 1) := by decide +kernel
theorem dX9_readWork_32 : decode cX9_readWork 32 = .ok (.bipush 9, 2) := by decide +kernel
theorem dX9_readWork_34 : decode cX9_readWork 34 = .ok (.iconst 0, 1) := by decide +kernel
theorem dX9_readWork_35 : decode cX9_readWork 35 = .ok (.invokevirtual 103, 3) := by decide +kernel
theorem dX9_readWork_38 : decode cX9_readWork 38 = .ok (.iastore, 1) := by decide +kernel
theorem dX9_readWork_39 : decode cX9_readWork 39 = .ok (.aload_n 0, 1) := by decide +kernel
theorem dX9_readWork_40 : decode cX9_readWork 40 = .ok (.getfield 16, 3) := by decide +kernel
theorem dX9_readWork_43 : decode cX9_readWork 43 = .ok (.iload_n 1, 1) := by decide +kernel
theorem dX9_readWork_44 : decode cX9_readWork 44 = .ok (.iconst 2, 1) := by decide +kernel
theorem dX9_readWork_45 : decode cX9_readWork 45 = .ok (.iadd, 1) := by decide +kernel
theorem dX9_readWork_46 : decode cX9_readWork 46 = .ok (.aload_n 0, 1) := by decide +kernel
theorem dX9_readWork_47 : decode cX9_readWork 47 = .ok (.aload_n 0, 1) := by decide +kernel
theorem dX9_readWork_48 : decode cX9_readWork 48 = .ok (.getfield 16, 3) := by decide +kernel
theorem dX9_readWork_51 : decode cX9_readWork 51 = .ok (.iload_n 1, 1) := by decide +kernel
theorem dX9_readWork_52 : decode cX9_readWork 52 = .ok (.iconst 1, 1) := by decide +kernel
theorem dX9_readWork_53 : decode cX9_readWork 53 = .ok (.iadd, 1) := by decide +kernel
theorem dX9_readWork_54 : decode cX9_readWork 54 = .ok (.iaload, 1) := by decide +kernel
theorem dX9_readWork_55 : decode cX9_readWork 55 = .ok (.bipush 9, 2) := by decide +kernel
theorem dX9_readWork_57 : decode cX9_readWork 57 = .ok (.iconst 0, 1) := by decide +kernel
theorem dX9_readWork_58 : decode cX9_readWork 58 = .ok (.invokevirtual 103, 3) := by decide +kernel
theorem dX9_readWork_61 : decode cX9_readWork 61 = .ok (.iastore, 1) := by decide +kernel
theorem dX9_readWork_62 : decode cX9_readWork 62 = .ok (.aload_n 0, 1) := by decide +kernel
theorem dX9_readWork_63 : decode cX9_readWork 63 = .ok (.getfield 16, 3) := by decide +kernel
theorem dX9_readWork_66 : decode cX9_readWork 66 = .ok (.iload_n 1, 1) := by decide +kernel
theorem dX9_readWork_67 : decode cX9_readWork 67 = .ok (.iconst 3, 1) := by decide +kernel
theorem dX9_readWork_68 : decode cX9_readWork 68 = .ok (.iadd, 1) := by decide +kernel
theorem dX9_readWork_69 : decode cX9_readWork 69 = .ok (.aload_n 0, 1) := by decide +kernel
theorem dX9_readWork_70 : decode cX9_readWork 70 = .ok (.iconst 1, 1) := by decide +kernel
theorem dX9_readWork_71 : decode cX9_readWork 71 = .ok (.bipush 9, 2) := by decide +kernel
theorem dX9_readWork_73 : decode cX9_readWork 73 = .ok (.iconst 0, 1) := by decide +kernel
theorem dX9_readWork_74 : decode cX9_readWork 74 = .ok (.invokevirtual 103, 3) := by decide +kernel
theorem dX9_readWork_77 : decode cX9_readWork 77 = .ok (.iastore, 1) := by decide +kernel
theorem dX9_readWork_78 : decode cX9_readWork 78 = .ok (.aload_n 0, 1) := by decide +kernel
theorem dX9_readWork_79 : decode cX9_readWork 79 = .ok (.getfield 16, 3) := by decide +kernel
theorem dX9_readWork_82 : decode cX9_readWork 82 = .ok (.bipush 56, 2) := by decide +kernel
theorem dX9_readWork_84 : decode cX9_readWork 84 = .ok (.dup2, 1) := by decide +kernel
theorem dX9_readWork_85 : decode cX9_readWork 85 = .ok (.iaload, 1) := by decide +kernel
theorem dX9_readWork_86 : decode cX9_readWork 86 = .ok (.iconst 1, 1) := by decide +kernel
theorem dX9_readWork_87 : decode cX9_readWork 87 = .ok (.iadd, 1) := by decide +kernel
theorem dX9_readWork_88 : decode cX9_readWork 88 = .ok (.iastore, 1) := by decide +kernel
theorem dX9_readWork_89 : decode cX9_readWork 89 = .ok (.return_, 1) := by decide +kernel
theorem dX9_readMore_0 : decode cX9_readMore 0 = .ok (.iload_n 1, 1) := by decide +kernel
theorem dX9_readMore_1 : decode cX9_readMore 1 = .ok (.iconst 3, 1) := by decide +kernel
theorem dX9_readMore_2 : decode cX9_readMore 2 = .ok (.if_icmp .gt 44, 3) := by decide +kernel
theorem dX9_readMore_5 : decode cX9_readMore 5 = .ok (.aload_n 0, 1) := by decide +kernel
theorem dX9_readMore_6 : decode cX9_readMore 6 = .ok (.getfield 16, 3) := by decide +kernel
theorem dX9_readMore_9 : decode cX9_readMore 9 = .ok (.aload_n 0, 1) := by decide +kernel
theorem dX9_readMore_10 : decode cX9_readMore 10 = .ok (.getfield 117, 3) := by decide +kernel
theorem dX9_readMore_13 : decode cX9_readMore 13 = .ok (.iload_n 1, 1) := by decide +kernel
theorem dX9_readMore_14 : decode cX9_readMore 14 = .ok (.iastore, 1) := by decide +kernel
theorem dX9_readMore_15 : decode cX9_readMore 15 = .ok (.aload_n 0, 1) := by decide +kernel
theorem dX9_readMore_16 : decode cX9_readMore 16 = .ok (.getfield 16, 3) := by decide +kernel
theorem dX9_readMore_19 : decode cX9_readMore 19 = .ok (.iconst 5, 1) := by decide +kernel
theorem dX9_readMore_20 : decode cX9_readMore 20 = .ok (.aload_n 0, 1) := by decide +kernel
theorem dX9_readMore_21 : decode cX9_readMore 21 = .ok (.getfield 117, 3) := by decide +kernel
theorem dX9_readMore_24 : decode cX9_readMore 24 = .ok (.iadd, 1) := by decide +kernel
theorem dX9_readMore_25 : decode cX9_readMore 25 = .ok (.aload_n 0, 1) := by decide +kernel
theorem dX9_readMore_26 : decode cX9_readMore 26 = .ok (.iconst 0, 1) := by decide +kernel
theorem dX9_readMore_27 : decode cX9_readMore 27 = .ok (.iconst 2, 1) := by decide +kernel
theorem dX9_readMore_28 : decode cX9_readMore 28 = .ok (.iconst 0, 1) := by decide +kernel
theorem dX9_readMore_29 : decode cX9_readMore 29 = .ok (.invokevirtual 103, 3) := by decide +kernel
theorem dX9_readMore_32 : decode cX9_readMore 32 = .ok (.iastore, 1) := by decide +kernel
theorem dX9_readMore_33 : decode cX9_readMore 33 = .ok (.aload_n 0, 1) := by decide +kernel
theorem dX9_readMore_34 : decode cX9_readMore 34 = .ok (.dup, 1) := by decide +kernel
theorem dX9_readMore_35 : decode cX9_readMore 35 = .ok (.getfield 117, 3) := by decide +kernel
theorem dX9_readMore_38 : decode cX9_readMore 38 = .ok (.iconst 1, 1) := by decide +kernel
theorem dX9_readMore_39 : decode cX9_readMore 39 = .ok (.iadd, 1) := by decide +kernel
theorem dX9_readMore_40 : decode cX9_readMore 40 = .ok (.putfield 117, 3) := by decide +kernel
theorem dX9_readMore_43 : decode cX9_readMore 43 = .ok (.goto 158, 3) := by decide +kernel
theorem dX9_readMore_46 : decode cX9_readMore 46 = .ok (.iload_n 1, 1) := by decide +kernel
theorem dX9_readMore_47 : decode cX9_readMore 47 = .ok (.iconst 4, 1) := by decide +kernel
theorem dX9_readMore_48 : decode cX9_readMore 48 = .ok (.if_icmp .ne 46, 3) := by decide +kernel
theorem dX9_readMore_51 : decode cX9_readMore 51 = .ok (.aload_n 0, 1) := by decide +kernel
theorem dX9_readMore_52 : decode cX9_readMore 52 = .ok (.iconst 0, 1) := by decide +kernel
theorem dX9_readMore_53 : decode cX9_readMore 53 = .ok (.iconst 2, 1) := by decide +kernel
theorem dX9_readMore_54 : decode cX9_readMore 54 = .ok (.aload_n 0, 1) := by decide +kernel
theorem dX9_readMore_55 : decode cX9_readMore 55 = .ok (.getfield 120, 3) := by decide +kernel
theorem dX9_readMore_58 : decode cX9_readMore 58 = .ok (.invokevirtual 103, 3) := by decide +kernel
theorem dX9_readMore_61 : decode cX9_readMore 61 = .ok (.istore_n 2, 1) := by decide +kernel
theorem dX9_readMore_62 : decode cX9_readMore 62 = .ok (.aload_n 0, 1) := by decide +kernel
theorem dX9_readMore_63 : decode cX9_readMore 63 = .ok (.dup, 1) := by decide +kernel
theorem dX9_readMore_64 : decode cX9_readMore 64 = .ok (.getfield 120, 3) := by decide +kernel
theorem dX9_readMore_67 : decode cX9_readMore 67 = .ok (.iconst 1, 1) := by decide +kernel
theorem dX9_readMore_68 : decode cX9_readMore 68 = .ok (.iload_n 2, 1) := by decide +kernel
theorem dX9_readMore_69 : decode cX9_readMore 69 = .ok (.ishl, 1) := by decide +kernel
theorem dX9_readMore_70 : decode cX9_readMore 70 = .ok (.ior, 1) := by decide +kernel
theorem dX9_readMore_71 : decode cX9_readMore 71 = .ok (.putfield 120, 3) := by decide +kernel
theorem dX9_readMore_74 : decode cX9_readMore 74 = .ok (.aload_n 0, 1) := by decide +kernel
theorem dX9_readMore_75 : decode cX9_readMore 75 = .ok (.getfield 16, 3) := by decide +kernel
theorem dX9_readMore_78 : decode cX9_readMore 78 = .ok (.bipush 10, 2) := by decide +kernel
theorem dX9_readMore_80 : decode cX9_readMore 80 = .ok (.iload_n 2, 1) := by decide +kernel
theorem dX9_readMore_81 : decode cX9_readMore 81 = .ok (.iadd, 1) := by decide +kernel
theorem dX9_readMore_82 : decode cX9_readMore 82 = .ok (.aload_n 0, 1) := by decide +kernel
theorem dX9_readMore_83 : decode cX9_readMore 83 = .ok (.iconst 0, 1) := by decide +kernel
theorem dX9_readMore_84 : decode cX9_readMore 84 = .ok (.bipush 9, 2) := by decide +kernel
theorem dX9_readMore_86 : decode cX9_readMore 86 = .ok (.iconst 0, 1) := by decide +kernel
theorem dX9_readMore_87 : decode cX9_readMore 87 = .ok (.invokevirtual 103, 3) := by decide +kernel
theorem dX9_readMore_90 : decode cX9_readMore 90 = .ok (.iastore, 1) := by decide +kernel
theorem dX9_readMore_91 : decode cX9_readMore 91 = .ok (.goto 110, 3) := by decide +kernel
theorem dX9_readMore_94 : decode cX9_readMore 94 = .ok (.iload_n 1, 1) := by decide +kernel
theorem dX9_readMore_95 : decode cX9_readMore 95 = .ok (.iconst 5, 1) := by decide +kernel
theorem dX9_readMore_96 : decode cX9_readMore 96 = .ok (.if_icmp .ne 75, 3) := by decide +kernel
theorem dX9_readMore_99 : decode cX9_readMore 99 = .ok (.bipush 13, 2) := by decide +kernel
theorem dX9_readMore_101 : decode cX9_readMore 101 = .ok (.iconst 3, 1) := by decide +kernel
theorem dX9_readMore_102 : decode cX9_readMore 102 = .ok (.aload_n 0, 1) := by decide +kernel
theorem dX9_readMore_103 : decode cX9_readMore 103 = .ok (.getfield 16, 3) := by decide +kernel
theorem dX9_readMore_106 : decode cX9_readMore 106 = .ok (.bipush 25, 2) := by decide +kernel
theorem dX9_readMore_108 : decode cX9_readMore 108 = .ok (.iaload, 1) := by decide +kernel
theorem dX9_readMore_109 : decode cX9_readMore 109 = .ok (.imul, 1) := by decide +kernel
theorem dX9_readMore_110 : decode cX9_readMore 110 = .ok (.iadd, 1) := by decide +kernel
theorem dX9_readMore_111 : decode cX9_readMore 111 = .ok (.istore_n 2, 1) := by decide +kernel
theorem dX9_readMore_112 : decode cX9_readMore 112 = .ok (.aload_n 0, 1) := by decide +kernel
theorem dX9_readMore_113 : decode cX9_readMore 113 = .ok (.getfield 16, 3) := by decide +kernel
theorem dX9_readMore_116 : decode cX9_readMore 116 = .ok (.iload_n 2, 1) := by decide +kernel
theorem dX9_readMore_117 : decode cX9_readMore 117 = .ok (.aload_n 0, 1) := by decide +kernel
theorem dX9_readMore_118 : decode cX9_readMore 118 = .ok (.iconst 0, 1) := by decide +kernel
theorem dX9_readMore_119 : decode cX9_readMore 119 = .ok (.bipush 9, 2) := by decide +kernel
theorem dX9_readMore_121 : decode cX9_readMore 121 = .ok (.iconst 0, 1) := by decide +kernel
theorem dX9_readMore_122 : decode cX9_readMore 122 = .ok (.invokevirtual 103, 3) := by decide +kernel
theorem dX9_readMore_125 : decode cX9_readMore 125 = .ok (.iastore, 1) := by decide +kernel
theorem dX9_readMore_126 : decode cX9_readMore 126 = .ok (.aload_n 0, 1) := by decide +kernel
theorem dX9_readMore_127 : decode cX9_readMore 127 = .ok (.getfield 16, 3) := by decide +kernel
theorem dX9_readMore_130 : decode cX9_readMore 130 = .ok (.iload_n 2, 1) := by decide +kernel
theorem dX9_readMore_131 : decode cX9_readMore 131 = .ok (.iconst 1, 1) := by decide +kernel
theorem dX9_readMore_132 : decode cX9_readMore 132 = .ok (.iadd, 1) := by decide +kernel
theorem dX9_readMore_133 : decode cX9_readMore 133 = .ok (.aload_n 0, 1) := by decide +kernel
theorem dX9_readMore_134 : decode cX9_readMore 134 = .ok (.iconst 0, 1) := by decide +kernel
theorem dX9_readMore_135 : decode cX9_readMore 135 = .ok (.iconst 2, 1) := by decide +kernel
theorem dX9_readMore_136 : decode cX9_readMore 136 = .ok (.iconst 0, 1) := by decide +kernel
theorem dX9_readMore_137 : decode cX9_readMore 137 = .ok (.invokevirtual 103, 3) := by decide +kernel
theorem dX9_readMore_140 : decode cX9_readMore 140 = .ok (.iastore, 1) := by decide +kernel
theorem dX9_readMore_141 : decode cX9_readMore 141 = .ok (.aload_n 0, 1) := by decide +kernel
theorem dX9_readMore_142 : decode cX9_readMore 142 = .ok (.getfield 16, 3) := by decide +kernel
theorem dX9_readMore_145 : decode cX9_readMore 145 = .ok (.iload_n 2, 1) := by decide +kernel
theorem dX9_readMore_146 : decode cX9_readMore 146 = .ok (.iconst 2, 1) := by decide +kernel
theorem dX9_readMore_147 : decode cX9_readMore 147 = .ok (.iadd, 1) := by decide +kernel
theorem dX9_readMore_148 : decode cX9_readMore 148 = .ok (.aload_n 0, 1) := by decide +kernel
theorem dX9_readMore_149 : decode cX9_readMore 149 = .ok (.iconst 0, 1) := by decide +kernel
theorem dX9_readMore_150 : decode cX9_readMore 150 = .ok (.bipush 9, 2) := by decide +kernel
theorem dX9_readMore_152 : decode cX9_readMore 152 = .ok (.iconst 0, 1) := by decide +kernel
theorem dX9_readMore_153 : decode cX9_readMore 153 = .ok (.invokevirtual 103, 3) := by decide +kernel
theorem dX9_readMore_156 : decode cX9_readMore 156 = .ok (.iastore, 1) := by decide +kernel
theorem dX9_readMore_157 : decode cX9_readMore 157 = .ok (.aload_n 0, 1) := by decide +kernel
theorem dX9_readMore_158 : decode cX9_readMore 158 = .ok (.getfield 16, 3) := by decide +kernel
theorem dX9_readMore_161 : decode cX9_readMore 161 = .ok (.bipush 25, 2) := by decide +kernel
theorem dX9_readMore_163 : decode cX9_readMore 163 = .ok (.dup2, 1) := by decide +kernel
theorem dX9_readMore_164 : decode cX9_readMore 164 = .ok (.iaload, 1) := by decide +kernel
theorem dX9_readMore_165 : decode cX9_readMore 165 = .ok (.iconst 1, 1) := by decide +kernel
theorem dX9_readMore_166 : decode cX9_readMore 166 = .ok (.iadd, 1) := by decide +kernel
theorem dX9_readMore_167 : decode cX9_readMore 167 = .ok (.iastore, 1) := by decide +kernel
theorem dX9_readMore_168 : decode cX9_readMore 168 = .ok (.goto 33, 3) := by decide +kernel
theorem dX9_readMore_171 : decode cX9_readMore 171 = .ok (.iload_n 1, 1) := by decide +kernel
theorem dX9_readMore_172 : decode cX9_readMore 172 = .ok (.bipush 6, 2) := by decide +kernel
theorem dX9_readMore_174 : decode cX9_readMore 174 = .ok (.if_icmp .ne 10, 3) := by decide +kernel
theorem dX9_readMore_177 : decode cX9_readMore 177 = .ok (.aload_n 0, 1) := by decide +kernel
theorem dX9_readMore_178 : decode cX9_readMore 178 = .ok (.invokevirtual 123, 3) := by decide +kernel
theorem dX9_readMore_181 : decode cX9_readMore 181 = .ok (.goto 20, 3) := by decide +kernel
theorem dX9_readMore_184 : decode cX9_readMore 184 = .ok (.iload_n 1, 1) := by decide +kernel
theorem dX9_readMore_185 : decode cX9_readMore 185 = .ok (.bipush 7, 2) := by decide +kernel
theorem dX9_readMore_187 : decode cX9_readMore 187 = .ok (.if_icmp .ne 10, 3) := by decide +kernel
theorem dX9_readMore_190 : decode cX9_readMore 190 = .ok (.aload_n 0, 1) := by decide +kernel
theorem dX9_readMore_191 : decode cX9_readMore 191 = .ok (.invokevirtual 126, 3) := by decide +kernel
theorem dX9_readMore_194 : decode cX9_readMore 194 = .ok (.goto 7, 3) := by decide +kernel
theorem dX9_readMore_197 : decode cX9_readMore 197 = .ok (.aload_n 0, 1) := by decide +kernel
theorem dX9_readMore_198 : decode cX9_readMore 198 = .ok (.invokevirtual 129, 3) := by decide +kernel
theorem dX9_readMore_201 : decode cX9_readMore 201 = .ok (.return_, 1) := by decide +kernel
theorem dX9_isFull_0 : decode cX9_isFull 0 = .ok (.iload_n 1, 1) := by decide +kernel
theorem dX9_isFull_1 : decode cX9_isFull 1 = .ok (.iconst 3, 1) := by decide +kernel
theorem dX9_isFull_2 : decode cX9_isFull 2 = .ok (.if_icmp .gt 11, 3) := by decide +kernel
theorem dX9_isFull_5 : decode cX9_isFull 5 = .ok (.aload_n 0, 1) := by decide +kernel
theorem dX9_isFull_6 : decode cX9_isFull 6 = .ok (.getfield 117, 3) := by decide +kernel
theorem dX9_isFull_9 : decode cX9_isFull 9 = .ok (.iconst 5, 1) := by decide +kernel
theorem dX9_isFull_10 : decode cX9_isFull 10 = .ok (.if_icmp .eq 53, 3) := by decide +kernel
theorem dX9_isFull_13 : decode cX9_isFull 13 = .ok (.iload_n 1, 1) := by decide +kernel
theorem dX9_isFull_14 : decode cX9_isFull 14 = .ok (.iconst 5, 1) := by decide +kernel
theorem dX9_isFull_15 : decode cX9_isFull 15 = .ok (.if_icmp .ne 14, 3) := by decide +kernel
theorem dX9_isFull_18 : decode cX9_isFull 18 = .ok (.aload_n 0, 1) := by decide +kernel
theorem dX9_isFull_19 : decode cX9_isFull 19 = .ok (.getfield 16, 3) := by decide +kernel
theorem dX9_isFull_22 : decode cX9_isFull 22 = .ok (.bipush 25, 2) := by decide +kernel
theorem dX9_isFull_24 : decode cX9_isFull 24 = .ok (.iaload, 1) := by decide +kernel
theorem dX9_isFull_25 : decode cX9_isFull 25 = .ok (.iconst 4, 1) := by decide +kernel
theorem dX9_isFull_26 : decode cX9_isFull 26 = .ok (.if_icmp .eq 37, 3) := by decide +kernel
theorem dX9_isFull_29 : decode cX9_isFull 29 = .ok (.iload_n 1, 1) := by decide +kernel
theorem dX9_isFull_30 : decode cX9_isFull 30 = .ok (.bipush 7, 2) := by decide +kernel
theorem dX9_isFull_32 : decode cX9_isFull 32 = .ok (.if_icmp .ne 14, 3) := by decide +kernel
theorem dX9_isFull_35 : decode cX9_isFull 35 = .ok (.aload_n 0, 1) := by decide +kernel
theorem dX9_isFull_36 : decode cX9_isFull 36 = .ok (.getfield 16, 3) := by decide +kernel
theorem dX9_isFull_39 : decode cX9_isFull 39 = .ok (.bipush 56, 2) := by decide +kernel
theorem dX9_isFull_41 : decode cX9_isFull 41 = .ok (.iaload, 1) := by decide +kernel
theorem dX9_isFull_42 : decode cX9_isFull 42 = .ok (.iconst 5, 1) := by decide +kernel
theorem dX9_isFull_43 : decode cX9_isFull 43 = .ok (.if_icmp .eq 20, 3) := by decide +kernel
theorem dX9_isFull_46 : decode cX9_isFull 46 = .ok (.iload_n 1, 1) := by decide +kernel
theorem dX9_isFull_47 : decode cX9_isFull 47 = .ok (.bipush 8, 2) := by decide +kernel
theorem dX9_isFull_49 : decode cX9_isFull 49 = .ok (.if_icmp .ne 18, 3) := by decide +kernel
theorem dX9_isFull_52 : decode cX9_isFull 52 = .ok (.aload_n 0, 1) := by decide +kernel
theorem dX9_isFull_53 : decode cX9_isFull 53 = .ok (.getfield 16, 3) := by decide +kernel
theorem dX9_isFull_56 : decode cX9_isFull 56 = .ok (.bipush 73, 2) := by decide +kernel
theorem dX9_isFull_58 : decode cX9_isFull 58 = .ok (.iaload, 1) := by decide +kernel
theorem dX9_isFull_59 : decode cX9_isFull 59 = .ok (.iconst 4, 1) := by decide +kernel
theorem dX9_isFull_60 : decode cX9_isFull 60 = .ok (.if_icmp .ne 7, 3) := by decide +kernel
theorem dX9_isFull_63 : decode cX9_isFull 63 = .ok (.iconst 1, 1) := by decide +kernel
theorem dX9_isFull_64 : decode cX9_isFull 64 = .ok (.goto 4, 3) := by decide +kernel
theorem dX9_isFull_67 : decode cX9_isFull 67 = .ok (.iconst 0, 1) := by decide +kernel
theorem dX9_isFull_68 : decode cX9_isFull 68 = .ok (.ireturn, 1) := by decide +kernel
theorem dX9_readLine_0 : decode cX9_readLine 0 = .ok (.aload_n 0, 1) := by decide +kernel
theorem dX9_readLine_1 : decode cX9_readLine 1 = .ok (.invokevirtual 132, 3) := by decide +kernel
theorem dX9_readLine_4 : decode cX9_readLine 4 = .ok (.istore_n 1, 1) := by decide +kernel
theorem dX9_readLine_5 : decode cX9_readLine 5 = .ok (.iload_n 1, 1) := by decide +kernel
theorem dX9_readLine_6 : decode cX9_readLine 6 = .ok (.i2l, 1) := by decide +kernel
theorem dX9_readLine_7 : decode cX9_readLine 7 = .ok (.lconst 0, 1) := by decide +kernel
theorem dX9_readLine_8 : decode cX9_readLine 8 = .ok (.ldc2_w 135, 3) := by decide +kernel
theorem dX9_readLine_11 : decode cX9_readLine 11 = .ok (.invokestatic 58, 3) := by decide +kernel
theorem dX9_readLine_14 : decode cX9_readLine 14 = .ok (.ifCond .ne 9, 3) := by decide +kernel
theorem dX9_readLine_17 : decode cX9_readLine 17 = .ok (.aload_n 0, 1) := by decide +kernel
theorem dX9_readLine_18 : decode cX9_readLine 18 = .ok (.iconst 2, 1) := by decide +kernel
theorem dX9_readLine_19 : decode cX9_readLine 19 = .ok (.invokevirtual 96, 3) := by decide +kernel
theorem dX9_readLine_22 : decode cX9_readLine 22 = .ok (.return_, 1) := by decide +kernel
theorem dX9_readLine_23 : decode cX9_readLine 23 = .ok (.aload_n 0, 1) := by decide +kernel
theorem dX9_readLine_24 : decode cX9_readLine 24 = .ok (.iload_n 1, 1) := by decide +kernel
theorem dX9_readLine_25 : decode cX9_readLine 25 = .ok (.invokevirtual 137, 3) := by decide +kernel
theorem dX9_readLine_28 : decode cX9_readLine 28 = .ok (.ifCond .eq 8, 3) := by decide +kernel
theorem dX9_readLine_31 : decode cX9_readLine 31 = .ok (.aload_n 0, 1) := by decide +kernel
theorem dX9_readLine_32 : decode cX9_readLine 32 = .ok (.iconst 5, 1) := by decide +kernel
theorem dX9_readLine_33 : decode cX9_readLine 33 = .ok (.invokevirtual 96, 3) := by decide +kernel
theorem dX9_readLine_36 : decode cX9_readLine 36 = .ok (.iload_n 1, 1) := by decide +kernel
theorem dX9_readLine_37 : decode cX9_readLine 37 = .ok (.bipush 6, 2) := by decide +kernel
theorem dX9_readLine_39 : decode cX9_readLine 39 = .ok (.if_icmp .ne 15, 3) := by decide +kernel
theorem dX9_readLine_42 : decode cX9_readLine 42 = .ok (.aload_n 0, 1) := by decide +kernel
theorem dX9_readLine_43 : decode cX9_readLine 43 = .ok (.getfield 141, 3) := by decide +kernel
theorem dX9_readLine_46 : decode cX9_readLine 46 = .ok (.ifCond .eq 8, 3) := by decide +kernel
theorem dX9_readLine_49 : decode cX9_readLine 49 = .ok (.aload_n 0, 1) := by decide +kernel
theorem dX9_readLine_50 : decode cX9_readLine 50 = .ok (.iconst 4, 1) := by decide +kernel
theorem dX9_readLine_51 : decode cX9_readLine 51 = .ok (.invokevirtual 96, 3) := by decide +kernel
theorem dX9_readLine_54 : decode cX9_readLine 54 = .ok (.aload_n 0, 1) := by decide +kernel
theorem dX9_readLine_55 : decode cX9_readLine 55 = .ok (.aload_n 0, 1) := by decide +kernel
theorem dX9_readLine_56 : decode cX9_readLine 56 = .ok (.getfield 141, 3) := by decide +kernel
theorem dX9_readLine_59 : decode cX9_readLine 59 = .ok (.ifCond .ne 9, 3) := by decide +kernel
theorem dX9_readLine_62 : decode cX9_readLine 62 = .ok (.iload_n 1, 1) := by decide +kernel
theorem dX9_readLine_63 : decode cX9_readLine 63 = .ok (.bipush 6, 2) := by decide +kernel
theorem dX9_readLine_65 : decode cX9_readLine 65 = .ok (.if_icmp .ne 7, 3) := by decide +kernel
theorem dX9_readLine_68 : decode cX9_readLine 68 = .ok (.iconst 1, 1) := by decide +kernel
theorem dX9_readLine_69 : decode cX9_readLine 69 = .ok (.goto 4, 3) := by decide +kernel
theorem dX9_readLine_72 : decode cX9_readLine 72 = .ok (.iconst 0, 1) := by decide +kernel
theorem dX9_readLine_73 : decode cX9_readLine 73 = .ok (.putfield 141, 3) := by decide +kernel
theorem dX9_readLine_76 : decode cX9_readLine 76 = .ok (.aload_n 0, 1) := by decide +kernel
theorem dX9_readLine_77 : decode cX9_readLine 77 = .ok (.invokevirtual 100, 3) := by decide +kernel
theorem dX9_readLine_80 : decode cX9_readLine 80 = .ok (.aload_n 0, 1) := by decide +kernel
theorem dX9_readLine_81 : decode cX9_readLine 81 = .ok (.getfield 66, 3) := by decide +kernel
theorem dX9_readLine_84 : decode cX9_readLine 84 = .ok (.ifCond .le 4, 3) := by decide +kernel
theorem dX9_readLine_87 : decode cX9_readLine 87 = .ok (.return_, 1) := by decide +kernel
theorem dX9_readLine_88 : decode cX9_readLine 88 = .ok (.aload_n 0, 1) := by decide +kernel
theorem dX9_readLine_89 : decode cX9_readLine 89 = .ok (.iload_n 1, 1) := by decide +kernel
theorem dX9_readLine_90 : decode cX9_readLine 90 = .ok (.invokevirtual 145, 3) := by decide +kernel
theorem dX9_readLine_93 : decode cX9_readLine 93 = .ok (.aload_n 0, 1) := by decide +kernel
theorem dX9_readLine_94 : decode cX9_readLine 94 = .ok (.getfield 66, 3) := by decide +kernel
theorem dX9_readLine_97 : decode cX9_readLine 97 = .ok (.ifCond .ne 16, 3) := by decide +kernel
theorem dX9_readLine_100 : decode cX9_readLine 100 = .ok (.aload_n 0, 1) := by decide +kernel
theorem dX9_readLine_101 : decode cX9_readLine 101 = .ok (.getfield 75, 3) := by decide +kernel
theorem dX9_readLine_104 : decode cX9_readLine 104 = .ok (.iconst 3, 1) := by decide +kernel
theorem dX9_readLine_105 : decode cX9_readLine 105 = .ok (.if_icmp .eq 8, 3) := by decide +kernel
theorem dX9_readLine_108 : decode cX9_readLine 108 = .ok (.aload_n 0, 1) := by decide +kernel
theorem dX9_readLine_109 : decode cX9_readLine 109 = .ok (.iconst 2, 1) := by decide +kernel
theorem dX9_readLine_110 : decode cX9_readLine 110 = .ok (.invokevirtual 96, 3) := by decide +kernel
theorem dX9_readLine_113 : decode cX9_readLine 113 = .ok (.aload_n 0, 1) := by decide +kernel
theorem dX9_readLine_114 : decode cX9_readLine 114 = .ok (.invokevirtual 100, 3) := by decide +kernel
theorem dX9_readLine_117 : decode cX9_readLine 117 = .ok (.return_, 1) := by decide +kernel
theorem dX9_text_0 : decode cX9_text 0 = .ok (.aload_n 0, 1) := by decide +kernel
theorem dX9_text_1 : decode cX9_text 1 = .ok (.iconst 0, 1) := by decide +kernel
theorem dX9_text_2 : decode cX9_text 2 = .ok (.putfield 66, 3) := by decide +kernel
theorem dX9_text_5 : decode cX9_text 5 = .ok (.aload_n 0, 1) := by decide +kernel
theorem dX9_text_6 : decode cX9_text 6 = .ok (.iconst 0, 1) := by decide +kernel
theorem dX9_text_7 : decode cX9_text 7 = .ok (.putfield 78, 3) := by decide +kernel
theorem dX9_text_10 : decode cX9_text 10 = .ok (.aload_n 0, 1) := by decide +kernel
theorem dX9_text_11 : decode cX9_text 11 = .ok (.iconst 0, 1) := by decide +kernel
theorem dX9_text_12 : decode cX9_text 12 = .ok (.putfield 117, 3) := by decide +kernel
theorem dX9_text_15 : decode cX9_text 15 = .ok (.aload_n 0, 1) := by decide +kernel
theorem dX9_text_16 : decode cX9_text 16 = .ok (.iconst 0, 1) := by decide +kernel
theorem dX9_text_17 : decode cX9_text 17 = .ok (.putfield 110, 3) := by decide +kernel
theorem dX9_text_20 : decode cX9_text 20 = .ok (.aload_n 0, 1) := by decide +kernel
theorem dX9_text_21 : decode cX9_text 21 = .ok (.iconst 0, 1) := by decide +kernel
theorem dX9_text_22 : decode cX9_text 22 = .ok (.putfield 141, 3) := by decide +kernel
theorem dX9_text_25 : decode cX9_text 25 = .ok (.aload_n 0, 1) := by decide +kernel
theorem dX9_text_26 : decode cX9_text 26 = .ok (.iconst 0, 1) := by decide +kernel
theorem dX9_text_27 : decode cX9_text 27 = .ok (.putfield 120, 3) := by decide +kernel
theorem dX9_text_30 : decode cX9_text 30 = .ok (.aload_n 0, 1) := by decide +kernel
theorem dX9_text_31 : decode cX9_text 31 = .ok (.iconst (-1), 1) := by decide +kernel
theorem dX9_text_32 : decode cX9_text 32 = .ok (.putfield 107, 3) := by decide +kernel
theorem dX9_text_35 : decode cX9_text 35 = .ok (.iconst 0, 1) := by decide +kernel
theorem dX9_text_36 : decode cX9_text 36 = .ok (.istore_n 1, 1) := by decide +kernel
theorem dX9_text_37 : decode cX9_text 37 = .ok (.iconst 0, 1) := by decide +kernel
theorem dX9_text_38 : decode cX9_text 38 = .ok (.istore_n 2, 1) := by decide +kernel
theorem dX9_text_39 : decode cX9_text 39 = .ok (.iload_n 2, 1) := by decide +kernel
theorem dX9_text_40 : decode cX9_text 40 = .ok (.bipush 74, 2) := by decide +kernel
theorem dX9_text_42 : decode cX9_text 42 = .ok (.if_icmp .ge 16, 3) := by decide +kernel
theorem dX9_text_45 : decode cX9_text 45 = .ok (.aload_n 0, 1) := by decide +kernel
theorem dX9_text_46 : decode cX9_text 46 = .ok (.getfield 16, 3) := by decide +kernel
theorem dX9_text_49 : decode cX9_text 49 = .ok (.iload_n 2, 1) := by decide +kernel
theorem dX9_text_50 : decode cX9_text 50 = .ok (.iconst 0, 1) := by decide +kernel
theorem dX9_text_51 : decode cX9_text 51 = .ok (.iastore, 1) := by decide +kernel
theorem dX9_text_52 : decode cX9_text 52 = .ok (.iinc 2 1, 3) := by decide +kernel
theorem dX9_text_55 : decode cX9_text 55 = .ok (.goto (-16), 3) := by decide +kernel
theorem dX9_text_58 : decode cX9_text 58 = .ok (.aload_n 0, 1) := by decide +kernel
theorem dX9_text_59 : decode cX9_text 59 = .ok (.invokevirtual 100, 3) := by decide +kernel
theorem dX9_text_62 : decode cX9_text 62 = .ok (.aload_n 0, 1) := by decide +kernel
theorem dX9_text_63 : decode cX9_text 63 = .ok (.getfield 66, 3) := by decide +kernel
theorem dX9_text_66 : decode cX9_text 66 = .ok (.ifCond .ne 20, 3) := by decide +kernel
theorem dX9_text_69 : decode cX9_text 69 = .ok (.aload_n 0, 1) := by decide +kernel
theorem dX9_text_70 : decode cX9_text 70 = .ok (.getfield 75, 3) := by decide +kernel
theorem dX9_text_73 : decode cX9_text 73 = .ok (.ifCond .eq 13, 3) := by decide +kernel
theorem dX9_text_76 : decode cX9_text 76 = .ok (.aload_n 0, 1) := by decide +kernel
theorem dX9_text_77 : decode cX9_text 77 = .ok (.invokevirtual 148, 3) := by decide +kernel
theorem dX9_text_80 : decode cX9_text 80 = .ok (.iinc 1 1, 3) := by decide +kernel
theorem dX9_text_83 : decode cX9_text 83 = .ok (.goto (-21), 3) := by decide +kernel
theorem dX9_text_86 : decode cX9_text 86 = .ok (.aload_n 0, 1) := by decide +kernel
theorem dX9_text_87 : decode cX9_text 87 = .ok (.getfield 66, 3) := by decide +kernel
theorem dX9_text_90 : decode cX9_text 90 = .ok (.ifCond .ne 20, 3) := by decide +kernel
theorem dX9_text_93 : decode cX9_text 93 = .ok (.aload_n 0, 1) := by decide +kernel
theorem dX9_text_94 : decode cX9_text 94 = .ok (.getfield 107, 3) := by decide +kernel
theorem dX9_text_97 : decode cX9_text 97 = .ok (.aload_n 0, 1) := by decide +kernel
theorem dX9_text_98 : decode cX9_text 98 = .ok (.getfield 117, 3) := by decide +kernel
theorem dX9_text_101 : decode cX9_text 101 = .ok (.if_icmp .lt 9, 3) := by decide +kernel
theorem dX9_text_104 : decode cX9_text 104 = .ok (.aload_n 0, 1) := by decide +kernel
theorem dX9_text_105 : decode cX9_text 105 = .ok (.bipush 6, 2) := by decide +kernel
theorem dX9_text_107 : decode cX9_text 107 = .ok (.invokevirtual 96, 3) := by decide +kernel
theorem dX9_text_110 : decode cX9_text 110 = .ok (.aload_n 0, 1) := by decide +kernel
theorem dX9_text_111 : decode cX9_text 111 = .ok (.iconst 0, 1) := by decide +kernel
theorem dX9_text_112 : decode cX9_text 112 = .ok (.putfield 62, 3) := by decide +kernel
theorem dX9_text_115 : decode cX9_text 115 = .ok (.aload_n 0, 1) := by decide +kernel
theorem dX9_text_116 : decode cX9_text 116 = .ok (.aload_n 0, 1) := by decide +kernel
theorem dX9_text_117 : decode cX9_text 117 = .ok (.getfield 66, 3) := by decide +kernel
theorem dX9_text_120 : decode cX9_text 120 = .ok (.putfield 151, 3) := by decide +kernel
theorem dX9_text_123 : decode cX9_text 123 = .ok (.aload_n 0, 1) := by decide +kernel
theorem dX9_text_124 : decode cX9_text 124 = .ok (.getfield 66, 3) := by decide +kernel
theorem dX9_text_127 : decode cX9_text 127 = .ok (.ifCond .le 11, 3) := by decide +kernel
theorem dX9_text_130 : decode cX9_text 130 = .ok (.bipush (-10), 2) := by decide +kernel
theorem dX9_text_132 : decode cX9_text 132 = .ok (.aload_n 0, 1) := by decide +kernel
theorem dX9_text_133 : decode cX9_text 133 = .ok (.getfield 72, 3) := by decide +kernel
theorem dX9_text_136 : decode cX9_text 136 = .ok (.isub, 1) := by decide +kernel
theorem dX9_text_137 : decode cX9_text 137 = .ok (.ireturn, 1) := by decide +kernel
theorem dX9_text_138 : decode cX9_text 138 = .ok (.iconst 0, 1) := by decide +kernel
theorem dX9_text_139 : decode cX9_text 139 = .ok (.istore_n 2, 1) := by decide +kernel
theorem dX9_text_140 : decode cX9_text 140 = .ok (.iload_n 2, 1) := by decide +kernel
theorem dX9_text_141 : decode cX9_text 141 = .ok (.bipush 74, 2) := by decide +kernel
theorem dX9_text_143 : decode cX9_text 143 = .ok (.if_icmp .ge 21, 3) := by decide +kernel
theorem dX9_text_146 : decode cX9_text 146 = .ok (.aload_n 0, 1) := by decide +kernel
theorem dX9_text_147 : decode cX9_text 147 = .ok (.getfield 7, 3) := by decide +kernel
theorem dX9_text_150 : decode cX9_text 150 = .ok (.iload_n 2, 1) := by decide +kernel
theorem dX9_text_151 : decode cX9_text 151 = .ok (.aload_n 0, 1) := by decide +kernel
theorem dX9_text_152 : decode cX9_text 152 = .ok (.getfield 16, 3) := by decide +kernel
theorem dX9_text_155 : decode cX9_text 155 = .ok (.iload_n 2, 1) := by decide +kernel
theorem dX9_text_156 : decode cX9_text 156 = .ok (.iaload, 1) := by decide +kernel
theorem dX9_text_157 : decode cX9_text 157 = .ok (.iastore, 1) := by decide +kernel
theorem dX9_text_158 : decode cX9_text 158 = .ok (.iinc 2 1, 3) := by decide +kernel
theorem dX9_text_161 : decode cX9_text 161 = .ok (.goto (-21), 3) := by decide +kernel
theorem dX9_text_164 : decode cX9_text 164 = .ok (.aload_n 0, 1) := by decide +kernel
theorem dX9_text_165 : decode cX9_text 165 = .ok (.aload_n 0, 1) := by decide +kernel
theorem dX9_text_166 : decode cX9_text 166 = .ok (.getfield 117, 3) := by decide +kernel
theorem dX9_text_169 : decode cX9_text 169 = .ok (.putfield 154, 3) := by decide +kernel
theorem dX9_text_172 : decode cX9_text 172 = .ok (.aload_n 0, 1) := by decide +kernel
theorem dX9_text_173 : decode cX9_text 173 = .ok (.iconst 0, 1) := by decide +kernel
theorem dX9_text_174 : decode cX9_text 174 = .ok (.putfield 157, 3) := by decide +kernel
theorem dX9_text_177 : decode cX9_text 177 = .ok (.aload_n 0, 1) := by decide +kernel
theorem dX9_text_178 : decode cX9_text 178 = .ok (.getfield 43, 3) := by decide +kernel
theorem dX9_text_181 : decode cX9_text 181 = .ok (.iconst 0, 1) := by decide +kernel
theorem dX9_text_182 : decode cX9_text 182 = .ok (.iconst 0, 1) := by decide +kernel
theorem dX9_text_183 : decode cX9_text 183 = .ok (.bastore, 1) := by decide +kernel
theorem dX9_text_184 : decode cX9_text 184 = .ok (.aload_n 0, 1) := by decide +kernel
theorem dX9_text_185 : decode cX9_text 185 = .ok (.getfield 43, 3) := by decide +kernel
theorem dX9_text_188 : decode cX9_text 188 = .ok (.iconst 1, 1) := by decide +kernel
theorem dX9_text_189 : decode cX9_text 189 = .ok (.iconst 0, 1) := by decide +kernel
theorem dX9_text_190 : decode cX9_text 190 = .ok (.bastore, 1) := by decide +kernel
theorem dX9_text_191 : decode cX9_text 191 = .ok (.iload_n 1, 1) := by decide +kernel
theorem dX9_text_192 : decode cX9_text 192 = .ok (.ireturn, 1) := by decide +kernel
theorem dX9_fault_0 : decode cX9_fault 0 = .ok (.aload_n 0, 1) := by decide +kernel
theorem dX9_fault_1 : decode cX9_fault 1 = .ok (.getfield 151, 3) := by decide +kernel
theorem dX9_fault_4 : decode cX9_fault 4 = .ok (.ireturn, 1) := by decide +kernel
theorem dX9_isOne_0 : decode cX9_isOne 0 = .ok (.iload_n 1, 1) := by decide +kernel
theorem dX9_isOne_1 : decode cX9_isOne 1 = .ok (.i2l, 1) := by decide +kernel
theorem dX9_isOne_2 : decode cX9_isOne 2 = .ok (.lconst 0, 1) := by decide +kernel
theorem dX9_isOne_3 : decode cX9_isOne 3 = .ok (.aload_n 0, 1) := by decide +kernel
theorem dX9_isOne_4 : decode cX9_isOne 4 = .ok (.getfield 154, 3) := by decide +kernel
theorem dX9_isOne_7 : decode cX9_isOne 7 = .ok (.iconst 1, 1) := by decide +kernel
theorem dX9_isOne_8 : decode cX9_isOne 8 = .ok (.isub, 1) := by decide +kernel
theorem dX9_isOne_9 : decode cX9_isOne 9 = .ok (.i2l, 1) := by decide +kernel
theorem dX9_isOne_10 : decode cX9_isOne 10 = .ok (.invokestatic 58, 3) := by decide +kernel
theorem dX9_isOne_13 : decode cX9_isOne 13 = .ok (.ireturn, 1) := by decide +kernel
theorem dX9_isHour_0 : decode cX9_isHour 0 = .ok (.iload_n 0, 1) := by decide +kernel
theorem dX9_isHour_1 : decode cX9_isHour 1 = .ok (.i2l, 1) := by decide +kernel
theorem dX9_isHour_2 : decode cX9_isHour 2 = .ok (.lconst 0, 1) := by decide +kernel
theorem dX9_isHour_3 : decode cX9_isHour 3 = .ok (.ldc2_w 160, 3) := by decide +kernel
theorem dX9_isHour_6 : decode cX9_isHour 6 = .ok (.invokestatic 58, 3) := by decide +kernel
theorem dX9_isHour_9 : decode cX9_isHour 9 = .ok (.ireturn, 1) := by decide +kernel
theorem dX9_isThing_0 : decode cX9_isThing 0 = .ok (.iload_n 0, 1) := by decide +kernel
theorem dX9_isThing_1 : decode cX9_isThing 1 = .ok (.i2l, 1) := by decide +kernel
theorem dX9_isThing_2 : decode cX9_isThing 2 = .ok (.lconst 0, 1) := by decide +kernel
theorem dX9_isThing_3 : decode cX9_isThing 3 = .ok (.ldc2_w 162, 3) := by decide +kernel
theorem dX9_isThing_6 : decode cX9_isThing 6 = .ok (.invokestatic 58, 3) := by decide +kernel
theorem dX9_isThing_9 : decode cX9_isThing 9 = .ok (.ireturn, 1) := by decide +kernel
theorem dX9_hasIt_0 : decode cX9_hasIt 0 = .ok (.aload_n 0, 1) := by decide +kernel
theorem dX9_hasIt_1 : decode cX9_hasIt 1 = .ok (.getfield 7, 3) := by decide +kernel
theorem dX9_hasIt_4 : decode cX9_hasIt 4 = .ok (.bipush 26, 2) := by decide +kernel
theorem dX9_hasIt_6 : decode cX9_hasIt 6 = .ok (.iload_n 1, 1) := by decide +kernel
theorem dX9_hasIt_7 : decode cX9_hasIt 7 = .ok (.iadd, 1) := by decide +kernel
theorem dX9_hasIt_8 : decode cX9_hasIt 8 = .ok (.iaload, 1) := by decide +kernel
theorem dX9_hasIt_9 : decode cX9_hasIt 9 = .ok (.iconst 1, 1) := by decide +kernel
theorem dX9_hasIt_10 : decode cX9_hasIt 10 = .ok (.isub, 1) := by decide +kernel
theorem dX9_hasIt_11 : decode cX9_hasIt 11 = .ok (.ireturn, 1) := by decide +kernel
theorem dX9_hasEyes_0 : decode cX9_hasEyes 0 = .ok (.aload_n 0, 1) := by decide +kernel
theorem dX9_hasEyes_1 : decode cX9_hasEyes 1 = .ok (.getfield 7, 3) := by decide +kernel
theorem dX9_hasEyes_4 : decode cX9_hasEyes 4 = .ok (.iload_n 1, 1) := by decide +kernel
theorem dX9_hasEyes_5 : decode cX9_hasEyes 5 = .ok (.iaload, 1) := by decide +kernel
theorem dX9_hasEyes_6 : decode cX9_hasEyes 6 = .ok (.iconst 1, 1) := by decide +kernel
theorem dX9_hasEyes_7 : decode cX9_hasEyes 7 = .ok (.if_icmp .ne 17, 3) := by decide +kernel
theorem dX9_hasEyes_10 : decode cX9_hasEyes 10 = .ok (.iload_n 2, 1) := by decide +kernel
theorem dX9_hasEyes_11 : decode cX9_hasEyes 11 = .ok (.bipush 6, 2) := by decide +kernel
theorem dX9_hasEyes_13 : decode cX9_hasEyes 13 = .ok (.if_icmp .ge 7, 3) := by decide +kernel
theorem dX9_hasEyes_16 : decode cX9_hasEyes 16 = .ok (.iconst 1, 1) := by decide +kernel
theorem dX9_hasEyes_17 : decode cX9_hasEyes 17 = .ok (.goto 27, 3) := by decide +kernel
theorem dX9_hasEyes_20 : decode cX9_hasEyes 20 = .ok (.iconst 0, 1) := by decide +kernel
theorem dX9_hasEyes_21 : decode cX9_hasEyes 21 = .ok (.goto 23, 3) := by decide +kernel
theorem dX9_hasEyes_24 : decode cX9_hasEyes 24 = .ok (.aload_n 0, 1) := by decide +kernel
theorem dX9_hasEyes_25 : decode cX9_hasEyes 25 = .ok (.getfield 7, 3) := by decide +kernel
theorem dX9_hasEyes_28 : decode cX9_hasEyes 28 = .ok (.iload_n 1, 1) := by decide +kernel
theorem dX9_hasEyes_29 : decode cX9_hasEyes 29 = .ok (.iaload, 1) := by decide +kernel
theorem dX9_hasEyes_30 : decode cX9_hasEyes 30 = .ok (.iconst 3, 1) := by decide +kernel
theorem dX9_hasEyes_31 : decode cX9_hasEyes 31 = .ok (.if_icmp .ne 8, 3) := by decide +kernel
theorem dX9_hasEyes_34 : decode cX9_hasEyes 34 = .ok (.iload_n 2, 1) := by decide +kernel
theorem dX9_hasEyes_35 : decode cX9_hasEyes 35 = .ok (.iconst 5, 1) := by decide +kernel
theorem dX9_hasEyes_36 : decode cX9_hasEyes 36 = .ok (.if_icmp .le 7, 3) := by decide +kernel
theorem dX9_hasEyes_39 : decode cX9_hasEyes 39 = .ok (.iconst 1, 1) := by decide +kernel
theorem dX9_hasEyes_40 : decode cX9_hasEyes 40 = .ok (.goto 4, 3) := by decide +kernel
theorem dX9_hasEyes_43 : decode cX9_hasEyes 43 = .ok (.iconst 0, 1) := by decide +kernel
theorem dX9_hasEyes_44 : decode cX9_hasEyes 44 = .ok (.ireturn, 1) := by decide +kernel
theorem dX9_wouldSee_0 : decode cX9_wouldSee 0 = .ok (.iload_n 2, 1) := by decide +kernel
theorem dX9_wouldSee_1 : decode cX9_wouldSee 1 = .ok (.ifCond .eq 26, 3) := by decide +kernel
theorem dX9_wouldSee_4 : decode cX9_wouldSee 4 = .ok (.iload_n 3, 1) := by decide +kernel
theorem dX9_wouldSee_5 : decode cX9_wouldSee 5 = .ok (.ifCond .lt 22, 3) := by decide +kernel
theorem dX9_wouldSee_8 : decode cX9_wouldSee 8 = .ok (.iload_n 3, 1) := by decide +kernel
theorem dX9_wouldSee_9 : decode cX9_wouldSee 9 = .ok (.iload_n 1, 1) := by decide +kernel
theorem dX9_wouldSee_10 : decode cX9_wouldSee 10 = .ok (.if_icmp .eq 17, 3) := by decide +kernel
theorem dX9_wouldSee_13 : decode cX9_wouldSee 13 = .ok (.iload_n 3, 1) := by decide +kernel
theorem dX9_wouldSee_14 : decode cX9_wouldSee 14 = .ok (.iload_n 1, 1) := by decide +kernel
theorem dX9_wouldSee_15 : decode cX9_wouldSee 15 = .ok (.iconst 1, 1) := by decide +kernel
theorem dX9_wouldSee_16 : decode cX9_wouldSee 16 = .ok (.iadd, 1) := by decide +kernel
theorem dX9_wouldSee_17 : decode cX9_wouldSee 17 = .ok (.if_icmp .eq 10, 3) := by decide +kernel
theorem dX9_wouldSee_20 : decode cX9_wouldSee 20 = .ok (.iload_n 3, 1) := by decide +kernel
theorem dX9_wouldSee_21 : decode cX9_wouldSee 21 = .ok (.iload_n 1, 1) := by decide +kernel
theorem dX9_wouldSee_22 : decode cX9_wouldSee 22 = .ok (.iconst 1, 1) := by decide +kernel
theorem dX9_wouldSee_23 : decode cX9_wouldSee 23 = .ok (.isub, 1) := by decide +kernel
theorem dX9_wouldSee_24 : decode cX9_wouldSee 24 = .ok (.if_icmp .ne 7, 3) := by decide +kernel
theorem dX9_wouldSee_27 : decode cX9_wouldSee 27 = .ok (.iconst 1, 1) := by decide +kernel
theorem dX9_wouldSee_28 : decode cX9_wouldSee 28 = .ok (.goto 4, 3) := by decide +kernel
theorem dX9_wouldSee_31 : decode cX9_wouldSee 31 = .ok (.iconst 0, 1) := by decide +kernel
theorem dX9_wouldSee_32 : decode cX9_wouldSee 32 = .ok (.istore 4, 2) := by decide +kernel
theorem dX9_wouldSee_34 : decode cX9_wouldSee 34 = .ok (.iload 4, 2) := by decide +kernel
theorem dX9_wouldSee_36 : decode cX9_wouldSee 36 = .ok (.ifCond .eq 16, 3) := by decide +kernel
theorem dX9_wouldSee_39 : decode cX9_wouldSee 39 = .ok (.aload_n 0, 1) := by decide +kernel
theorem dX9_wouldSee_40 : decode cX9_wouldSee 40 = .ok (.iload_n 1, 1) := by decide +kernel
theorem dX9_wouldSee_41 : decode cX9_wouldSee 41 = .ok (.iload_n 2, 1) := by decide +kernel
theorem dX9_wouldSee_42 : decode cX9_wouldSee 42 = .ok (.invokevirtual 164, 3) := by decide +kernel
theorem dX9_wouldSee_45 : decode cX9_wouldSee 45 = .ok (.ifCond .eq 7, 3) := by decide +kernel
theorem dX9_wouldSee_48 : decode cX9_wouldSee 48 = .ok (.iconst 1, 1) := by decide +kernel
theorem dX9_wouldSee_49 : decode cX9_wouldSee 49 = .ok (.goto 4, 3) := by decide +kernel
theorem dX9_wouldSee_52 : decode cX9_wouldSee 52 = .ok (.iconst 0, 1) := by decide +kernel
theorem dX9_wouldSee_53 : decode cX9_wouldSee 53 = .ok (.ireturn, 1) := by decide +kernel
theorem dX9_doesSee_0 : decode cX9_doesSee 0 = .ok (.aload_n 0, 1) := by decide +kernel
theorem dX9_doesSee_1 : decode cX9_doesSee 1 = .ok (.iload_n 1, 1) := by decide +kernel
theorem dX9_doesSee_2 : decode cX9_doesSee 2 = .ok (.invokevirtual 168, 3) := by decide +kernel
theorem dX9_doesSee_5 : decode cX9_doesSee 5 = .ok (.ifCond .lt 35, 3) := by decide +kernel
theorem dX9_doesSee_8 : decode cX9_doesSee 8 = .ok (.aload_n 0, 1) := by decide +kernel
theorem dX9_doesSee_9 : decode cX9_doesSee 9 = .ok (.aload_n 0, 1) := by decide +kernel
theorem dX9_doesSee_10 : decode cX9_doesSee 10 = .ok (.iload_n 1, 1) := by decide +kernel
theorem dX9_doesSee_11 : decode cX9_doesSee 11 = .ok (.invokevirtual 168, 3) := by decide +kernel
theorem dX9_doesSee_14 : decode cX9_doesSee 14 = .ok (.iload_n 1, 1) := by decide +kernel
theorem dX9_doesSee_15 : decode cX9_doesSee 15 = .ok (.iload_n 1, 1) := by decide +kernel
theorem dX9_doesSee_16 : decode cX9_doesSee 16 = .ok (.ifCond .ne 7, 3) := by decide +kernel
theorem dX9_doesSee_19 : decode cX9_doesSee 19 = .ok (.iconst (-1), 1) := by decide +kernel
theorem dX9_doesSee_20 : decode cX9_doesSee 20 = .ok (.goto 10, 3) := by decide +kernel
theorem dX9_doesSee_23 : decode cX9_doesSee 23 = .ok (.aload_n 0, 1) := by decide +kernel
theorem dX9_doesSee_24 : decode cX9_doesSee 24 = .ok (.iload_n 1, 1) := by decide +kernel
theorem dX9_doesSee_25 : decode cX9_doesSee 25 = .ok (.iconst 1, 1) := by decide +kernel
theorem dX9_doesSee_26 : decode cX9_doesSee 26 = .ok (.isub, 1) := by decide +kernel
theorem dX9_doesSee_27 : decode cX9_doesSee 27 = .ok (.invokevirtual 168, 3) := by decide +kernel
theorem dX9_doesSee_30 : decode cX9_doesSee 30 = .ok (.invokevirtual 171, 3) := by decide +kernel
theorem dX9_doesSee_33 : decode cX9_doesSee 33 = .ok (.ifCond .eq 7, 3) := by decide +kernel
theorem dX9_doesSee_36 : decode cX9_doesSee 36 = .ok (.iconst 1, 1) := by decide +kernel
theorem dX9_doesSee_37 : decode cX9_doesSee 37 = .ok (.goto 4, 3) := by decide +kernel
theorem dX9_doesSee_40 : decode cX9_doesSee 40 = .ok (.iconst 0, 1) := by decide +kernel
theorem dX9_doesSee_41 : decode cX9_doesSee 41 = .ok (.ireturn, 1) := by decide +kernel
theorem dX9_seeing_0 : decode cX9_seeing 0 = .ok (.iconst 0, 1) := by decide +kernel
theorem dX9_seeing_1 : decode cX9_seeing 1 = .ok (.istore_n 1, 1) := by decide +kernel
theorem dX9_seeing_2 : decode cX9_seeing 2 = .ok (.iconst 0, 1) := by decide +kernel
theorem dX9_seeing_3 : decode cX9_seeing 3 = .ok (.istore_n 2, 1) := by decide +kernel
theorem dX9_seeing_4 : decode cX9_seeing 4 = .ok (.iload_n 2, 1) := by decide +kernel
theorem dX9_seeing_5 : decode cX9_seeing 5 = .ok (.bipush 10, 2) := by decide +kernel
theorem dX9_seeing_7 : decode cX9_seeing 7 = .ok (.if_icmp .ge 27, 3) := by decide +kernel
theorem dX9_seeing_10 : decode cX9_seeing 10 = .ok (.iload_n 1, 1) := by decide +kernel
theorem dX9_seeing_11 : decode cX9_seeing 11 = .ok (.aload_n 0, 1) := by decide +kernel
theorem dX9_seeing_12 : decode cX9_seeing 12 = .ok (.iload_n 2, 1) := by decide +kernel
theorem dX9_seeing_13 : decode cX9_seeing 13 = .ok (.invokevirtual 175, 3) := by decide +kernel
theorem dX9_seeing_16 : decode cX9_seeing 16 = .ok (.ifCond .eq 9, 3) := by decide +kernel
theorem dX9_seeing_19 : decode cX9_seeing 19 = .ok (.iconst 1, 1) := by decide +kernel
theorem dX9_seeing_20 : decode cX9_seeing 20 = .ok (.iload_n 2, 1) := by decide +kernel
theorem dX9_seeing_21 : decode cX9_seeing 21 = .ok (.ishl, 1) := by decide +kernel
theorem dX9_seeing_22 : decode cX9_seeing 22 = .ok (.goto 4, 3) := by decide +kernel
theorem dX9_seeing_25 : decode cX9_seeing 25 = .ok (.iconst 0, 1) := by decide +kernel
theorem dX9_seeing_26 : decode cX9_seeing 26 = .ok (.ior, 1) := by decide +kernel
theorem dX9_seeing_27 : decode cX9_seeing 27 = .ok (.istore_n 1, 1) := by decide +kernel
theorem dX9_seeing_28 : decode cX9_seeing 28 = .ok (.iinc 2 1, 3) := by decide +kernel
theorem dX9_seeing_31 : decode cX9_seeing 31 = .ok (.goto (-27), 3) := by decide +kernel
theorem dX9_seeing_34 : decode cX9_seeing 34 = .ok (.iload_n 1, 1) := by decide +kernel
theorem dX9_seeing_35 : decode cX9_seeing 35 = .ok (.ireturn, 1) := by decide +kernel
theorem dX9_valueAt_0 : decode cX9_valueAt 0 = .ok (.aload_n 0, 1) := by decide +kernel
theorem dX9_valueAt_1 : decode cX9_valueAt 1 = .ok (.getfield 7, 3) := by decide +kernel
theorem dX9_valueAt_4 : decode cX9_valueAt 4 = .ok (.bipush 10, 2) := by decide +kernel
theorem dX9_valueAt_6 : decode cX9_valueAt 6 = .ok (.iload_n 1, 1) := by decide +kernel
theorem dX9_valueAt_7 : decode cX9_valueAt 7 = .ok (.iadd, 1) := by decide +kernel
theorem dX9_valueAt_8 : decode cX9_valueAt 8 = .ok (.iaload, 1) := by decide +kernel
theorem dX9_valueAt_9 : decode cX9_valueAt 9 = .ok (.istore_n 3, 1) := by decide +kernel
theorem dX9_valueAt_10 : decode cX9_valueAt 10 = .ok (.iconst 0, 1) := by decide +kernel
theorem dX9_valueAt_11 : decode cX9_valueAt 11 = .ok (.istore 4, 2) := by decide +kernel
theorem dX9_valueAt_13 : decode cX9_valueAt 13 = .ok (.iload 4, 2) := by decide +kernel
theorem dX9_valueAt_15 : decode cX9_valueAt 15 = .ok (.iload_n 2, 1) := by decide +kernel
theorem dX9_valueAt_16 : decode cX9_valueAt 16 = .ok (.if_icmp .gt 78, 3) := by decide +kernel
theorem dX9_valueAt_19 : decode cX9_valueAt 19 = .ok (.iconst 0, 1) := by decide +kernel
theorem dX9_valueAt_20 : decode cX9_valueAt 20 = .ok (.istore 5, 2) := by decide +kernel
theorem dX9_valueAt_22 : decode cX9_valueAt 22 = .ok (.iload 5, 2) := by decide +kernel
theorem dX9_valueAt_24 : decode cX9_valueAt 24 = .ok (.aload_n 0, 1) := by decide +kernel
theorem dX9_valueAt_25 : decode cX9_valueAt 25 = .ok (.getfield 7, 3) := by decide +kernel
theorem dX9_valueAt_28 : decode cX9_valueAt 28 = .ok (.bipush 25, 2) := by decide +kernel
theorem dX9_valueAt_30 : decode cX9_valueAt 30 = .ok (.iaload, 1) := by decide +kernel
theorem dX9_valueAt_31 : decode cX9_valueAt 31 = .ok (.if_icmp .ge 57, 3) := by decide +kernel
theorem dX9_valueAt_34 : decode cX9_valueAt 34 = .ok (.bipush 13, 2) := by decide +kernel
theorem dX9_valueAt_36 : decode cX9_valueAt 36 = .ok (.iconst 3, 1) := by decide +kernel
theorem dX9_valueAt_37 : decode cX9_valueAt 37 = .ok (.iload 5, 2) := by decide +kernel
theorem dX9_valueAt_39 : decode cX9_valueAt 39 = .ok (.imul, 1) := by decide +kernel
theorem dX9_valueAt_40 : decode cX9_valueAt 40 = .ok (.iadd, 1) := by decide +kernel
theorem dX9_valueAt_41 : decode cX9_valueAt 41 = .ok (.istore 6, 2) := by decide +kernel
theorem dX9_valueAt_43 : decode cX9_valueAt 43 = .ok (.aload_n 0, 1) := by decide +kernel
theorem dX9_valueAt_44 : decode cX9_valueAt 44 = .ok (.getfield 7, 3) := by decide +kernel
theorem dX9_valueAt_47 : decode cX9_valueAt 47 = .ok (.iload 6, 2) := by decide +kernel
theorem dX9_valueAt_49 : decode cX9_valueAt 49 = .ok (.iaload, 1) := by decide +kernel
theorem dX9_valueAt_50 : decode cX9_valueAt 50 = .ok (.iload 4, 2) := by decide +kernel
theorem dX9_valueAt_52 : decode cX9_valueAt 52 = .ok (.if_icmp .ne 28, 3) := by decide +kernel
theorem dX9_valueAt_55 : decode cX9_valueAt 55 = .ok (.aload_n 0, 1) := by decide +kernel
theorem dX9_valueAt_56 : decode cX9_valueAt 56 = .ok (.getfield 7, 3) := by decide +kernel
theorem dX9_valueAt_59 : decode cX9_valueAt 59 = .ok (.iload 6, 2) := by decide +kernel
theorem dX9_valueAt_61 : decode cX9_valueAt 61 = .ok (.iconst 1, 1) := by decide +kernel
theorem dX9_valueAt_62 : decode cX9_valueAt 62 = .ok (.iadd, 1) := by decide +kernel
theorem dX9_valueAt_63 : decode cX9_valueAt 63 = .ok (.iaload, 1) := by decide +kernel
theorem dX9_valueAt_64 : decode cX9_valueAt 64 = .ok (.iload_n 1, 1) := by decide +kernel
theorem dX9_valueAt_65 : decode cX9_valueAt 65 = .ok (.if_icmp .ne 15, 3) := by decide +kernel
theorem dX9_valueAt_68 : decode cX9_valueAt 68 = .ok (.aload_n 0, 1) := by decide +kernel
theorem dX9_valueAt_69 : decode cX9_valueAt 69 = .ok (.getfield 7, 3) := by decide +kernel
theorem dX9_valueAt_72 : decode cX9_valueAt 72 = .ok (.iload 6, 2) := by decide +kernel
theorem dX9_valueAt_74 : decode cX9_valueAt 74 = .ok (.iconst 2, 1) := by decide +kernel
theorem dX9_valueAt_75 : decode cX9_valueAt 75 = .ok (.iadd, 1) := by decide +kernel
theorem dX9_valueAt_76 : decode cX9_valueAt 76 = .ok (.iaload, 1) := by decide +kernel
theorem dX9_valueAt_77 : decode cX9_valueAt 77 = .ok (.goto 4, 3) := by decide +kernel
theorem dX9_valueAt_80 : decode cX9_valueAt 80 = .ok (.iload_n 3, 1) := by decide +kernel
theorem dX9_valueAt_81 : decode cX9_valueAt 81 = .ok (.istore_n 3, 1) := by decide +kernel
theorem dX9_valueAt_82 : decode cX9_valueAt 82 = .ok (.iinc 5 1, 3) := by decide +kernel
theorem dX9_valueAt_85 : decode cX9_valueAt 85 = .ok (.goto (-63), 3) := by decide +kernel
theorem dX9_valueAt_88 : decode cX9_valueAt 88 = .ok (.iinc 4 1, 3) := by decide +kernel
theorem dX9_valueAt_91 : decode cX9_valueAt 91 = .ok (.goto (-78), 3) := by decide +kernel
theorem dX9_valueAt_94 : decode cX9_valueAt 94 = .ok (.iload_n 3, 1) := by decide +kernel
theorem dX9_valueAt_95 : decode cX9_valueAt 95 = .ok (.ireturn, 1) := by decide +kernel
theorem dX9_tellings_0 : decode cX9_tellings 0 = .ok (.iconst 0, 1) := by decide +kernel
theorem dX9_tellings_1 : decode cX9_tellings 1 = .ok (.istore_n 2, 1) := by decide +kernel
theorem dX9_tellings_2 : decode cX9_tellings 2 = .ok (.iload_n 2, 1) := by decide +kernel
theorem dX9_tellings_3 : decode cX9_tellings 3 = .ok (.aload_n 0, 1) := by decide +kernel
theorem dX9_tellings_4 : decode cX9_tellings 4 = .ok (.getfield 7, 3) := by decide +kernel
theorem dX9_tellings_7 : decode cX9_tellings 7 = .ok (.bipush 73, 2) := by decide +kernel
theorem dX9_tellings_9 : decode cX9_tellings 9 = .ok (.iaload, 1) := by decide +kernel
theorem dX9_tellings_10 : decode cX9_tellings 10 = .ok (.if_icmp .ge 118, 3) := by decide +kernel
theorem dX9_tellings_13 : decode cX9_tellings 13 = .ok (.bipush 57, 2) := by decide +kernel
theorem dX9_tellings_15 : decode cX9_tellings 15 = .ok (.iconst 4, 1) := by decide +kernel
theorem dX9_tellings_16 : decode cX9_tellings 16 = .ok (.iload_n 2, 1) := by decide +kernel
theorem dX9_tellings_17 : decode cX9_tellings 17 = .ok (.imul, 1) := by decide +kernel
theorem dX9_tellings_18 : decode cX9_tellings 18 = .ok (.iadd, 1) := by decide +kernel
theorem dX9_tellings_19 : decode cX9_tellings 19 = .ok (.istore_n 3, 1) := by decide +kernel
theorem dX9_tellings_20 : decode cX9_tellings 20 = .ok (.bipush 15, 2) := by decide +kernel
theorem dX9_tellings_22 : decode cX9_tellings 22 = .ok (.iload_n 1, 1) := by decide +kernel
theorem dX9_tellings_23 : decode cX9_tellings 23 = .ok (.imul, 1) := by decide +kernel
theorem dX9_tellings_24 : decode cX9_tellings 24 = .ok (.iconst 3, 1) := by decide +kernel
theorem dX9_tellings_25 : decode cX9_tellings 25 = .ok (.aload_n 0, 1) := by decide +kernel
theorem dX9_tellings_26 : decode cX9_tellings 26 = .ok (.getfield 7, 3) := by decide +kernel
theorem dX9_tellings_29 : decode cX9_tellings 29 = .ok (.iload_n 3, 1) := by decide +kernel
theorem dX9_tellings_30 : decode cX9_tellings 30 = .ok (.iconst 1, 1) := by decide +kernel
theorem dX9_tellings_31 : decode cX9_tellings 31 = .ok (.iadd, 1) := by decide +kernel
