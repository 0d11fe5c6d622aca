theorem fl_X12_27 : Cond.fieldLink RX12 27 "CloneVolumesModel" "volumeWord" "[C" ∈ lw_gd := zm (List.mem_of_getElem? (i := 1551) (by decide +kernel)) rfl
theorem fl_X12_30 : Cond.fieldLink RX12 30 "CloneVolumesModel" "cloneWord" "[C" ∈ lw_gd := zm (List.mem_of_getElem? (i := 1552) (by decide +kernel)) rfl
theorem fl_X12_33 : Cond.fieldLink RX12 33 "CloneVolumesModel" "ofWord" "[C" ∈ lw_gd := zm (List.mem_of_getElem? (i := 1553) (by decide +kernel)) rfl
theorem fl_X12_36 : Cond.fieldLink RX12 36 "CloneVolumesModel" "putWord" "[C" ∈ lw_gd := zm (List.mem_of_getElem? (i := 1554) (by decide +kernel)) rfl
theorem fl_X12_39 : Cond.fieldLink RX12 39 "CloneVolumesModel" "removeWord" "[C" ∈ lw_gd := zm (List.mem_of_getElem? (i := 1555) (by decide +kernel)) rfl
theorem fl_X12_42 : Cond.fieldLink RX12 42 "CloneVolumesModel" "picksWord" "[C" ∈ lw_gd := zm (List.mem_of_getElem? (i := 1556) (by decide +kernel)) rfl
theorem fl_X12_45 : Cond.fieldLink RX12 45 "CloneVolumesModel" "splitsWord" "[C" ∈ lw_gd := zm (List.mem_of_getElem? (i := 1557) (by decide +kernel)) rfl
theorem fl_X12_48 : Cond.fieldLink RX12 48 "CloneVolumesModel" "costsWord" "[C" ∈ lw_gd := zm (List.mem_of_getElem? (i := 1558) (by decide +kernel)) rfl
theorem fl_X12_51 : Cond.fieldLink RX12 51 "CloneVolumesModel" "churnWord" "[C" ∈ lw_gd := zm (List.mem_of_getElem? (i := 1559) (by decide +kernel)) rfl
theorem dX12_init_91 : decode cX12_init 91 = .ok (.aload_n 0, 1) := by decide +kernel
theorem dX12_init_92 : decode cX12_init 92 = .ok (.bipush 6, 2) := by decide +kernel
theorem dX12_init_94 : decode cX12_init 94 = .ok (.newarray .char, 2) := by decide +kernel
theorem dX12_init_96 : decode cX12_init 96 = .ok (.dup, 1) := by decide +kernel
theorem dX12_init_97 : decode cX12_init 97 = .ok (.iconst 0, 1) := by decide +kernel
theorem dX12_init_98 : decode cX12_init 98 = .ok (.bipush 118, 2) := by decide +kernel
theorem dX12_init_100 : decode cX12_init 100 = .ok (.castore, 1) := by decide +kernel
theorem dX12_init_101 : decode cX12_init 101 = .ok (.dup, 1) := by decide +kernel
theorem dX12_init_102 : decode cX12_init 102 = .ok (.iconst 1, 1) := by decide +kernel
theorem dX12_init_103 : decode cX12_init 103 = .ok (.bipush 111, 2) := by decide +kernel
theorem dX12_init_105 : decode cX12_init 105 = .ok (.castore, 1) := by decide +kernel
theorem dX12_init_106 : decode cX12_init 106 = .ok (.dup, 1) := by decide +kernel
theorem dX12_init_107 : decode cX12_init 107 = .ok (.iconst 2, 1) := by decide +kernel
theorem dX12_init_108 : decode cX12_init 108 = .ok (.bipush 108, 2) := by decide +kernel
theorem dX12_init_110 : decode cX12_init 110 = .ok (.castore, 1) := by decide +kernel
theorem dX12_init_111 : decode cX12_init 111 = .ok (.dup, 1) := by decide +kernel
theorem dX12_init_112 : decode cX12_init 112 = .ok (.iconst 3, 1) := by decide +kernel
theorem dX12_init_113 : decode cX12_init 113 = .ok (.bipush 117, 2) := by decide +kernel
theorem dX12_init_115 : decode cX12_init 115 = .ok (.castore, 1) := by decide +kernel
theorem dX12_init_116 : decode cX12_init 116 = .ok (.dup, 1) := by decide +kernel
theorem dX12_init_117 : decode cX12_init 117 = .ok (.iconst 4, 1) := by decide +kernel
theorem dX12_init_118 : decode cX12_init 118 = .ok (.bipush 109, 2) := by decide +kernel
theorem dX12_init_120 : decode cX12_init 120 = .ok (.castore, 1) := by decide +kernel
theorem dX12_init_121 : decode cX12_init 121 = .ok (.dup, 1) := by decide +kernel
theorem dX12_init_122 : decode cX12_init 122 = .ok (.iconst 5, 1) := by decide +kernel
theorem dX12_init_123 : decode cX12_init 123 = .ok (.bipush 101, 2) := by decide +kernel
theorem dX12_init_125 : decode cX12_init 125 = .ok (.castore, 1) := by decide +kernel
theorem dX12_init_126 : decode cX12_init 126 = .ok (.putfield 27, 3) := by decide +kernel
theorem dX12_init_129 : decode cX12_init 129 = .ok (.aload_n 0, 1) := by decide +kernel
theorem dX12_init_130 : decode cX12_init 130 = .ok (.iconst 5, 1) := by decide +kernel
theorem dX12_init_131 : decode cX12_init 131 = .ok (.newarray .char, 2) := by decide +kernel
theorem dX12_init_133 : decode cX12_init 133 = .ok (.dup, 1) := by decide +kernel
theorem dX12_init_134 : decode cX12_init 134 = .ok (.iconst 0, 1) := by decide +kernel
theorem dX12_init_135 : decode cX12_init 135 = .ok (.bipush 99, 2) := by decide +kernel
theorem dX12_init_137 : decode cX12_init 137 = .ok (.castore, 1) := by decide +kernel
theorem dX12_init_138 : decode cX12_init 138 = .ok (.dup, 1) := by decide +kernel
theorem dX12_init_139 : decode cX12_init 139 = .ok (.iconst 1, 1) := by decide +kernel
theorem dX12_init_140 : decode cX12_init 140 = .ok (.bipush 108, 2) := by decide +kernel
theorem dX12_init_142 : decode cX12_init 142 = .ok (.castore, 1) := by decide +kernel
theorem dX12_init_143 : decode cX12_init 143 = .ok (.dup, 1) := by decide +kernel
theorem dX12_init_144 : decode cX12_init 144 = .ok (.iconst 2, 1) := by decide +kernel
theorem dX12_init_145 : decode cX12_init 145 = .ok (.bipush 111, 2) := by decide +kernel
theorem dX12_init_147 : decode cX12_init 147 = .ok (.castore, 1) := by decide +kernel
theorem dX12_init_148 : decode cX12_init 148 = .ok (.dup, 1) := by decide +kernel
theorem dX12_init_149 : decode cX12_init 149 = .ok (.iconst 3, 1) := by decide +kernel
theorem dX12_init_150 : decode cX12_init 150 = .ok (.bipush 110, 2) := by decide +kernel
theorem dX12_init_152 : decode cX12_init 152 = .ok (.castore, 1) := by decide +kernel
theorem dX12_init_153 : decode cX12_init 153 = .ok (.dup, 1) := by decide +kernel
theorem dX12_init_154 : decode cX12_init 154 = .ok (.iconst 4, 1) := by decide +kernel
theorem dX12_init_155 : decode cX12_init 155 = .ok (.bipush 101, 2) := by decide +kernel
theorem dX12_init_157 : decode cX12_init 157 = .ok (.castore, 1) := by decide +kernel
theorem dX12_init_158 : decode cX12_init 158 = .ok (.putfield 30, 3) := by decide +kernel
theorem dX12_init_161 : decode cX12_init 161 = .ok (.aload_n 0, 1) := by decide +kernel
theorem dX12_init_162 : decode cX12_init 162 = .ok (.iconst 2, 1) := by decide +kernel
theorem dX12_init_163 : decode cX12_init 163 = .ok (.newarray .char, 2) := by decide +kernel
theorem dX12_init_165 : decode cX12_init 165 = .ok (.dup, 1) := by decide +kernel
theorem dX12_init_166 : decode cX12_init 166 = .ok (.iconst 0, 1) := by decide +kernel
theorem dX12_init_167 : decode cX12_init 167 = .ok (.bipush 111, 2) := by decide +kernel
theorem dX12_init_169 : decode cX12_init 169 = .ok (.castore, 1) := by decide +kernel
theorem dX12_init_170 : decode cX12_init 170 = .ok (.dup, 1) := by decide +kernel
theorem dX12_init_171 : decode cX12_init 171 = .ok (.iconst 1, 1) := by decide +kernel
theorem dX12_init_172 : decode cX12_init 172 = .ok (.bipush 102, 2) := by decide +kernel
theorem dX12_init_174 : decode cX12_init 174 = .ok (.castore, 1) := by decide +kernel
theorem dX12_init_175 : decode cX12_init 175 = .ok (.putfield 33, 3) := by decide +kernel
theorem dX12_init_178 : decode cX12_init 178 = .ok (.aload_n 0, 1) := by decide +kernel
theorem dX12_init_179 : decode cX12_init 179 = .ok (.iconst 3, 1) := by decide +kernel
theorem dX12_init_180 : decode cX12_init 180 = .ok (.newarray .char, 2) := by decide +kernel
theorem dX12_init_182 : decode cX12_init 182 = .ok (.dup, 1) := by decide +kernel
theorem dX12_init_183 : decode cX12_init 183 = .ok (.iconst 0, 1) := by decide +kernel
theorem dX12_init_184 : decode cX12_init 184 = .ok (.bipush 112, 2) := by decide +kernel
theorem dX12_init_186 : decode cX12_init 186 = .ok (.castore, 1) := by decide +kernel
theorem dX12_init_187 : decode cX12_init 187 = .ok (.dup, 1) := by decide +kernel
theorem dX12_init_188 : decode cX12_init 188 = .ok (.iconst 1, 1) := by decide +kernel
theorem dX12_init_189 : decode cX12_init 189 = .ok (.bipush 117, 2) := by decide +kernel
theorem dX12_init_191 : decode cX12_init 191 = .ok (.castore, 1) := by decide +kernel
theorem dX12_init_192 : decode cX12_init 192 = .ok (.dup, 1) := by decide +kernel
theorem dX12_init_193 : decode cX12_init 193 = .ok (.iconst 2, 1) := by decide +kernel
theorem dX12_init_194 : decode cX12_init 194 = .ok (.bipush 116, 2) := by decide +kernel
theorem dX12_init_196 : decode cX12_init 196 = .ok (.castore, 1) := by decide +kernel
theorem dX12_init_197 : decode cX12_init 197 = .ok (.putfield 36, 3) := by decide +kernel
theorem dX12_init_200 : decode cX12_init 200 = .ok (.aload_n 0, 1) := by decide +kernel
theorem dX12_init_201 : decode cX12_init 201 = .ok (.bipush 6, 2) := by decide +kernel
theorem dX12_init_203 : decode cX12_init 203 = .ok (.newarray .char, 2) := by decide +kernel
theorem dX12_init_205 : decode cX12_init 205 = .ok (.dup, 1) := by decide +kernel
theorem dX12_init_206 : decode cX12_init 206 = .ok (.iconst 0, 1) := by decide +kernel
theorem dX12_init_207 : decode cX12_init 207 = .ok (.bipush 114, 2) := by decide +kernel
theorem dX12_init_209 : decode cX12_init 209 = .ok (.castore, 1) := by decide +kernel
theorem dX12_init_210 : decode cX12_init 210 = .ok (.dup, 1) := by decide +kernel
theorem dX12_init_211 : decode cX12_init 211 = .ok (.iconst 1, 1) := by decide +kernel
theorem dX12_init_212 : decode cX12_init 212 = .ok (.bipush 101, 2) := by decide +kernel
theorem dX12_init_214 : decode cX12_init 214 = .ok (.castore, 1) := by decide +kernel
theorem dX12_init_215 : decode cX12_init 215 = .ok (.dup, 1) := by decide +kernel
theorem dX12_init_216 : decode cX12_init 216 = .ok (.iconst 2, 1) := by decide +kernel
theorem dX12_init_217 : decode cX12_init 217 = .ok (.bipush 109, 2) := by decide +kernel
theorem dX12_init_219 : decode cX12_init 219 = .ok (.castore, 1) := by decide +kernel
theorem dX12_init_220 : decode cX12_init 220 = .ok (.dup, 1) := by decide +kernel
theorem dX12_init_221 : decode cX12_init 221 = .ok (.iconst 3, 1) := by decide +kernel
theorem dX12_init_222 : decode cX12_init 222 = .ok (.bipush 111, 2) := by decide +kernel
theorem dX12_init_224 : decode cX12_init 224 = .ok (.castore, 1) := by decide +kernel
theorem dX12_init_225 : decode cX12_init 225 = .ok (.dup, 1) := by decide +kernel
theorem dX12_init_226 : decode cX12_init 226 = .ok (.iconst 4, 1) := by decide +kernel
theorem dX12_init_227 : decode cX12_init 227 = .ok (.bipush 118, 2) := by decide +kernel
theorem dX12_init_229 : decode cX12_init 229 = .ok (.castore, 1) := by decide +kernel
theorem dX12_init_230 : decode cX12_init 230 = .ok (.dup, 1) := by decide +kernel
theorem dX12_init_231 : decode cX12_init 231 = .ok (.iconst 5, 1) := by decide +kernel
theorem dX12_init_232 : decode cX12_init 232 = .ok (.bipush 101, 2) := by decide +kernel
theorem dX12_init_234 : decode cX12_init 234 = .ok (.castore, 1) := by decide +kernel
theorem dX12_init_235 : decode cX12_init 235 = .ok (.putfield 39, 3) := by decide +kernel
theorem dX12_init_238 : decode cX12_init 238 = .ok (.aload_n 0, 1) := by decide +kernel
theorem dX12_init_239 : decode cX12_init 239 = .ok (.iconst 5, 1) := by decide +kernel
theorem dX12_init_240 : decode cX12_init 240 = .ok (.newarray .char, 2) := by decide +kernel
theorem dX12_init_242 : decode cX12_init 242 = .ok (.dup, 1) := by decide +kernel
theorem dX12_init_243 : decode cX12_init 243 = .ok (.iconst 0, 1) := by decide +kernel
theorem dX12_init_244 : decode cX12_init 244 = .ok (.bipush 112, 2) := by decide +kernel
theorem dX12_init_246 : decode cX12_init 246 = .ok (.castore, 1) := by decide +kernel
theorem dX12_init_247 : decode cX12_init 247 = .ok (.dup, 1) := by decide +kernel
theorem dX12_init_248 : decode cX12_init 248 = .ok (.iconst 1, 1) := by decide +kernel
theorem dX12_init_249 : decode cX12_init 249 = .ok (.bipush 105, 2) := by decide +kernel
theorem dX12_init_251 : decode cX12_init 251 = .ok (.castore, 1) := by decide +kernel
theorem dX12_init_252 : decode cX12_init 252 = .ok (.dup, 1) := by decide +kernel
theorem dX12_init_253 : decode cX12_init 253 = .ok (.iconst 2, 1) := by decide +kernel
theorem dX12_init_254 : decode cX12_init 254 = .ok (.bipush 99, 2) := by decide +kernel
theorem dX12_init_256 : decode cX12_init 256 = .ok (.castore, 1) := by decide +kernel
theorem dX12_init_257 : decode cX12_init 257 = .ok (.dup, 1) := by decide +kernel
theorem dX12_init_258 : decode cX12_init 258 = .ok (.iconst 3, 1) := by decide +kernel
theorem dX12_init_259 : decode cX12_init 259 = .ok (.bipush 107, 2) := by decide +kernel
theorem dX12_init_261 : decode cX12_init 261 = .ok (.castore, 1) := by decide +kernel
theorem dX12_init_262 : decode cX12_init 262 = .ok (.dup, 1) := by decide +kernel
theorem dX12_init_263 : decode cX12_init 263 = .ok (.iconst 4, 1) := by decide +kernel
theorem dX12_init_264 : decode cX12_init 264 = .ok (.bipush 115, 2) := by decide +kernel
theorem dX12_init_266 : decode cX12_init 266 = .ok (.castore, 1) := by decide +kernel
theorem dX12_init_267 : decode cX12_init 267 = .ok (.putfield 42, 3) := by decide +kernel
theorem dX12_init_270 : decode cX12_init 270 = .ok (.aload_n 0, 1) := by decide +kernel
theorem dX12_init_271 : decode cX12_init 271 = .ok (.bipush 6, 2) := by decide +kernel
theorem dX12_init_273 : decode cX12_init 273 = .ok (.newarray .char, 2) := by decide +kernel
theorem dX12_init_275 : decode cX12_init 275 = .ok (.dup, 1) := by decide +kernel
theorem dX12_init_276 : decode cX12_init 276 = .ok (.iconst 0, 1) := by decide +kernel
theorem dX12_init_277 : decode cX12_init 277 = .ok (.bipush 115, 2) := by decide +kernel
theorem dX12_init_279 : decode cX12_init 279 = .ok (.castore, 1) := by decide +kernel
theorem dX12_init_280 : decode cX12_init 280 = .ok (.dup, 1) := by decide +kernel
theorem dX12_init_281 : decode cX12_init 281 = .ok (.iconst 1, 1) := by decide +kernel
theorem dX12_init_282 : decode cX12_init 282 = .ok (.bipush 112, 2) := by decide +kernel
theorem dX12_init_284 : decode cX12_init 284 = .ok (.castore, 1) := by decide +kernel
theorem dX12_init_285 : decode cX12_init 285 = .ok (.dup, 1) := by decide +kernel
theorem dX12_init_286 : decode cX12_init 286 = .ok (.iconst 2, 1) := by decide +kernel
theorem dX12_init_287 : decode cX12_init 287 = .ok (.bipush 108, 2) := by decide +kernel
theorem dX12_init_289 : decode cX12_init 289 = .ok (.castore, 1) := by decide +kernel
theorem dX12_init_290 : decode cX12_init 290 = .ok (.dup, 1) := by decide +kernel
theorem dX12_init_291 : decode cX12_init 291 = .ok (.iconst 3, 1) := by decide +kernel
theorem dX12_init_292 : decode cX12_init 292 = .ok (.bipush 105, 2) := by decide +kernel
theorem dX12_init_294 : decode cX12_init 294 = .ok (.castore, 1) := by decide +kernel
theorem dX12_init_295 : decode cX12_init 295 = .ok (.dup, 1) := by decide +kernel
theorem dX12_init_296 : decode cX12_init 296 = .ok (.iconst 4, 1) := by decide +kernel
theorem dX12_init_297 : decode cX12_init 297 = .ok (.bipush 116, 2) := by decide +kernel
theorem dX12_init_299 : decode cX12_init 299 = .ok (.castore, 1) := by decide +kernel
theorem dX12_init_300 : decode cX12_init 300 = .ok (.dup, 1) := by decide +kernel
theorem dX12_init_301 : decode cX12_init 301 = .ok (.iconst 5, 1) := by decide +kernel
theorem dX12_init_302 : decode cX12_init 302 = .ok (.bipush 115, 2) := by decide +kernel
theorem dX12_init_304 : decode cX12_init 304 = .ok (.castore, 1) := by decide +kernel
theorem dX12_init_305 : decode cX12_init 305 = .ok (.putfield 45, 3) := by decide +kernel
theorem dX12_init_308 : decode cX12_init 308 = .ok (.aload_n 0, 1) := by decide +kernel
theorem dX12_init_309 : decode cX12_init 309 = .ok (.iconst 5, 1) := by decide +kernel
theorem dX12_init_310 : decode cX12_init 310 = .ok (.newarray .char, 2) := by decide +kernel
theorem dX12_init_312 : decode cX12_init 312 = .ok (.dup, 1) := by decide +kernel
theorem dX12_init_313 : decode cX12_init 313 = .ok (.iconst 0, 1) := by decide +kernel
theorem dX12_init_314 : decode cX12_init 314 = .ok (.bipush 99, 2) := by decide +kernel
theorem dX12_init_316 : decode cX12_init 316 = .ok (.castore, 1) := by decide +kernel
theorem dX12_init_317 : decode cX12_init 317 = .ok (.dup, 1) := by decide +kernel
theorem dX12_init_318 : decode cX12_init 318 = .ok (.iconst 1, 1) := by decide +kernel
theorem dX12_init_319 : decode cX12_init 319 = .ok (.bipush 111, 2) := by decide +kernel
theorem dX12_init_321 : decode cX12_init 321 = .ok (.castore, 1) := by decide +kernel
theorem dX12_init_322 : decode cX12_init 322 = .ok (.dup, 1) := by decide +kernel
theorem dX12_init_323 : decode cX12_init 323 = .ok (.iconst 2, 1) := by decide +kernel
theorem dX12_init_324 : decode cX12_init 324 = .ok (.bipush 115, 2) := by decide +kernel
theorem dX12_init_326 : decode cX12_init 326 = .ok (.castore, 1) := by decide +kernel
theorem dX12_init_327 : decode cX12_init 327 = .ok (.dup, 1) := by decide +kernel
theorem dX12_init_328 : decode cX12_init 328 = .ok (.iconst 3, 1) := by decide +kernel
theorem dX12_init_329 : decode cX12_init 329 = .ok (.bipush 116, 2) := by decide +kernel
theorem dX12_init_331 : decode cX12_init 331 = .ok (.castore, 1) := by decide +kernel
theorem dX12_init_332 : decode cX12_init 332 = .ok (.dup, 1) := by decide +kernel
theorem dX12_init_333 : decode cX12_init 333 = .ok (.iconst 4, 1) := by decide +kernel
theorem dX12_init_334 : decode cX12_init 334 = .ok (.bipush 115, 2) := by decide +kernel
theorem dX12_init_336 : decode cX12_init 336 = .ok (.castore, 1) := by decide +kernel
theorem dX12_init_337 : decode cX12_init 337 = .ok (.putfield 48, 3) := by decide +kernel
theorem dX12_init_340 : decode cX12_init 340 = .ok (.aload_n 0, 1) := by decide +kernel
theorem dX12_init_341 : decode cX12_init 341 = .ok (.iconst 5, 1) := by decide +kernel
theorem dX12_init_342 : decode cX12_init 342 = .ok (.newarray .char, 2) := by decide +kernel
theorem dX12_init_344 : decode cX12_init 344 = .ok (.dup, 1) := by decide +kernel
theorem dX12_init_345 : decode cX12_init 345 = .ok (.iconst 0, 1) := by decide +kernel
theorem dX12_init_346 : decode cX12_init 346 = .ok (.bipush 99, 2) := by decide +kernel
theorem dX12_init_348 : decode cX12_init 348 = .ok (.castore, 1) := by decide +kernel
theorem dX12_init_349 : decode cX12_init 349 = .ok (.dup, 1) := by decide +kernel
theorem dX12_init_350 : decode cX12_init 350 = .ok (.iconst 1, 1) := by decide +kernel
theorem dX12_init_351 : decode cX12_init 351 = .ok (.bipush 104, 2) := by decide +kernel
theorem dX12_init_353 : decode cX12_init 353 = .ok (.castore, 1) := by decide +kernel
theorem dX12_init_354 : decode cX12_init 354 = .ok (.dup, 1) := by decide +kernel
theorem dX12_init_355 : decode cX12_init 355 = .ok (.iconst 2, 1) := by decide +kernel
theorem dX12_init_356 : decode cX12_init 356 = .ok (.bipush 117, 2) := by decide +kernel
theorem dX12_init_358 : decode cX12_init 358 = .ok (.castore, 1) := by decide +kernel
theorem dX12_init_359 : decode cX12_init 359 = .ok (.dup, 1) := by decide +kernel
theorem dX12_init_360 : decode cX12_init 360 = .ok (.iconst 3, 1) := by decide +kernel
theorem dX12_init_361 : decode cX12_init 361 = .ok (.bipush 114, 2) := by decide +kernel
theorem dX12_init_363 : decode cX12_init 363 = .ok (.castore, 1) := by decide +kernel
theorem dX12_init_364 : decode cX12_init 364 = .ok (.dup, 1) := by decide +kernel
theorem dX12_init_365 : decode cX12_init 365 = .ok (.iconst 4, 1) := by decide +kernel
theorem dX12_init_366 : decode cX12_init 366 = .ok (.bipush 110, 2) := by decide +kernel
theorem dX12_init_368 : decode cX12_init 368 = .ok (.castore, 1) := by decide +kernel
theorem dX12_init_369 : decode cX12_init 369 = .ok (.putfield 51, 3) := by decide +kernel
set_option maxHeartbeats 4000000 in
set_option maxRecDepth 100000 in
theorem cM_2 {p : Program} {l : Launch} {e : Env} {R : Room} {s : State} {m : MethodId} {args : Array Value} {below : List Frame} {meth : Method} {c : Code} {Q : State → Prop} {D : va_G} {A : Nat → Prop} {ls : Array Slot} {h0 : Nat} {T : va_W} (hx : p.tables.exec = Jvm.exec) (hb : c.code = cX12_init) (ht : ∀ w ∈ lw_gd, w.before args s = true) (hown : s.vm.findClass RX12 = some m.cls) (hin : meth.name = "<init>") (hK : va_K D vwCl (TY D) s) (hA : ∀ q : Nat, s.heap.size ≤ q → A q) (hRc : 80 ≤ R.cells) (hRs : 35050 ≤ R.slots) (hl : lv_has ls 1 [(0, .ref h0)]) {fs : List Value} (hlen : fs.length = 116) {H : Heap} {locs : List Loc} (hP : va_P D vwCl ((h0, .inr (12, fs)) :: T) H) (hD : va_D A ((h0, .inr (12, fs)) :: T)) (hS : va_S A s.heap H locs)
    (kk : ∀ (q_12 : Nat) (q_10 : Nat) (fs' : List Value) (H : Heap) (locs : List Loc), fs' = ((fs.set 13 (.ref q_10)).set 14 (.ref q_12)) → va_P D vwCl ((h0, .inr (12, fs')) :: (q_12, .inl (D.1 14, 5, .inl (fun j => i2 (upZ (upZ (upZ (upZ (upZ (fun _ => 0) 0 99) 1 108) 2 111) 3 110) 4 101 j)))) :: (q_10, .inl (D.1 14, 6, .inl (fun j => i2 (upZ (upZ (upZ (upZ (upZ (upZ (fun _ => 0) 0 118) 1 111) 2 108) 3 117) 4 109) 5 101 j)))) :: T) H → va_D A ((h0, .inr (12, fs')) :: (q_12, .inl (D.1 14, 5, .inl (fun j => i2 (upZ (upZ (upZ (upZ (upZ (fun _ => 0) 0 99) 1 108) 2 111) 3 110) 4 101 j)))) :: (q_10, .inl (D.1 14, 6, .inl (fun j => i2 (upZ (upZ (upZ (upZ (upZ (upZ (fun _ => 0) 0 118) 1 111) 2 108) 3 117) 4 109) 5 101 j)))) :: T) → va_S A s.heap H locs → W p l e R s m args below meth c H locs 6 1627 Q (F0 m 161 ls [])) : W p l e R s m args below meth c H locs 4 1616 Q (F0 m 91 ls []) := by
  refine lv_aload_n hx hb dX12_init_91 rfl (lv_at hl 0 rfl) ?_
  refine lv_bipush (v := 6) hx hb dX12_init_92 (by decide) ?_
  refine va_newa (atype := .char) (a0 := (6, .inl (fun _ => 0))) (ty := .char) (N' := 6) hx hb (ht _ ac_char) rfl hK hP hD hS hA (fun _ => rfl) (by decide) (by decide) (by decide) (Nat.le_trans (Nat.le_of_ble_eq_true rfl) hRc) (Nat.le_trans (Nat.le_of_ble_eq_true rfl) hRs) dX12_init_94 (fun q_10 cA H hK2 hP hD hS => ?_)
  obtain rfl := z_cls_char hK hK2
  refine W.widen (k := 5) (n := 1622) (Nat.le_of_ble_eq_true rfl) (Nat.le_of_ble_eq_true rfl) ?_
  obtain ⟨hP, hD⟩ := z_rot hP hD
  have hP : va_P D vwCl ((h0, .inr (12, fs)) :: (q_10, .inl (D.1 14, 6, .inl (fun _ => i2 0))) :: T) H := hP
  have hD : va_D A ((h0, .inr (12, fs)) :: (q_10, .inl (D.1 14, 6, .inl (fun _ => i2 0))) :: T) := hD
  refine lv_dup hx hb dX12_init_96 rfl ?_
  refine lv_iconst (v := 0) hx hb dX12_init_97 (by decide) ?_
  refine lv_bipush (v := 118) hx hb dX12_init_98 (by decide) ?_
  refine va_cast hx hb hK hP hD hS 1 1 rfl rfl (z_in (by decide) (by decide)) dX12_init_100 (fun H locs hP hD hS => ?_)
  rw [c_i2 (F := fun _ => 0) (k := Int32.toNatClampNeg 0) (c := vp_nar .char 118) (v := 118) (by decide)] at hP hD
  have hP : va_P D vwCl ((h0, .inr (12, fs)) :: (q_10, .inl (D.1 14, 6, .inl (fun j => i2 (upZ (fun _ => 0) 0 118 j)))) :: T) H := hP
  have hD : va_D A ((h0, .inr (12, fs)) :: (q_10, .inl (D.1 14, 6, .inl (fun j => i2 (upZ (fun _ => 0) 0 118 j)))) :: T) := hD
  refine lv_dup hx hb dX12_init_101 rfl ?_
  refine lv_iconst (v := 1) hx hb dX12_init_102 (by decide) ?_
  refine lv_bipush (v := 111) hx hb dX12_init_103 (by decide) ?_
  refine va_cast hx hb hK hP hD hS 1 1 rfl rfl (z_in (by decide) (by decide)) dX12_init_105 (fun H locs hP hD hS => ?_)
  rw [c_i2 (F := upZ (fun _ => 0) 0 118) (k := Int32.toNatClampNeg 1) (c := vp_nar .char 111) (v := 111) (by decide)] at hP hD
  have hP : va_P D vwCl ((h0, .inr (12, fs)) :: (q_10, .inl (D.1 14, 6, .inl (fun j => i2 (upZ (upZ (fun _ => 0) 0 118) 1 111 j)))) :: T) H := hP
  have hD : va_D A ((h0, .inr (12, fs)) :: (q_10, .inl (D.1 14, 6, .inl (fun j => i2 (upZ (upZ (fun _ => 0) 0 118) 1 111 j)))) :: T) := hD
  refine lv_dup hx hb dX12_init_106 rfl ?_
  refine lv_iconst (v := 2) hx hb dX12_init_107 (by decide) ?_
  refine lv_bipush (v := 108) hx hb dX12_init_108 (by decide) ?_
  refine va_cast hx hb hK hP hD hS 1 1 rfl rfl (z_in (by decide) (by decide)) dX12_init_110 (fun H locs hP hD hS => ?_)
  rw [c_i2 (F := upZ (upZ (fun _ => 0) 0 118) 1 111) (k := Int32.toNatClampNeg 2) (c := vp_nar .char 108) (v := 108) (by decide)] at hP hD
  have hP : va_P D vwCl ((h0, .inr (12, fs)) :: (q_10, .inl (D.1 14, 6, .inl (fun j => i2 (upZ (upZ (upZ (fun _ => 0) 0 118) 1 111) 2 108 j)))) :: T) H := hP
  have hD : va_D A ((h0, .inr (12, fs)) :: (q_10, .inl (D.1 14, 6, .inl (fun j => i2 (upZ (upZ (upZ (fun _ => 0) 0 118) 1 111) 2 108 j)))) :: T) := hD
  refine lv_dup hx hb dX12_init_111 rfl ?_
  refine lv_iconst (v := 3) hx hb dX12_init_112 (by decide) ?_
  refine lv_bipush (v := 117) hx hb dX12_init_113 (by decide) ?_
  refine va_cast hx hb hK hP hD hS 1 1 rfl rfl (z_in (by decide) (by decide)) dX12_init_115 (fun H locs hP hD hS => ?_)
  rw [c_i2 (F := upZ (upZ (upZ (fun _ => 0) 0 118) 1 111) 2 108) (k := Int32.toNatClampNeg 3) (c := vp_nar .char 117) (v := 117) (by decide)] at hP hD
  have hP : va_P D vwCl ((h0, .inr (12, fs)) :: (q_10, .inl (D.1 14, 6, .inl (fun j => i2 (upZ (upZ (upZ (upZ (fun _ => 0) 0 118) 1 111) 2 108) 3 117 j)))) :: T) H := hP
  have hD : va_D A ((h0, .inr (12, fs)) :: (q_10, .inl (D.1 14, 6, .inl (fun j => i2 (upZ (upZ (upZ (upZ (fun _ => 0) 0 118) 1 111) 2 108) 3 117 j)))) :: T) := hD
  refine lv_dup hx hb dX12_init_116 rfl ?_
  refine lv_iconst (v := 4) hx hb dX12_init_117 (by decide) ?_
  refine lv_bipush (v := 109) hx hb dX12_init_118 (by decide) ?_
  refine va_cast hx hb hK hP hD hS 1 1 rfl rfl (z_in (by decide) (by decide)) dX12_init_120 (fun H locs hP hD hS => ?_)
  rw [c_i2 (F := upZ (upZ (upZ (upZ (fun _ => 0) 0 118) 1 111) 2 108) 3 117) (k := Int32.toNatClampNeg 4) (c := vp_nar .char 109) (v := 109) (by decide)] at hP hD
  have hP : va_P D vwCl ((h0, .inr (12, fs)) :: (q_10, .inl (D.1 14, 6, .inl (fun j => i2 (upZ (upZ (upZ (upZ (upZ (fun _ => 0) 0 118) 1 111) 2 108) 3 117) 4 109 j)))) :: T) H := hP
  have hD : va_D A ((h0, .inr (12, fs)) :: (q_10, .inl (D.1 14, 6, .inl (fun j => i2 (upZ (upZ (upZ (upZ (upZ (fun _ => 0) 0 118) 1 111) 2 108) 3 117) 4 109 j)))) :: T) := hD
  refine lv_dup hx hb dX12_init_121 rfl ?_
  refine lv_iconst (v := 5) hx hb dX12_init_122 (by decide) ?_
  refine lv_bipush (v := 101) hx hb dX12_init_123 (by decide) ?_
  refine va_cast hx hb hK hP hD hS 1 1 rfl rfl (z_in (by decide) (by decide)) dX12_init_125 (fun H locs hP hD hS => ?_)
  rw [c_i2 (F := upZ (upZ (upZ (upZ (upZ (fun _ => 0) 0 118) 1 111) 2 108) 3 117) 4 109) (k := Int32.toNatClampNeg 5) (c := vp_nar .char 101) (v := 101) (by decide)] at hP hD
  have hP : va_P D vwCl ((h0, .inr (12, fs)) :: (q_10, .inl (D.1 14, 6, .inl (fun j => i2 (upZ (upZ (upZ (upZ (upZ (upZ (fun _ => 0) 0 118) 1 111) 2 108) 3 117) 4 109) 5 101 j)))) :: T) H := hP
  have hD : va_D A ((h0, .inr (12, fs)) :: (q_10, .inl (D.1 14, 6, .inl (fun j => i2 (upZ (upZ (upZ (upZ (upZ (upZ (fun _ => 0) 0 118) 1 111) 2 108) 3 117) 4 109) 5 101 j)))) :: T) := hD
  refine va_putF (D := D) (ci := 12) (v := .ref q_10) (ty := .array .char) (C := RX12) (T := TX12) (N := 116) hx hb ht inX12 tyX12 tyX12_ok nmX12 hown hK hP hD hS 0 rfl rfl 13 (by decide) (ht (.fieldLink RX12 27 "CloneVolumesModel" "volumeWord" "[C") fl_X12_27) (fun _ h9 => h9) rfl hin rfl (by decide +kernel) rfl rfl (by rw [hlen]; decide) dX12_init_126 (fun H locs hP hD hS => ?_)
  have hP : va_P D vwCl ((h0, .inr (12, (fs.set 13 (.ref q_10)))) :: (q_10, .inl (D.1 14, 6, .inl (fun j => i2 (upZ (upZ (upZ (upZ (upZ (upZ (fun _ => 0) 0 118) 1 111) 2 108) 3 117) 4 109) 5 101 j)))) :: T) H := hP
  have hD : va_D A ((h0, .inr (12, (fs.set 13 (.ref q_10)))) :: (q_10, .inl (D.1 14, 6, .inl (fun j => i2 (upZ (upZ (upZ (upZ (upZ (upZ (fun _ => 0) 0 118) 1 111) 2 108) 3 117) 4 109) 5 101 j)))) :: T) := hD
  generalize hfs_11 : fs.set 13 (.ref q_10) = fs_11 at hP hD
  have hlen : fs_11.length = 116 := by rw [← hfs_11, List.length_set]; exact hlen
  have hP : va_P D vwCl ((h0, .inr (12, fs_11)) :: (q_10, .inl (D.1 14, 6, .inl (fun j => i2 (upZ (upZ (upZ (upZ (upZ (upZ (fun _ => 0) 0 118) 1 111) 2 108) 3 117) 4 109) 5 101 j)))) :: T) H := hP
  have hD : va_D A ((h0, .inr (12, fs_11)) :: (q_10, .inl (D.1 14, 6, .inl (fun j => i2 (upZ (upZ (upZ (upZ (upZ (upZ (fun _ => 0) 0 118) 1 111) 2 108) 3 117) 4 109) 5 101 j)))) :: T) := hD
  refine lv_aload_n hx hb dX12_init_129 rfl (lv_at hl 0 rfl) ?_
  refine lv_iconst (v := 5) hx hb dX12_init_130 (by decide) ?_
  refine va_newa (atype := .char) (a0 := (5, .inl (fun _ => 0))) (ty := .char) (N' := 5) hx hb (ht _ ac_char) rfl hK hP hD hS hA (fun _ => rfl) (by decide) (by decide) (by decide) (Nat.le_trans (Nat.le_of_ble_eq_true rfl) hRc) (Nat.le_trans (Nat.le_of_ble_eq_true rfl) hRs) dX12_init_131 (fun q_12 cA H hK2 hP hD hS => ?_)
  obtain rfl := z_cls_char hK hK2
  refine W.widen (k := 6) (n := 1627) (Nat.le_of_ble_eq_true rfl) (Nat.le_of_ble_eq_true rfl) ?_
  obtain ⟨hP, hD⟩ := z_rot hP hD
  have hP : va_P D vwCl ((h0, .inr (12, fs_11)) :: (q_12, .inl (D.1 14, 5, .inl (fun _ => i2 0))) :: (q_10, .inl (D.1 14, 6, .inl (fun j => i2 (upZ (upZ (upZ (upZ (upZ (upZ (fun _ => 0) 0 118) 1 111) 2 108) 3 117) 4 109) 5 101 j)))) :: T) H := hP
  have hD : va_D A ((h0, .inr (12, fs_11)) :: (q_12, .inl (D.1 14, 5, .inl (fun _ => i2 0))) :: (q_10, .inl (D.1 14, 6, .inl (fun j => i2 (upZ (upZ (upZ (upZ (upZ (upZ (fun _ => 0) 0 118) 1 111) 2 108) 3 117) 4 109) 5 101 j)))) :: T) := hD
  refine lv_dup hx hb dX12_init_133 rfl ?_
  refine lv_iconst (v := 0) hx hb dX12_init_134 (by decide) ?_
  refine lv_bipush (v := 99) hx hb dX12_init_135 (by decide) ?_
  refine va_cast hx hb hK hP hD hS 1 1 rfl rfl (z_in (by decide) (by decide)) dX12_init_137 (fun H locs hP hD hS => ?_)
  rw [c_i2 (F := fun _ => 0) (k := Int32.toNatClampNeg 0) (c := vp_nar .char 99) (v := 99) (by decide)] at hP hD
  have hP : va_P D vwCl ((h0, .inr (12, fs_11)) :: (q_12, .inl (D.1 14, 5, .inl (fun j => i2 (upZ (fun _ => 0) 0 99 j)))) :: (q_10, .inl (D.1 14, 6, .inl (fun j => i2 (upZ (upZ (upZ (upZ (upZ (upZ (fun _ => 0) 0 118) 1 111) 2 108) 3 117) 4 109) 5 101 j)))) :: T) H := hP
  have hD : va_D A ((h0, .inr (12, fs_11)) :: (q_12, .inl (D.1 14, 5, .inl (fun j => i2 (upZ (fun _ => 0) 0 99 j)))) :: (q_10, .inl (D.1 14, 6, .inl (fun j => i2 (upZ (upZ (upZ (upZ (upZ (upZ (fun _ => 0) 0 118) 1 111) 2 108) 3 117) 4 109) 5 101 j)))) :: T) := hD
  refine lv_dup hx hb dX12_init_138 rfl ?_
  refine lv_iconst (v := 1) hx hb dX12_init_139 (by decide) ?_
  refine lv_bipush (v := 108) hx hb dX12_init_140 (by decide) ?_
  refine va_cast hx hb hK hP hD hS 1 1 rfl rfl (z_in (by decide) (by decide)) dX12_init_142 (fun H locs hP hD hS => ?_)
  rw [c_i2 (F := upZ (fun _ => 0) 0 99) (k := Int32.toNatClampNeg 1) (c := vp_nar .char 108) (v := 108) (by decide)] at hP hD
  have hP : va_P D vwCl ((h0, .inr (12, fs_11)) :: (q_12, .inl (D.1 14, 5, .inl (fun j => i2 (upZ (upZ (fun _ => 0) 0 99) 1 108 j)))) :: (q_10, .inl (D.1 14, 6, .inl (fun j => i2 (upZ (upZ (upZ (upZ (upZ (upZ (fun _ => 0) 0 118) 1 111) 2 108) 3 117) 4 109) 5 101 j)))) :: T) H := hP
  have hD : va_D A ((h0, .inr (12, fs_11)) :: (q_12, .inl (D.1 14, 5, .inl (fun j => i2 (upZ (upZ (fun _ => 0) 0 99) 1 108 j)))) :: (q_10, .inl (D.1 14, 6, .inl (fun j => i2 (upZ (upZ (upZ (upZ (upZ (upZ (fun _ => 0) 0 118) 1 111) 2 108) 3 117) 4 109) 5 101 j)))) :: T) := hD
  refine lv_dup hx hb dX12_init_143 rfl ?_
  refine lv_iconst (v := 2) hx hb dX12_init_144 (by decide) ?_
  refine lv_bipush (v := 111) hx hb dX12_init_145 (by decide) ?_
  refine va_cast hx hb hK hP hD hS 1 1 rfl rfl (z_in (by decide) (by decide)) dX12_init_147 (fun H locs hP hD hS => ?_)
  rw [c_i2 (F := upZ (upZ (fun _ => 0) 0 99) 1 108) (k := Int32.toNatClampNeg 2) (c := vp_nar .char 111) (v := 111) (by decide)] at hP hD
  have hP : va_P D vwCl ((h0, .inr (12, fs_11)) :: (q_12, .inl (D.1 14, 5, .inl (fun j => i2 (upZ (upZ (upZ (fun _ => 0) 0 99) 1 108) 2 111 j)))) :: (q_10, .inl (D.1 14, 6, .inl (fun j => i2 (upZ (upZ (upZ (upZ (upZ (upZ (fun _ => 0) 0 118) 1 111) 2 108) 3 117) 4 109) 5 101 j)))) :: T) H := hP
  have hD : va_D A ((h0, .inr (12, fs_11)) :: (q_12, .inl (D.1 14, 5, .inl (fun j => i2 (upZ (upZ (upZ (fun _ => 0) 0 99) 1 108) 2 111 j)))) :: (q_10, .inl (D.1 14, 6, .inl (fun j => i2 (upZ (upZ (upZ (upZ (upZ (upZ (fun _ => 0) 0 118) 1 111) 2 108) 3 117) 4 109) 5 101 j)))) :: T) := hD
  refine lv_dup hx hb dX12_init_148 rfl ?_
  refine lv_iconst (v := 3) hx hb dX12_init_149 (by decide) ?_
  refine lv_bipush (v := 110) hx hb dX12_init_150 (by decide) ?_
  refine va_cast hx hb hK hP hD hS 1 1 rfl rfl (z_in (by decide) (by decide)) dX12_init_152 (fun H locs hP hD hS => ?_)
  rw [c_i2 (F := upZ (upZ (upZ (fun _ => 0) 0 99) 1 108) 2 111) (k := Int32.toNatClampNeg 3) (c := vp_nar .char 110) (v := 110) (by decide)] at hP hD
  have hP : va_P D vwCl ((h0, .inr (12, fs_11)) :: (q_12, .inl (D.1 14, 5, .inl (fun j => i2 (upZ (upZ (upZ (upZ (fun _ => 0) 0 99) 1 108) 2 111) 3 110 j)))) :: (q_10, .inl (D.1 14, 6, .inl (fun j => i2 (upZ (upZ (upZ (upZ (upZ (upZ (fun _ => 0) 0 118) 1 111) 2 108) 3 117) 4 109) 5 101 j)))) :: T) H := hP
  have hD : va_D A ((h0, .inr (12, fs_11)) :: (q_12, .inl (D.1 14, 5, .inl (fun j => i2 (upZ (upZ (upZ (upZ (fun _ => 0) 0 99) 1 108) 2 111) 3 110 j)))) :: (q_10, .inl (D.1 14, 6, .inl (fun j => i2 (upZ (upZ (upZ (upZ (upZ (upZ (fun _ => 0) 0 118) 1 111) 2 108) 3 117) 4 109) 5 101 j)))) :: T) := hD
  refine lv_dup hx hb dX12_init_153 rfl ?_
  refine lv_iconst (v := 4) hx hb dX12_init_154 (by decide) ?_
  refine lv_bipush (v := 101) hx hb dX12_init_155 (by decide) ?_
  refine va_cast hx hb hK hP hD hS 1 1 rfl rfl (z_in (by decide) (by decide)) dX12_init_157 (fun H locs hP hD hS => ?_)
  rw [c_i2 (F := upZ (upZ (upZ (upZ (fun _ => 0) 0 99) 1 108) 2 111) 3 110) (k := Int32.toNatClampNeg 4) (c := vp_nar .char 101) (v := 101) (by decide)] at hP hD
  have hP : va_P D vwCl ((h0, .inr (12, fs_11)) :: (q_12, .inl (D.1 14, 5, .inl (fun j => i2 (upZ (upZ (upZ (upZ (upZ (fun _ => 0) 0 99) 1 108) 2 111) 3 110) 4 101 j)))) :: (q_10, .inl (D.1 14, 6, .inl (fun j => i2 (upZ (upZ (upZ (upZ (upZ (upZ (fun _ => 0) 0 118) 1 111) 2 108) 3 117) 4 109) 5 101 j)))) :: T) H := hP
  have hD : va_D A ((h0, .inr (12, fs_11)) :: (q_12, .inl (D.1 14, 5, .inl (fun j => i2 (upZ (upZ (upZ (upZ (upZ (fun _ => 0) 0 99) 1 108) 2 111) 3 110) 4 101 j)))) :: (q_10, .inl (D.1 14, 6, .inl (fun j => i2 (upZ (upZ (upZ (upZ (upZ (upZ (fun _ => 0) 0 118) 1 111) 2 108) 3 117) 4 109) 5 101 j)))) :: T) := hD
  refine va_putF (D := D) (ci := 12) (v := .ref q_12) (ty := .array .char) (C := RX12) (T := TX12) (N := 116) hx hb ht inX12 tyX12 tyX12_ok nmX12 hown hK hP hD hS 0 rfl rfl 14 (by decide) (ht (.fieldLink RX12 30 "CloneVolumesModel" "cloneWord" "[C") fl_X12_30) (fun _ h9 => h9) rfl hin rfl (by decide +kernel) rfl rfl (by rw [hlen]; decide) dX12_init_158 (fun H locs hP hD hS => ?_)
  have hP : va_P D vwCl ((h0, .inr (12, (fs_11.set 14 (.ref q_12)))) :: (q_12, .inl (D.1 14, 5, .inl (fun j => i2 (upZ (upZ (upZ (upZ (upZ (fun _ => 0) 0 99) 1 108) 2 111) 3 110) 4 101 j)))) :: (q_10, .inl (D.1 14, 6, .inl (fun j => i2 (upZ (upZ (upZ (upZ (upZ (upZ (fun _ => 0) 0 118) 1 111) 2 108) 3 117) 4 109) 5 101 j)))) :: T) H := hP
  have hD : va_D A ((h0, .inr (12, (fs_11.set 14 (.ref q_12)))) :: (q_12, .inl (D.1 14, 5, .inl (fun j => i2 (upZ (upZ (upZ (upZ (upZ (fun _ => 0) 0 99) 1 108) 2 111) 3 110) 4 101 j)))) :: (q_10, .inl (D.1 14, 6, .inl (fun j => i2 (upZ (upZ (upZ (upZ (upZ (upZ (fun _ => 0) 0 118) 1 111) 2 108) 3 117) 4 109) 5 101 j)))) :: T) := hD
  generalize hfs_13 : fs_11.set 14 (.ref q_12) = fs_13 at hP hD
  have hlen : fs_13.length = 116 := by rw [← hfs_13, List.length_set]; exact hlen
  have hP : va_P D vwCl ((h0, .inr (12, fs_13)) :: (q_12, .inl (D.1 14, 5, .inl (fun j => i2 (upZ (upZ (upZ (upZ (upZ (fun _ => 0) 0 99) 1 108) 2 111) 3 110) 4 101 j)))) :: (q_10, .inl (D.1 14, 6, .inl (fun j => i2 (upZ (upZ (upZ (upZ (upZ (upZ (fun _ => 0) 0 118) 1 111) 2 108) 3 117) 4 109) 5 101 j)))) :: T) H := hP
  have hD : va_D A ((h0, .inr (12, fs_13)) :: (q_12, .inl (D.1 14, 5, .inl (fun j => i2 (upZ (upZ (upZ (upZ (upZ (fun _ => 0) 0 99) 1 108) 2 111) 3 110) 4 101 j)))) :: (q_10, .inl (D.1 14, 6, .inl (fun j => i2 (upZ (upZ (upZ (upZ (upZ (upZ (fun _ => 0) 0 118) 1 111) 2 108) 3 117) 4 109) 5 101 j)))) :: T) := hD
  exact kk q_12 q_10 fs_13 _ _ (by rw [← hfs_13, ← hfs_11]) hP hD hS
set_option maxHeartbeats 4000000 in
set_option maxRecDepth 100000 in
theorem cM_3 {p : Program} {l : Launch} {e : Env} {R : Room} {s : State} {m : MethodId} {args : Array Value} {below : List Frame} {meth : Method} {c : Code} {Q : State → Prop} {D : va_G} {A : Nat → Prop} {ls : Array Slot} {h0 : Nat} {T : va_W} (hx : p.tables.exec = Jvm.exec) (hb : c.code = cX12_init) (ht : ∀ w ∈ lw_gd, w.before args s = true) (hown : s.vm.findClass RX12 = some m.cls) (hin : meth.name = "<init>") (hK : va_K D vwCl (TY D) s) (hA : ∀ q : Nat, s.heap.size ≤ q → A q) (hRc : 80 ≤ R.cells) (hRs : 35050 ≤ R.slots) (hl : lv_has ls 1 [(0, .ref h0)]) {fs : List Value} (hlen : fs.length = 116) {H : Heap} {locs : List Loc} (hP : va_P D vwCl ((h0, .inr (12, fs)) :: T) H) (hD : va_D A ((h0, .inr (12, fs)) :: T)) (hS : va_S A s.heap H locs)
    (kk : ∀ (q_18 : Nat) (q_16 : Nat) (q_14 : Nat) (fs' : List Value) (H : Heap) (locs : List Loc), fs' = (((fs.set 15 (.ref q_14)).set 16 (.ref q_16)).set 17 (.ref q_18)) → va_P D vwCl ((h0, .inr (12, fs')) :: (q_18, .inl (D.1 14, 6, .inl (fun j => i2 (upZ (upZ (upZ (upZ (upZ (upZ (fun _ => 0) 0 114) 1 101) 2 109) 3 111) 4 118) 5 101 j)))) :: (q_16, .inl (D.1 14, 3, .inl (fun j => i2 (upZ (upZ (upZ (fun _ => 0) 0 112) 1 117) 2 116 j)))) :: (q_14, .inl (D.1 14, 2, .inl (fun j => i2 (upZ (upZ (fun _ => 0) 0 111) 1 102 j)))) :: T) H → va_D A ((h0, .inr (12, fs')) :: (q_18, .inl (D.1 14, 6, .inl (fun j => i2 (upZ (upZ (upZ (upZ (upZ (upZ (fun _ => 0) 0 114) 1 101) 2 109) 3 111) 4 118) 5 101 j)))) :: (q_16, .inl (D.1 14, 3, .inl (fun j => i2 (upZ (upZ (upZ (fun _ => 0) 0 112) 1 117) 2 116 j)))) :: (q_14, .inl (D.1 14, 2, .inl (fun j => i2 (upZ (upZ (fun _ => 0) 0 111) 1 102 j)))) :: T) → va_S A s.heap H locs → W p l e R s m args below meth c H locs 9 1638 Q (F0 m 238 ls [])) : W p l e R s m args below meth c H locs 6 1627 Q (F0 m 161 ls []) := by
  refine lv_aload_n hx hb dX12_init_161 rfl (lv_at hl 0 rfl) ?_
  refine lv_iconst (v := 2) hx hb dX12_init_162 (by decide) ?_
  refine va_newa (atype := .char) (a0 := (2, .inl (fun _ => 0))) (ty := .char) (N' := 2) hx hb (ht _ ac_char) rfl hK hP hD hS hA (fun _ => rfl) (by decide) (by decide) (by decide) (Nat.le_trans (Nat.le_of_ble_eq_true rfl) hRc) (Nat.le_trans (Nat.le_of_ble_eq_true rfl) hRs) dX12_init_163 (fun q_14 cA H hK2 hP hD hS => ?_)
  obtain rfl := z_cls_char hK hK2
  refine W.widen (k := 7) (n := 1629) (Nat.le_of_ble_eq_true rfl) (Nat.le_of_ble_eq_true rfl) ?_
  obtain ⟨hP, hD⟩ := z_rot hP hD
  have hP : va_P D vwCl ((h0, .inr (12, fs)) :: (q_14, .inl (D.1 14, 2, .inl (fun _ => i2 0))) :: T) H := hP
  have hD : va_D A ((h0, .inr (12, fs)) :: (q_14, .inl (D.1 14, 2, .inl (fun _ => i2 0))) :: T) := hD
  refine lv_dup hx hb dX12_init_165 rfl ?_
  refine lv_iconst (v := 0) hx hb dX12_init_166 (by decide) ?_
  refine lv_bipush (v := 111) hx hb dX12_init_167 (by decide) ?_
  refine va_cast hx hb hK hP hD hS 1 1 rfl rfl (z_in (by decide) (by decide)) dX12_init_169 (fun H locs hP hD hS => ?_)
  rw [c_i2 (F := fun _ => 0) (k := Int32.toNatClampNeg 0) (c := vp_nar .char 111) (v := 111) (by decide)] at hP hD
  have hP : va_P D vwCl ((h0, .inr (12, fs)) :: (q_14, .inl (D.1 14, 2, .inl (fun j => i2 (upZ (fun _ => 0) 0 111 j)))) :: T) H := hP
  have hD : va_D A ((h0, .inr (12, fs)) :: (q_14, .inl (D.1 14, 2, .inl (fun j => i2 (upZ (fun _ => 0) 0 111 j)))) :: T) := hD
  refine lv_dup hx hb dX12_init_170 rfl ?_
  refine lv_iconst (v := 1) hx hb dX12_init_171 (by decide) ?_
  refine lv_bipush (v := 102) hx hb dX12_init_172 (by decide) ?_
  refine va_cast hx hb hK hP hD hS 1 1 rfl rfl (z_in (by decide) (by decide)) dX12_init_174 (fun H locs hP hD hS => ?_)
  rw [c_i2 (F := upZ (fun _ => 0) 0 111) (k := Int32.toNatClampNeg 1) (c := vp_nar .char 102) (v := 102) (by decide)] at hP hD
  have hP : va_P D vwCl ((h0, .inr (12, fs)) :: (q_14, .inl (D.1 14, 2, .inl (fun j => i2 (upZ (upZ (fun _ => 0) 0 111) 1 102 j)))) :: T) H := hP
  have hD : va_D A ((h0, .inr (12, fs)) :: (q_14, .inl (D.1 14, 2, .inl (fun j => i2 (upZ (upZ (fun _ => 0) 0 111) 1 102 j)))) :: T) := hD
  refine va_putF (D := D) (ci := 12) (v := .ref q_14) (ty := .array .char) (C := RX12) (T := TX12) (N := 116) hx hb ht inX12 tyX12 tyX12_ok nmX12 hown hK hP hD hS 0 rfl rfl 15 (by decide) (ht (.fieldLink RX12 33 "CloneVolumesModel" "ofWord" "[C") fl_X12_33) (fun _ h9 => h9) rfl hin rfl (by decide +kernel) rfl rfl (by rw [hlen]; decide) dX12_init_175 (fun H locs hP hD hS => ?_)
  have hP : va_P D vwCl ((h0, .inr (12, (fs.set 15 (.ref q_14)))) :: (q_14, .inl (D.1 14, 2, .inl (fun j => i2 (upZ (upZ (fun _ => 0) 0 111) 1 102 j)))) :: T) H := hP
  have hD : va_D A ((h0, .inr (12, (fs.set 15 (.ref q_14)))) :: (q_14, .inl (D.1 14, 2, .inl (fun j => i2 (upZ (upZ (fun _ => 0) 0 111) 1 102 j)))) :: T) := hD
  generalize hfs_15 : fs.set 15 (.ref q_14) = fs_15 at hP hD
  have hlen : fs_15.length = 116 := by rw [← hfs_15, List.length_set]; exact hlen
  have hP : va_P D vwCl ((h0, .inr (12, fs_15)) :: (q_14, .inl (D.1 14, 2, .inl (fun j => i2 (upZ (upZ (fun _ => 0) 0 111) 1 102 j)))) :: T) H := hP
  have hD : va_D A ((h0, .inr (12, fs_15)) :: (q_14, .inl (D.1 14, 2, .inl (fun j => i2 (upZ (upZ (fun _ => 0) 0 111) 1 102 j)))) :: T) := hD
  refine lv_aload_n hx hb dX12_init_178 rfl (lv_at hl 0 rfl) ?_
  refine lv_iconst (v := 3) hx hb dX12_init_179 (by decide) ?_
  refine va_newa (atype := .char) (a0 := (3, .inl (fun _ => 0))) (ty := .char) (N' := 3) hx hb (ht _ ac_char) rfl hK hP hD hS hA (fun _ => rfl) (by decide) (by decide) (by decide) (Nat.le_trans (Nat.le_of_ble_eq_true rfl) hRc) (Nat.le_trans (Nat.le_of_ble_eq_true rfl) hRs) dX12_init_180 (fun q_16 cA H hK2 hP hD hS => ?_)
  obtain rfl := z_cls_char hK hK2
  refine W.widen (k := 8) (n := 1632) (Nat.le_of_ble_eq_true rfl) (Nat.le_of_ble_eq_true rfl) ?_
  obtain ⟨hP, hD⟩ := z_rot hP hD
  have hP : va_P D vwCl ((h0, .inr (12, fs_15)) :: (q_16, .inl (D.1 14, 3, .inl (fun _ => i2 0))) :: (q_14, .inl (D.1 14, 2, .inl (fun j => i2 (upZ (upZ (fun _ => 0) 0 111) 1 102 j)))) :: T) H := hP
  have hD : va_D A ((h0, .inr (12, fs_15)) :: (q_16, .inl (D.1 14, 3, .inl (fun _ => i2 0))) :: (q_14, .inl (D.1 14, 2, .inl (fun j => i2 (upZ (upZ (fun _ => 0) 0 111) 1 102 j)))) :: T) := hD
  refine lv_dup hx hb dX12_init_182 rfl ?_
  refine lv_iconst (v := 0) hx hb dX12_init_183 (by decide) ?_
  refine lv_bipush (v := 112) hx hb dX12_init_184 (by decide) ?_
  refine va_cast hx hb hK hP hD hS 1 1 rfl rfl (z_in (by decide) (by decide)) dX12_init_186 (fun H locs hP hD hS => ?_)
  rw [c_i2 (F := fun _ => 0) (k := Int32.toNatClampNeg 0) (c := vp_nar .char 112) (v := 112) (by decide)] at hP hD
  have hP : va_P D vwCl ((h0, .inr (12, fs_15)) :: (q_16, .inl (D.1 14, 3, .inl (fun j => i2 (upZ (fun _ => 0) 0 112 j)))) :: (q_14, .inl (D.1 14, 2, .inl (fun j => i2 (upZ (upZ (fun _ => 0) 0 111) 1 102 j)))) :: T) H := hP
  have hD : va_D A ((h0, .inr (12, fs_15)) :: (q_16, .inl (D.1 14, 3, .inl (fun j => i2 (upZ (fun _ => 0) 0 112 j)))) :: (q_14, .inl (D.1 14, 2, .inl (fun j => i2 (upZ (upZ (fun _ => 0) 0 111) 1 102 j)))) :: T) := hD
  refine lv_dup hx hb dX12_init_187 rfl ?_
  refine lv_iconst (v := 1) hx hb dX12_init_188 (by decide) ?_
  refine lv_bipush (v := 117) hx hb dX12_init_189 (by decide) ?_
  refine va_cast hx hb hK hP hD hS 1 1 rfl rfl (z_in (by decide) (by decide)) dX12_init_191 (fun H locs hP hD hS => ?_)
  rw [c_i2 (F := upZ (fun _ => 0) 0 112) (k := Int32.toNatClampNeg 1) (c := vp_nar .char 117) (v := 117) (by decide)] at hP hD
  have hP : va_P D vwCl ((h0, .inr (12, fs_15)) :: (q_16, .inl (D.1 14, 3, .inl (fun j => i2 (upZ (upZ (fun _ => 0) 0 112) 1 117 j)))) :: (q_14, .inl (D.1 14, 2, .inl (fun j => i2 (upZ (upZ (fun _ => 0) 0 111) 1 102 j)))) :: T) H := hP
  have hD : va_D A ((h0, .inr (12, fs_15)) :: (q_16, .inl (D.1 14, 3, .inl (fun j => i2 (upZ (upZ (fun _ => 0) 0 112) 1 117 j)))) :: (q_14, .inl (D.1 14, 2, .inl (fun j => i2 (upZ (upZ (fun _ => 0) 0 111) 1 102 j)))) :: T) := hD
  refine lv_dup hx hb dX12_init_192 rfl ?_
  refine lv_iconst (v := 2) hx hb dX12_init_193 (by decide) ?_
  refine lv_bipush (v := 116) hx hb dX12_init_194 (by decide) ?_
  refine va_cast hx hb hK hP hD hS 1 1 rfl rfl (z_in (by decide) (by decide)) dX12_init_196 (fun H locs hP hD hS => ?_)
  rw [c_i2 (F := upZ (upZ (fun _ => 0) 0 112) 1 117) (k := Int32.toNatClampNeg 2) (c := vp_nar .char 116) (v := 116) (by decide)] at hP hD
  have hP : va_P D vwCl ((h0, .inr (12, fs_15)) :: (q_16, .inl (D.1 14, 3, .inl (fun j => i2 (upZ (upZ (upZ (fun _ => 0) 0 112) 1 117) 2 116 j)))) :: (q_14, .inl (D.1 14, 2, .inl (fun j => i2 (upZ (upZ (fun _ => 0) 0 111) 1 102 j)))) :: T) H := hP
  have hD : va_D A ((h0, .inr (12, fs_15)) :: (q_16, .inl (D.1 14, 3, .inl (fun j => i2 (upZ (upZ (upZ (fun _ => 0) 0 112) 1 117) 2 116 j)))) :: (q_14, .inl (D.1 14, 2, .inl (fun j => i2 (upZ (upZ (fun _ => 0) 0 111) 1 102 j)))) :: T) := hD
  refine va_putF (D := D) (ci := 12) (v := .ref q_16) (ty := .array .char) (C := RX12) (T := TX12) (N := 116) hx hb ht inX12 tyX12 tyX12_ok nmX12 hown hK hP hD hS 0 rfl rfl 16 (by decide) (ht (.fieldLink RX12 36 "CloneVolumesModel" "putWord" "[C") fl_X12_36) (fun _ h9 => h9) rfl hin rfl (by decide +kernel) rfl rfl (by rw [hlen]; decide) dX12_init_197 (fun H locs hP hD hS => ?_)
  have hP : va_P D vwCl ((h0, .inr (12, (fs_15.set 16 (.ref q_16)))) :: (q_16, .inl (D.1 14, 3, .inl (fun j => i2 (upZ (upZ (upZ (fun _ => 0) 0 112) 1 117) 2 116 j)))) :: (q_14, .inl (D.1 14, 2, .inl (fun j => i2 (upZ (upZ (fun _ => 0) 0 111) 1 102 j)))) :: T) H := hP
  have hD : va_D A ((h0, .inr (12, (fs_15.set 16 (.ref q_16)))) :: (q_16, .inl (D.1 14, 3, .inl (fun j => i2 (upZ (upZ (upZ (fun _ => 0) 0 112) 1 117) 2 116 j)))) :: (q_14, .inl (D.1 14, 2, .inl (fun j => i2 (upZ (upZ (fun _ => 0) 0 111) 1 102 j)))) :: T) := hD
  generalize hfs_17 : fs_15.set 16 (.ref q_16) = fs_17 at hP hD
  have hlen : fs_17.length = 116 := by rw [← hfs_17, List.length_set]; exact hlen
  have hP : va_P D vwCl ((h0, .inr (12, fs_17)) :: (q_16, .inl (D.1 14, 3, .inl (fun j => i2 (upZ (upZ (upZ (fun _ => 0) 0 112) 1 117) 2 116 j)))) :: (q_14, .inl (D.1 14, 2, .inl (fun j => i2 (upZ (upZ (fun _ => 0) 0 111) 1 102 j)))) :: T) H := hP
  have hD : va_D A ((h0, .inr (12, fs_17)) :: (q_16, .inl (D.1 14, 3, .inl (fun j => i2 (upZ (upZ (upZ (fun _ => 0) 0 112) 1 117) 2 116 j)))) :: (q_14, .inl (D.1 14, 2, .inl (fun j => i2 (upZ (upZ (fun _ => 0) 0 111) 1 102 j)))) :: T) := hD
  refine lv_aload_n hx hb dX12_init_200 rfl (lv_at hl 0 rfl) ?_
  refine lv_bipush (v := 6) hx hb dX12_init_201 (by decide) ?_
  refine va_newa (atype := .char) (a0 := (6, .inl (fun _ => 0))) (ty := .char) (N' := 6) hx hb (ht _ ac_char) rfl hK hP hD hS hA (fun _ => rfl) (by decide) (by decide) (by decide) (Nat.le_trans (Nat.le_of_ble_eq_true rfl) hRc) (Nat.le_trans (Nat.le_of_ble_eq_true rfl) hRs) dX12_init_203 (fun q_18 cA H hK2 hP hD hS => ?_)
  obtain rfl := z_cls_char hK hK2
  refine W.widen (k := 9) (n := 1638) (Nat.le_of_ble_eq_true rfl) (Nat.le_of_ble_eq_true rfl) ?_
  obtain ⟨hP, hD⟩ := z_rot hP hD
  have hP : va_P D vwCl ((h0, .inr (12, fs_17)) :: (q_18, .inl (D.1 14, 6, .inl (fun _ => i2 0))) :: (q_16, .inl (D.1 14, 3, .inl (fun j => i2 (upZ (upZ (upZ (fun _ => 0) 0 112) 1 117) 2 116 j)))) :: (q_14, .inl (D.1 14, 2, .inl (fun j => i2 (upZ (upZ (fun _ => 0) 0 111) 1 102 j)))) :: T) H := hP
  have hD : va_D A ((h0, .inr (12, fs_17)) :: (q_18, .inl (D.1 14, 6, .inl (fun _ => i2 0))) :: (q_16, .inl (D.1 14, 3, .inl (fun j => i2 (upZ (upZ (upZ (fun _ => 0) 0 112) 1 117) 2 116 j)))) :: (q_14, .inl (D.1 14, 2, .inl (fun j => i2 (upZ (upZ (fun _ => 0) 0 111) 1 102 j)))) :: T) := hD
  refine lv_dup hx hb dX12_init_205 rfl ?_
  refine lv_iconst (v := 0) hx hb dX12_init_206 (by decide) ?_
  refine lv_bipush (v := 114) hx hb dX12_init_207 (by decide) ?_
  refine va_cast hx hb hK hP hD hS 1 1 rfl rfl (z_in (by decide) (by decide)) dX12_init_209 (fun H locs hP hD hS => ?_)
  rw [c_i2 (F := fun _ => 0) (k := Int32.toNatClampNeg 0) (c := vp_nar .char 114) (v := 114) (by decide)] at hP hD
  have hP : va_P D vwCl ((h0, .inr (12, fs_17)) :: (q_18, .inl (D.1 14, 6, .inl (fun j => i2 (upZ (fun _ => 0) 0 114 j)))) :: (q_16, .inl (D.1 14, 3, .inl (fun j => i2 (upZ (upZ (upZ (fun _ => 0) 0 112) 1 117) 2 116 j)))) :: (q_14, .inl (D.1 14, 2, .inl (fun j => i2 (upZ (upZ (fun _ => 0) 0 111) 1 102 j)))) :: T) H := hP
  have hD : va_D A ((h0, .inr (12, fs_17)) :: (q_18, .inl (D.1 14, 6, .inl (fun j => i2 (upZ (fun _ => 0) 0 114 j)))) :: (q_16, .inl (D.1 14, 3, .inl (fun j => i2 (upZ (upZ (upZ (fun _ => 0) 0 112) 1 117) 2 116 j)))) :: (q_14, .inl (D.1 14, 2, .inl (fun j => i2 (upZ (upZ (fun _ => 0) 0 111) 1 102 j)))) :: T) := hD
  refine lv_dup hx hb dX12_init_210 rfl ?_
  refine lv_iconst (v := 1) hx hb dX12_init_211 (by decide) ?_
  refine lv_bipush (v := 101) hx hb dX12_init_212 (by decide) ?_
  refine va_cast hx hb hK hP hD hS 1 1 rfl rfl (z_in (by decide) (by decide)) dX12_init_214 (fun H locs hP hD hS => ?_)
  rw [c_i2 (F := upZ (fun _ => 0) 0 114) (k := Int32.toNatClampNeg 1) (c := vp_nar .char 101) (v := 101) (by decide)] at hP hD
  have hP : va_P D vwCl ((h0, .inr (12, fs_17)) :: (q_18, .inl (D.1 14, 6, .inl (fun j => i2 (upZ (upZ (fun _ => 0) 0 114) 1 101 j)))) :: (q_16, .inl (D.1 14, 3, .inl (fun j => i2 (upZ (upZ (upZ (fun _ => 0) 0 112) 1 117) 2 116 j)))) :: (q_14, .inl (D.1 14, 2, .inl (fun j => i2 (upZ (upZ (fun _ => 0) 0 111) 1 102 j)))) :: T) H := hP
  have hD : va_D A ((h0, .inr (12, fs_17)) :: (q_18, .inl (D.1 14, 6, .inl (fun j => i2 (upZ (upZ (fun _ => 0) 0 114) 1 101 j)))) :: (q_16, .inl (D.1 14, 3, .inl (fun j => i2 (upZ (upZ (upZ (fun _ => 0) 0 112) 1 117) 2 116 j)))) :: (q_14, .inl (D.1 14, 2, .inl (fun j => i2 (upZ (upZ (fun _ => 0) 0 111) 1 102 j)))) :: T) := hD
  refine lv_dup hx hb dX12_init_215 rfl ?_
  refine lv_iconst (v := 2) hx hb dX12_init_216 (by decide) ?_
  refine lv_bipush (v := 109) hx hb dX12_init_217 (by decide) ?_
  refine va_cast hx hb hK hP hD hS 1 1 rfl rfl (z_in (by decide) (by decide)) dX12_init_219 (fun H locs hP hD hS => ?_)
  rw [c_i2 (F := upZ (upZ (fun _ => 0) 0 114) 1 101) (k := Int32.toNatClampNeg 2) (c := vp_nar .char 109) (v := 109) (by decide)] at hP hD
  have hP : va_P D vwCl ((h0, .inr (12, fs_17)) :: (q_18, .inl (D.1 14, 6, .inl (fun j => i2 (upZ (upZ (upZ (fun _ => 0) 0 114) 1 101) 2 109 j)))) :: (q_16, .inl (D.1 14, 3, .inl (fun j => i2 (upZ (upZ (upZ (fun _ => 0) 0 112) 1 117) 2 116 j)))) :: (q_14, .inl (D.1 14, 2, .inl (fun j => i2 (upZ (upZ (fun _ => 0) 0 111) 1 102 j)))) :: T) H := hP
  have hD : va_D A ((h0, .inr (12, fs_17)) :: (q_18, .inl (D.1 14, 6, .inl (fun j => i2 (upZ (upZ (upZ (fun _ => 0) 0 114) 1 101) 2 109 j)))) :: (q_16, .inl (D.1 14, 3, .inl (fun j => i2 (upZ (upZ (upZ (fun _ => 0) 0 112) 1 117) 2 116 j)))) :: (q_14, .inl (D.1 14, 2, .inl (fun j => i2 (upZ (upZ (fun _ => 0) 0 111) 1 102 j)))) :: T) := hD
  refine lv_dup hx hb dX12_init_220 rfl ?_
  refine lv_iconst (v := 3) hx hb dX12_init_221 (by decide) ?_
  refine lv_bipush (v := 111) hx hb dX12_init_222 (by decide) ?_
  refine va_cast hx hb hK hP hD hS 1 1 rfl rfl (z_in (by decide) (by decide)) dX12_init_224 (fun H locs hP hD hS => ?_)
  rw [c_i2 (F := upZ (upZ (upZ (fun _ => 0) 0 114) 1 101) 2 109) (k := Int32.toNatClampNeg 3) (c := vp_nar .char 111) (v := 111) (by decide)] at hP hD
  have hP : va_P D vwCl ((h0, .inr (12, fs_17)) :: (q_18, .inl (D.1 14, 6, .inl (fun j => i2 (upZ (upZ (upZ (upZ (fun _ => 0) 0 114) 1 101) 2 109) 3 111 j)))) :: (q_16, .inl (D.1 14, 3, .inl (fun j => i2 (upZ (upZ (upZ (fun _ => 0) 0 112) 1 117) 2 116 j)))) :: (q_14, .inl (D.1 14, 2, .inl (fun j => i2 (upZ (upZ (fun _ => 0) 0 111) 1 102 j)))) :: T) H := hP
  have hD : va_D A ((h0, .inr (12, fs_17)) :: (q_18, .inl (D.1 14, 6, .inl (fun j => i2 (upZ (upZ (upZ (upZ (fun _ => 0) 0 114) 1 101) 2 109) 3 111 j)))) :: (q_16, .inl (D.1 14, 3, .inl (fun j => i2 (upZ (upZ (upZ (fun _ => 0) 0 112) 1 117) 2 116 j)))) :: (q_14, .inl (D.1 14, 2, .inl (fun j => i2 (upZ (upZ (fun _ => 0) 0 111) 1 102 j)))) :: T) := hD
  refine lv_dup hx hb dX12_init_225 rfl ?_
  refine lv_iconst (v := 4) hx hb dX12_init_226 (by decide) ?_
  refine lv_bipush (v := 118) hx hb dX12_init_227 (by decide) ?_
  refine va_cast hx hb hK hP hD hS 1 1 rfl rfl (z_in (by decide) (by decide)) dX12_init_229 (fun H locs hP hD hS => ?_)
  rw [c_i2 (F := upZ (upZ (upZ (upZ (fun _ => 0) 0 114) 1 101) 2 109) 3 111) (k := Int32.toNatClampNeg 4) (c := vp_nar .char 118) (v := 118) (by decide)] at hP hD
  have hP : va_P D vwCl ((h0, .inr (12, fs_17)) :: (q_18, .inl (D.1 14, 6, .inl (fun j => i2 (upZ (upZ (upZ (upZ (upZ (fun _ => 0) 0 114) 1 101) 2 109) 3 111) 4 118 j)))) :: (q_16, .inl (D.1 14, 3, .inl (fun j => i2 (upZ (upZ (upZ (fun _ => 0) 0 112) 1 117) 2 116 j)))) :: (q_14, .inl (D.1 14, 2, .inl (fun j => i2 (upZ (upZ (fun _ => 0) 0 111) 1 102 j)))) :: T) H := hP
  have hD : va_D A ((h0, .inr (12, fs_17)) :: (q_18, .inl (D.1 14, 6, .inl (fun j => i2 (upZ (upZ (upZ (upZ (upZ (fun _ => 0) 0 114) 1 101) 2 109) 3 111) 4 118 j)))) :: (q_16, .inl (D.1 14, 3, .inl (fun j => i2 (upZ (upZ (upZ (fun _ => 0) 0 112) 1 117) 2 116 j)))) :: (q_14, .inl (D.1 14, 2, .inl (fun j => i2 (upZ (upZ (fun _ => 0) 0 111) 1 102 j)))) :: T) := hD
  refine lv_dup hx hb dX12_init_230 rfl ?_
  refine lv_iconst (v := 5) hx hb dX12_init_231 (by decide) ?_
  refine lv_bipush (v := 101) hx hb dX12_init_232 (by decide) ?_
  refine va_cast hx hb hK hP hD hS 1 1 rfl rfl (z_in (by decide) (by decide)) dX12_init_234 (fun H locs hP hD hS => ?_)
  rw [c_i2 (F := upZ (upZ (upZ (upZ (upZ (fun _ => 0) 0 114) 1 101) 2 109) 3 111) 4 118) (k := Int32.toNatClampNeg 5) (c := vp_nar .char 101) (v := 101) (by decide)] at hP hD
  have hP : va_P D vwCl ((h0, .inr (12, fs_17)) :: (q_18, .inl (D.1 14, 6, .inl (fun j => i2 (upZ (upZ (upZ (upZ (upZ (upZ (fun _ => 0) 0 114) 1 101) 2 109) 3 111) 4 118) 5 101 j)))) :: (q_16, .inl (D.1 14, 3, .inl (fun j => i2 (upZ (upZ (upZ (fun _ => 0) 0 112) 1 117) 2 116 j)))) :: (q_14, .inl (D.1 14, 2, .inl (fun j => i2 (upZ (upZ (fun _ => 0) 0 111) 1 102 j)))) :: T) H := hP
  have hD : va_D A ((h0, .inr (12, fs_17)) :: (q_18, .inl (D.1 14, 6, .inl (fun j => i2 (upZ (upZ (upZ (upZ (upZ (upZ (fun _ => 0) 0 114) 1 101) 2 109) 3 111) 4 118) 5 101 j)))) :: (q_16, .inl (D.1 14, 3, .inl (fun j => i2 (upZ (upZ (upZ (fun _ => 0) 0 112) 1 117) 2 116 j)))) :: (q_14, .inl (D.1 14, 2, .inl (fun j => i2 (upZ (upZ (fun _ => 0) 0 111) 1 102 j)))) :: T) := hD
  refine va_putF (D := D) (ci := 12) (v := .ref q_18) (ty := .array .char) (C := RX12) (T := TX12) (N := 116) hx hb ht inX12 tyX12 tyX12_ok nmX12 hown hK hP hD hS 0 rfl rfl 17 (by decide) (ht (.fieldLink RX12 39 "CloneVolumesModel" "removeWord" "[C") fl_X12_39) (fun _ h9 => h9) rfl hin rfl (by decide +kernel) rfl rfl (by rw [hlen]; decide) dX12_init_235 (fun H locs hP hD hS => ?_)
  have hP : va_P D vwCl ((h0, .inr (12, (fs_17.set 17 (.ref q_18)))) :: (q_18, .inl (D.1 14, 6, .inl (fun j => i2 (upZ (upZ (upZ (upZ (upZ (upZ (fun _ => 0) 0 114) 1 101) 2 109) 3 111) 4 118) 5 101 j)))) :: (q_16, .inl (D.1 14, 3, .inl (fun j => i2 (upZ (upZ (upZ (fun _ => 0) 0 112) 1 117) 2 116 j)))) :: (q_14, .inl (D.1 14, 2, .inl (fun j => i2 (upZ (upZ (fun _ => 0) 0 111) 1 102 j)))) :: T) H := hP
  have hD : va_D A ((h0, .inr (12, (fs_17.set 17 (.ref q_18)))) :: (q_18, .inl (D.1 14, 6, .inl (fun j => i2 (upZ (upZ (upZ (upZ (upZ (upZ (fun _ => 0) 0 114) 1 101) 2 109) 3 111) 4 118) 5 101 j)))) :: (q_16, .inl (D.1 14, 3, .inl (fun j => i2 (upZ (upZ (upZ (fun _ => 0) 0 112) 1 117) 2 116 j)))) :: (q_14, .inl (D.1 14, 2, .inl (fun j => i2 (upZ (upZ (fun _ => 0) 0 111) 1 102 j)))) :: T) := hD
  generalize hfs_19 : fs_17.set 17 (.ref q_18) = fs_19 at hP hD
  have hlen : fs_19.length = 116 := by rw [← hfs_19, List.length_set]; exact hlen
  have hP : va_P D vwCl ((h0, .inr (12, fs_19)) :: (q_18, .inl (D.1 14, 6, .inl (fun j => i2 (upZ (upZ (upZ (upZ (upZ (upZ (fun _ => 0) 0 114) 1 101) 2 109) 3 111) 4 118) 5 101 j)))) :: (q_16, .inl (D.1 14, 3, .inl (fun j => i2 (upZ (upZ (upZ (fun _ => 0) 0 112) 1 117) 2 116 j)))) :: (q_14, .inl (D.1 14, 2, .inl (fun j => i2 (upZ (upZ (fun _ => 0) 0 111) 1 102 j)))) :: T) H := hP
  have hD : va_D A ((h0, .inr (12, fs_19)) :: (q_18, .inl (D.1 14, 6, .inl (fun j => i2 (upZ (upZ (upZ (upZ (upZ (upZ (fun _ => 0) 0 114) 1 101) 2 109) 3 111) 4 118) 5 101 j)))) :: (q_16, .inl (D.1 14, 3, .inl (fun j => i2 (upZ (upZ (upZ (fun _ => 0) 0 112) 1 117) 2 116 j)))) :: (q_14, .inl (D.1 14, 2, .inl (fun j => i2 (upZ (upZ (fun _ => 0) 0 111) 1 102 j)))) :: T) := hD
  exact kk q_18 q_16 q_14 fs_19 _ _ (by rw [← hfs_19, ← hfs_17, ← hfs_15]) hP hD hS
set_option maxHeartbeats 4000000 in
set_option maxRecDepth 100000 in
theorem cM_4 {p : Program} {l : Launch} {e : Env} {R : Room} {s : State} {m : MethodId} {args : Array Value} {below : List Frame} {meth : Method} {c : Code} {Q : State → Prop} {D : va_G} {A : Nat → Prop} {ls : Array Slot} {h0 : Nat} {T : va_W} (hx : p.tables.exec = Jvm.exec) (hb : c.code = cX12_init) (ht : ∀ w ∈ lw_gd, w.before args s = true) (hown : s.vm.findClass RX12 = some m.cls) (hin : meth.name = "<init>") (hK : va_K D vwCl (TY D) s) (hA : ∀ q : Nat, s.heap.size ≤ q → A q) (hRc : 80 ≤ R.cells) (hRs : 35050 ≤ R.slots) (hl : lv_has ls 1 [(0, .ref h0)]) {fs : List Value} (hlen : fs.length = 116) {H : Heap} {locs : List Loc} (hP : va_P D vwCl ((h0, .inr (12, fs)) :: T) H) (hD : va_D A ((h0, .inr (12, fs)) :: T)) (hS : va_S A s.heap H locs)
    (kk : ∀ (q_22 : Nat) (q_20 : Nat) (fs' : List Value) (H : Heap) (locs : List Loc), fs' = ((fs.set 18 (.ref q_20)).set 19 (.ref q_22)) → va_P D vwCl ((h0, .inr (12, fs')) :: (q_22, .inl (D.1 14, 6, .inl (fun j => i2 (upZ (upZ (upZ (upZ (upZ (upZ (fun _ => 0) 0 115) 1 112) 2 108) 3 105) 4 116) 5 115 j)))) :: (q_20, .inl (D.1 14, 5, .inl (fun j => i2 (upZ (upZ (upZ (upZ (upZ (fun _ => 0) 0 112) 1 105) 2 99) 3 107) 4 115 j)))) :: T) H → va_D A ((h0, .inr (12, fs')) :: (q_22, .inl (D.1 14, 6, .inl (fun j => i2 (upZ (upZ (upZ (upZ (upZ (upZ (fun _ => 0) 0 115) 1 112) 2 108) 3 105) 4 116) 5 115 j)))) :: (q_20, .inl (D.1 14, 5, .inl (fun j => i2 (upZ (upZ (upZ (upZ (upZ (fun _ => 0) 0 112) 1 105) 2 99) 3 107) 4 115 j)))) :: T) → va_S A s.heap H locs → W p l e R s m args below meth c H locs 11 1649 Q (F0 m 308 ls [])) : W p l e R s m args below meth c H locs 9 1638 Q (F0 m 238 ls []) := by
  refine lv_aload_n hx hb dX12_init_238 rfl (lv_at hl 0 rfl) ?_
  refine lv_iconst (v := 5) hx hb dX12_init_239 (by decide) ?_
  refine va_newa (atype := .char) (a0 := (5, .inl (fun _ => 0))) (ty := .char) (N' := 5) hx hb (ht _ ac_char) rfl hK hP hD hS hA (fun _ => rfl) (by decide) (by decide) (by decide) (Nat.le_trans (Nat.le_of_ble_eq_true rfl) hRc) (Nat.le_trans (Nat.le_of_ble_eq_true rfl) hRs) dX12_init_240 (fun q_20 cA H hK2 hP hD hS => ?_)
  obtain rfl := z_cls_char hK hK2
  refine W.widen (k := 10) (n := 1643) (Nat.le_of_ble_eq_true rfl) (Nat.le_of_ble_eq_true rfl) ?_
  obtain ⟨hP, hD⟩ := z_rot hP hD
  have hP : va_P D vwCl ((h0, .inr (12, fs)) :: (q_20, .inl (D.1 14, 5, .inl (fun _ => i2 0))) :: T) H := hP
  have hD : va_D A ((h0, .inr (12, fs)) :: (q_20, .inl (D.1 14, 5, .inl (fun _ => i2 0))) :: T) := hD
  refine lv_dup hx hb dX12_init_242 rfl ?_
  refine lv_iconst (v := 0) hx hb dX12_init_243 (by decide) ?_
  refine lv_bipush (v := 112) hx hb dX12_init_244 (by decide) ?_
  refine va_cast hx hb hK hP hD hS 1 1 rfl rfl (z_in (by decide) (by decide)) dX12_init_246 (fun H locs hP hD hS => ?_)
  rw [c_i2 (F := fun _ => 0) (k := Int32.toNatClampNeg 0) (c := vp_nar .char 112) (v := 112) (by decide)] at hP hD
  have hP : va_P D vwCl ((h0, .inr (12, fs)) :: (q_20, .inl (D.1 14, 5, .inl (fun j => i2 (upZ (fun _ => 0) 0 112 j)))) :: T) H := hP
  have hD : va_D A ((h0, .inr (12, fs)) :: (q_20, .inl (D.1 14, 5, .inl (fun j => i2 (upZ (fun _ => 0) 0 112 j)))) :: T) := hD
  refine lv_dup hx hb dX12_init_247 rfl ?_
  refine lv_iconst (v := 1) hx hb dX12_init_248 (by decide) ?_
  refine lv_bipush (v := 105) hx hb dX12_init_249 (by decide) ?_
  refine va_cast hx hb hK hP hD hS 1 1 rfl rfl (z_in (by decide) (by decide)) dX12_init_251 (fun H locs hP hD hS => ?_)
  rw [c_i2 (F := upZ (fun _ => 0) 0 112) (k := Int32.toNatClampNeg 1) (c := vp_nar .char 105) (v := 105) (by decide)] at hP hD
  have hP : va_P D vwCl ((h0, .inr (12, fs)) :: (q_20, .inl (D.1 14, 5, .inl (fun j => i2 (upZ (upZ (fun _ => 0) 0 112) 1 105 j)))) :: T) H := hP
  have hD : va_D A ((h0, .inr (12, fs)) :: (q_20, .inl (D.1 14, 5, .inl (fun j => i2 (upZ (upZ (fun _ => 0) 0 112) 1 105 j)))) :: T) := hD
  refine lv_dup hx hb dX12_init_252 rfl ?_
  refine lv_iconst (v := 2) hx hb dX12_init_253 (by decide) ?_
  refine lv_bipush (v := 99) hx hb dX12_init_254 (by decide) ?_
  refine va_cast hx hb hK hP hD hS 1 1 rfl rfl (z_in (by decide) (by decide)) dX12_init_256 (fun H locs hP hD hS => ?_)
  rw [c_i2 (F := upZ (upZ (fun _ => 0) 0 112) 1 105) (k := Int32.toNatClampNeg 2) (c := vp_nar .char 99) (v := 99) (by decide)] at hP hD
  have hP : va_P D vwCl ((h0, .inr (12, fs)) :: (q_20, .inl (D.1 14, 5, .inl (fun j => i2 (upZ (upZ (upZ (fun _ => 0) 0 112) 1 105) 2 99 j)))) :: T) H := hP
  have hD : va_D A ((h0, .inr (12, fs)) :: (q_20, .inl (D.1 14, 5, .inl (fun j => i2 (upZ (upZ (upZ (fun _ => 0) 0 112) 1 105) 2 99 j)))) :: T) := hD
  refine lv_dup hx hb dX12_init_257 rfl ?_
  refine lv_iconst (v := 3) hx hb dX12_init_258 (by decide) ?_
  refine lv_bipush (v := 107) hx hb dX12_init_259 (by decide) ?_
  refine va_cast hx hb hK hP hD hS 1 1 rfl rfl (z_in (by decide) (by decide)) dX12_init_261 (fun H locs hP hD hS => ?_)
  rw [c_i2 (F := upZ (upZ (upZ (fun _ => 0) 0 112) 1 105) 2 99) (k := Int32.toNatClampNeg 3) (c := vp_nar .char 107) (v := 107) (by decide)] at hP hD
  have hP : va_P D vwCl ((h0, .inr (12, fs)) :: (q_20, .inl (D.1 14, 5, .inl (fun j => i2 (upZ (upZ (upZ (upZ (fun _ => 0) 0 112) 1 105) 2 99) 3 107 j)))) :: T) H := hP
  have hD : va_D A ((h0, .inr (12, fs)) :: (q_20, .inl (D.1 14, 5, .inl (fun j => i2 (upZ (upZ (upZ (upZ (fun _ => 0) 0 112) 1 105) 2 99) 3 107 j)))) :: T) := hD
  refine lv_dup hx hb dX12_init_262 rfl ?_
  refine lv_iconst (v := 4) hx hb dX12_init_263 (by decide) ?_
  refine lv_bipush (v := 115) hx hb dX12_init_264 (by decide) ?_
  refine va_cast hx hb hK hP hD hS 1 1 rfl rfl (z_in (by decide) (by decide)) dX12_init_266 (fun H locs hP hD hS => ?_)
  rw [c_i2 (F := upZ (upZ (upZ (upZ (fun _ => 0) 0 112) 1 105) 2 99) 3 107) (k := Int32.toNatClampNeg 4) (c := vp_nar .char 115) (v := 115) (by decide)] at hP hD
  have hP : va_P D vwCl ((h0, .inr (12, fs)) :: (q_20, .inl (D.1 14, 5, .inl (fun j => i2 (upZ (upZ (upZ (upZ (upZ (fun _ => 0) 0 112) 1 105) 2 99) 3 107) 4 115 j)))) :: T) H := hP
  have hD : va_D A ((h0, .inr (12, fs)) :: (q_20, .inl (D.1 14, 5, .inl (fun j => i2 (upZ (upZ (upZ (upZ (upZ (fun _ => 0) 0 112) 1 105) 2 99) 3 107) 4 115 j)))) :: T) := hD
  refine va_putF (D := D) (ci := 12) (v := .ref q_20) (ty := .array .char) (C := RX12) (T := TX12) (N := 116) hx hb ht inX12 tyX12 tyX12_ok nmX12 hown hK hP hD hS 0 rfl rfl 18 (by decide) (ht (.fieldLink RX12 42 "CloneVolumesModel" "picksWord" "[C") fl_X12_42) (fun _ h9 => h9) rfl hin rfl (by decide +kernel) rfl rfl (by rw [hlen]; decide) dX12_init_267 (fun H locs hP hD hS => ?_)
  have hP : va_P D vwCl ((h0, .inr (12, (fs.set 18 (.ref q_20)))) :: (q_20, .inl (D.1 14, 5, .inl (fun j => i2 (upZ (upZ (upZ (upZ (upZ (fun _ => 0) 0 112) 1 105) 2 99) 3 107) 4 115 j)))) :: T) H := hP
  have hD : va_D A ((h0, .inr (12, (fs.set 18 (.ref q_20)))) :: (q_20, .inl (D.1 14, 5, .inl (fun j => i2 (upZ (upZ (upZ (upZ (upZ (fun _ => 0) 0 112) 1 105) 2 99) 3 107) 4 115 j)))) :: T) := hD
  generalize hfs_21 : fs.set 18 (.ref q_20) = fs_21 at hP hD
  have hlen : fs_21.length = 116 := by rw [← hfs_21, List.length_set]; exact hlen
  have hP : va_P D vwCl ((h0, .inr (12, fs_21)) :: (q_20, .inl (D.1 14, 5, .inl (fun j => i2 (upZ (upZ (upZ (upZ (upZ (fun _ => 0) 0 112) 1 105) 2 99) 3 107) 4 115 j)))) :: T) H := hP
  have hD : va_D A ((h0, .inr (12, fs_21)) :: (q_20, .inl (D.1 14, 5, .inl (fun j => i2 (upZ (upZ (upZ (upZ (upZ (fun _ => 0) 0 112) 1 105) 2 99) 3 107) 4 115 j)))) :: T) := hD
  refine lv_aload_n hx hb dX12_init_270 rfl (lv_at hl 0 rfl) ?_
  refine lv_bipush (v := 6) hx hb dX12_init_271 (by decide) ?_
  refine va_newa (atype := .char) (a0 := (6, .inl (fun _ => 0))) (ty := .char) (N' := 6) hx hb (ht _ ac_char) rfl hK hP hD hS hA (fun _ => rfl) (by decide) (by decide) (by decide) (Nat.le_trans (Nat.le_of_ble_eq_true rfl) hRc) (Nat.le_trans (Nat.le_of_ble_eq_true rfl) hRs) dX12_init_273 (fun q_22 cA H hK2 hP hD hS => ?_)
  obtain rfl := z_cls_char hK hK2
  refine W.widen (k := 11) (n := 1649) (Nat.le_of_ble_eq_true rfl) (Nat.le_of_ble_eq_true rfl) ?_
  obtain ⟨hP, hD⟩ := z_rot hP hD
  have hP : va_P D vwCl ((h0, .inr (12, fs_21)) :: (q_22, .inl (D.1 14, 6, .inl (fun _ => i2 0))) :: (q_20, .inl (D.1 14, 5, .inl (fun j => i2 (upZ (upZ (upZ (upZ (upZ (fun _ => 0) 0 112) 1 105) 2 99) 3 107) 4 115 j)))) :: T) H := hP
  have hD : va_D A ((h0, .inr (12, fs_21)) :: (q_22, .inl (D.1 14, 6, .inl (fun _ => i2 0))) :: (q_20, .inl (D.1 14, 5, .inl (fun j => i2 (upZ (upZ (upZ (upZ (upZ (fun _ => 0) 0 112) 1 105) 2 99) 3 107) 4 115 j)))) :: T) := hD
  refine lv_dup hx hb dX12_init_275 rfl ?_
  refine lv_iconst (v := 0) hx hb dX12_init_276 (by decide) ?_
  refine lv_bipush (v := 115) hx hb dX12_init_277 (by decide) ?_
  refine va_cast hx hb hK hP hD hS 1 1 rfl rfl (z_in (by decide) (by decide)) dX12_init_279 (fun H locs hP hD hS => ?_)
  rw [c_i2 (F := fun _ => 0) (k := Int32.toNatClampNeg 0) (c := vp_nar .char 115) (v := 115) (by decide)] at hP hD
  have hP : va_P D vwCl ((h0, .inr (12, fs_21)) :: (q_22, .inl (D.1 14, 6, .inl (fun j => i2 (upZ (fun _ => 0) 0 115 j)))) :: (q_20, .inl (D.1 14, 5, .inl (fun j => i2 (upZ (upZ (upZ (upZ (upZ (fun _ => 0) 0 112) 1 105) 2 99) 3 107) 4 115 j)))) :: T) H := hP
  have hD : va_D A ((h0, .inr (12, fs_21)) :: (q_22, .inl (D.1 14, 6, .inl (fun j => i2 (upZ (fun _ => 0) 0 115 j)))) :: (q_20, .inl (D.1 14, 5, .inl (fun j => i2 (upZ (upZ (upZ (upZ (upZ (fun _ => 0) 0 112) 1 105) 2 99) 3 107) 4 115 j)))) :: T) := hD
  refine lv_dup hx hb dX12_init_280 rfl ?_
  refine lv_iconst (v := 1) hx hb dX12_init_281 (by decide) ?_
  refine lv_bipush (v := 112) hx hb dX12_init_282 (by decide) ?_
  refine va_cast hx hb hK hP hD hS 1 1 rfl rfl (z_in (by decide) (by decide)) dX12_init_284 (fun H locs hP hD hS => ?_)
  rw [c_i2 (F := upZ (fun _ => 0) 0 115) (k := Int32.toNatClampNeg 1) (c := vp_nar .char 112) (v := 112) (by decide)] at hP hD
  have hP : va_P D vwCl ((h0, .inr (12, fs_21)) :: (q_22, .inl (D.1 14, 6, .inl (fun j => i2 (upZ (upZ (fun _ => 0) 0 115) 1 112 j)))) :: (q_20, .inl (D.1 14, 5, .inl (fun j => i2 (upZ (upZ (upZ (upZ (upZ (fun _ => 0) 0 112) 1 105) 2 99) 3 107) 4 115 j)))) :: T) H := hP
  have hD : va_D A ((h0, .inr (12, fs_21)) :: (q_22, .inl (D.1 14, 6, .inl (fun j => i2 (upZ (upZ (fun _ => 0) 0 115) 1 112 j)))) :: (q_20, .inl (D.1 14, 5, .inl (fun j => i2 (upZ (upZ (upZ (upZ (upZ (fun _ => 0) 0 112) 1 105) 2 99) 3 107) 4 115 j)))) :: T) := hD
  refine lv_dup hx hb dX12_init_285 rfl ?_
  refine lv_iconst (v := 2) hx hb dX12_init_286 (by decide) ?_
  refine lv_bipush (v := 108) hx hb dX12_init_287 (by decide) ?_
  refine va_cast hx hb hK hP hD hS 1 1 rfl rfl (z_in (by decide) (by decide)) dX12_init_289 (fun H locs hP hD hS => ?_)
  rw [c_i2 (F := upZ (upZ (fun _ => 0) 0 115) 1 112) (k := Int32.toNatClampNeg 2) (c := vp_nar .char 108) (v := 108) (by decide)] at hP hD
  have hP : va_P D vwCl ((h0, .inr (12, fs_21)) :: (q_22, .inl (D.1 14, 6, .inl (fun j => i2 (upZ (upZ (upZ (fun _ => 0) 0 115) 1 112) 2 108 j)))) :: (q_20, .inl (D.1 14, 5, .inl (fun j => i2 (upZ (upZ (upZ (upZ (upZ (fun _ => 0) 0 112) 1 105) 2 99) 3 107) 4 115 j)))) :: T) H := hP
  have hD : va_D A ((h0, .inr (12, fs_21)) :: (q_22, .inl (D.1 14, 6, .inl (fun j => i2 (upZ (upZ (upZ (fun _ => 0) 0 115) 1 112) 2 108 j)))) :: (q_20, .inl (D.1 14, 5, .inl (fun j => i2 (upZ (upZ (upZ (upZ (upZ (fun _ => 0) 0 112) 1 105) 2 99) 3 107) 4 115 j)))) :: T) := hD
  refine lv_dup hx hb dX12_init_290 rfl ?_
  refine lv_iconst (v := 3) hx hb dX12_init_291 (by decide) ?_
  refine lv_bipush (v := 105) hx hb dX12_init_292 (by decide) ?_
  refine va_cast hx hb hK hP hD hS 1 1 rfl rfl (z_in (by decide) (by decide)) dX12_init_294 (fun H locs hP hD hS => ?_)
  rw [c_i2 (F := upZ (upZ (upZ (fun _ => 0) 0 115) 1 112) 2 108) (k := Int32.toNatClampNeg 3) (c := vp_nar .char 105) (v := 105) (by decide)] at hP hD
  have hP : va_P D vwCl ((h0, .inr (12, fs_21)) :: (q_22, .inl (D.1 14, 6, .inl (fun j => i2 (upZ (upZ (upZ (upZ (fun _ => 0) 0 115) 1 112) 2 108) 3 105 j)))) :: (q_20, .inl (D.1 14, 5, .inl (fun j => i2 (upZ (upZ (upZ (upZ (upZ (fun _ => 0) 0 112) 1 105) 2 99) 3 107) 4 115 j)))) :: T) H := hP
  have hD : va_D A ((h0, .inr (12, fs_21)) :: (q_22, .inl (D.1 14, 6, .inl (fun j => i2 (upZ (upZ (upZ (upZ (fun _ => 0) 0 115) 1 112) 2 108) 3 105 j)))) :: (q_20, .inl (D.1 14, 5, .inl (fun j => i2 (upZ (upZ (upZ (upZ (upZ (fun _ => 0) 0 112) 1 105) 2 99) 3 107) 4 115 j)))) :: T) := hD
  refine lv_dup hx hb dX12_init_295 rfl ?_
  refine lv_iconst (v := 4) hx hb dX12_init_296 (by decide) ?_
  refine lv_bipush (v := 116) hx hb dX12_init_297 (by decide) ?_
  refine va_cast hx hb hK hP hD hS 1 1 rfl rfl (z_in (by decide) (by decide)) dX12_init_299 (fun H locs hP hD hS => ?_)
  rw [c_i2 (F := upZ (upZ (upZ (upZ (fun _ => 0) 0 115) 1 112) 2 108) 3 105) (k := Int32.toNatClampNeg 4) (c := vp_nar .char 116) (v := 116) (by decide)] at hP hD
  have hP : va_P D vwCl ((h0, .inr (12, fs_21)) :: (q_22, .inl (D.1 14, 6, .inl (fun j => i2 (upZ (upZ (upZ (upZ (upZ (fun _ => 0) 0 115) 1 112) 2 108) 3 105) 4 116 j)))) :: (q_20, .inl (D.1 14, 5, .inl (fun j => i2 (upZ (upZ (upZ (upZ (upZ (fun _ => 0) 0 112) 1 105) 2 99) 3 107) 4 115 j)))) :: T) H := hP
  have hD : va_D A ((h0, .inr (12, fs_21)) :: (q_22, .inl (D.1 14, 6, .inl (fun j => i2 (upZ (upZ (upZ (upZ (upZ (fun _ => 0) 0 115) 1 112) 2 108) 3 105) 4 116 j)))) :: (q_20, .inl (D.1 14, 5, .inl (fun j => i2 (upZ (upZ (upZ (upZ (upZ (fun _ => 0) 0 112) 1 105) 2 99) 3 107) 4 115 j)))) :: T) := hD
  refine lv_dup hx hb dX12_init_300 rfl ?_
  refine lv_iconst (v := 5) hx hb dX12_init_301 (by decide) ?_
  refine lv_bipush (v := 115) hx hb dX12_init_302 (by decide) ?_
  refine va_cast hx hb hK hP hD hS 1 1 rfl rfl (z_in (by decide) (by decide)) dX12_init_304 (fun H locs hP hD hS => ?_)
  rw [c_i2 (F := upZ (upZ (upZ (upZ (upZ (fun _ => 0) 0 115) 1 112) 2 108) 3 105) 4 116) (k := Int32.toNatClampNeg 5) (c := vp_nar .char 115) (v := 115) (by decide)] at hP hD
  have hP : va_P D vwCl ((h0, .inr (12, fs_21)) :: (q_22, .inl (D.1 14, 6, .inl (fun j => i2 (upZ (upZ (upZ (upZ (upZ (upZ (fun _ => 0) 0 115) 1 112) 2 108) 3 105) 4 116) 5 115 j)))) :: (q_20, .inl (D.1 14, 5, .inl (fun j => i2 (upZ (upZ (upZ (upZ (upZ (fun _ => 0) 0 112) 1 105) 2 99) 3 107) 4 115 j)))) :: T) H := hP
  have hD : va_D A ((h0, .inr (12, fs_21)) :: (q_22, .inl (D.1 14, 6, .inl (fun j => i2 (upZ (upZ (upZ (upZ (upZ (upZ (fun _ => 0) 0 115) 1 112) 2 108) 3 105) 4 116) 5 115 j)))) :: (q_20, .inl (D.1 14, 5, .inl (fun j => i2 (upZ (upZ (upZ (upZ (upZ (fun _ => 0) 0 112) 1 105) 2 99) 3 107) 4 115 j)))) :: T) := hD
  refine va_putF (D := D) (ci := 12) (v := .ref q_22) (ty := .array .char) (C := RX12) (T := TX12) (N := 116) hx hb ht inX12 tyX12 tyX12_ok nmX12 hown hK hP hD hS 0 rfl rfl 19 (by decide) (ht (.fieldLink RX12 45 "CloneVolumesModel" "splitsWord" "[C") fl_X12_45) (fun _ h9 => h9) rfl hin rfl (by decide +kernel) rfl rfl (by rw [hlen]; decide) dX12_init_305 (fun H locs hP hD hS => ?_)
  have hP : va_P D vwCl ((h0, .inr (12, (fs_21.set 19 (.ref q_22)))) :: (q_22, .inl (D.1 14, 6, .inl (fun j => i2 (upZ (upZ (upZ (upZ (upZ (upZ (fun _ => 0) 0 115) 1 112) 2 108) 3 105) 4 116) 5 115 j)))) :: (q_20, .inl (D.1 14, 5, .inl (fun j => i2 (upZ (upZ (upZ (upZ (upZ (fun _ => 0) 0 112) 1 105) 2 99) 3 107) 4 115 j)))) :: T) H := hP
  have hD : va_D A ((h0, .inr (12, (fs_21.set 19 (.ref q_22)))) :: (q_22, .inl (D.1 14, 6, .inl (fun j => i2 (upZ (upZ (upZ (upZ (upZ (upZ (fun _ => 0) 0 115) 1 112) 2 108) 3 105) 4 116) 5 115 j)))) :: (q_20, .inl (D.1 14, 5, .inl (fun j => i2 (upZ (upZ (upZ (upZ (upZ (fun _ => 0) 0 112) 1 105) 2 99) 3 107) 4 115 j)))) :: T) := hD
  generalize hfs_23 : fs_21.set 19 (.ref q_22) = fs_23 at hP hD
  have hlen : fs_23.length = 116 := by rw [← hfs_23, List.length_set]; exact hlen
  have hP : va_P D vwCl ((h0, .inr (12, fs_23)) :: (q_22, .inl (D.1 14, 6, .inl (fun j => i2 (upZ (upZ (upZ (upZ (upZ (upZ (fun _ => 0) 0 115) 1 112) 2 108) 3 105) 4 116) 5 115 j)))) :: (q_20, .inl (D.1 14, 5, .inl (fun j => i2 (upZ (upZ (upZ (upZ (upZ (fun _ => 0) 0 112) 1 105) 2 99) 3 107) 4 115 j)))) :: T) H := hP
  have hD : va_D A ((h0, .inr (12, fs_23)) :: (q_22, .inl (D.1 14, 6, .inl (fun j => i2 (upZ (upZ (upZ (upZ (upZ (upZ (fun _ => 0) 0 115) 1 112) 2 108) 3 105) 4 116) 5 115 j)))) :: (q_20, .inl (D.1 14, 5, .inl (fun j => i2 (upZ (upZ (upZ (upZ (upZ (fun _ => 0) 0 112) 1 105) 2 99) 3 107) 4 115 j)))) :: T) := hD
  exact kk q_22 q_20 fs_23 _ _ (by rw [← hfs_23, ← hfs_21]) hP hD hS
set_option maxHeartbeats 4000000 in
set_option maxRecDepth 100000 in
theorem cM_5 {p : Program} {l : Launch} {e : Env} {R : Room} {s : State} {m : MethodId} {args : Array Value} {below : List Frame} {meth : Method} {c : Code} {Q : State → Prop} {D : va_G} {A : Nat → Prop} {ls : Array Slot} {h0 : Nat} {T : va_W} (hx : p.tables.exec = Jvm.exec) (hb : c.code = cX12_init) (ht : ∀ w ∈ lw_gd, w.before args s = true) (hown : s.vm.findClass RX12 = some m.cls) (hin : meth.name = "<init>") (hK : va_K D vwCl (TY D) s) (hA : ∀ q : Nat, s.heap.size ≤ q → A q) (hRc : 80 ≤ R.cells) (hRs : 35050 ≤ R.slots) (hl : lv_has ls 1 [(0, .ref h0)]) {fs : List Value} (hlen : fs.length = 116) {H : Heap} {locs : List Loc} (hP : va_P D vwCl ((h0, .inr (12, fs)) :: T) H) (hD : va_D A ((h0, .inr (12, fs)) :: T)) (hS : va_S A s.heap H locs)
    (kk : ∀ (q_26 : Nat) (q_24 : Nat) (fs' : List Value) (H : Heap) (locs : List Loc), fs' = ((fs.set 20 (.ref q_24)).set 21 (.ref q_26)) → va_P D vwCl ((h0, .inr (12, fs')) :: (q_26, .inl (D.1 14, 5, .inl (fun j => i2 (upZ (upZ (upZ (upZ (upZ (fun _ => 0) 0 99) 1 104) 2 117) 3 114) 4 110 j)))) :: (q_24, .inl (D.1 14, 5, .inl (fun j => i2 (upZ (upZ (upZ (upZ (upZ (fun _ => 0) 0 99) 1 111) 2 115) 3 116) 4 115 j)))) :: T) H → va_D A ((h0, .inr (12, fs')) :: (q_26, .inl (D.1 14, 5, .inl (fun j => i2 (upZ (upZ (upZ (upZ (upZ (fun _ => 0) 0 99) 1 104) 2 117) 3 114) 4 110 j)))) :: (q_24, .inl (D.1 14, 5, .inl (fun j => i2 (upZ (upZ (upZ (upZ (upZ (fun _ => 0) 0 99) 1 111) 2 115) 3 116) 4 115 j)))) :: T) → va_S A s.heap H locs → W p l e R s m args below meth c H locs 13 1659 Q (F0 m 372 ls [])) : W p l e R s m args below meth c H locs 11 1649 Q (F0 m 308 ls []) := by
  refine lv_aload_n hx hb dX12_init_308 rfl (lv_at hl 0 rfl) ?_
  refine lv_iconst (v := 5) hx hb dX12_init_309 (by decide) ?_
  refine va_newa (atype := .char) (a0 := (5, .inl (fun _ => 0))) (ty := .char) (N' := 5) hx hb (ht _ ac_char) rfl hK hP hD hS hA (fun _ => rfl) (by decide) (by decide) (by decide) (Nat.le_trans (Nat.le_of_ble_eq_true rfl) hRc) (Nat.le_trans (Nat.le_of_ble_eq_true rfl) hRs) dX12_init_310 (fun q_24 cA H hK2 hP hD hS => ?_)
  obtain rfl := z_cls_char hK hK2
  refine W.widen (k := 12) (n := 1654) (Nat.le_of_ble_eq_true rfl) (Nat.le_of_ble_eq_true rfl) ?_
  obtain ⟨hP, hD⟩ := z_rot hP hD
  have hP : va_P D vwCl ((h0, .inr (12, fs)) :: (q_24, .inl (D.1 14, 5, .inl (fun _ => i2 0))) :: T) H := hP
  have hD : va_D A ((h0, .inr (12, fs)) :: (q_24, .inl (D.1 14, 5, .inl (fun _ => i2 0))) :: T) := hD
  refine lv_dup hx hb dX12_init_312 rfl ?_
  refine lv_iconst (v := 0) hx hb dX12_init_313 (by decide) ?_
  refine lv_bipush (v := 99) hx hb dX12_init_314 (by decide) ?_
  refine va_cast hx hb hK hP hD hS 1 1 rfl rfl (z_in (by decide) (by decide)) dX12_init_316 (fun H locs hP hD hS => ?_)
  rw [c_i2 (F := fun _ => 0) (k := Int32.toNatClampNeg 0) (c := vp_nar .char 99) (v := 99) (by decide)] at hP hD
  have hP : va_P D vwCl ((h0, .inr (12, fs)) :: (q_24, .inl (D.1 14, 5, .inl (fun j => i2 (upZ (fun _ => 0) 0 99 j)))) :: T) H := hP
  have hD : va_D A ((h0, .inr (12, fs)) :: (q_24, .inl (D.1 14, 5, .inl (fun j => i2 (upZ (fun _ => 0) 0 99 j)))) :: T) := hD
  refine lv_dup hx hb dX12_init_317 rfl ?_
  refine lv_iconst (v := 1) hx hb dX12_init_318 (by decide) ?_
  refine lv_bipush (v := 111) hx hb dX12_init_319 (by decide) ?_
  refine va_cast hx hb hK hP hD hS 1 1 rfl rfl (z_in (by decide) (by decide)) dX12_init_321 (fun H locs hP hD hS => ?_)
  rw [c_i2 (F := upZ (fun _ => 0) 0 99) (k := Int32.toNatClampNeg 1) (c := vp_nar .char 111) (v := 111) (by decide)] at hP hD
  have hP : va_P D vwCl ((h0, .inr (12, fs)) :: (q_24, .inl (D.1 14, 5, .inl (fun j => i2 (upZ (upZ (fun _ => 0) 0 99) 1 111 j)))) :: T) H := hP
  have hD : va_D A ((h0, .inr (12, fs)) :: (q_24, .inl (D.1 14, 5, .inl (fun j => i2 (upZ (upZ (fun _ => 0) 0 99) 1 111 j)))) :: T) := hD
  refine lv_dup hx hb dX12_init_322 rfl ?_
  refine lv_iconst (v := 2) hx hb dX12_init_323 (by decide) ?_
  refine lv_bipush (v := 115) hx hb dX12_init_324 (by decide) ?_
  refine va_cast hx hb hK hP hD hS 1 1 rfl rfl (z_in (by decide) (by decide)) dX12_init_326 (fun H locs hP hD hS => ?_)
  rw [c_i2 (F := upZ (upZ (fun _ => 0) 0 99) 1 111) (k := Int32.toNatClampNeg 2) (c := vp_nar .char 115) (v := 115) (by decide)] at hP hD
  have hP : va_P D vwCl ((h0, .inr (12, fs)) :: (q_24, .inl (D.1 14, 5, .inl (fun j => i2 (upZ (upZ (upZ (fun _ => 0) 0 99) 1 111) 2 115 j)))) :: T) H := hP
  have hD : va_D A ((h0, .inr (12, fs)) :: (q_24, .inl (D.1 14, 5, .inl (fun j => i2 (upZ (upZ (upZ (fun _ => 0) 0 99) 1 111) 2 115 j)))) :: T) := hD
  refine lv_dup hx hb dX12_init_327 rfl ?_
  refine lv_iconst (v := 3) hx hb dX12_init_328 (by decide) ?_
  refine lv_bipush (v := 116) hx hb dX12_init_329 (by decide) ?_
  refine va_cast hx hb hK hP hD hS 1 1 rfl rfl (z_in (by decide) (by decide)) dX12_init_331 (fun H locs hP hD hS => ?_)
  rw [c_i2 (F := upZ (upZ (upZ (fun _ => 0) 0 99) 1 111) 2 115) (k := Int32.toNatClampNeg 3) (c := vp_nar .char 116) (v := 116) (by decide)] at hP hD
  have hP : va_P D vwCl ((h0, .inr (12, fs)) :: (q_24, .inl (D.1 14, 5, .inl (fun j => i2 (upZ (upZ (upZ (upZ (fun _ => 0) 0 99) 1 111) 2 115) 3 116 j)))) :: T) H := hP
  have hD : va_D A ((h0, .inr (12, fs)) :: (q_24, .inl (D.1 14, 5, .inl (fun j => i2 (upZ (upZ (upZ (upZ (fun _ => 0) 0 99) 1 111) 2 115) 3 116 j)))) :: T) := hD
  refine lv_dup hx hb dX12_init_332 rfl ?_
  refine lv_iconst (v := 4) hx hb dX12_init_333 (by decide) ?_
  refine lv_bipush (v := 115) hx hb dX12_init_334 (by decide) ?_
  refine va_cast hx hb hK hP hD hS 1 1 rfl rfl (z_in (by decide) (by decide)) dX12_init_336 (fun H locs hP hD hS => ?_)
  rw [c_i2 (F := upZ (upZ (upZ (upZ (fun _ => 0) 0 99) 1 111) 2 115) 3 116) (k := Int32.toNatClampNeg 4) (c := vp_nar .char 115) (v := 115) (by decide)] at hP hD
  have hP : va_P D vwCl ((h0, .inr (12, fs)) :: (q_24, .inl (D.1 14, 5, .inl (fun j => i2 (upZ (upZ (upZ (upZ (upZ (fun _ => 0) 0 99) 1 111) 2 115) 3 116) 4 115 j)))) :: T) H := hP
  have hD : va_D A ((h0, .inr (12, fs)) :: (q_24, .inl (D.1 14, 5, .inl (fun j => i2 (upZ (upZ (upZ (upZ (upZ (fun _ => 0) 0 99) 1 111) 2 115) 3 116) 4 115 j)))) :: T) := hD
  refine va_putF (D := D) (ci := 12) (v := .ref q_24) (ty := .array .char) (C := RX12) (T := TX12) (N := 116) hx hb ht inX12 tyX12 tyX12_ok nmX12 hown hK hP hD hS 0 rfl rfl 20 (by decide) (ht (.fieldLink RX12 48 "CloneVolumesModel" "costsWord" "[C") fl_X12_48) (fun _ h9 => h9) rfl hin rfl (by decide +kernel) rfl rfl (by rw [hlen]; decide) dX12_init_337 (fun H locs hP hD hS => ?_)
  have hP : va_P D vwCl ((h0, .inr (12, (fs.set 20 (.ref q_24)))) :: (q_24, .inl (D.1 14, 5, .inl (fun j => i2 (upZ (upZ (upZ (upZ (upZ (fun _ => 0) 0 99) 1 111) 2 115) 3 116) 4 115 j)))) :: T) H := hP
  have hD : va_D A ((h0, .inr (12, (fs.set 20 (.ref q_24)))) :: (q_24, .inl (D.1 14, 5, .inl (fun j => i2 (upZ (upZ (upZ (upZ (upZ (fun _ => 0) 0 99) 1 111) 2 115) 3 116) 4 115 j)))) :: T) := hD
  generalize hfs_25 : fs.set 20 (.ref q_24) = fs_25 at hP hD
  have hlen : fs_25.length = 116 := by rw [← hfs_25, List.length_set]; exact hlen
  have hP : va_P D vwCl ((h0, .inr (12, fs_25)) :: (q_24, .inl (D.1 14, 5, .inl (fun j => i2 (upZ (upZ (upZ (upZ (upZ (fun _ => 0) 0 99) 1 111) 2 115) 3 116) 4 115 j)))) :: T) H := hP
  have hD : va_D A ((h0, .inr (12, fs_25)) :: (q_24, .inl (D.1 14, 5, .inl (fun j => i2 (upZ (upZ (upZ (upZ (upZ (fun _ => 0) 0 99) 1 111) 2 115) 3 116) 4 115 j)))) :: T) := hD
  refine lv_aload_n hx hb dX12_init_340 rfl (lv_at hl 0 rfl) ?_
  refine lv_iconst (v := 5) hx hb dX12_init_341 (by decide) ?_
  refine va_newa (atype := .char) (a0 := (5, .inl (fun _ => 0))) (ty := .char) (N' := 5) hx hb (ht _ ac_char) rfl hK hP hD hS hA (fun _ => rfl) (by decide) (by decide) (by decide) (Nat.le_trans (Nat.le_of_ble_eq_true rfl) hRc) (Nat.le_trans (Nat.le_of_ble_eq_true rfl) hRs) dX12_init_342 (fun q_26 cA H hK2 hP hD hS => ?_)
  obtain rfl := z_cls_char hK hK2
  refine W.widen (k := 13) (n := 1659) (Nat.le_of_ble_eq_true rfl) (Nat.le_of_ble_eq_true rfl) ?_
  obtain ⟨hP, hD⟩ := z_rot hP hD
  have hP : va_P D vwCl ((h0, .inr (12, fs_25)) :: (q_26, .inl (D.1 14, 5, .inl (fun _ => i2 0))) :: (q_24, .inl (D.1 14, 5, .inl (fun j => i2 (upZ (upZ (upZ (upZ (upZ (fun _ => 0) 0 99) 1 111) 2 115) 3 116) 4 115 j)))) :: T) H := hP
  have hD : va_D A ((h0, .inr (12, fs_25)) :: (q_26, .inl (D.1 14, 5, .inl (fun _ => i2 0))) :: (q_24, .inl (D.1 14, 5, .inl (fun j => i2 (upZ (upZ (upZ (upZ (upZ (fun _ => 0) 0 99) 1 111) 2 115) 3 116) 4 115 j)))) :: T) := hD
  refine lv_dup hx hb dX12_init_344 rfl ?_
  refine lv_iconst (v := 0) hx hb dX12_init_345 (by decide) ?_
  refine lv_bipush (v := 99) hx hb dX12_init_346 (by decide) ?_
  refine va_cast hx hb hK hP hD hS 1 1 rfl rfl (z_in (by decide) (by decide)) dX12_init_348 (fun H locs hP hD hS => ?_)
  rw [c_i2 (F := fun _ => 0) (k := Int32.toNatClampNeg 0) (c := vp_nar .char 99) (v := 99) (by decide)] at hP hD
  have hP : va_P D vwCl ((h0, .inr (12, fs_25)) :: (q_26, .inl (D.1 14, 5, .inl (fun j => i2 (upZ (fun _ => 0) 0 99 j)))) :: (q_24, .inl (D.1 14, 5, .inl (fun j => i2 (upZ (upZ (upZ (upZ (upZ (fun _ => 0) 0 99) 1 111) 2 115) 3 116) 4 115 j)))) :: T) H := hP
  have hD : va_D A ((h0, .inr (12, fs_25)) :: (q_26, .inl (D.1 14, 5, .inl (fun j => i2 (upZ (fun _ => 0) 0 99 j)))) :: (q_24, .inl (D.1 14, 5, .inl (fun j => i2 (upZ (upZ (upZ (upZ (upZ (fun _ => 0) 0 99) 1 111) 2 115) 3 116) 4 115 j)))) :: T) := hD
  refine lv_dup hx hb dX12_init_349 rfl ?_
  refine lv_iconst (v := 1) hx hb dX12_init_350 (by decide) ?_
  refine lv_bipush (v := 104) hx hb dX12_init_351 (by decide) ?_
  refine va_cast hx hb hK hP hD hS 1 1 rfl rfl (z_in (by decide) (by decide)) dX12_init_353 (fun H locs hP hD hS => ?_)
  rw [c_i2 (F := upZ (fun _ => 0) 0 99) (k := Int32.toNatClampNeg 1) (c := vp_nar .char 104) (v := 104) (by decide)] at hP hD
  have hP : va_P D vwCl ((h0, .inr (12, fs_25)) :: (q_26, .inl (D.1 14, 5, .inl (fun j => i2 (upZ (upZ (fun _ => 0) 0 99) 1 104 j)))) :: (q_24, .inl (D.1 14, 5, .inl (fun j => i2 (upZ (upZ (upZ (upZ (upZ (fun _ => 0) 0 99) 1 111) 2 115) 3 116) 4 115 j)))) :: T) H := hP
  have hD : va_D A ((h0, .inr (12, fs_25)) :: (q_26, .inl (D.1 14, 5, .inl (fun j => i2 (upZ (upZ (fun _ => 0) 0 99) 1 104 j)))) :: (q_24, .inl (D.1 14, 5, .inl (fun j => i2 (upZ (upZ (upZ (upZ (upZ (fun _ => 0) 0 99) 1 111) 2 115) 3 116) 4 115 j)))) :: T) := hD
  refine lv_dup hx hb dX12_init_354 rfl ?_
  refine lv_iconst (v := 2) hx hb dX12_init_355 (by decide) ?_
  refine lv_bipush (v := 117) hx hb dX12_init_356 (by decide) ?_
  refine va_cast hx hb hK hP hD hS 1 1 rfl rfl (z_in (by decide) (by decide)) dX12_init_358 (fun H locs hP hD hS => ?_)
  rw [c_i2 (F := upZ (upZ (fun _ => 0) 0 99) 1 104) (k := Int32.toNatClampNeg 2) (c := vp_nar .char 117) (v := 117) (by decide)] at hP hD
  have hP : va_P D vwCl ((h0, .inr (12, fs_25)) :: (q_26, .inl (D.1 14, 5, .inl (fun j => i2 (upZ (upZ (upZ (fun _ => 0) 0 99) 1 104) 2 117 j)))) :: (q_24, .inl (D.1 14, 5, .inl (fun j => i2 (upZ (upZ (upZ (upZ (upZ (fun _ => 0) 0 99) 1 111) 2 115) 3 116) 4 115 j)))) :: T) H := hP
  have hD : va_D A ((h0, .inr (12, fs_25)) :: (q_26, .inl (D.1 14, 5, .inl (fun j => i2 (upZ (upZ (upZ (fun _ => 0) 0 99) 1 104) 2 117 j)))) :: (q_24, .inl (D.1 14, 5, .inl (fun j => i2 (upZ (upZ (upZ (upZ (upZ (fun _ => 0) 0 99) 1 111) 2 115) 3 116) 4 115 j)))) :: T) := hD
  refine lv_dup hx hb dX12_init_359 rfl ?_
  refine lv_iconst (v := 3) hx hb dX12_init_360 (by decide) ?_
  refine lv_bipush (v := 114) hx hb dX12_init_361 (by decide) ?_
  refine va_cast hx hb hK hP hD hS 1 1 rfl rfl (z_in (by decide) (by decide)) dX12_init_363 (fun H locs hP hD hS => ?_)
  rw [c_i2 (F := upZ (upZ (upZ (fun _ => 0) 0 99) 1 104) 2 117) (k := Int32.toNatClampNeg 3) (c := vp_nar .char 114) (v := 114) (by decide)] at hP hD
  have hP : va_P D vwCl ((h0, .inr (12, fs_25)) :: (q_26, .inl (D.1 14, 5, .inl (fun j => i2 (upZ (upZ (upZ (upZ (fun _ => 0) 0 99) 1 104) 2 117) 3 114 j)))) :: (q_24, .inl (D.1 14, 5, .inl (fun j => i2 (upZ (upZ (upZ (upZ (upZ (fun _ => 0) 0 99) 1 111) 2 115) 3 116) 4 115 j)))) :: T) H := hP
  have hD : va_D A ((h0, .inr (12, fs_25)) :: (q_26, .inl (D.1 14, 5, .inl (fun j => i2 (upZ (upZ (upZ (upZ (fun _ => 0) 0 99) 1 104) 2 117) 3 114 j)))) :: (q_24, .inl (D.1 14, 5, .inl (fun j => i2 (upZ (upZ (upZ (upZ (upZ (fun _ => 0) 0 99) 1 111) 2 115) 3 116) 4 115 j)))) :: T) := hD
  refine lv_dup hx hb dX12_init_364 rfl ?_
  refine lv_iconst (v := 4) hx hb dX12_init_365 (by decide) ?_
  refine lv_bipush (v := 110) hx hb dX12_init_366 (by decide) ?_
  refine va_cast hx hb hK hP hD hS 1 1 rfl rfl (z_in (by decide) (by decide)) dX12_init_368 (fun H locs hP hD hS => ?_)
  rw [c_i2 (F := upZ (upZ (upZ (upZ (fun _ => 0) 0 99) 1 104) 2 117) 3 114) (k := Int32.toNatClampNeg 4) (c := vp_nar .char 110) (v := 110) (by decide)] at hP hD
  have hP : va_P D vwCl ((h0, .inr (12, fs_25)) :: (q_26, .inl (D.1 14, 5, .inl (fun j => i2 (upZ (upZ (upZ (upZ (upZ (fun _ => 0) 0 99) 1 104) 2 117) 3 114) 4 110 j)))) :: (q_24, .inl (D.1 14, 5, .inl (fun j => i2 (upZ (upZ (upZ (upZ (upZ (fun _ => 0) 0 99) 1 111) 2 115) 3 116) 4 115 j)))) :: T) H := hP
  have hD : va_D A ((h0, .inr (12, fs_25)) :: (q_26, .inl (D.1 14, 5, .inl (fun j => i2 (upZ (upZ (upZ (upZ (upZ (fun _ => 0) 0 99) 1 104) 2 117) 3 114) 4 110 j)))) :: (q_24, .inl (D.1 14, 5, .inl (fun j => i2 (upZ (upZ (upZ (upZ (upZ (fun _ => 0) 0 99) 1 111) 2 115) 3 116) 4 115 j)))) :: T) := hD
  refine va_putF (D := D) (ci := 12) (v := .ref q_26) (ty := .array .char) (C := RX12) (T := TX12) (N := 116) hx hb ht inX12 tyX12 tyX12_ok nmX12 hown hK hP hD hS 0 rfl rfl 21 (by decide) (ht (.fieldLink RX12 51 "CloneVolumesModel" "churnWord" "[C") fl_X12_51) (fun _ h9 => h9) rfl hin rfl (by decide +kernel) rfl rfl (by rw [hlen]; decide) dX12_init_369 (fun H locs hP hD hS => ?_)
  have hP : va_P D vwCl ((h0, .inr (12, (fs_25.set 21 (.ref q_26)))) :: (q_26, .inl (D.1 14, 5, .inl (fun j => i2 (upZ (upZ (upZ (upZ (upZ (fun _ => 0) 0 99) 1 104) 2 117) 3 114) 4 110 j)))) :: (q_24, .inl (D.1 14, 5, .inl (fun j => i2 (upZ (upZ (upZ (upZ (upZ (fun _ => 0) 0 99) 1 111) 2 115) 3 116) 4 115 j)))) :: T) H := hP
  have hD : va_D A ((h0, .inr (12, (fs_25.set 21 (.ref q_26)))) :: (q_26, .inl (D.1 14, 5, .inl (fun j => i2 (upZ (upZ (upZ (upZ (upZ (fun _ => 0) 0 99) 1 104) 2 117) 3 114) 4 110 j)))) :: (q_24, .inl (D.1 14, 5, .inl (fun j => i2 (upZ (upZ (upZ (upZ (upZ (fun _ => 0) 0 99) 1 111) 2 115) 3 116) 4 115 j)))) :: T) := hD
  generalize hfs_27 : fs_25.set 21 (.ref q_26) = fs_27 at hP hD
  have hlen : fs_27.length = 116 := by rw [← hfs_27, List.length_set]; exact hlen
  have hP : va_P D vwCl ((h0, .inr (12, fs_27)) :: (q_26, .inl (D.1 14, 5, .inl (fun j => i2 (upZ (upZ (upZ (upZ (upZ (fun _ => 0) 0 99) 1 104) 2 117) 3 114) 4 110 j)))) :: (q_24, .inl (D.1 14, 5, .inl (fun j => i2 (upZ (upZ (upZ (upZ (upZ (fun _ => 0) 0 99) 1 111) 2 115) 3 116) 4 115 j)))) :: T) H := hP
  have hD : va_D A ((h0, .inr (12, fs_27)) :: (q_26, .inl (D.1 14, 5, .inl (fun j => i2 (upZ (upZ (upZ (upZ (upZ (fun _ => 0) 0 99) 1 104) 2 117) 3 114) 4 110 j)))) :: (q_24, .inl (D.1 14, 5, .inl (fun j => i2 (upZ (upZ (upZ (upZ (upZ (fun _ => 0) 0 99) 1 111) 2 115) 3 116) 4 115 j)))) :: T) := hD
  exact kk q_26 q_24 fs_27 _ _ (by rw [← hfs_27, ← hfs_25]) hP hD hS
