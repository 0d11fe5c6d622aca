theorem fl_X6_51 : Cond.fieldLink RX6 51 "CloneVolumes$Reader" "start" "I" ∈ lw_gd := zm (List.mem_of_getElem? (i := 308) (by decide +kernel)) rfl
theorem fl_X6_23 : Cond.fieldLink RX6 23 "CloneVolumes$Reader" "words" "[C" ∈ lw_gd := zm (List.mem_of_getElem? (i := 303) (by decide +kernel)) rfl
theorem fl_X6_88 : Cond.fieldLink RX6 88 "CloneVolumes$Reader" "stop" "I" ∈ lw_gd := zm (List.mem_of_getElem? (i := 309) (by decide +kernel)) rfl
theorem fl_X6_27 : Cond.fieldLink RX6 27 "CloneVolumes$Reader" "tape" "LCloneVolumes$Tape;" ∈ lw_gd := zm (List.mem_of_getElem? (i := 302) (by decide +kernel)) rfl
theorem fl_X6_96 : Cond.fieldLink RX6 96 "CloneVolumes$Tape" "bytes" "[I" ∈ lw_gd := zm (List.mem_of_getElem? (i := 233) (by decide +kernel)) rfl
theorem fl_X6_61 : Cond.fieldLink RX6 61 "CloneVolumes$Reader" "fault" "I" ∈ lw_gd := zm (List.mem_of_getElem? (i := 298) (by decide +kernel)) rfl
theorem fl_X6_91 : Cond.fieldLink RX6 91 "CloneVolumes$Tape" "length" "I" ∈ lw_gd := zm (List.mem_of_getElem? (i := 238) (by decide +kernel)) rfl
theorem fl_X6_72 : Cond.fieldLink RX6 72 "CloneVolumes$Reader" "word" "I" ∈ lw_gd := zm (List.mem_of_getElem? (i := 310) (by decide +kernel)) rfl
theorem ml_X6_104 : Cond.methodLink RX6 104 yX9_at ∈ lw_gd := zm (List.mem_of_getElem? (i := 780) (by decide +kernel)) rfl
theorem im_X9_at : Cond.instanceMethod yX9_at ∈ lw_gd := zm (List.mem_of_getElem? (i := 781) (by decide +kernel)) rfl
theorem se_X9_at : Cond.selects RX9 yX9_at yX9_at ∈ lw_gd := zm (List.mem_of_getElem? (i := 782) (by decide +kernel)) rfl
theorem in_X9 : Cond.initialized RX9 ∈ lw_gd := zm (List.mem_of_getElem? (i := 199) (by decide +kernel)) rfl
theorem co_X9_at : Cond.code yX9_at cX9_at 2 (some .int) ∈ lw_gd := zm (List.mem_of_getElem? (i := 783) (by decide +kernel)) rfl
theorem fl_X6_108 : Cond.fieldLink RX6 108 "CloneVolumes$Reader" "sign" "I" ∈ lw_gd := zm (List.mem_of_getElem? (i := 311) (by decide +kernel)) rfl
theorem ml_X6_111 : Cond.methodLink RX6 111 yX6_isLetter ∈ lw_gd := zm (List.mem_of_getElem? (i := 784) (by decide +kernel)) rfl
theorem st_X6_isLetter : Cond.static yX6_isLetter ∈ lw_gd := zm (List.mem_of_getElem? (i := 785) (by decide +kernel)) rfl
theorem in_X6 : Cond.initialized RX6 ∈ lw_gd := zm (List.mem_of_getElem? (i := 200) (by decide +kernel)) rfl
theorem co_X6_isLetter : Cond.code yX6_isLetter cX6_isLetter 1 (some .boolean) ∈ lw_gd := zm (List.mem_of_getElem? (i := 786) (by decide +kernel)) rfl
theorem fl_X6_44 : Cond.fieldLink RX6 44 "CloneVolumes$Reader" "kind" "I" ∈ lw_gd := zm (List.mem_of_getElem? (i := 307) (by decide +kernel)) rfl
theorem ml_X6_114 : Cond.methodLink RX6 114 yX6_wordNumber ∈ lw_gd := zm (List.mem_of_getElem? (i := 787) (by decide +kernel)) rfl
theorem im_X6_wordNumber : Cond.instanceMethod yX6_wordNumber ∈ lw_gd := zm (List.mem_of_getElem? (i := 789) (by decide +kernel)) rfl
theorem se_X6_wordNumber : Cond.selects RX6 yX6_wordNumber yX6_wordNumber ∈ lw_gd := zm (List.mem_of_getElem? (i := 3) (by decide +kernel)) rfl
theorem co_X6_wordNumber : Cond.code yX6_wordNumber cX6_wordNumber 5 (some .int) ∈ lw_gd := zm (List.mem_of_getElem? (i := 790) (by decide +kernel)) rfl
theorem ml_X6_118 : Cond.methodLink RX6 118 yX6_isDigit ∈ lw_gd := zm (List.mem_of_getElem? (i := 791) (by decide +kernel)) rfl
theorem st_X6_isDigit : Cond.static yX6_isDigit ∈ lw_gd := zm (List.mem_of_getElem? (i := 792) (by decide +kernel)) rfl
theorem co_X6_isDigit : Cond.code yX6_isDigit cX6_isDigit 1 (some .boolean) ∈ lw_gd := zm (List.mem_of_getElem? (i := 793) (by decide +kernel)) rfl
theorem ml_X6_100 : Cond.methodLink RX6 100 yX6_isBlank ∈ lw_gd := zm (List.mem_of_getElem? (i := 777) (by decide +kernel)) rfl
theorem st_X6_isBlank : Cond.static yX6_isBlank ∈ lw_gd := zm (List.mem_of_getElem? (i := 778) (by decide +kernel)) rfl
theorem co_X6_isBlank : Cond.code yX6_isBlank cX6_isBlank 1 (some .boolean) ∈ lw_gd := zm (List.mem_of_getElem? (i := 779) (by decide +kernel)) rfl
theorem dX6_advance_0 : decode cX6_advance 0 = .ok (.aload_n 0, 1) := by decide +kernel
theorem dX6_advance_1 : decode cX6_advance 1 = .ok (.getfield 61, 3) := by decide +kernel
theorem dX6_advance_4 : decode cX6_advance 4 = .ok (.ifCond .eq 4, 3) := by decide +kernel
theorem dX6_advance_7 : decode cX6_advance 7 = .ok (.return_, 1) := by decide +kernel
theorem dX6_advance_8 : decode cX6_advance 8 = .ok (.aload_n 0, 1) := by decide +kernel
theorem dX6_advance_9 : decode cX6_advance 9 = .ok (.aload_n 0, 1) := by decide +kernel
theorem dX6_advance_10 : decode cX6_advance 10 = .ok (.getfield 88, 3) := by decide +kernel
theorem dX6_advance_13 : decode cX6_advance 13 = .ok (.putfield 51, 3) := by decide +kernel
theorem dX6_advance_16 : decode cX6_advance 16 = .ok (.aload_n 0, 1) := by decide +kernel
theorem dX6_advance_17 : decode cX6_advance 17 = .ok (.getfield 51, 3) := by decide +kernel
theorem dX6_advance_20 : decode cX6_advance 20 = .ok (.aload_n 0, 1) := by decide +kernel
theorem dX6_advance_21 : decode cX6_advance 21 = .ok (.getfield 27, 3) := by decide +kernel
theorem dX6_advance_24 : decode cX6_advance 24 = .ok (.getfield 91, 3) := by decide +kernel
theorem dX6_advance_27 : decode cX6_advance 27 = .ok (.if_icmp .ge 34, 3) := by decide +kernel
theorem dX6_advance_30 : decode cX6_advance 30 = .ok (.aload_n 0, 1) := by decide +kernel
theorem dX6_advance_31 : decode cX6_advance 31 = .ok (.getfield 27, 3) := by decide +kernel
theorem dX6_advance_34 : decode cX6_advance 34 = .ok (.getfield 96, 3) := by decide +kernel
theorem dX6_advance_37 : decode cX6_advance 37 = .ok (.aload_n 0, 1) := by decide +kernel
theorem dX6_advance_38 : decode cX6_advance 38 = .ok (.getfield 51, 3) := by decide +kernel
theorem dX6_advance_41 : decode cX6_advance 41 = .ok (.iaload, 1) := by decide +kernel
theorem dX6_advance_42 : decode cX6_advance 42 = .ok (.invokestatic 100, 3) := by decide +kernel
theorem dX6_advance_45 : decode cX6_advance 45 = .ok (.ifCond .eq 16, 3) := by decide +kernel
theorem dX6_advance_48 : decode cX6_advance 48 = .ok (.aload_n 0, 1) := by decide +kernel
theorem dX6_advance_49 : decode cX6_advance 49 = .ok (.dup, 1) := by decide +kernel
theorem dX6_advance_50 : decode cX6_advance 50 = .ok (.getfield 51, 3) := by decide +kernel
theorem dX6_advance_53 : decode cX6_advance 53 = .ok (.iconst 1, 1) := by decide +kernel
theorem dX6_advance_54 : decode cX6_advance 54 = .ok (.iadd, 1) := by decide +kernel
theorem dX6_advance_55 : decode cX6_advance 55 = .ok (.putfield 51, 3) := by decide +kernel
theorem dX6_advance_58 : decode cX6_advance 58 = .ok (.goto (-42), 3) := by decide +kernel
theorem dX6_advance_61 : decode cX6_advance 61 = .ok (.aload_n 0, 1) := by decide +kernel
theorem dX6_advance_62 : decode cX6_advance 62 = .ok (.aload_n 0, 1) := by decide +kernel
theorem dX6_advance_63 : decode cX6_advance 63 = .ok (.getfield 51, 3) := by decide +kernel
theorem dX6_advance_66 : decode cX6_advance 66 = .ok (.putfield 88, 3) := by decide +kernel
theorem dX6_advance_69 : decode cX6_advance 69 = .ok (.aload_n 0, 1) := by decide +kernel
theorem dX6_advance_70 : decode cX6_advance 70 = .ok (.iconst (-1), 1) := by decide +kernel
theorem dX6_advance_71 : decode cX6_advance 71 = .ok (.putfield 72, 3) := by decide +kernel
theorem dX6_advance_74 : decode cX6_advance 74 = .ok (.aload_n 0, 1) := by decide +kernel
theorem dX6_advance_75 : decode cX6_advance 75 = .ok (.aload_n 0, 1) := by decide +kernel
theorem dX6_advance_76 : decode cX6_advance 76 = .ok (.getfield 27, 3) := by decide +kernel
theorem dX6_advance_79 : decode cX6_advance 79 = .ok (.aload_n 0, 1) := by decide +kernel
theorem dX6_advance_80 : decode cX6_advance 80 = .ok (.getfield 51, 3) := by decide +kernel
theorem dX6_advance_83 : decode cX6_advance 83 = .ok (.invokevirtual 104, 3) := by decide +kernel
theorem dX6_advance_86 : decode cX6_advance 86 = .ok (.putfield 108, 3) := by decide +kernel
theorem dX6_advance_89 : decode cX6_advance 89 = .ok (.aload_n 0, 1) := by decide +kernel
theorem dX6_advance_90 : decode cX6_advance 90 = .ok (.getfield 108, 3) := by decide +kernel
theorem dX6_advance_93 : decode cX6_advance 93 = .ok (.iconst (-1), 1) := by decide +kernel
theorem dX6_advance_94 : decode cX6_advance 94 = .ok (.if_icmp .ne 11, 3) := by decide +kernel
theorem dX6_advance_97 : decode cX6_advance 97 = .ok (.aload_n 0, 1) := by decide +kernel
theorem dX6_advance_98 : decode cX6_advance 98 = .ok (.iconst 0, 1) := by decide +kernel
theorem dX6_advance_99 : decode cX6_advance 99 = .ok (.putfield 44, 3) := by decide +kernel
theorem dX6_advance_102 : decode cX6_advance 102 = .ok (.goto 149, 3) := by decide +kernel
theorem dX6_advance_105 : decode cX6_advance 105 = .ok (.aload_n 0, 1) := by decide +kernel
theorem dX6_advance_106 : decode cX6_advance 106 = .ok (.getfield 108, 3) := by decide +kernel
theorem dX6_advance_109 : decode cX6_advance 109 = .ok (.invokestatic 111, 3) := by decide +kernel
theorem dX6_advance_112 : decode cX6_advance 112 = .ok (.ifCond .eq 64, 3) := by decide +kernel
theorem dX6_advance_115 : decode cX6_advance 115 = .ok (.aload_n 0, 1) := by decide +kernel
theorem dX6_advance_116 : decode cX6_advance 116 = .ok (.iconst 1, 1) := by decide +kernel
theorem dX6_advance_117 : decode cX6_advance 117 = .ok (.putfield 44, 3) := by decide +kernel
theorem dX6_advance_120 : decode cX6_advance 120 = .ok (.aload_n 0, 1) := by decide +kernel
theorem dX6_advance_121 : decode cX6_advance 121 = .ok (.getfield 88, 3) := by decide +kernel
theorem dX6_advance_124 : decode cX6_advance 124 = .ok (.aload_n 0, 1) := by decide +kernel
theorem dX6_advance_125 : decode cX6_advance 125 = .ok (.getfield 27, 3) := by decide +kernel
theorem dX6_advance_128 : decode cX6_advance 128 = .ok (.getfield 91, 3) := by decide +kernel
theorem dX6_advance_131 : decode cX6_advance 131 = .ok (.if_icmp .ge 34, 3) := by decide +kernel
theorem dX6_advance_134 : decode cX6_advance 134 = .ok (.aload_n 0, 1) := by decide +kernel
theorem dX6_advance_135 : decode cX6_advance 135 = .ok (.getfield 27, 3) := by decide +kernel
theorem dX6_advance_138 : decode cX6_advance 138 = .ok (.getfield 96, 3) := by decide +kernel
theorem dX6_advance_141 : decode cX6_advance 141 = .ok (.aload_n 0, 1) := by decide +kernel
theorem dX6_advance_142 : decode cX6_advance 142 = .ok (.getfield 88, 3) := by decide +kernel
theorem dX6_advance_145 : decode cX6_advance 145 = .ok (.iaload, 1) := by decide +kernel
theorem dX6_advance_146 : decode cX6_advance 146 = .ok (.invokestatic 111, 3) := by decide +kernel
theorem dX6_advance_149 : decode cX6_advance 149 = .ok (.ifCond .eq 16, 3) := by decide +kernel
theorem dX6_advance_152 : decode cX6_advance 152 = .ok (.aload_n 0, 1) := by decide +kernel
theorem dX6_advance_153 : decode cX6_advance 153 = .ok (.dup, 1) := by decide +kernel
theorem dX6_advance_154 : decode cX6_advance 154 = .ok (.getfield 88, 3) := by decide +kernel
theorem dX6_advance_157 : decode cX6_advance 157 = .ok (.iconst 1, 1) := by decide +kernel
theorem dX6_advance_158 : decode cX6_advance 158 = .ok (.iadd, 1) := by decide +kernel
theorem dX6_advance_159 : decode cX6_advance 159 = .ok (.putfield 88, 3) := by decide +kernel
theorem dX6_advance_162 : decode cX6_advance 162 = .ok (.goto (-42), 3) := by decide +kernel
theorem dX6_advance_165 : decode cX6_advance 165 = .ok (.aload_n 0, 1) := by decide +kernel
theorem dX6_advance_166 : decode cX6_advance 166 = .ok (.aload_n 0, 1) := by decide +kernel
theorem dX6_advance_167 : decode cX6_advance 167 = .ok (.invokevirtual 114, 3) := by decide +kernel
theorem dX6_advance_170 : decode cX6_advance 170 = .ok (.putfield 72, 3) := by decide +kernel
theorem dX6_advance_173 : decode cX6_advance 173 = .ok (.goto 78, 3) := by decide +kernel
theorem dX6_advance_176 : decode cX6_advance 176 = .ok (.aload_n 0, 1) := by decide +kernel
theorem dX6_advance_177 : decode cX6_advance 177 = .ok (.getfield 108, 3) := by decide +kernel
theorem dX6_advance_180 : decode cX6_advance 180 = .ok (.invokestatic 118, 3) := by decide +kernel
theorem dX6_advance_183 : decode cX6_advance 183 = .ok (.ifCond .eq 53, 3) := by decide +kernel
theorem dX6_advance_186 : decode cX6_advance 186 = .ok (.aload_n 0, 1) := by decide +kernel
theorem dX6_advance_187 : decode cX6_advance 187 = .ok (.iconst 2, 1) := by decide +kernel
theorem dX6_advance_188 : decode cX6_advance 188 = .ok (.putfield 44, 3) := by decide +kernel
theorem dX6_advance_191 : decode cX6_advance 191 = .ok (.aload_n 0, 1) := by decide +kernel
theorem dX6_advance_192 : decode cX6_advance 192 = .ok (.getfield 88, 3) := by decide +kernel
theorem dX6_advance_195 : decode cX6_advance 195 = .ok (.aload_n 0, 1) := by decide +kernel
theorem dX6_advance_196 : decode cX6_advance 196 = .ok (.getfield 27, 3) := by decide +kernel
theorem dX6_advance_199 : decode cX6_advance 199 = .ok (.getfield 91, 3) := by decide +kernel
theorem dX6_advance_202 : decode cX6_advance 202 = .ok (.if_icmp .ge 49, 3) := by decide +kernel
theorem dX6_advance_205 : decode cX6_advance 205 = .ok (.aload_n 0, 1) := by decide +kernel
theorem dX6_advance_206 : decode cX6_advance 206 = .ok (.getfield 27, 3) := by decide +kernel
theorem dX6_advance_209 : decode cX6_advance 209 = .ok (.getfield 96, 3) := by decide +kernel
theorem dX6_advance_212 : decode cX6_advance 212 = .ok (.aload_n 0, 1) := by decide +kernel
theorem dX6_advance_213 : decode cX6_advance 213 = .ok (.getfield 88, 3) := by decide +kernel
theorem dX6_advance_216 : decode cX6_advance 216 = .ok (.iaload, 1) := by decide +kernel
theorem dX6_advance_217 : decode cX6_advance 217 = .ok (.invokestatic 118, 3) := by decide +kernel
theorem dX6_advance_220 : decode cX6_advance 220 = .ok (.ifCond .eq 31, 3) := by decide +kernel
theorem dX6_advance_223 : decode cX6_advance 223 = .ok (.aload_n 0, 1) := by decide +kernel
theorem dX6_advance_224 : decode cX6_advance 224 = .ok (.dup, 1) := by decide +kernel
theorem dX6_advance_225 : decode cX6_advance 225 = .ok (.getfield 88, 3) := by decide +kernel
theorem dX6_advance_228 : decode cX6_advance 228 = .ok (.iconst 1, 1) := by decide +kernel
theorem dX6_advance_229 : decode cX6_advance 229 = .ok (.iadd, 1) := by decide +kernel
theorem dX6_advance_230 : decode cX6_advance 230 = .ok (.putfield 88, 3) := by decide +kernel
theorem dX6_advance_233 : decode cX6_advance 233 = .ok (.goto (-42), 3) := by decide +kernel
theorem dX6_advance_236 : decode cX6_advance 236 = .ok (.aload_n 0, 1) := by decide +kernel
theorem dX6_advance_237 : decode cX6_advance 237 = .ok (.iconst 3, 1) := by decide +kernel
theorem dX6_advance_238 : decode cX6_advance 238 = .ok (.putfield 44, 3) := by decide +kernel
theorem dX6_advance_241 : decode cX6_advance 241 = .ok (.aload_n 0, 1) := by decide +kernel
theorem dX6_advance_242 : decode cX6_advance 242 = .ok (.dup, 1) := by decide +kernel
theorem dX6_advance_243 : decode cX6_advance 243 = .ok (.getfield 88, 3) := by decide +kernel
theorem dX6_advance_246 : decode cX6_advance 246 = .ok (.iconst 1, 1) := by decide +kernel
theorem dX6_advance_247 : decode cX6_advance 247 = .ok (.iadd, 1) := by decide +kernel
theorem dX6_advance_248 : decode cX6_advance 248 = .ok (.putfield 88, 3) := by decide +kernel
theorem dX6_advance_251 : decode cX6_advance 251 = .ok (.aload_n 0, 1) := by decide +kernel
theorem dX6_advance_252 : decode cX6_advance 252 = .ok (.getfield 27, 3) := by decide +kernel
theorem dX6_advance_255 : decode cX6_advance 255 = .ok (.aload_n 0, 1) := by decide +kernel
theorem dX6_advance_256 : decode cX6_advance 256 = .ok (.getfield 51, 3) := by decide +kernel
theorem dX6_advance_259 : decode cX6_advance 259 = .ok (.iconst 1, 1) := by decide +kernel
theorem dX6_advance_260 : decode cX6_advance 260 = .ok (.isub, 1) := by decide +kernel
theorem dX6_advance_261 : decode cX6_advance 261 = .ok (.invokevirtual 104, 3) := by decide +kernel
theorem dX6_advance_264 : decode cX6_advance 264 = .ok (.istore_n 1, 1) := by decide +kernel
theorem dX6_advance_265 : decode cX6_advance 265 = .ok (.aload_n 0, 1) := by decide +kernel
theorem dX6_advance_266 : decode cX6_advance 266 = .ok (.getfield 44, 3) := by decide +kernel
theorem dX6_advance_269 : decode cX6_advance 269 = .ok (.iconst 1, 1) := by decide +kernel
theorem dX6_advance_270 : decode cX6_advance 270 = .ok (.if_icmp .eq 11, 3) := by decide +kernel
theorem dX6_advance_273 : decode cX6_advance 273 = .ok (.aload_n 0, 1) := by decide +kernel
theorem dX6_advance_274 : decode cX6_advance 274 = .ok (.getfield 44, 3) := by decide +kernel
theorem dX6_advance_277 : decode cX6_advance 277 = .ok (.iconst 2, 1) := by decide +kernel
theorem dX6_advance_278 : decode cX6_advance 278 = .ok (.if_icmp .ne 22, 3) := by decide +kernel
theorem dX6_advance_281 : decode cX6_advance 281 = .ok (.iload_n 1, 1) := by decide +kernel
theorem dX6_advance_282 : decode cX6_advance 282 = .ok (.invokestatic 111, 3) := by decide +kernel
theorem dX6_advance_285 : decode cX6_advance 285 = .ok (.ifCond .ne 10, 3) := by decide +kernel
theorem dX6_advance_288 : decode cX6_advance 288 = .ok (.iload_n 1, 1) := by decide +kernel
theorem dX6_advance_289 : decode cX6_advance 289 = .ok (.invokestatic 118, 3) := by decide +kernel
theorem dX6_advance_292 : decode cX6_advance 292 = .ok (.ifCond .eq 8, 3) := by decide +kernel
theorem dX6_advance_295 : decode cX6_advance 295 = .ok (.aload_n 0, 1) := by decide +kernel
theorem dX6_advance_296 : decode cX6_advance 296 = .ok (.iconst 4, 1) := by decide +kernel
theorem dX6_advance_297 : decode cX6_advance 297 = .ok (.putfield 44, 3) := by decide +kernel
theorem dX6_advance_300 : decode cX6_advance 300 = .ok (.return_, 1) := by decide +kernel
theorem dX6_isBlank_0 : decode cX6_isBlank 0 = .ok (.iload_n 0, 1) := by decide +kernel
theorem dX6_isBlank_1 : decode cX6_isBlank 1 = .ok (.bipush 10, 2) := by decide +kernel
theorem dX6_isBlank_3 : decode cX6_isBlank 3 = .ok (.if_icmp .eq 9, 3) := by decide +kernel
theorem dX6_isBlank_6 : decode cX6_isBlank 6 = .ok (.iload_n 0, 1) := by decide +kernel
theorem dX6_isBlank_7 : decode cX6_isBlank 7 = .ok (.bipush 32, 2) := by decide +kernel
theorem dX6_isBlank_9 : decode cX6_isBlank 9 = .ok (.if_icmp .ne 7, 3) := by decide +kernel
theorem dX6_isBlank_12 : decode cX6_isBlank 12 = .ok (.iconst 1, 1) := by decide +kernel
theorem dX6_isBlank_13 : decode cX6_isBlank 13 = .ok (.goto 4, 3) := by decide +kernel
theorem dX6_isBlank_16 : decode cX6_isBlank 16 = .ok (.iconst 0, 1) := by decide +kernel
theorem dX6_isBlank_17 : decode cX6_isBlank 17 = .ok (.ireturn, 1) := by decide +kernel
theorem dX6_isDigit_0 : decode cX6_isDigit 0 = .ok (.iload_n 0, 1) := by decide +kernel
theorem dX6_isDigit_1 : decode cX6_isDigit 1 = .ok (.bipush 48, 2) := by decide +kernel
theorem dX6_isDigit_3 : decode cX6_isDigit 3 = .ok (.if_icmp .lt 13, 3) := by decide +kernel
theorem dX6_isDigit_6 : decode cX6_isDigit 6 = .ok (.iload_n 0, 1) := by decide +kernel
theorem dX6_isDigit_7 : decode cX6_isDigit 7 = .ok (.bipush 57, 2) := by decide +kernel
theorem dX6_isDigit_9 : decode cX6_isDigit 9 = .ok (.if_icmp .gt 7, 3) := by decide +kernel
theorem dX6_isDigit_12 : decode cX6_isDigit 12 = .ok (.iconst 1, 1) := by decide +kernel
theorem dX6_isDigit_13 : decode cX6_isDigit 13 = .ok (.goto 4, 3) := by decide +kernel
theorem dX6_isDigit_16 : decode cX6_isDigit 16 = .ok (.iconst 0, 1) := by decide +kernel
theorem dX6_isDigit_17 : decode cX6_isDigit 17 = .ok (.ireturn, 1) := by decide +kernel
theorem dX6_isLetter_0 : decode cX6_isLetter 0 = .ok (.iload_n 0, 1) := by decide +kernel
theorem dX6_isLetter_1 : decode cX6_isLetter 1 = .ok (.bipush 97, 2) := by decide +kernel
theorem dX6_isLetter_3 : decode cX6_isLetter 3 = .ok (.if_icmp .lt 13, 3) := by decide +kernel
theorem dX6_isLetter_6 : decode cX6_isLetter 6 = .ok (.iload_n 0, 1) := by decide +kernel
theorem dX6_isLetter_7 : decode cX6_isLetter 7 = .ok (.bipush 122, 2) := by decide +kernel
theorem dX6_isLetter_9 : decode cX6_isLetter 9 = .ok (.if_icmp .gt 7, 3) := by decide +kernel
theorem dX6_isLetter_12 : decode cX6_isLetter 12 = .ok (.iconst 1, 1) := by decide +kernel
theorem dX6_isLetter_13 : decode cX6_isLetter 13 = .ok (.goto 4, 3) := by decide +kernel
theorem dX6_isLetter_16 : decode cX6_isLetter 16 = .ok (.iconst 0, 1) := by decide +kernel
theorem dX6_isLetter_17 : decode cX6_isLetter 17 = .ok (.ireturn, 1) := by decide +kernel
theorem dX6_wordNumber_0 : decode cX6_wordNumber 0 = .ok (.iconst 0, 1) := by decide +kernel
theorem dX6_wordNumber_1 : decode cX6_wordNumber 1 = .ok (.istore_n 1, 1) := by decide +kernel
theorem dX6_wordNumber_2 : decode cX6_wordNumber 2 = .ok (.aload_n 0, 1) := by decide +kernel
theorem dX6_wordNumber_3 : decode cX6_wordNumber 3 = .ok (.getfield 51, 3) := by decide +kernel
theorem dX6_wordNumber_6 : decode cX6_wordNumber 6 = .ok (.istore_n 2, 1) := by decide +kernel
theorem dX6_wordNumber_7 : decode cX6_wordNumber 7 = .ok (.iconst 1, 1) := by decide +kernel
theorem dX6_wordNumber_8 : decode cX6_wordNumber 8 = .ok (.istore_n 3, 1) := by decide +kernel
theorem dX6_wordNumber_9 : decode cX6_wordNumber 9 = .ok (.iconst 0, 1) := by decide +kernel
theorem dX6_wordNumber_10 : decode cX6_wordNumber 10 = .ok (.istore 4, 2) := by decide +kernel
theorem dX6_wordNumber_12 : decode cX6_wordNumber 12 = .ok (.iload 4, 2) := by decide +kernel
theorem dX6_wordNumber_14 : decode cX6_wordNumber 14 = .ok (.aload_n 0, 1) := by decide +kernel
theorem dX6_wordNumber_15 : decode cX6_wordNumber 15 = .ok (.getfield 23, 3) := by decide +kernel
theorem dX6_wordNumber_18 : decode cX6_wordNumber 18 = .ok (.arraylength, 1) := by decide +kernel
theorem dX6_wordNumber_19 : decode cX6_wordNumber 19 = .ok (.if_icmp .ge 88, 3) := by decide +kernel
theorem dX6_wordNumber_22 : decode cX6_wordNumber 22 = .ok (.aload_n 0, 1) := by decide +kernel
theorem dX6_wordNumber_23 : decode cX6_wordNumber 23 = .ok (.getfield 23, 3) := by decide +kernel
theorem dX6_wordNumber_26 : decode cX6_wordNumber 26 = .ok (.iload 4, 2) := by decide +kernel
theorem dX6_wordNumber_28 : decode cX6_wordNumber 28 = .ok (.caload, 1) := by decide +kernel
theorem dX6_wordNumber_29 : decode cX6_wordNumber 29 = .ok (.bipush 32, 2) := by decide +kernel
theorem dX6_wordNumber_31 : decode cX6_wordNumber 31 = .ok (.if_icmp .eq 46, 3) := by decide +kernel
theorem dX6_wordNumber_34 : decode cX6_wordNumber 34 = .ok (.iload_n 3, 1) := by decide +kernel
theorem dX6_wordNumber_35 : decode cX6_wordNumber 35 = .ok (.ifCond .eq 34, 3) := by decide +kernel
theorem dX6_wordNumber_38 : decode cX6_wordNumber 38 = .ok (.iload_n 2, 1) := by decide +kernel
theorem dX6_wordNumber_39 : decode cX6_wordNumber 39 = .ok (.aload_n 0, 1) := by decide +kernel
theorem dX6_wordNumber_40 : decode cX6_wordNumber 40 = .ok (.getfield 88, 3) := by decide +kernel
theorem dX6_wordNumber_43 : decode cX6_wordNumber 43 = .ok (.if_icmp .ge 26, 3) := by decide +kernel
theorem dX6_wordNumber_46 : decode cX6_wordNumber 46 = .ok (.aload_n 0, 1) := by decide +kernel
theorem dX6_wordNumber_47 : decode cX6_wordNumber 47 = .ok (.getfield 27, 3) := by decide +kernel
theorem dX6_wordNumber_50 : decode cX6_wordNumber 50 = .ok (.getfield 96, 3) := by decide +kernel
theorem dX6_wordNumber_53 : decode cX6_wordNumber 53 = .ok (.iload_n 2, 1) := by decide +kernel
theorem dX6_wordNumber_54 : decode cX6_wordNumber 54 = .ok (.iaload, 1) := by decide +kernel
theorem dX6_wordNumber_55 : decode cX6_wordNumber 55 = .ok (.aload_n 0, 1) := by decide +kernel
theorem dX6_wordNumber_56 : decode cX6_wordNumber 56 = .ok (.getfield 23, 3) := by decide +kernel
theorem dX6_wordNumber_59 : decode cX6_wordNumber 59 = .ok (.iload 4, 2) := by decide +kernel
theorem dX6_wordNumber_61 : decode cX6_wordNumber 61 = .ok (.caload, 1) := by decide +kernel
theorem dX6_wordNumber_62 : decode cX6_wordNumber 62 = .ok (.if_icmp .ne 7, 3) := by decide +kernel
theorem dX6_wordNumber_65 : decode cX6_wordNumber 65 = .ok (.iconst 1, 1) := by decide +kernel
theorem dX6_wordNumber_66 : decode cX6_wordNumber 66 = .ok (.goto 4, 3) := by decide +kernel
theorem dX6_wordNumber_69 : decode cX6_wordNumber 69 = .ok (.iconst 0, 1) := by decide +kernel
theorem dX6_wordNumber_70 : decode cX6_wordNumber 70 = .ok (.istore_n 3, 1) := by decide +kernel
theorem dX6_wordNumber_71 : decode cX6_wordNumber 71 = .ok (.iinc 2 1, 3) := by decide +kernel
theorem dX6_wordNumber_74 : decode cX6_wordNumber 74 = .ok (.goto 27, 3) := by decide +kernel
theorem dX6_wordNumber_77 : decode cX6_wordNumber 77 = .ok (.iload_n 3, 1) := by decide +kernel
theorem dX6_wordNumber_78 : decode cX6_wordNumber 78 = .ok (.ifCond .eq 13, 3) := by decide +kernel
theorem dX6_wordNumber_81 : decode cX6_wordNumber 81 = .ok (.iload_n 2, 1) := by decide +kernel
theorem dX6_wordNumber_82 : decode cX6_wordNumber 82 = .ok (.aload_n 0, 1) := by decide +kernel
theorem dX6_wordNumber_83 : decode cX6_wordNumber 83 = .ok (.getfield 88, 3) := by decide +kernel
theorem dX6_wordNumber_86 : decode cX6_wordNumber 86 = .ok (.if_icmp .ne 5, 3) := by decide +kernel
theorem dX6_wordNumber_89 : decode cX6_wordNumber 89 = .ok (.iload_n 1, 1) := by decide +kernel
theorem dX6_wordNumber_90 : decode cX6_wordNumber 90 = .ok (.ireturn, 1) := by decide +kernel
theorem dX6_wordNumber_91 : decode cX6_wordNumber 91 = .ok (.iinc 1 1, 3) := by decide +kernel
theorem dX6_wordNumber_94 : decode cX6_wordNumber 94 = .ok (.aload_n 0, 1) := by decide +kernel
theorem dX6_wordNumber_95 : decode cX6_wordNumber 95 = .ok (.getfield 51, 3) := by decide +kernel
theorem dX6_wordNumber_98 : decode cX6_wordNumber 98 = .ok (.istore_n 2, 1) := by decide +kernel
theorem dX6_wordNumber_99 : decode cX6_wordNumber 99 = .ok (.iconst 1, 1) := by decide +kernel
theorem dX6_wordNumber_100 : decode cX6_wordNumber 100 = .ok (.istore_n 3, 1) := by decide +kernel
theorem dX6_wordNumber_101 : decode cX6_wordNumber 101 = .ok (.iinc 4 1, 3) := by decide +kernel
theorem dX6_wordNumber_104 : decode cX6_wordNumber 104 = .ok (.goto (-92), 3) := by decide +kernel
theorem dX6_wordNumber_107 : decode cX6_wordNumber 107 = .ok (.iload_n 3, 1) := by decide +kernel
theorem dX6_wordNumber_108 : decode cX6_wordNumber 108 = .ok (.ifCond .eq 15, 3) := by decide +kernel
theorem dX6_wordNumber_111 : decode cX6_wordNumber 111 = .ok (.iload_n 2, 1) := by decide +kernel
theorem dX6_wordNumber_112 : decode cX6_wordNumber 112 = .ok (.aload_n 0, 1) := by decide +kernel
theorem dX6_wordNumber_113 : decode cX6_wordNumber 113 = .ok (.getfield 88, 3) := by decide +kernel
theorem dX6_wordNumber_116 : decode cX6_wordNumber 116 = .ok (.if_icmp .ne 7, 3) := by decide +kernel
theorem dX6_wordNumber_119 : decode cX6_wordNumber 119 = .ok (.iload_n 1, 1) := by decide +kernel
theorem dX6_wordNumber_120 : decode cX6_wordNumber 120 = .ok (.goto 4, 3) := by decide +kernel
theorem dX6_wordNumber_123 : decode cX6_wordNumber 123 = .ok (.iconst (-1), 1) := by decide +kernel
theorem dX6_wordNumber_124 : decode cX6_wordNumber 124 = .ok (.ireturn, 1) := by decide +kernel
set_option maxHeartbeats 4000000 in
set_option maxRecDepth 100000 in
theorem k_X6_isBlank (l : Launch) (D : va_G) (p0 : Int32) : Met l yX6_isBlank (wz yX6_isBlank cX6_isBlank 1 (some .boolean)) { frames := 0, cells := 0, slots := 0, locals := 0 } (va_Pc [.int p0] (zP D [])) (va_Qi (fun r (_ : Unit) => (r = 1 ∧ (p0.toInt = 10 ∨ p0.toInt = 32)) ∨ (r = 0 ∧ ¬ (p0.toInt = 10 ∨ p0.toInt = 32))) (fun _ _ => True) (fun _ => False)) 0 0 (fun _ => False) := by
  refine Met.ofW (cc := cX6_isBlank) (maxL := 1) (ret := (some .boolean)) (by decide) rfl ?_
  intro p e s m args below meth c s₁ B hml hv
  obtain ⟨rfl, hP, hK⟩ := hv
  have hx := B.exec
  have hb := B.bytes
  have hr := B.returns
  have hts := atoms_spec (ws := wz yX6_isBlank cX6_isBlank 1 (some .boolean)) B.pre
  have ht : ∀ w ∈ lw_gd, w.before _ s = true := fun w h => hts w (List.mem_cons_of_mem _ h)
  have hown : s.vm.findClass RX6 = some m.cls := findClass_of_methodNamed B.named
  have hlocks := B.notSynchronized
  have hS : va_S (fun _ => False) s.heap s.heap [] := va_S.rf
  have zi0 : (0 : Int32).toInt = 0 := rfl
  have zi1 : (1 : Int32).toInt = 1 := rfl
  have zi2 : (2 : Int32).toInt = 2 := rfl
  have zi3 : (3 : Int32).toInt = 3 := rfl
  have zi4 : (4 : Int32).toInt = 4 := rfl
  have hl := lv_entry ([.int p0]) (n := 1) (Nat.le_of_ble_eq_true rfl)
  rw [lg_entry_eq]
  generalize (lg_sl ([.int p0]) ++ List.replicate (1 - (lg_sl ([.int p0])).length) Slot.unset).toArray = ls at hl ⊢
  have hl : lv_has ls 1 [(0, .int p0)] := hl
  refine lv_iload_n hx hb dX6_isBlank_0 rfl (lv_at hl 0 rfl) ?_
  refine lv_bipush (v := 10) hx hb dX6_isBlank_1 (by decide) ?_
  refine lv_icmp_eq (tgt := 12) hx hb dX6_isBlank_3 (by decide) (fun c_1 => ?_) (fun c_1 => ?_)
  · have g_2 : p0.toInt = 10 := z_eq rfl (by decide) c_1
    refine lv_iconst (v := 1) hx hb dX6_isBlank_12 (by decide) ?_
    refine lv_goto (tgt := 17) hx hb dX6_isBlank_13 (by decide) ?_
    exact W.zret (v := 1) hx hb hr (by decide) (fun t ht hW => ⟨⟨1, (), rfl, Or.inl ⟨rfl, by omega⟩, trivial⟩, hS.F ht⟩) hS.2.2 dX6_isBlank_17
  · have g_2 : ¬ p0.toInt = 10 := z_ne rfl (by decide) c_1
    refine lv_iload_n hx hb dX6_isBlank_6 rfl (lv_at hl 0 rfl) ?_
    refine lv_bipush (v := 32) hx hb dX6_isBlank_7 (by decide) ?_
    refine lv_icmp_ne (tgt := 16) hx hb dX6_isBlank_9 (by decide) (fun c_3 => ?_) (fun c_3 => ?_)
    · have g_4 : ¬ p0.toInt = 32 := z_ne rfl (by decide) c_3
      refine lv_iconst (v := 0) hx hb dX6_isBlank_16 (by decide) ?_
      exact W.zret (v := 0) hx hb hr (by decide) (fun t ht hW => ⟨⟨0, (), rfl, Or.inr ⟨rfl, by omega⟩, trivial⟩, hS.F ht⟩) hS.2.2 dX6_isBlank_17
    · have g_4 : p0.toInt = 32 := z_eq rfl (by decide) c_3
      refine lv_iconst (v := 1) hx hb dX6_isBlank_12 (by decide) ?_
      refine lv_goto (tgt := 17) hx hb dX6_isBlank_13 (by decide) ?_
      exact W.zret (v := 1) hx hb hr (by decide) (fun t ht hW => ⟨⟨1, (), rfl, Or.inl ⟨rfl, by omega⟩, trivial⟩, hS.F ht⟩) hS.2.2 dX6_isBlank_17
set_option maxHeartbeats 4000000 in
set_option maxRecDepth 100000 in
theorem k_X6_isLetter (l : Launch) (D : va_G) (p0 : Int32) : Met l yX6_isLetter (wz yX6_isLetter cX6_isLetter 1 (some .boolean)) { frames := 0, cells := 0, slots := 0, locals := 0 } (va_Pc [.int p0] (zP D [])) (va_Qi (fun r (_ : Unit) => (r = 1 ∧ (97 ≤ p0.toInt ∧ p0.toInt ≤ 122)) ∨ (r = 0 ∧ ¬ (97 ≤ p0.toInt ∧ p0.toInt ≤ 122))) (fun _ _ => True) (fun _ => False)) 0 0 (fun _ => False) := by
  refine Met.ofW (cc := cX6_isLetter) (maxL := 1) (ret := (some .boolean)) (by decide) rfl ?_
  intro p e s m args below meth c s₁ B hml hv
  obtain ⟨rfl, hP, hK⟩ := hv
  have hx := B.exec
  have hb := B.bytes
  have hr := B.returns
  have hts := atoms_spec (ws := wz yX6_isLetter cX6_isLetter 1 (some .boolean)) B.pre
  have ht : ∀ w ∈ lw_gd, w.before _ s = true := fun w h => hts w (List.mem_cons_of_mem _ h)
  have hown : s.vm.findClass RX6 = some m.cls := findClass_of_methodNamed B.named
  have hlocks := B.notSynchronized
  have hS : va_S (fun _ => False) s.heap s.heap [] := va_S.rf
  have zi0 : (0 : Int32).toInt = 0 := rfl
  have zi1 : (1 : Int32).toInt = 1 := rfl
  have zi2 : (2 : Int32).toInt = 2 := rfl
  have zi3 : (3 : Int32).toInt = 3 := rfl
  have zi4 : (4 : Int32).toInt = 4 := rfl
  have hl := lv_entry ([.int p0]) (n := 1) (Nat.le_of_ble_eq_true rfl)
  rw [lg_entry_eq]
  generalize (lg_sl ([.int p0]) ++ List.replicate (1 - (lg_sl ([.int p0])).length) Slot.unset).toArray = ls at hl ⊢
  have hl : lv_has ls 1 [(0, .int p0)] := hl
  refine lv_iload_n hx hb dX6_isLetter_0 rfl (lv_at hl 0 rfl) ?_
  refine lv_bipush (v := 97) hx hb dX6_isLetter_1 (by decide) ?_
  refine lv_icmp_lt (tgt := 16) hx hb dX6_isLetter_3 (by decide) (fun c_1 => ?_) (fun c_1 => ?_)
  · have g_2 : p0.toInt < 97 := z_lt rfl (by decide) c_1
    refine lv_iconst (v := 0) hx hb dX6_isLetter_16 (by decide) ?_
    exact W.zret (v := 0) hx hb hr (by decide) (fun t ht hW => ⟨⟨0, (), rfl, Or.inr ⟨rfl, by omega⟩, trivial⟩, hS.F ht⟩) hS.2.2 dX6_isLetter_17
  · have g_2 : 97 ≤ p0.toInt := z_nlt rfl (by decide) c_1
    refine lv_iload_n hx hb dX6_isLetter_6 rfl (lv_at hl 0 rfl) ?_
    refine lv_bipush (v := 122) hx hb dX6_isLetter_7 (by decide) ?_
    refine lv_icmp_gt (tgt := 16) hx hb dX6_isLetter_9 (by decide) (fun c_3 => ?_) (fun c_3 => ?_)
    · have g_4 : 122 < p0.toInt := z_lt (by decide) rfl c_3
      refine lv_iconst (v := 0) hx hb dX6_isLetter_16 (by decide) ?_
      exact W.zret (v := 0) hx hb hr (by decide) (fun t ht hW => ⟨⟨0, (), rfl, Or.inr ⟨rfl, by omega⟩, trivial⟩, hS.F ht⟩) hS.2.2 dX6_isLetter_17
    · have g_4 : p0.toInt ≤ 122 := z_nlt (by decide) rfl c_3
      refine lv_iconst (v := 1) hx hb dX6_isLetter_12 (by decide) ?_
      refine lv_goto (tgt := 17) hx hb dX6_isLetter_13 (by decide) ?_
      exact W.zret (v := 1) hx hb hr (by decide) (fun t ht hW => ⟨⟨1, (), rfl, Or.inl ⟨rfl, by omega⟩, trivial⟩, hS.F ht⟩) hS.2.2 dX6_isLetter_17
set_option maxHeartbeats 4000000 in
set_option maxRecDepth 100000 in
theorem k_X6_isDigit (l : Launch) (D : va_G) (p0 : Int32) : Met l yX6_isDigit (wz yX6_isDigit cX6_isDigit 1 (some .boolean)) { frames := 0, cells := 0, slots := 0, locals := 0 } (va_Pc [.int p0] (zP D [])) (va_Qi (fun r (_ : Unit) => (r = 1 ∧ (48 ≤ p0.toInt ∧ p0.toInt ≤ 57)) ∨ (r = 0 ∧ ¬ (48 ≤ p0.toInt ∧ p0.toInt ≤ 57))) (fun _ _ => True) (fun _ => False)) 0 0 (fun _ => False) := by
  refine Met.ofW (cc := cX6_isDigit) (maxL := 1) (ret := (some .boolean)) (by decide) rfl ?_
  intro p e s m args below meth c s₁ B hml hv
  obtain ⟨rfl, hP, hK⟩ := hv
  have hx := B.exec
  have hb := B.bytes
  have hr := B.returns
  have hts := atoms_spec (ws := wz yX6_isDigit cX6_isDigit 1 (some .boolean)) B.pre
  have ht : ∀ w ∈ lw_gd, w.before _ s = true := fun w h => hts w (List.mem_cons_of_mem _ h)
  have hown : s.vm.findClass RX6 = some m.cls := findClass_of_methodNamed B.named
  have hlocks := B.notSynchronized
  have hS : va_S (fun _ => False) s.heap s.heap [] := va_S.rf
  have zi0 : (0 : Int32).toInt = 0 := rfl
  have zi1 : (1 : Int32).toInt = 1 := rfl
  have zi2 : (2 : Int32).toInt = 2 := rfl
  have zi3 : (3 : Int32).toInt = 3 := rfl
  have zi4 : (4 : Int32).toInt = 4 := rfl
  have hl := lv_entry ([.int p0]) (n := 1) (Nat.le_of_ble_eq_true rfl)
  rw [lg_entry_eq]
  generalize (lg_sl ([.int p0]) ++ List.replicate (1 - (lg_sl ([.int p0])).length) Slot.unset).toArray = ls at hl ⊢
  have hl : lv_has ls 1 [(0, .int p0)] := hl
  refine lv_iload_n hx hb dX6_isDigit_0 rfl (lv_at hl 0 rfl) ?_
  refine lv_bipush (v := 48) hx hb dX6_isDigit_1 (by decide) ?_
  refine lv_icmp_lt (tgt := 16) hx hb dX6_isDigit_3 (by decide) (fun c_1 => ?_) (fun c_1 => ?_)
  · have g_2 : p0.toInt < 48 := z_lt rfl (by decide) c_1
    refine lv_iconst (v := 0) hx hb dX6_isDigit_16 (by decide) ?_
    exact W.zret (v := 0) hx hb hr (by decide) (fun t ht hW => ⟨⟨0, (), rfl, Or.inr ⟨rfl, by omega⟩, trivial⟩, hS.F ht⟩) hS.2.2 dX6_isDigit_17
  · have g_2 : 48 ≤ p0.toInt := z_nlt rfl (by decide) c_1
    refine lv_iload_n hx hb dX6_isDigit_6 rfl (lv_at hl 0 rfl) ?_
    refine lv_bipush (v := 57) hx hb dX6_isDigit_7 (by decide) ?_
    refine lv_icmp_gt (tgt := 16) hx hb dX6_isDigit_9 (by decide) (fun c_3 => ?_) (fun c_3 => ?_)
    · have g_4 : 57 < p0.toInt := z_lt (by decide) rfl c_3
      refine lv_iconst (v := 0) hx hb dX6_isDigit_16 (by decide) ?_
      exact W.zret (v := 0) hx hb hr (by decide) (fun t ht hW => ⟨⟨0, (), rfl, Or.inr ⟨rfl, by omega⟩, trivial⟩, hS.F ht⟩) hS.2.2 dX6_isDigit_17
    · have g_4 : p0.toInt ≤ 57 := z_nlt (by decide) rfl c_3
      refine lv_iconst (v := 1) hx hb dX6_isDigit_12 (by decide) ?_
      refine lv_goto (tgt := 17) hx hb dX6_isDigit_13 (by decide) ?_
      exact W.zret (v := 1) hx hb hr (by decide) (fun t ht hW => ⟨⟨1, (), rfl, Or.inl ⟨rfl, by omega⟩, trivial⟩, hS.F ht⟩) hS.2.2 dX6_isDigit_17
set_option maxHeartbeats 4000000 in
set_option maxRecDepth 100000 in
theorem k_X6_wordNumber (l : Launch) (D : va_G) (h0 h1 h2 h3 h4 : Nat) (fa pl mo ki wo si : Int32) (op s0 sp n : Nat) (f fw : Nat → Int32) (h_1 : s0 ≤ sp) (h_2 : sp ≤ n) (h_3 : n ≤ 1600) : Met l yX6_wordNumber (wz yX6_wordNumber cX6_wordNumber 5 (some .int)) { frames := 0, cells := 0, slots := 0, locals := 0 } (va_Pc [.ref h0] (zP D [(h0, .inr (6, [.int fa, .int pl, .ref h1, .ref h2, .ref h3, .int mo, .int (nI op), .int ki, .int (nI s0), .int (nI sp), .int wo, .int si])), (h1, .inr (9, [.ref h4, .int (nI n)])), (h4, .inl (D.1 13, 1600, .inl f)), (h2, .inl (D.1 14, 179, .inl fw))])) (va_Qi (fun r (_ : Unit) => True) (fun _ _ => True) (fun _ => False)) 0 0 (fun _ => False) := by
  refine Met.ofW (cc := cX6_wordNumber) (maxL := 5) (ret := (some .int)) (by decide) rfl ?_
  intro p e s m args below meth c s₁ B hml hv
  obtain ⟨rfl, hP, hK⟩ := hv
  have hx := B.exec
  have hb := B.bytes
  have hr := B.returns
  have hts := atoms_spec (ws := wz yX6_wordNumber cX6_wordNumber 5 (some .int)) B.pre
  have ht : ∀ w ∈ lw_gd, w.before _ s = true := fun w h => hts w (List.mem_cons_of_mem _ h)
  have hown : s.vm.findClass RX6 = some m.cls := findClass_of_methodNamed B.named
  have hlocks := B.notSynchronized
  have hS : va_S (fun _ => False) s.heap s.heap [] := va_S.rf
  have zi0 : (0 : Int32).toInt = 0 := rfl
  have zi1 : (1 : Int32).toInt = 1 := rfl
  have zi2 : (2 : Int32).toInt = 2 := rfl
  have zi3 : (3 : Int32).toInt = 3 := rfl
  have zi4 : (4 : Int32).toInt = 4 := rfl
  have hl := lv_entry ([.ref h0]) (n := 5) (Nat.le_of_ble_eq_true rfl)
  rw [lg_entry_eq]
  generalize (lg_sl ([.ref h0]) ++ List.replicate (5 - (lg_sl ([.ref h0])).length) Slot.unset).toArray = ls at hl ⊢
  have hl : lv_has ls 5 [(0, .ref h0)] := hl
  refine lv_iconst (v := 0) hx hb dX6_wordNumber_0 (by decide) ?_
  refine lv_istore_n (lv' := [(1, .int 0), (0, .ref h0)]) hx hb dX6_wordNumber_1 rfl hl (by decide) rfl (fun ls hl => ?_)
  refine lv_aload_n hx hb dX6_wordNumber_2 rfl (lv_at hl 1 rfl) ?_
  refine va_get (D := D) (ci := 6) (v := .int (nI s0)) (C := RX6) (T := TX6) (N := 12) hx hb ht inX6 hown hK hP 0 rfl rfl 8 (by decide) (ht (.fieldLink RX6 51 "CloneVolumes$Reader" "start" "I") fl_X6_51) (fun _ h9 => h9) rfl dX6_wordNumber_3 ?_
  refine lv_istore_n (lv' := [(2, .int (nI s0)), (1, .int 0), (0, .ref h0)]) hx hb dX6_wordNumber_6 rfl hl (by decide) rfl (fun ls hl => ?_)
  refine lv_iconst (v := 1) hx hb dX6_wordNumber_7 (by decide) ?_
  refine lv_istore_n (lv' := [(3, .int 1), (2, .int (nI s0)), (1, .int 0), (0, .ref h0)]) hx hb dX6_wordNumber_8 rfl hl (by decide) rfl (fun ls hl => ?_)
  refine lv_iconst (v := 0) hx hb dX6_wordNumber_9 (by decide) ?_
  refine lv_istore (lv' := [(4, .int 0), (3, .int 1), (2, .int (nI s0)), (1, .int 0), (0, .ref h0)]) hx hb dX6_wordNumber_10 hl (by decide) rfl (fun ls hl => ?_)
  refine z_loop (σ := ((Int32) × (Nat) × (Int32))) (N := 179) (fun i u H locs ls => (u.2.1 ≤ 1600 + i) ∧ va_P D vwCl [(h0, .inr (6, [.int fa, .int pl, .ref h1, .ref h2, .ref h3, .int mo, .int (nI op), .int ki, .int (nI s0), .int (nI sp), .int wo, .int si])), (h1, .inr (9, [.ref h4, .int (nI n)])), (h4, .inl (D.1 13, 1600, .inl f)), (h2, .inl (D.1 14, 179, .inl fw))] H ∧ va_S (fun _ => False) s.heap H locs ∧ lv_has ls 5 [(4, .int (nI i)), (3, .int u.1), (2, .int (nI u.2.1)), (1, .int u.2.2), (0, .ref h0)]) (fun i_1 u_5 H locs ls hi_i_1 hI ih_12 => ?_) 0 (1, s0, 0) (by decide) ⟨(by first | omega | (dsimp only; omega)), hP, hS, lv_sub hl [0, 1, 2, 3, 4] rfl⟩
  obtain ⟨hv_i_1, hP, hS, hl⟩ := hI
  obtain ⟨x_2, n_3, x_4⟩ := u_5
  have hv_i_1 : n_3 ≤ 1600 + i_1 := hv_i_1
  have hP : va_P D vwCl [(h0, .inr (6, [.int fa, .int pl, .ref h1, .ref h2, .ref h3, .int mo, .int (nI op), .int ki, .int (nI s0), .int (nI sp), .int wo, .int si])), (h1, .inr (9, [.ref h4, .int (nI n)])), (h4, .inl (D.1 13, 1600, .inl f)), (h2, .inl (D.1 14, 179, .inl fw))] H := hP
  have hl : lv_has ls 5 [(4, .int (nI i_1)), (3, .int x_2), (2, .int (nI n_3)), (1, .int x_4), (0, .ref h0)] := hl
  refine lv_iload hx hb dX6_wordNumber_12 (lv_at hl 0 rfl) ?_
  refine lv_aload_n hx hb dX6_wordNumber_14 rfl (lv_at hl 4 rfl) ?_
  refine va_get (D := D) (ci := 6) (v := .ref h2) (C := RX6) (T := TX6) (N := 12) hx hb ht inX6 hown hK hP 0 rfl rfl 3 (by decide) (ht (.fieldLink RX6 23 "CloneVolumes$Reader" "words" "[C") fl_X6_23) (fun _ h9 => h9) rfl dX6_wordNumber_15 ?_
  refine va_alen (v := 179) hx hb hK hP 3 1 rfl (ty := .char) rfl rfl dX6_wordNumber_18 ?_
  refine lv_icmp_ge (tgt := 107) hx hb dX6_wordNumber_19 (by decide) (fun c_6 => ?_) (fun c_6 => ?_)
  · have g_7 : 179 ≤ ((i_1 : Nat) : Int) := z_le (by decide) (nI_toInt (by omega)) c_6
    obtain rfl : i_1 = 179 := by omega
    have hP : va_P D vwCl [(h0, .inr (6, [.int fa, .int pl, .ref h1, .ref h2, .ref h3, .int mo, .int (nI op), .int ki, .int (nI s0), .int (nI sp), .int wo, .int si])), (h1, .inr (9, [.ref h4, .int (nI n)])), (h4, .inl (D.1 13, 1600, .inl f)), (h2, .inl (D.1 14, 179, .inl fw))] H := hP
    have hl : lv_has ls 5 [(4, .int 179), (3, .int x_2), (2, .int (nI n_3)), (1, .int x_4), (0, .ref h0)] := hl
    refine lv_iload_n hx hb dX6_wordNumber_107 rfl (lv_at hl 1 rfl) ?_
    refine lv_if_eq (tgt := 123) hx hb dX6_wordNumber_108 (by decide) (fun c_8 => ?_) (fun c_8 => ?_)
    · have g_9 : x_2.toInt = 0 := z_eq rfl (by decide) c_8
      refine lv_iconst (v := (-1)) hx hb dX6_wordNumber_123 (by decide) ?_
      exact W.iret (v := (-1)) hx hb hr (fun t ht hW => ⟨⟨(-1), (), rfl, trivial, trivial⟩, hS.F ht⟩) hS.2.2 dX6_wordNumber_124
    · have g_9 : ¬ x_2.toInt = 0 := z_ne rfl (by decide) c_8
      refine lv_iload_n hx hb dX6_wordNumber_111 rfl (lv_at hl 2 rfl) ?_
      refine lv_aload_n hx hb dX6_wordNumber_112 rfl (lv_at hl 4 rfl) ?_
      refine va_get (D := D) (ci := 6) (v := .int (nI sp)) (C := RX6) (T := TX6) (N := 12) hx hb ht inX6 hown hK hP 0 rfl rfl 9 (by decide) (ht (.fieldLink RX6 88 "CloneVolumes$Reader" "stop" "I") fl_X6_88) (fun _ h9 => h9) rfl dX6_wordNumber_113 ?_
      refine lv_icmp_ne (tgt := 123) hx hb dX6_wordNumber_116 (by decide) (fun c_10 => ?_) (fun c_10 => ?_)
      · have g_11 : ¬ ((n_3 : Nat) : Int) = ((sp : Nat) : Int) := z_ne (nI_toInt (by omega)) (nI_toInt (by omega)) c_10
        refine lv_iconst (v := (-1)) hx hb dX6_wordNumber_123 (by decide) ?_
        exact W.iret (v := (-1)) hx hb hr (fun t ht hW => ⟨⟨(-1), (), rfl, trivial, trivial⟩, hS.F ht⟩) hS.2.2 dX6_wordNumber_124
      · have g_11 : ((n_3 : Nat) : Int) = ((sp : Nat) : Int) := z_eq (nI_toInt (by omega)) (nI_toInt (by omega)) c_10
        refine lv_iload_n hx hb dX6_wordNumber_119 rfl (lv_at hl 3 rfl) ?_
        refine lv_goto (tgt := 124) hx hb dX6_wordNumber_120 (by decide) ?_
        exact W.iret (v := x_4) hx hb hr (fun t ht hW => ⟨⟨x_4, (), rfl, trivial, trivial⟩, hS.F ht⟩) hS.2.2 dX6_wordNumber_124
  · have g_7 : ((i_1 : Nat) : Int) < 179 := z_nle (by decide) (nI_toInt (by omega)) c_6
    refine lv_aload_n hx hb dX6_wordNumber_22 rfl (lv_at hl 4 rfl) ?_
    refine va_get (D := D) (ci := 6) (v := .ref h2) (C := RX6) (T := TX6) (N := 12) hx hb ht inX6 hown hK hP 0 rfl rfl 3 (by decide) (ht (.fieldLink RX6 23 "CloneVolumes$Reader" "words" "[C") fl_X6_23) (fun _ h9 => h9) rfl dX6_wordNumber_23 ?_
    refine lv_iload hx hb dX6_wordNumber_26 (lv_at hl 0 rfl) ?_
    refine va_cald hx hb hK hP 3 1 rfl rfl (vp_in_nI (by omega) (by omega)) dX6_wordNumber_28 ?_
    refine z_topi (y := fw i_1) (by rw [nI_clamp (by omega)]) ?_
    refine lv_bipush (v := 32) hx hb dX6_wordNumber_29 (by decide) ?_
    refine lv_icmp_eq (tgt := 77) hx hb dX6_wordNumber_31 (by decide) (fun c_12 => ?_) (fun c_12 => ?_)
    · have g_13 : (fw i_1).toInt = 32 := z_eq rfl (by decide) c_12
      refine lv_iload_n hx hb dX6_wordNumber_77 rfl (lv_at hl 1 rfl) ?_
      refine lv_if_eq (tgt := 91) hx hb dX6_wordNumber_78 (by decide) (fun c_14 => ?_) (fun c_14 => ?_)
      · have g_15 : x_2.toInt = 0 := z_eq rfl (by decide) c_14
        refine lv_iinc (v := x_4 + Int32.ofInt 1) (lv' := [(1, .int (x_4 + Int32.ofInt 1)), (4, .int (nI i_1)), (3, .int x_2), (2, .int (nI n_3)), (0, .ref h0)]) hx hb dX6_wordNumber_91 hl (k := 3) rfl rfl (by decide) rfl (fun ls hl => ?_)
        refine lv_aload_n hx hb dX6_wordNumber_94 rfl (lv_at hl 4 rfl) ?_
        refine va_get (D := D) (ci := 6) (v := .int (nI s0)) (C := RX6) (T := TX6) (N := 12) hx hb ht inX6 hown hK hP 0 rfl rfl 8 (by decide) (ht (.fieldLink RX6 51 "CloneVolumes$Reader" "start" "I") fl_X6_51) (fun _ h9 => h9) rfl dX6_wordNumber_95 ?_
        refine lv_istore_n (lv' := [(2, .int (nI s0)), (1, .int (x_4 + Int32.ofInt 1)), (4, .int (nI i_1)), (3, .int x_2), (0, .ref h0)]) hx hb dX6_wordNumber_98 rfl hl (by decide) rfl (fun ls hl => ?_)
        refine lv_iconst (v := 1) hx hb dX6_wordNumber_99 (by decide) ?_
        refine lv_istore_n (lv' := [(3, .int 1), (2, .int (nI s0)), (1, .int (x_4 + Int32.ofInt 1)), (4, .int (nI i_1)), (0, .ref h0)]) hx hb dX6_wordNumber_100 rfl hl (by decide) rfl (fun ls hl => ?_)
        refine lv_iinc (v := nI (i_1 + 1)) (lv' := [(4, .int (nI (i_1 + 1))), (3, .int 1), (2, .int (nI s0)), (1, .int (x_4 + Int32.ofInt 1)), (0, .ref h0)]) hx hb dX6_wordNumber_101 hl (k := 3) rfl (z_inc _) (by decide) rfl (fun ls hl => ?_)
        refine lv_goto (tgt := 12) hx hb dX6_wordNumber_104 (by decide) ?_
        exact ih_12 (1, s0, (x_4 + Int32.ofInt 1)) _ _ _ (by omega) ⟨(by first | omega | (dsimp only; omega)), hP.sub [0, 1, 2, 3] rfl, hS, lv_sub hl [0, 1, 2, 3, 4] rfl⟩
      · have g_15 : ¬ x_2.toInt = 0 := z_ne rfl (by decide) c_14
        refine lv_iload_n hx hb dX6_wordNumber_81 rfl (lv_at hl 2 rfl) ?_
        refine lv_aload_n hx hb dX6_wordNumber_82 rfl (lv_at hl 4 rfl) ?_
        refine va_get (D := D) (ci := 6) (v := .int (nI sp)) (C := RX6) (T := TX6) (N := 12) hx hb ht inX6 hown hK hP 0 rfl rfl 9 (by decide) (ht (.fieldLink RX6 88 "CloneVolumes$Reader" "stop" "I") fl_X6_88) (fun _ h9 => h9) rfl dX6_wordNumber_83 ?_
        refine lv_icmp_ne (tgt := 91) hx hb dX6_wordNumber_86 (by decide) (fun c_16 => ?_) (fun c_16 => ?_)
        · have g_17 : ¬ ((n_3 : Nat) : Int) = ((sp : Nat) : Int) := z_ne (nI_toInt (by omega)) (nI_toInt (by omega)) c_16
          refine lv_iinc (v := x_4 + Int32.ofInt 1) (lv' := [(1, .int (x_4 + Int32.ofInt 1)), (4, .int (nI i_1)), (3, .int x_2), (2, .int (nI n_3)), (0, .ref h0)]) hx hb dX6_wordNumber_91 hl (k := 3) rfl rfl (by decide) rfl (fun ls hl => ?_)
          refine lv_aload_n hx hb dX6_wordNumber_94 rfl (lv_at hl 4 rfl) ?_
          refine va_get (D := D) (ci := 6) (v := .int (nI s0)) (C := RX6) (T := TX6) (N := 12) hx hb ht inX6 hown hK hP 0 rfl rfl 8 (by decide) (ht (.fieldLink RX6 51 "CloneVolumes$Reader" "start" "I") fl_X6_51) (fun _ h9 => h9) rfl dX6_wordNumber_95 ?_
          refine lv_istore_n (lv' := [(2, .int (nI s0)), (1, .int (x_4 + Int32.ofInt 1)), (4, .int (nI i_1)), (3, .int x_2), (0, .ref h0)]) hx hb dX6_wordNumber_98 rfl hl (by decide) rfl (fun ls hl => ?_)
          refine lv_iconst (v := 1) hx hb dX6_wordNumber_99 (by decide) ?_
          refine lv_istore_n (lv' := [(3, .int 1), (2, .int (nI s0)), (1, .int (x_4 + Int32.ofInt 1)), (4, .int (nI i_1)), (0, .ref h0)]) hx hb dX6_wordNumber_100 rfl hl (by decide) rfl (fun ls hl => ?_)
          refine lv_iinc (v := nI (i_1 + 1)) (lv' := [(4, .int (nI (i_1 + 1))), (3, .int 1), (2, .int (nI s0)), (1, .int (x_4 + Int32.ofInt 1)), (0, .ref h0)]) hx hb dX6_wordNumber_101 hl (k := 3) rfl (z_inc _) (by decide) rfl (fun ls hl => ?_)
          refine lv_goto (tgt := 12) hx hb dX6_wordNumber_104 (by decide) ?_
          exact ih_12 (1, s0, (x_4 + Int32.ofInt 1)) _ _ _ (by omega) ⟨(by first | omega | (dsimp only; omega)), hP.sub [0, 1, 2, 3] rfl, hS, lv_sub hl [0, 1, 2, 3, 4] rfl⟩
        · have g_17 : ((n_3 : Nat) : Int) = ((sp : Nat) : Int) := z_eq (nI_toInt (by omega)) (nI_toInt (by omega)) c_16
          refine lv_iload_n hx hb dX6_wordNumber_89 rfl (lv_at hl 3 rfl) ?_
          exact W.iret (v := x_4) hx hb hr (fun t ht hW => ⟨⟨x_4, (), rfl, trivial, trivial⟩, hS.F ht⟩) hS.2.2 dX6_wordNumber_90
    · have g_13 : ¬ (fw i_1).toInt = 32 := z_ne rfl (by decide) c_12
      refine lv_iload_n hx hb dX6_wordNumber_34 rfl (lv_at hl 1 rfl) ?_
      refine lv_if_eq (tgt := 69) hx hb dX6_wordNumber_35 (by decide) (fun c_18 => ?_) (fun c_18 => ?_)
      · have g_19 : x_2.toInt = 0 := z_eq rfl (by decide) c_18
        refine lv_iconst (v := 0) hx hb dX6_wordNumber_69 (by decide) ?_
        refine lv_istore_n (lv' := [(3, .int 0), (4, .int (nI i_1)), (2, .int (nI n_3)), (1, .int x_4), (0, .ref h0)]) hx hb dX6_wordNumber_70 rfl hl (by decide) rfl (fun ls hl => ?_)
        refine lv_iinc (v := nI (n_3 + 1)) (lv' := [(2, .int (nI (n_3 + 1))), (3, .int 0), (4, .int (nI i_1)), (1, .int x_4), (0, .ref h0)]) hx hb dX6_wordNumber_71 hl (k := 2) rfl (z_inc _) (by decide) rfl (fun ls hl => ?_)
        refine lv_goto (tgt := 101) hx hb dX6_wordNumber_74 (by decide) ?_
        refine lv_iinc (v := nI (i_1 + 1)) (lv' := [(4, .int (nI (i_1 + 1))), (2, .int (nI (n_3 + 1))), (3, .int 0), (1, .int x_4), (0, .ref h0)]) hx hb dX6_wordNumber_101 hl (k := 2) rfl (z_inc _) (by decide) rfl (fun ls hl => ?_)
        refine lv_goto (tgt := 12) hx hb dX6_wordNumber_104 (by decide) ?_
        exact ih_12 (0, (n_3 + 1), x_4) _ _ _ (by omega) ⟨(by first | omega | (dsimp only; omega)), hP.sub [0, 1, 2, 3] rfl, hS, lv_sub hl [0, 2, 1, 3, 4] rfl⟩
      · have g_19 : ¬ x_2.toInt = 0 := z_ne rfl (by decide) c_18
        refine lv_iload_n hx hb dX6_wordNumber_38 rfl (lv_at hl 2 rfl) ?_
        refine lv_aload_n hx hb dX6_wordNumber_39 rfl (lv_at hl 4 rfl) ?_
        refine va_get (D := D) (ci := 6) (v := .int (nI sp)) (C := RX6) (T := TX6) (N := 12) hx hb ht inX6 hown hK hP 0 rfl rfl 9 (by decide) (ht (.fieldLink RX6 88 "CloneVolumes$Reader" "stop" "I") fl_X6_88) (fun _ h9 => h9) rfl dX6_wordNumber_40 ?_
        refine lv_icmp_ge (tgt := 69) hx hb dX6_wordNumber_43 (by decide) (fun c_20 => ?_) (fun c_20 => ?_)
        · have g_21 : ((sp : Nat) : Int) ≤ ((n_3 : Nat) : Int) := z_le (nI_toInt (by omega)) (nI_toInt (by omega)) c_20
          refine lv_iconst (v := 0) hx hb dX6_wordNumber_69 (by decide) ?_
          refine lv_istore_n (lv' := [(3, .int 0), (4, .int (nI i_1)), (2, .int (nI n_3)), (1, .int x_4), (0, .ref h0)]) hx hb dX6_wordNumber_70 rfl hl (by decide) rfl (fun ls hl => ?_)
          refine lv_iinc (v := nI (n_3 + 1)) (lv' := [(2, .int (nI (n_3 + 1))), (3, .int 0), (4, .int (nI i_1)), (1, .int x_4), (0, .ref h0)]) hx hb dX6_wordNumber_71 hl (k := 2) rfl (z_inc _) (by decide) rfl (fun ls hl => ?_)
          refine lv_goto (tgt := 101) hx hb dX6_wordNumber_74 (by decide) ?_
          refine lv_iinc (v := nI (i_1 + 1)) (lv' := [(4, .int (nI (i_1 + 1))), (2, .int (nI (n_3 + 1))), (3, .int 0), (1, .int x_4), (0, .ref h0)]) hx hb dX6_wordNumber_101 hl (k := 2) rfl (z_inc _) (by decide) rfl (fun ls hl => ?_)
          refine lv_goto (tgt := 12) hx hb dX6_wordNumber_104 (by decide) ?_
          exact ih_12 (0, (n_3 + 1), x_4) _ _ _ (by omega) ⟨(by first | omega | (dsimp only; omega)), hP.sub [0, 1, 2, 3] rfl, hS, lv_sub hl [0, 2, 1, 3, 4] rfl⟩
        · have g_21 : ((n_3 : Nat) : Int) < ((sp : Nat) : Int) := z_nle (nI_toInt (by omega)) (nI_toInt (by omega)) c_20
          refine lv_aload_n hx hb dX6_wordNumber_46 rfl (lv_at hl 4 rfl) ?_
          refine va_get (D := D) (ci := 6) (v := .ref h1) (C := RX6) (T := TX6) (N := 12) hx hb ht inX6 hown hK hP 0 rfl rfl 2 (by decide) (ht (.fieldLink RX6 27 "CloneVolumes$Reader" "tape" "LCloneVolumes$Tape;") fl_X6_27) (fun _ h9 => h9) rfl dX6_wordNumber_47 ?_
          refine va_get (D := D) (ci := 9) (v := .ref h4) (C := RX9) (T := TX9) (N := 2) hx hb ht inX9 hown hK hP 1 rfl rfl 0 (by decide) (ht (.fieldLink RX6 96 "CloneVolumes$Tape" "bytes" "[I") fl_X6_96) (fun _ h9 => h9) rfl dX6_wordNumber_50 ?_
          refine lv_iload_n hx hb dX6_wordNumber_53 rfl (lv_at hl 2 rfl) ?_
          refine va_iald hx hb hK hP 2 0 rfl rfl (vp_in_nI (by omega) (by omega)) dX6_wordNumber_54 ?_
          refine z_topi (y := f n_3) (by rw [nI_clamp (by omega)]) ?_
          refine lv_aload_n hx hb dX6_wordNumber_55 rfl (lv_at hl 4 rfl) ?_
          refine va_get (D := D) (ci := 6) (v := .ref h2) (C := RX6) (T := TX6) (N := 12) hx hb ht inX6 hown hK hP 0 rfl rfl 3 (by decide) (ht (.fieldLink RX6 23 "CloneVolumes$Reader" "words" "[C") fl_X6_23) (fun _ h9 => h9) rfl dX6_wordNumber_56 ?_
          refine lv_iload hx hb dX6_wordNumber_59 (lv_at hl 0 rfl) ?_
          refine va_cald hx hb hK hP 3 1 rfl rfl (vp_in_nI (by omega) (by omega)) dX6_wordNumber_61 ?_
          refine z_topi (y := fw i_1) (by rw [nI_clamp (by omega)]) ?_
          refine lv_icmp_ne (tgt := 69) hx hb dX6_wordNumber_62 (by decide) (fun c_22 => ?_) (fun c_22 => ?_)
          · have g_23 : ¬ (f n_3).toInt = (fw i_1).toInt := z_ne rfl rfl c_22
            refine lv_iconst (v := 0) hx hb dX6_wordNumber_69 (by decide) ?_
            refine lv_istore_n (lv' := [(3, .int 0), (4, .int (nI i_1)), (2, .int (nI n_3)), (1, .int x_4), (0, .ref h0)]) hx hb dX6_wordNumber_70 rfl hl (by decide) rfl (fun ls hl => ?_)
            refine lv_iinc (v := nI (n_3 + 1)) (lv' := [(2, .int (nI (n_3 + 1))), (3, .int 0), (4, .int (nI i_1)), (1, .int x_4), (0, .ref h0)]) hx hb dX6_wordNumber_71 hl (k := 2) rfl (z_inc _) (by decide) rfl (fun ls hl => ?_)
            refine lv_goto (tgt := 101) hx hb dX6_wordNumber_74 (by decide) ?_
            refine lv_iinc (v := nI (i_1 + 1)) (lv' := [(4, .int (nI (i_1 + 1))), (2, .int (nI (n_3 + 1))), (3, .int 0), (1, .int x_4), (0, .ref h0)]) hx hb dX6_wordNumber_101 hl (k := 2) rfl (z_inc _) (by decide) rfl (fun ls hl => ?_)
            refine lv_goto (tgt := 12) hx hb dX6_wordNumber_104 (by decide) ?_
            exact ih_12 (0, (n_3 + 1), x_4) _ _ _ (by omega) ⟨(by first | omega | (dsimp only; omega)), hP.sub [0, 1, 2, 3] rfl, hS, lv_sub hl [0, 2, 1, 3, 4] rfl⟩
          · have g_23 : (f n_3).toInt = (fw i_1).toInt := z_eq rfl rfl c_22
            refine lv_iconst (v := 1) hx hb dX6_wordNumber_65 (by decide) ?_
            refine lv_goto (tgt := 70) hx hb dX6_wordNumber_66 (by decide) ?_
            refine lv_istore_n (lv' := [(3, .int 1), (4, .int (nI i_1)), (2, .int (nI n_3)), (1, .int x_4), (0, .ref h0)]) hx hb dX6_wordNumber_70 rfl hl (by decide) rfl (fun ls hl => ?_)
            refine lv_iinc (v := nI (n_3 + 1)) (lv' := [(2, .int (nI (n_3 + 1))), (3, .int 1), (4, .int (nI i_1)), (1, .int x_4), (0, .ref h0)]) hx hb dX6_wordNumber_71 hl (k := 2) rfl (z_inc _) (by decide) rfl (fun ls hl => ?_)
            refine lv_goto (tgt := 101) hx hb dX6_wordNumber_74 (by decide) ?_
            refine lv_iinc (v := nI (i_1 + 1)) (lv' := [(4, .int (nI (i_1 + 1))), (2, .int (nI (n_3 + 1))), (3, .int 1), (1, .int x_4), (0, .ref h0)]) hx hb dX6_wordNumber_101 hl (k := 2) rfl (z_inc _) (by decide) rfl (fun ls hl => ?_)
            refine lv_goto (tgt := 12) hx hb dX6_wordNumber_104 (by decide) ?_
            exact ih_12 (1, (n_3 + 1), x_4) _ _ _ (by omega) ⟨(by first | omega | (dsimp only; omega)), hP.sub [0, 1, 2, 3] rfl, hS, lv_sub hl [0, 2, 1, 3, 4] rfl⟩
set_option maxHeartbeats 4000000 in
set_option maxRecDepth 100000 in
theorem k_X6_advance (l : Launch) (D : va_G) (sz : Nat) (h0 h1 h2 h3 h4 : Nat) (fa pl mo ki wo si : Int32) (op s0 sp n : Nat) (f fw : Nat → Int32) (h_1 : s0 ≤ sp) (h_2 : sp ≤ n) (h_3 : n ≤ 1600) (h_4 : ¬ fa.toInt = 0 → ki.toInt = 0) : Met l yX6_advance (wz yX6_advance cX6_advance 2 none) { frames := 1, cells := 0, slots := 0, locals := 60 } (va_Pc [.ref h0] (zW D sz [(h0, .inr (6, [.int fa, .int pl, .ref h1, .ref h2, .ref h3, .int mo, .int (nI op), .int ki, .int (nI s0), .int (nI sp), .int wo, .int si])), (h1, .inr (9, [.ref h4, .int (nI n)])), (h4, .inl (D.1 13, 1600, .inl f)), (h2, .inl (D.1 14, 179, .inl fw))])) (va_Qv (fun (u : ((Int32) × (Nat) × (Nat) × (Int32) × (Int32))) => u.2.1 ≤ u.2.2.1 ∧ u.2.2.1 ≤ n ∧ sp ≤ u.2.2.1 ∧ (u.1.toInt = 0 ∨ (sp < u.2.2.1 ∧ u.2.1 < u.2.2.1)) ∧ (¬ fa.toInt = 0 → u.1.toInt = 0)) (fun u t => zB D (va_A [(h0, .inr (6, [.int fa, .int pl, .ref h1, .ref h2, .ref h3, .int mo, .int (nI op), .int ki, .int (nI s0), .int (nI sp), .int wo, .int si])), (h1, .inr (9, [.ref h4, .int (nI n)])), (h4, .inl (D.1 13, 1600, .inl f)), (h2, .inl (D.1 14, 179, .inl fw))] sz) ((fun (u : ((Int32) × (Nat) × (Nat) × (Int32) × (Int32))) => [(h0, .inr (6, [.int fa, .int pl, .ref h1, .ref h2, .ref h3, .int mo, .int (nI op), .int u.1, .int (nI u.2.1), .int (nI u.2.2.1), .int u.2.2.2.1, .int u.2.2.2.2])), (h1, .inr (9, [.ref h4, .int (nI n)])), (h4, .inl (D.1 13, 1600, .inl f)), (h2, .inl (D.1 14, 179, .inl fw))]) u) t) (va_A [(h0, .inr (6, [.int fa, .int pl, .ref h1, .ref h2, .ref h3, .int mo, .int (nI op), .int ki, .int (nI s0), .int (nI sp), .int wo, .int si])), (h1, .inr (9, [.ref h4, .int (nI n)])), (h4, .inl (D.1 13, 1600, .inl f)), (h2, .inl (D.1 14, 179, .inl fw))] sz)) 0 0 (va_A [(h0, .inr (6, [.int fa, .int pl, .ref h1, .ref h2, .ref h3, .int mo, .int (nI op), .int ki, .int (nI s0), .int (nI sp), .int wo, .int si])), (h1, .inr (9, [.ref h4, .int (nI n)])), (h4, .inl (D.1 13, 1600, .inl f)), (h2, .inl (D.1 14, 179, .inl fw))] sz) := by
  refine Met.ofW (cc := cX6_advance) (maxL := 2) (ret := none) (by decide) rfl ?_
  intro p e s m args below meth c s₁ B hml hv
  obtain ⟨rfl, hsz, hP, hK, hD0⟩ := hv
  have hx := B.exec
  have hb := B.bytes
  have hr := B.returns
  have hts := atoms_spec (ws := wz yX6_advance cX6_advance 2 none) B.pre
  have ht : ∀ w ∈ lw_gd, w.before _ s = true := fun w h => hts w (List.mem_cons_of_mem _ h)
  have hown : s.vm.findClass RX6 = some m.cls := findClass_of_methodNamed B.named
  have hlocks := B.notSynchronized
  subst hsz
  have hD := hD0.self (sz := s.heap.size)
  generalize hAe : va_A [(h0, .inr (6, [.int fa, .int pl, .ref h1, .ref h2, .ref h3, .int mo, .int (nI op), .int ki, .int (nI s0), .int (nI sp), .int wo, .int si])), (h1, .inr (9, [.ref h4, .int (nI n)])), (h4, .inl (D.1 13, 1600, .inl f)), (h2, .inl (D.1 14, 179, .inl fw))] s.heap.size = A at hD ⊢
  have hA : ∀ q : Nat, s.heap.size ≤ q → A q := fun q h => by rw [← hAe]; exact Or.inr h
  have hS : va_S A s.heap s.heap [] := va_S.rf
  have zi0 : (0 : Int32).toInt = 0 := rfl
  have zi1 : (1 : Int32).toInt = 1 := rfl
  have zi2 : (2 : Int32).toInt = 2 := rfl
  have zi3 : (3 : Int32).toInt = 3 := rfl
  have zi4 : (4 : Int32).toInt = 4 := rfl
  have hl := lv_entry ([.ref h0]) (n := 2) (Nat.le_of_ble_eq_true rfl)
  rw [lg_entry_eq]
  generalize (lg_sl ([.ref h0]) ++ List.replicate (2 - (lg_sl ([.ref h0])).length) Slot.unset).toArray = ls at hl ⊢
  have hl : lv_has ls 2 [(0, .ref h0)] := hl
  refine lv_aload_n hx hb dX6_advance_0 rfl (lv_at hl 0 rfl) ?_
  refine va_get (D := D) (ci := 6) (v := .int fa) (C := RX6) (T := TX6) (N := 12) hx hb ht inX6 hown hK hP 0 rfl rfl 0 (by decide) (ht (.fieldLink RX6 61 "CloneVolumes$Reader" "fault" "I") fl_X6_61) (fun _ h9 => h9) rfl dX6_advance_1 ?_
  refine lv_if_eq (tgt := 8) hx hb dX6_advance_4 (by decide) (fun c_1 => ?_) (fun c_1 => ?_)
  · have g_2 : fa.toInt = 0 := z_eq rfl (by decide) c_1
    refine lv_aload_n hx hb dX6_advance_8 rfl (lv_at hl 0 rfl) ?_
    refine lv_aload_n hx hb dX6_advance_9 rfl (lv_at hl 0 rfl) ?_
    refine va_get (D := D) (ci := 6) (v := .int (nI sp)) (C := RX6) (T := TX6) (N := 12) hx hb ht inX6 hown hK hP 0 rfl rfl 9 (by decide) (ht (.fieldLink RX6 88 "CloneVolumes$Reader" "stop" "I") fl_X6_88) (fun _ h9 => h9) rfl dX6_advance_10 ?_
    refine va_put (D := D) (ci := 6) (v := .int (nI sp)) (ty := .int) (C := RX6) (T := TX6) (N := 12) hx hb ht inX6 tyX6 tyX6_ok nmX6 hown hK hP hD hS 0 rfl rfl 8 (by decide) (ht (.fieldLink RX6 51 "CloneVolumes$Reader" "start" "I") fl_X6_51) (fun _ h9 => h9) rfl (by decide +kernel) rfl rfl (Nat.le_of_ble_eq_true rfl) dX6_advance_13 (fun H locs hP hD hS => ?_)
    have hP : va_P D vwCl [(h0, .inr (6, [.int fa, .int pl, .ref h1, .ref h2, .ref h3, .int mo, .int (nI op), .int ki, .int (nI sp), .int (nI sp), .int wo, .int si])), (h1, .inr (9, [.ref h4, .int (nI n)])), (h4, .inl (D.1 13, 1600, .inl f)), (h2, .inl (D.1 14, 179, .inl fw))] H := hP
    have hD : va_D A [(h0, .inr (6, [.int fa, .int pl, .ref h1, .ref h2, .ref h3, .int mo, .int (nI op), .int ki, .int (nI sp), .int (nI sp), .int wo, .int si])), (h1, .inr (9, [.ref h4, .int (nI n)])), (h4, .inl (D.1 13, 1600, .inl f)), (h2, .inl (D.1 14, 179, .inl fw))] := hD
    refine z_loop (σ := Unit) (N := 1600) (fun i u H locs ls => (sp + i ≤ n) ∧ va_P D vwCl [(h0, .inr (6, [.int fa, .int pl, .ref h1, .ref h2, .ref h3, .int mo, .int (nI op), .int ki, .int (nI (sp + i)), .int (nI sp), .int wo, .int si])), (h1, .inr (9, [.ref h4, .int (nI n)])), (h4, .inl (D.1 13, 1600, .inl f)), (h2, .inl (D.1 14, 179, .inl fw))] H ∧ va_D A [(h0, .inr (6, [.int fa, .int pl, .ref h1, .ref h2, .ref h3, .int mo, .int (nI op), .int ki, .int (nI (sp + i)), .int (nI sp), .int wo, .int si])), (h1, .inr (9, [.ref h4, .int (nI n)])), (h4, .inl (D.1 13, 1600, .inl f)), (h2, .inl (D.1 14, 179, .inl fw))] ∧ va_S A s.heap H locs ∧ lv_has ls 2 [(0, .ref h0)]) (fun i_3 _u H locs ls hi_i_3 hI ih_16 => ?_) 0 () (by decide) ⟨(by first | omega | (dsimp only; omega)), hP, hD, hS, lv_sub hl [0] rfl⟩
    obtain ⟨hv_i_3, hP, hD, hS, hl⟩ := hI
    have hv_i_3 : sp + i_3 ≤ n := hv_i_3
    have hP : va_P D vwCl [(h0, .inr (6, [.int fa, .int pl, .ref h1, .ref h2, .ref h3, .int mo, .int (nI op), .int ki, .int (nI (sp + i_3)), .int (nI sp), .int wo, .int si])), (h1, .inr (9, [.ref h4, .int (nI n)])), (h4, .inl (D.1 13, 1600, .inl f)), (h2, .inl (D.1 14, 179, .inl fw))] H := hP
    have hD : va_D A [(h0, .inr (6, [.int fa, .int pl, .ref h1, .ref h2, .ref h3, .int mo, .int (nI op), .int ki, .int (nI (sp + i_3)), .int (nI sp), .int wo, .int si])), (h1, .inr (9, [.ref h4, .int (nI n)])), (h4, .inl (D.1 13, 1600, .inl f)), (h2, .inl (D.1 14, 179, .inl fw))] := hD
    have hl : lv_has ls 2 [(0, .ref h0)] := hl
    refine lv_aload_n hx hb dX6_advance_16 rfl (lv_at hl 0 rfl) ?_
    refine va_get (D := D) (ci := 6) (v := .int (nI (sp + i_3))) (C := RX6) (T := TX6) (N := 12) hx hb ht inX6 hown hK hP 0 rfl rfl 8 (by decide) (ht (.fieldLink RX6 51 "CloneVolumes$Reader" "start" "I") fl_X6_51) (fun _ h9 => h9) rfl dX6_advance_17 ?_
    refine lv_aload_n hx hb dX6_advance_20 rfl (lv_at hl 0 rfl) ?_
    refine va_get (D := D) (ci := 6) (v := .ref h1) (C := RX6) (T := TX6) (N := 12) hx hb ht inX6 hown hK hP 0 rfl rfl 2 (by decide) (ht (.fieldLink RX6 27 "CloneVolumes$Reader" "tape" "LCloneVolumes$Tape;") fl_X6_27) (fun _ h9 => h9) rfl dX6_advance_21 ?_
    refine va_get (D := D) (ci := 9) (v := .int (nI n)) (C := RX9) (T := TX9) (N := 2) hx hb ht inX9 hown hK hP 1 rfl rfl 1 (by decide) (ht (.fieldLink RX6 91 "CloneVolumes$Tape" "length" "I") fl_X6_91) (fun _ h9 => h9) rfl dX6_advance_24 ?_
    refine lv_icmp_ge (tgt := 61) hx hb dX6_advance_27 (by decide) (fun c_4 => ?_) (fun c_4 => ?_)
    · have g_5 : ((n : Nat) : Int) ≤ ((sp + i_3 : Nat) : Int) := z_le (nI_toInt (by omega)) (nI_toInt (by omega)) c_4
      refine lv_aload_n hx hb dX6_advance_61 rfl (lv_at hl 0 rfl) ?_
      refine lv_aload_n hx hb dX6_advance_62 rfl (lv_at hl 0 rfl) ?_
      refine va_get (D := D) (ci := 6) (v := .int (nI (sp + i_3))) (C := RX6) (T := TX6) (N := 12) hx hb ht inX6 hown hK hP 0 rfl rfl 8 (by decide) (ht (.fieldLink RX6 51 "CloneVolumes$Reader" "start" "I") fl_X6_51) (fun _ h9 => h9) rfl dX6_advance_63 ?_
      refine va_put (D := D) (ci := 6) (v := .int (nI (sp + i_3))) (ty := .int) (C := RX6) (T := TX6) (N := 12) hx hb ht inX6 tyX6 tyX6_ok nmX6 hown hK hP hD hS 0 rfl rfl 9 (by decide) (ht (.fieldLink RX6 88 "CloneVolumes$Reader" "stop" "I") fl_X6_88) (fun _ h9 => h9) rfl (by decide +kernel) rfl rfl (Nat.le_of_ble_eq_true rfl) dX6_advance_66 (fun H locs hP hD hS => ?_)
      have hP : va_P D vwCl [(h0, .inr (6, [.int fa, .int pl, .ref h1, .ref h2, .ref h3, .int mo, .int (nI op), .int ki, .int (nI (sp + i_3)), .int (nI (sp + i_3)), .int wo, .int si])), (h1, .inr (9, [.ref h4, .int (nI n)])), (h4, .inl (D.1 13, 1600, .inl f)), (h2, .inl (D.1 14, 179, .inl fw))] H := hP
      have hD : va_D A [(h0, .inr (6, [.int fa, .int pl, .ref h1, .ref h2, .ref h3, .int mo, .int (nI op), .int ki, .int (nI (sp + i_3)), .int (nI (sp + i_3)), .int wo, .int si])), (h1, .inr (9, [.ref h4, .int (nI n)])), (h4, .inl (D.1 13, 1600, .inl f)), (h2, .inl (D.1 14, 179, .inl fw))] := hD
      refine lv_aload_n hx hb dX6_advance_69 rfl (lv_at hl 0 rfl) ?_
      refine lv_iconst (v := (-1)) hx hb dX6_advance_70 (by decide) ?_
      refine va_put (D := D) (ci := 6) (v := .int (-1)) (ty := .int) (C := RX6) (T := TX6) (N := 12) hx hb ht inX6 tyX6 tyX6_ok nmX6 hown hK hP hD hS 0 rfl rfl 10 (by decide) (ht (.fieldLink RX6 72 "CloneVolumes$Reader" "word" "I") fl_X6_72) (fun _ h9 => h9) rfl (by decide +kernel) rfl rfl (Nat.le_of_ble_eq_true rfl) dX6_advance_71 (fun H locs hP hD hS => ?_)
      have hP : va_P D vwCl [(h0, .inr (6, [.int fa, .int pl, .ref h1, .ref h2, .ref h3, .int mo, .int (nI op), .int ki, .int (nI (sp + i_3)), .int (nI (sp + i_3)), .int (-1), .int si])), (h1, .inr (9, [.ref h4, .int (nI n)])), (h4, .inl (D.1 13, 1600, .inl f)), (h2, .inl (D.1 14, 179, .inl fw))] H := hP
      have hD : va_D A [(h0, .inr (6, [.int fa, .int pl, .ref h1, .ref h2, .ref h3, .int mo, .int (nI op), .int ki, .int (nI (sp + i_3)), .int (nI (sp + i_3)), .int (-1), .int si])), (h1, .inr (9, [.ref h4, .int (nI n)])), (h4, .inl (D.1 13, 1600, .inl f)), (h2, .inl (D.1 14, 179, .inl fw))] := hD
      refine lv_aload_n hx hb dX6_advance_74 rfl (lv_at hl 0 rfl) ?_
      refine lv_aload_n hx hb dX6_advance_75 rfl (lv_at hl 0 rfl) ?_
      refine va_get (D := D) (ci := 6) (v := .ref h1) (C := RX6) (T := TX6) (N := 12) hx hb ht inX6 hown hK hP 0 rfl rfl 2 (by decide) (ht (.fieldLink RX6 27 "CloneVolumes$Reader" "tape" "LCloneVolumes$Tape;") fl_X6_27) (fun _ h9 => h9) rfl dX6_advance_76 ?_
      refine lv_aload_n hx hb dX6_advance_79 rfl (lv_at hl 0 rfl) ?_
      refine va_get (D := D) (ci := 6) (v := .int (nI (sp + i_3))) (C := RX6) (T := TX6) (N := 12) hx hb ht inX6 hown hK hP 0 rfl rfl 8 (by decide) (ht (.fieldLink RX6 51 "CloneVolumes$Reader" "start" "I") fl_X6_51) (fun _ h9 => h9) rfl dX6_advance_80 ?_
      have en_6 : (nI (sp + i_3)).toInt = ((sp + i_3 : Nat) : Int) := nI_toInt (by omega)
      refine zcV (As := [.int (nI (sp + i_3))]) (rest := [.ref h0]) (C := RX9) (n := 1) ⟨hx, hb, hml, hown, ht⟩ (k_X9_at l D h1 h4 n f (nI (sp + i_3)) (by first | decide | omega)) (zgV ml_X6_104 im_X9_at se_X9_at in_X9 co_X9_at) rfl rfl (by decide +kernel) ⟨Nat.le_of_ble_eq_true rfl, Nat.le_of_ble_eq_true rfl⟩ hK hP hS [1, 2] rfl 0 rfl rfl rfl rfl hl.1 rfl (Nat.le_of_ble_eq_true rfl) dX6_advance_83 ⟨Nat.le_of_ble_eq_true rfl, Nat.le_of_ble_eq_true rfl⟩ (fun r_7 H locs hw hP hS => ?_)
      rcases hw with ⟨rfl, g_8⟩ | ⟨rfl, g_9⟩
      · skip
        refine z_topi (y := f (sp + i_3)) (by rw [nI_clamp (by omega)]) ?_
        refine va_put (D := D) (ci := 6) (v := .int (f (sp + i_3))) (ty := .int) (C := RX6) (T := TX6) (N := 12) hx hb ht inX6 tyX6 tyX6_ok nmX6 hown hK hP hD hS 0 rfl rfl 11 (by decide) (ht (.fieldLink RX6 108 "CloneVolumes$Reader" "sign" "I") fl_X6_108) (fun _ h9 => h9) rfl (by decide +kernel) rfl rfl (Nat.le_of_ble_eq_true rfl) dX6_advance_86 (fun H locs hP hD hS => ?_)
        have hP : va_P D vwCl [(h0, .inr (6, [.int fa, .int pl, .ref h1, .ref h2, .ref h3, .int mo, .int (nI op), .int ki, .int (nI (sp + i_3)), .int (nI (sp + i_3)), .int (-1), .int (f (sp + i_3))])), (h1, .inr (9, [.ref h4, .int (nI n)])), (h4, .inl (D.1 13, 1600, .inl f)), (h2, .inl (D.1 14, 179, .inl fw))] H := hP
        have hD : va_D A [(h0, .inr (6, [.int fa, .int pl, .ref h1, .ref h2, .ref h3, .int mo, .int (nI op), .int ki, .int (nI (sp + i_3)), .int (nI (sp + i_3)), .int (-1), .int (f (sp + i_3))])), (h1, .inr (9, [.ref h4, .int (nI n)])), (h4, .inl (D.1 13, 1600, .inl f)), (h2, .inl (D.1 14, 179, .inl fw))] := hD
        refine lv_aload_n hx hb dX6_advance_89 rfl (lv_at hl 0 rfl) ?_
        refine va_get (D := D) (ci := 6) (v := .int (f (sp + i_3))) (C := RX6) (T := TX6) (N := 12) hx hb ht inX6 hown hK hP 0 rfl rfl 11 (by decide) (ht (.fieldLink RX6 108 "CloneVolumes$Reader" "sign" "I") fl_X6_108) (fun _ h9 => h9) rfl dX6_advance_90 ?_
        refine lv_iconst (v := (-1)) hx hb dX6_advance_93 (by decide) ?_
        refine lv_icmp_ne (tgt := 105) hx hb dX6_advance_94 (by decide) (fun c_10 => ?_) (fun c_10 => ?_)
        · have g_11 : ¬ (f (sp + i_3)).toInt = (-1) := z_ne rfl (by decide) c_10
          refine lv_aload_n hx hb dX6_advance_105 rfl (lv_at hl 0 rfl) ?_
          refine va_get (D := D) (ci := 6) (v := .int (f (sp + i_3))) (C := RX6) (T := TX6) (N := 12) hx hb ht inX6 hown hK hP 0 rfl rfl 11 (by decide) (ht (.fieldLink RX6 108 "CloneVolumes$Reader" "sign" "I") fl_X6_108) (fun _ h9 => h9) rfl dX6_advance_106 ?_
          refine zcS (As := [.int (f (sp + i_3))]) (rest := []) (n := 1) ⟨hx, hb, hml, hown, ht⟩ (k_X6_isLetter l D (f (sp + i_3))) (zgT ml_X6_111 st_X6_isLetter in_X6 co_X6_isLetter) rfl rfl (by decide +kernel) ⟨Nat.le_of_ble_eq_true rfl, Nat.le_of_ble_eq_true rfl⟩ hK hP hS [] rfl rfl hl.1 rfl (Nat.le_of_ble_eq_true rfl) dX6_advance_109 ⟨Nat.le_of_ble_eq_true rfl, Nat.le_of_ble_eq_true rfl⟩ (fun r_12 H locs hw hP hS => ?_)
          rcases hw with ⟨rfl, g_13⟩ | ⟨rfl, g_14⟩
          · skip
            refine lv_if_eq (tgt := 176) hx hb dX6_advance_112 (by decide) (fun c_15 => (z_abs c_15 (by decide)).elim) (fun _ => ?_)
            refine lv_aload_n hx hb dX6_advance_115 rfl (lv_at hl 0 rfl) ?_
            refine lv_iconst (v := 1) hx hb dX6_advance_116 (by decide) ?_
            refine va_put (D := D) (ci := 6) (v := .int 1) (ty := .int) (C := RX6) (T := TX6) (N := 12) hx hb ht inX6 tyX6 tyX6_ok nmX6 hown hK hP hD hS 0 rfl rfl 7 (by decide) (ht (.fieldLink RX6 44 "CloneVolumes$Reader" "kind" "I") fl_X6_44) (fun _ h9 => h9) rfl (by decide +kernel) rfl rfl (Nat.le_of_ble_eq_true rfl) dX6_advance_117 (fun H locs hP hD hS => ?_)
            have hP : va_P D vwCl [(h0, .inr (6, [.int fa, .int pl, .ref h1, .ref h2, .ref h3, .int mo, .int (nI op), .int 1, .int (nI (sp + i_3)), .int (nI (sp + i_3)), .int (-1), .int (f (sp + i_3))])), (h1, .inr (9, [.ref h4, .int (nI n)])), (h4, .inl (D.1 13, 1600, .inl f)), (h2, .inl (D.1 14, 179, .inl fw))] H := hP
            have hD : va_D A [(h0, .inr (6, [.int fa, .int pl, .ref h1, .ref h2, .ref h3, .int mo, .int (nI op), .int 1, .int (nI (sp + i_3)), .int (nI (sp + i_3)), .int (-1), .int (f (sp + i_3))])), (h1, .inr (9, [.ref h4, .int (nI n)])), (h4, .inl (D.1 13, 1600, .inl f)), (h2, .inl (D.1 14, 179, .inl fw))] := hD
            refine z_loop (σ := Unit) (N := 1600) (fun i u H locs ls => ((sp + i_3) + i ≤ n) ∧ va_P D vwCl [(h0, .inr (6, [.int fa, .int pl, .ref h1, .ref h2, .ref h3, .int mo, .int (nI op), .int 1, .int (nI (sp + i_3)), .int (nI ((sp + i_3) + i)), .int (-1), .int (f (sp + i_3))])), (h1, .inr (9, [.ref h4, .int (nI n)])), (h4, .inl (D.1 13, 1600, .inl f)), (h2, .inl (D.1 14, 179, .inl fw))] H ∧ va_D A [(h0, .inr (6, [.int fa, .int pl, .ref h1, .ref h2, .ref h3, .int mo, .int (nI op), .int 1, .int (nI (sp + i_3)), .int (nI ((sp + i_3) + i)), .int (-1), .int (f (sp + i_3))])), (h1, .inr (9, [.ref h4, .int (nI n)])), (h4, .inl (D.1 13, 1600, .inl f)), (h2, .inl (D.1 14, 179, .inl fw))] ∧ va_S A s.heap H locs ∧ lv_has ls 2 [(0, .ref h0)]) (fun i_17 _u H locs ls hi_i_17 hI ih_120 => ?_) 0 () (by decide) ⟨(by first | omega | (dsimp only; omega)), hP, hD, hS, lv_sub hl [0] rfl⟩
            obtain ⟨hv_i_17, hP, hD, hS, hl⟩ := hI
            have hv_i_17 : (sp + i_3) + i_17 ≤ n := hv_i_17
            have hP : va_P D vwCl [(h0, .inr (6, [.int fa, .int pl, .ref h1, .ref h2, .ref h3, .int mo, .int (nI op), .int 1, .int (nI (sp + i_3)), .int (nI ((sp + i_3) + i_17)), .int (-1), .int (f (sp + i_3))])), (h1, .inr (9, [.ref h4, .int (nI n)])), (h4, .inl (D.1 13, 1600, .inl f)), (h2, .inl (D.1 14, 179, .inl fw))] H := hP
            have hD : va_D A [(h0, .inr (6, [.int fa, .int pl, .ref h1, .ref h2, .ref h3, .int mo, .int (nI op), .int 1, .int (nI (sp + i_3)), .int (nI ((sp + i_3) + i_17)), .int (-1), .int (f (sp + i_3))])), (h1, .inr (9, [.ref h4, .int (nI n)])), (h4, .inl (D.1 13, 1600, .inl f)), (h2, .inl (D.1 14, 179, .inl fw))] := hD
            have hl : lv_has ls 2 [(0, .ref h0)] := hl
            have hz_18 : i_17 = 0 → (f ((sp + i_3) + i_17)).toInt = (f ((sp + i_3))).toInt := fun h => by rw [h]; rfl
            refine lv_aload_n hx hb dX6_advance_120 rfl (lv_at hl 0 rfl) ?_
            refine va_get (D := D) (ci := 6) (v := .int (nI ((sp + i_3) + i_17))) (C := RX6) (T := TX6) (N := 12) hx hb ht inX6 hown hK hP 0 rfl rfl 9 (by decide) (ht (.fieldLink RX6 88 "CloneVolumes$Reader" "stop" "I") fl_X6_88) (fun _ h9 => h9) rfl dX6_advance_121 ?_
            refine lv_aload_n hx hb dX6_advance_124 rfl (lv_at hl 0 rfl) ?_
            refine va_get (D := D) (ci := 6) (v := .ref h1) (C := RX6) (T := TX6) (N := 12) hx hb ht inX6 hown hK hP 0 rfl rfl 2 (by decide) (ht (.fieldLink RX6 27 "CloneVolumes$Reader" "tape" "LCloneVolumes$Tape;") fl_X6_27) (fun _ h9 => h9) rfl dX6_advance_125 ?_
            refine va_get (D := D) (ci := 9) (v := .int (nI n)) (C := RX9) (T := TX9) (N := 2) hx hb ht inX9 hown hK hP 1 rfl rfl 1 (by decide) (ht (.fieldLink RX6 91 "CloneVolumes$Tape" "length" "I") fl_X6_91) (fun _ h9 => h9) rfl dX6_advance_128 ?_
            refine lv_icmp_ge (tgt := 165) hx hb dX6_advance_131 (by decide) (fun c_19 => ?_) (fun c_19 => ?_)
            · have g_20 : ((n : Nat) : Int) ≤ (((sp + i_3) + i_17 : Nat) : Int) := z_le (nI_toInt (by omega)) (nI_toInt (by omega)) c_19
              refine lv_aload_n hx hb dX6_advance_165 rfl (lv_at hl 0 rfl) ?_
              refine lv_aload_n hx hb dX6_advance_166 rfl (lv_at hl 0 rfl) ?_
              refine zcV (As := []) (rest := [.ref h0]) (C := RX6) (n := 0) ⟨hx, hb, hml, hown, ht⟩ (k_X6_wordNumber l D h0 h1 h2 h3 h4 fa pl mo 1 (-1) (f (sp + i_3)) op (sp + i_3) ((sp + i_3) + i_17) n f fw (by first | decide | omega) (by first | decide | omega) (by first | decide | omega)) (zgV ml_X6_114 im_X6_wordNumber se_X6_wordNumber in_X6 co_X6_wordNumber) rfl rfl (by decide +kernel) ⟨Nat.le_of_ble_eq_true rfl, Nat.le_of_ble_eq_true rfl⟩ hK hP hS [0, 1, 2, 3] rfl 0 rfl rfl rfl rfl hl.1 rfl (Nat.le_of_ble_eq_true rfl) dX6_advance_167 ⟨Nat.le_of_ble_eq_true rfl, Nat.le_of_ble_eq_true rfl⟩ (fun r_21 H locs hw hP hS => ?_)
              refine va_put (D := D) (ci := 6) (v := .int r_21) (ty := .int) (C := RX6) (T := TX6) (N := 12) hx hb ht inX6 tyX6 tyX6_ok nmX6 hown hK hP hD hS 0 rfl rfl 10 (by decide) (ht (.fieldLink RX6 72 "CloneVolumes$Reader" "word" "I") fl_X6_72) (fun _ h9 => h9) rfl (by decide +kernel) rfl rfl (Nat.le_of_ble_eq_true rfl) dX6_advance_170 (fun H locs hP hD hS => ?_)
              have hP : va_P D vwCl [(h0, .inr (6, [.int fa, .int pl, .ref h1, .ref h2, .ref h3, .int mo, .int (nI op), .int 1, .int (nI (sp + i_3)), .int (nI ((sp + i_3) + i_17)), .int r_21, .int (f (sp + i_3))])), (h1, .inr (9, [.ref h4, .int (nI n)])), (h4, .inl (D.1 13, 1600, .inl f)), (h2, .inl (D.1 14, 179, .inl fw))] H := hP
              have hD : va_D A [(h0, .inr (6, [.int fa, .int pl, .ref h1, .ref h2, .ref h3, .int mo, .int (nI op), .int 1, .int (nI (sp + i_3)), .int (nI ((sp + i_3) + i_17)), .int r_21, .int (f (sp + i_3))])), (h1, .inr (9, [.ref h4, .int (nI n)])), (h4, .inl (D.1 13, 1600, .inl f)), (h2, .inl (D.1 14, 179, .inl fw))] := hD
              refine lv_goto (tgt := 251) hx hb dX6_advance_173 (by decide) ?_
              refine lv_aload_n hx hb dX6_advance_251 rfl (lv_at hl 0 rfl) ?_
              refine va_get (D := D) (ci := 6) (v := .ref h1) (C := RX6) (T := TX6) (N := 12) hx hb ht inX6 hown hK hP 0 rfl rfl 2 (by decide) (ht (.fieldLink RX6 27 "CloneVolumes$Reader" "tape" "LCloneVolumes$Tape;") fl_X6_27) (fun _ h9 => h9) rfl dX6_advance_252 ?_
              refine lv_aload_n hx hb dX6_advance_255 rfl (lv_at hl 0 rfl) ?_
              refine va_get (D := D) (ci := 6) (v := .int (nI (sp + i_3))) (C := RX6) (T := TX6) (N := 12) hx hb ht inX6 hown hK hP 0 rfl rfl 8 (by decide) (ht (.fieldLink RX6 51 "CloneVolumes$Reader" "start" "I") fl_X6_51) (fun _ h9 => h9) rfl dX6_advance_256 ?_
              refine lv_iconst (v := 1) hx hb dX6_advance_259 (by decide) ?_
              refine lv_isub hx hb dX6_advance_260 ?_
              refine lv_topi (fun x_22 ex_22 => ?_)
              refine zcV (As := [.int x_22]) (rest := []) (C := RX9) (n := 1) ⟨hx, hb, hml, hown, ht⟩ (k_X9_at l D h1 h4 n f x_22 (by first | decide | omega)) (zgV ml_X6_104 im_X9_at se_X9_at in_X9 co_X9_at) rfl rfl (by decide +kernel) ⟨Nat.le_of_ble_eq_true rfl, Nat.le_of_ble_eq_true rfl⟩ hK hP hS [1, 2] rfl 0 rfl rfl rfl rfl hl.1 rfl (Nat.le_of_ble_eq_true rfl) dX6_advance_261 ⟨Nat.le_of_ble_eq_true rfl, Nat.le_of_ble_eq_true rfl⟩ (fun r_23 H locs hw hP hS => ?_)
              rcases hw with ⟨rfl, g_24⟩ | ⟨rfl, g_25⟩
              · skip
                refine lv_istore_n (lv' := [(1, .int (f x_22.toNatClampNeg)), (0, .ref h0)]) hx hb dX6_advance_264 rfl hl (by decide) rfl (fun ls hl => ?_)
                refine lv_aload_n hx hb dX6_advance_265 rfl (lv_at hl 1 rfl) ?_
                refine va_get (D := D) (ci := 6) (v := .int 1) (C := RX6) (T := TX6) (N := 12) hx hb ht inX6 hown hK hP 0 rfl rfl 7 (by decide) (ht (.fieldLink RX6 44 "CloneVolumes$Reader" "kind" "I") fl_X6_44) (fun _ h9 => h9) rfl dX6_advance_266 ?_
                refine lv_iconst (v := 1) hx hb dX6_advance_269 (by decide) ?_
                refine lv_icmp_eq (tgt := 281) hx hb dX6_advance_270 (by decide) (fun _ => ?_) (fun c_26 => (z_abs c_26 (by decide)).elim)
                refine lv_iload_n hx hb dX6_advance_281 rfl (lv_at hl 0 rfl) ?_
                refine zcS (As := [.int (f x_22.toNatClampNeg)]) (rest := []) (n := 1) ⟨hx, hb, hml, hown, ht⟩ (k_X6_isLetter l D (f x_22.toNatClampNeg)) (zgT ml_X6_111 st_X6_isLetter in_X6 co_X6_isLetter) rfl rfl (by decide +kernel) ⟨Nat.le_of_ble_eq_true rfl, Nat.le_of_ble_eq_true rfl⟩ hK hP hS [] rfl rfl hl.1 rfl (Nat.le_of_ble_eq_true rfl) dX6_advance_282 ⟨Nat.le_of_ble_eq_true rfl, Nat.le_of_ble_eq_true rfl⟩ (fun r_28 H locs hw hP hS => ?_)
                rcases hw with ⟨rfl, g_29⟩ | ⟨rfl, g_30⟩
                · skip
                  refine lv_if_ne (tgt := 295) hx hb dX6_advance_285 (by decide) (fun _ => ?_) (fun c_31 => (z_abs c_31 (by decide)).elim)
                  refine lv_aload_n hx hb dX6_advance_295 rfl (lv_at hl 1 rfl) ?_
                  refine lv_iconst (v := 4) hx hb dX6_advance_296 (by decide) ?_
                  refine va_put (D := D) (ci := 6) (v := .int 4) (ty := .int) (C := RX6) (T := TX6) (N := 12) hx hb ht inX6 tyX6 tyX6_ok nmX6 hown hK hP hD hS 0 rfl rfl 7 (by decide) (ht (.fieldLink RX6 44 "CloneVolumes$Reader" "kind" "I") fl_X6_44) (fun _ h9 => h9) rfl (by decide +kernel) rfl rfl (Nat.le_of_ble_eq_true rfl) dX6_advance_297 (fun H locs hP hD hS => ?_)
                  have hP : va_P D vwCl [(h0, .inr (6, [.int fa, .int pl, .ref h1, .ref h2, .ref h3, .int mo, .int (nI op), .int 4, .int (nI (sp + i_3)), .int (nI ((sp + i_3) + i_17)), .int r_21, .int (f (sp + i_3))])), (h1, .inr (9, [.ref h4, .int (nI n)])), (h4, .inl (D.1 13, 1600, .inl f)), (h2, .inl (D.1 14, 179, .inl fw))] H := hP
                  have hD : va_D A [(h0, .inr (6, [.int fa, .int pl, .ref h1, .ref h2, .ref h3, .int mo, .int (nI op), .int 4, .int (nI (sp + i_3)), .int (nI ((sp + i_3) + i_17)), .int r_21, .int (f (sp + i_3))])), (h1, .inr (9, [.ref h4, .int (nI n)])), (h4, .inl (D.1 13, 1600, .inl f)), (h2, .inl (D.1 14, 179, .inl fw))] := hD
                  have hP9 := hP.sub (ws' := [(h0, .inr (6, [.int fa, .int pl, .ref h1, .ref h2, .ref h3, .int mo, .int (nI op), .int 4, .int (nI (sp + i_3)), .int (nI ((sp + i_3) + i_17)), .int r_21, .int (f (sp + i_3))])), (h1, .inr (9, [.ref h4, .int (nI n)])), (h4, .inl (D.1 13, 1600, .inl f)), (h2, .inl (D.1 14, 179, .inl fw))]) [0, 1, 2, 3] rfl
                  have hD9 := hD.sub (ws' := [(h0, .inr (6, [.int fa, .int pl, .ref h1, .ref h2, .ref h3, .int mo, .int (nI op), .int 4, .int (nI (sp + i_3)), .int (nI ((sp + i_3) + i_17)), .int r_21, .int (f (sp + i_3))])), (h1, .inr (9, [.ref h4, .int (nI n)])), (h4, .inl (D.1 13, 1600, .inl f)), (h2, .inl (D.1 14, 179, .inl fw))]) [0, 1, 2, 3] (by decide) rfl
                  refine W.widen (k := 0) (n := 0) (Nat.le_of_ble_eq_true rfl) (Nat.le_of_ble_eq_true rfl) ?_
                  exact W.vret hx hb hr (fun t ht hW => ⟨⟨(4, (sp + i_3), ((sp + i_3) + i_17), r_21, (f (sp + i_3))), rfl, (by first | omega | (dsimp only; omega)), by rw [ht]; exact hP9, va_K.moved hW.alike hK, hD9⟩, hS.F ht⟩) hS.2.2 dX6_advance_300
                · skip
                  refine lv_if_ne (tgt := 295) hx hb dX6_advance_285 (by decide) (fun c_33 => (z_abs c_33 (by decide)).elim) (fun _ => ?_)
                  refine lv_iload_n hx hb dX6_advance_288 rfl (lv_at hl 0 rfl) ?_
                  refine zcS (As := [.int (f x_22.toNatClampNeg)]) (rest := []) (n := 1) ⟨hx, hb, hml, hown, ht⟩ (k_X6_isDigit l D (f x_22.toNatClampNeg)) (zgT ml_X6_118 st_X6_isDigit in_X6 co_X6_isDigit) rfl rfl (by decide +kernel) ⟨Nat.le_of_ble_eq_true rfl, Nat.le_of_ble_eq_true rfl⟩ hK hP hS [] rfl rfl hl.1 rfl (Nat.le_of_ble_eq_true rfl) dX6_advance_289 ⟨Nat.le_of_ble_eq_true rfl, Nat.le_of_ble_eq_true rfl⟩ (fun r_35 H locs hw hP hS => ?_)
                  rcases hw with ⟨rfl, g_36⟩ | ⟨rfl, g_37⟩
                  · skip
                    refine lv_if_eq (tgt := 300) hx hb dX6_advance_292 (by decide) (fun c_38 => (z_abs c_38 (by decide)).elim) (fun _ => ?_)
                    refine lv_aload_n hx hb dX6_advance_295 rfl (lv_at hl 1 rfl) ?_
                    refine lv_iconst (v := 4) hx hb dX6_advance_296 (by decide) ?_
                    refine va_put (D := D) (ci := 6) (v := .int 4) (ty := .int) (C := RX6) (T := TX6) (N := 12) hx hb ht inX6 tyX6 tyX6_ok nmX6 hown hK hP hD hS 0 rfl rfl 7 (by decide) (ht (.fieldLink RX6 44 "CloneVolumes$Reader" "kind" "I") fl_X6_44) (fun _ h9 => h9) rfl (by decide +kernel) rfl rfl (Nat.le_of_ble_eq_true rfl) dX6_advance_297 (fun H locs hP hD hS => ?_)
                    have hP : va_P D vwCl [(h0, .inr (6, [.int fa, .int pl, .ref h1, .ref h2, .ref h3, .int mo, .int (nI op), .int 4, .int (nI (sp + i_3)), .int (nI ((sp + i_3) + i_17)), .int r_21, .int (f (sp + i_3))])), (h1, .inr (9, [.ref h4, .int (nI n)])), (h4, .inl (D.1 13, 1600, .inl f)), (h2, .inl (D.1 14, 179, .inl fw))] H := hP
                    have hD : va_D A [(h0, .inr (6, [.int fa, .int pl, .ref h1, .ref h2, .ref h3, .int mo, .int (nI op), .int 4, .int (nI (sp + i_3)), .int (nI ((sp + i_3) + i_17)), .int r_21, .int (f (sp + i_3))])), (h1, .inr (9, [.ref h4, .int (nI n)])), (h4, .inl (D.1 13, 1600, .inl f)), (h2, .inl (D.1 14, 179, .inl fw))] := hD
                    have hP9 := hP.sub (ws' := [(h0, .inr (6, [.int fa, .int pl, .ref h1, .ref h2, .ref h3, .int mo, .int (nI op), .int 4, .int (nI (sp + i_3)), .int (nI ((sp + i_3) + i_17)), .int r_21, .int (f (sp + i_3))])), (h1, .inr (9, [.ref h4, .int (nI n)])), (h4, .inl (D.1 13, 1600, .inl f)), (h2, .inl (D.1 14, 179, .inl fw))]) [0, 1, 2, 3] rfl
                    have hD9 := hD.sub (ws' := [(h0, .inr (6, [.int fa, .int pl, .ref h1, .ref h2, .ref h3, .int mo, .int (nI op), .int 4, .int (nI (sp + i_3)), .int (nI ((sp + i_3) + i_17)), .int r_21, .int (f (sp + i_3))])), (h1, .inr (9, [.ref h4, .int (nI n)])), (h4, .inl (D.1 13, 1600, .inl f)), (h2, .inl (D.1 14, 179, .inl fw))]) [0, 1, 2, 3] (by decide) rfl
                    refine W.widen (k := 0) (n := 0) (Nat.le_of_ble_eq_true rfl) (Nat.le_of_ble_eq_true rfl) ?_
                    exact W.vret hx hb hr (fun t ht hW => ⟨⟨(4, (sp + i_3), ((sp + i_3) + i_17), r_21, (f (sp + i_3))), rfl, (by first | omega | (dsimp only; omega)), by rw [ht]; exact hP9, va_K.moved hW.alike hK, hD9⟩, hS.F ht⟩) hS.2.2 dX6_advance_300
                  · skip
                    refine lv_if_eq (tgt := 300) hx hb dX6_advance_292 (by decide) (fun _ => ?_) (fun c_40 => (z_abs c_40 (by decide)).elim)
                    have hP9 := hP.sub (ws' := [(h0, .inr (6, [.int fa, .int pl, .ref h1, .ref h2, .ref h3, .int mo, .int (nI op), .int 1, .int (nI (sp + i_3)), .int (nI ((sp + i_3) + i_17)), .int r_21, .int (f (sp + i_3))])), (h1, .inr (9, [.ref h4, .int (nI n)])), (h4, .inl (D.1 13, 1600, .inl f)), (h2, .inl (D.1 14, 179, .inl fw))]) [0, 1, 2, 3] rfl
                    have hD9 := hD.sub (ws' := [(h0, .inr (6, [.int fa, .int pl, .ref h1, .ref h2, .ref h3, .int mo, .int (nI op), .int 1, .int (nI (sp + i_3)), .int (nI ((sp + i_3) + i_17)), .int r_21, .int (f (sp + i_3))])), (h1, .inr (9, [.ref h4, .int (nI n)])), (h4, .inl (D.1 13, 1600, .inl f)), (h2, .inl (D.1 14, 179, .inl fw))]) [0, 1, 2, 3] (by decide) rfl
                    refine W.widen (k := 0) (n := 0) (Nat.le_of_ble_eq_true rfl) (Nat.le_of_ble_eq_true rfl) ?_
                    exact W.vret hx hb hr (fun t ht hW => ⟨⟨(1, (sp + i_3), ((sp + i_3) + i_17), r_21, (f (sp + i_3))), rfl, (by first | omega | (dsimp only; omega)), by rw [ht]; exact hP9, va_K.moved hW.alike hK, hD9⟩, hS.F ht⟩) hS.2.2 dX6_advance_300
              · skip
                refine lv_istore_n (lv' := [(1, .int (-1)), (0, .ref h0)]) hx hb dX6_advance_264 rfl hl (by decide) rfl (fun ls hl => ?_)
                refine lv_aload_n hx hb dX6_advance_265 rfl (lv_at hl 1 rfl) ?_
                refine va_get (D := D) (ci := 6) (v := .int 1) (C := RX6) (T := TX6) (N := 12) hx hb ht inX6 hown hK hP 0 rfl rfl 7 (by decide) (ht (.fieldLink RX6 44 "CloneVolumes$Reader" "kind" "I") fl_X6_44) (fun _ h9 => h9) rfl dX6_advance_266 ?_
                refine lv_iconst (v := 1) hx hb dX6_advance_269 (by decide) ?_
                refine lv_icmp_eq (tgt := 281) hx hb dX6_advance_270 (by decide) (fun _ => ?_) (fun c_42 => (z_abs c_42 (by decide)).elim)
                refine lv_iload_n hx hb dX6_advance_281 rfl (lv_at hl 0 rfl) ?_
                have en_44 : ((-1) : Int32).toInt = (-1) := by decide
                refine zcS (As := [.int (-1)]) (rest := []) (n := 1) ⟨hx, hb, hml, hown, ht⟩ (k_X6_isLetter l D (-1)) (zgT ml_X6_111 st_X6_isLetter in_X6 co_X6_isLetter) rfl rfl (by decide +kernel) ⟨Nat.le_of_ble_eq_true rfl, Nat.le_of_ble_eq_true rfl⟩ hK hP hS [] rfl rfl hl.1 rfl (Nat.le_of_ble_eq_true rfl) dX6_advance_282 ⟨Nat.le_of_ble_eq_true rfl, Nat.le_of_ble_eq_true rfl⟩ (fun r_45 H locs hw hP hS => ?_)
                rcases hw with ⟨rfl, g_46⟩ | ⟨rfl, g_47⟩
                · skip
                  refine lv_if_ne (tgt := 295) hx hb dX6_advance_285 (by decide) (fun _ => ?_) (fun c_48 => (z_abs c_48 (by decide)).elim)
                  refine lv_aload_n hx hb dX6_advance_295 rfl (lv_at hl 1 rfl) ?_
                  refine lv_iconst (v := 4) hx hb dX6_advance_296 (by decide) ?_
                  refine va_put (D := D) (ci := 6) (v := .int 4) (ty := .int) (C := RX6) (T := TX6) (N := 12) hx hb ht inX6 tyX6 tyX6_ok nmX6 hown hK hP hD hS 0 rfl rfl 7 (by decide) (ht (.fieldLink RX6 44 "CloneVolumes$Reader" "kind" "I") fl_X6_44) (fun _ h9 => h9) rfl (by decide +kernel) rfl rfl (Nat.le_of_ble_eq_true rfl) dX6_advance_297 (fun H locs hP hD hS => ?_)
                  have hP : va_P D vwCl [(h0, .inr (6, [.int fa, .int pl, .ref h1, .ref h2, .ref h3, .int mo, .int (nI op), .int 4, .int (nI (sp + i_3)), .int (nI ((sp + i_3) + i_17)), .int r_21, .int (f (sp + i_3))])), (h1, .inr (9, [.ref h4, .int (nI n)])), (h4, .inl (D.1 13, 1600, .inl f)), (h2, .inl (D.1 14, 179, .inl fw))] H := hP
                  have hD : va_D A [(h0, .inr (6, [.int fa, .int pl, .ref h1, .ref h2, .ref h3, .int mo, .int (nI op), .int 4, .int (nI (sp + i_3)), .int (nI ((sp + i_3) + i_17)), .int r_21, .int (f (sp + i_3))])), (h1, .inr (9, [.ref h4, .int (nI n)])), (h4, .inl (D.1 13, 1600, .inl f)), (h2, .inl (D.1 14, 179, .inl fw))] := hD
                  have hP9 := hP.sub (ws' := [(h0, .inr (6, [.int fa, .int pl, .ref h1, .ref h2, .ref h3, .int mo, .int (nI op), .int 4, .int (nI (sp + i_3)), .int (nI ((sp + i_3) + i_17)), .int r_21, .int (f (sp + i_3))])), (h1, .inr (9, [.ref h4, .int (nI n)])), (h4, .inl (D.1 13, 1600, .inl f)), (h2, .inl (D.1 14, 179, .inl fw))]) [0, 1, 2, 3] rfl
                  have hD9 := hD.sub (ws' := [(h0, .inr (6, [.int fa, .int pl, .ref h1, .ref h2, .ref h3, .int mo, .int (nI op), .int 4, .int (nI (sp + i_3)), .int (nI ((sp + i_3) + i_17)), .int r_21, .int (f (sp + i_3))])), (h1, .inr (9, [.ref h4, .int (nI n)])), (h4, .inl (D.1 13, 1600, .inl f)), (h2, .inl (D.1 14, 179, .inl fw))]) [0, 1, 2, 3] (by decide) rfl
                  refine W.widen (k := 0) (n := 0) (Nat.le_of_ble_eq_true rfl) (Nat.le_of_ble_eq_true rfl) ?_
                  exact W.vret hx hb hr (fun t ht hW => ⟨⟨(4, (sp + i_3), ((sp + i_3) + i_17), r_21, (f (sp + i_3))), rfl, (by first | omega | (dsimp only; omega)), by rw [ht]; exact hP9, va_K.moved hW.alike hK, hD9⟩, hS.F ht⟩) hS.2.2 dX6_advance_300
                · skip
                  refine lv_if_ne (tgt := 295) hx hb dX6_advance_285 (by decide) (fun c_50 => (z_abs c_50 (by decide)).elim) (fun _ => ?_)
                  refine lv_iload_n hx hb dX6_advance_288 rfl (lv_at hl 0 rfl) ?_
                  have en_52 : ((-1) : Int32).toInt = (-1) := by decide
                  refine zcS (As := [.int (-1)]) (rest := []) (n := 1) ⟨hx, hb, hml, hown, ht⟩ (k_X6_isDigit l D (-1)) (zgT ml_X6_118 st_X6_isDigit in_X6 co_X6_isDigit) rfl rfl (by decide +kernel) ⟨Nat.le_of_ble_eq_true rfl, Nat.le_of_ble_eq_true rfl⟩ hK hP hS [] rfl rfl hl.1 rfl (Nat.le_of_ble_eq_true rfl) dX6_advance_289 ⟨Nat.le_of_ble_eq_true rfl, Nat.le_of_ble_eq_true rfl⟩ (fun r_53 H locs hw hP hS => ?_)
                  rcases hw with ⟨rfl, g_54⟩ | ⟨rfl, g_55⟩
                  · skip
                    refine lv_if_eq (tgt := 300) hx hb dX6_advance_292 (by decide) (fun c_56 => (z_abs c_56 (by decide)).elim) (fun _ => ?_)
                    refine lv_aload_n hx hb dX6_advance_295 rfl (lv_at hl 1 rfl) ?_
                    refine lv_iconst (v := 4) hx hb dX6_advance_296 (by decide) ?_
                    refine va_put (D := D) (ci := 6) (v := .int 4) (ty := .int) (C := RX6) (T := TX6) (N := 12) hx hb ht inX6 tyX6 tyX6_ok nmX6 hown hK hP hD hS 0 rfl rfl 7 (by decide) (ht (.fieldLink RX6 44 "CloneVolumes$Reader" "kind" "I") fl_X6_44) (fun _ h9 => h9) rfl (by decide +kernel) rfl rfl (Nat.le_of_ble_eq_true rfl) dX6_advance_297 (fun H locs hP hD hS => ?_)
                    have hP : va_P D vwCl [(h0, .inr (6, [.int fa, .int pl, .ref h1, .ref h2, .ref h3, .int mo, .int (nI op), .int 4, .int (nI (sp + i_3)), .int (nI ((sp + i_3) + i_17)), .int r_21, .int (f (sp + i_3))])), (h1, .inr (9, [.ref h4, .int (nI n)])), (h4, .inl (D.1 13, 1600, .inl f)), (h2, .inl (D.1 14, 179, .inl fw))] H := hP
                    have hD : va_D A [(h0, .inr (6, [.int fa, .int pl, .ref h1, .ref h2, .ref h3, .int mo, .int (nI op), .int 4, .int (nI (sp + i_3)), .int (nI ((sp + i_3) + i_17)), .int r_21, .int (f (sp + i_3))])), (h1, .inr (9, [.ref h4, .int (nI n)])), (h4, .inl (D.1 13, 1600, .inl f)), (h2, .inl (D.1 14, 179, .inl fw))] := hD
                    have hP9 := hP.sub (ws' := [(h0, .inr (6, [.int fa, .int pl, .ref h1, .ref h2, .ref h3, .int mo, .int (nI op), .int 4, .int (nI (sp + i_3)), .int (nI ((sp + i_3) + i_17)), .int r_21, .int (f (sp + i_3))])), (h1, .inr (9, [.ref h4, .int (nI n)])), (h4, .inl (D.1 13, 1600, .inl f)), (h2, .inl (D.1 14, 179, .inl fw))]) [0, 1, 2, 3] rfl
                    have hD9 := hD.sub (ws' := [(h0, .inr (6, [.int fa, .int pl, .ref h1, .ref h2, .ref h3, .int mo, .int (nI op), .int 4, .int (nI (sp + i_3)), .int (nI ((sp + i_3) + i_17)), .int r_21, .int (f (sp + i_3))])), (h1, .inr (9, [.ref h4, .int (nI n)])), (h4, .inl (D.1 13, 1600, .inl f)), (h2, .inl (D.1 14, 179, .inl fw))]) [0, 1, 2, 3] (by decide) rfl
                    refine W.widen (k := 0) (n := 0) (Nat.le_of_ble_eq_true rfl) (Nat.le_of_ble_eq_true rfl) ?_
                    exact W.vret hx hb hr (fun t ht hW => ⟨⟨(4, (sp + i_3), ((sp + i_3) + i_17), r_21, (f (sp + i_3))), rfl, (by first | omega | (dsimp only; omega)), by rw [ht]; exact hP9, va_K.moved hW.alike hK, hD9⟩, hS.F ht⟩) hS.2.2 dX6_advance_300
                  · skip
                    refine lv_if_eq (tgt := 300) hx hb dX6_advance_292 (by decide) (fun _ => ?_) (fun c_58 => (z_abs c_58 (by decide)).elim)
                    have hP9 := hP.sub (ws' := [(h0, .inr (6, [.int fa, .int pl, .ref h1, .ref h2, .ref h3, .int mo, .int (nI op), .int 1, .int (nI (sp + i_3)), .int (nI ((sp + i_3) + i_17)), .int r_21, .int (f (sp + i_3))])), (h1, .inr (9, [.ref h4, .int (nI n)])), (h4, .inl (D.1 13, 1600, .inl f)), (h2, .inl (D.1 14, 179, .inl fw))]) [0, 1, 2, 3] rfl
                    have hD9 := hD.sub (ws' := [(h0, .inr (6, [.int fa, .int pl, .ref h1, .ref h2, .ref h3, .int mo, .int (nI op), .int 1, .int (nI (sp + i_3)), .int (nI ((sp + i_3) + i_17)), .int r_21, .int (f (sp + i_3))])), (h1, .inr (9, [.ref h4, .int (nI n)])), (h4, .inl (D.1 13, 1600, .inl f)), (h2, .inl (D.1 14, 179, .inl fw))]) [0, 1, 2, 3] (by decide) rfl
                    refine W.widen (k := 0) (n := 0) (Nat.le_of_ble_eq_true rfl) (Nat.le_of_ble_eq_true rfl) ?_
                    exact W.vret hx hb hr (fun t ht hW => ⟨⟨(1, (sp + i_3), ((sp + i_3) + i_17), r_21, (f (sp + i_3))), rfl, (by first | omega | (dsimp only; omega)), by rw [ht]; exact hP9, va_K.moved hW.alike hK, hD9⟩, hS.F ht⟩) hS.2.2 dX6_advance_300
            · have g_20 : (((sp + i_3) + i_17 : Nat) : Int) < ((n : Nat) : Int) := z_nle (nI_toInt (by omega)) (nI_toInt (by omega)) c_19
              refine lv_aload_n hx hb dX6_advance_134 rfl (lv_at hl 0 rfl) ?_
              refine va_get (D := D) (ci := 6) (v := .ref h1) (C := RX6) (T := TX6) (N := 12) hx hb ht inX6 hown hK hP 0 rfl rfl 2 (by decide) (ht (.fieldLink RX6 27 "CloneVolumes$Reader" "tape" "LCloneVolumes$Tape;") fl_X6_27) (fun _ h9 => h9) rfl dX6_advance_135 ?_
              refine va_get (D := D) (ci := 9) (v := .ref h4) (C := RX9) (T := TX9) (N := 2) hx hb ht inX9 hown hK hP 1 rfl rfl 0 (by decide) (ht (.fieldLink RX6 96 "CloneVolumes$Tape" "bytes" "[I") fl_X6_96) (fun _ h9 => h9) rfl dX6_advance_138 ?_
              refine lv_aload_n hx hb dX6_advance_141 rfl (lv_at hl 0 rfl) ?_
              refine va_get (D := D) (ci := 6) (v := .int (nI ((sp + i_3) + i_17))) (C := RX6) (T := TX6) (N := 12) hx hb ht inX6 hown hK hP 0 rfl rfl 9 (by decide) (ht (.fieldLink RX6 88 "CloneVolumes$Reader" "stop" "I") fl_X6_88) (fun _ h9 => h9) rfl dX6_advance_142 ?_
              refine va_iald hx hb hK hP 2 0 rfl rfl (vp_in_nI (by omega) (by omega)) dX6_advance_145 ?_
              refine z_topi (y := f ((sp + i_3) + i_17)) (by rw [nI_clamp (by omega)]) ?_
              refine zcS (As := [.int (f ((sp + i_3) + i_17))]) (rest := []) (n := 1) ⟨hx, hb, hml, hown, ht⟩ (k_X6_isLetter l D (f ((sp + i_3) + i_17))) (zgT ml_X6_111 st_X6_isLetter in_X6 co_X6_isLetter) rfl rfl (by decide +kernel) ⟨Nat.le_of_ble_eq_true rfl, Nat.le_of_ble_eq_true rfl⟩ hK hP hS [] rfl rfl hl.1 rfl (Nat.le_of_ble_eq_true rfl) dX6_advance_146 ⟨Nat.le_of_ble_eq_true rfl, Nat.le_of_ble_eq_true rfl⟩ (fun r_60 H locs hw hP hS => ?_)
              rcases hw with ⟨rfl, g_61⟩ | ⟨rfl, g_62⟩
              · skip
                refine lv_if_eq (tgt := 165) hx hb dX6_advance_149 (by decide) (fun c_63 => (z_abs c_63 (by decide)).elim) (fun _ => ?_)
                refine lv_aload_n hx hb dX6_advance_152 rfl (lv_at hl 0 rfl) ?_
                refine lv_dup hx hb dX6_advance_153 rfl ?_
                refine va_get (D := D) (ci := 6) (v := .int (nI ((sp + i_3) + i_17))) (C := RX6) (T := TX6) (N := 12) hx hb ht inX6 hown hK hP 0 rfl rfl 9 (by decide) (ht (.fieldLink RX6 88 "CloneVolumes$Reader" "stop" "I") fl_X6_88) (fun _ h9 => h9) rfl dX6_advance_154 ?_
                refine lv_iconst (v := 1) hx hb dX6_advance_157 (by decide) ?_
                refine lv_iadd hx hb dX6_advance_158 ?_
                refine z_topi (y := nI (((sp + i_3) + i_17) + 1)) (z_nadd ((sp + i_3) + i_17) 1) ?_
                refine va_put (D := D) (ci := 6) (v := .int (nI (((sp + i_3) + i_17) + 1))) (ty := .int) (C := RX6) (T := TX6) (N := 12) hx hb ht inX6 tyX6 tyX6_ok nmX6 hown hK hP hD hS 0 rfl rfl 9 (by decide) (ht (.fieldLink RX6 88 "CloneVolumes$Reader" "stop" "I") fl_X6_88) (fun _ h9 => h9) rfl (by decide +kernel) rfl rfl (Nat.le_of_ble_eq_true rfl) dX6_advance_159 (fun H locs hP hD hS => ?_)
                have hP : va_P D vwCl [(h0, .inr (6, [.int fa, .int pl, .ref h1, .ref h2, .ref h3, .int mo, .int (nI op), .int 1, .int (nI (sp + i_3)), .int (nI (((sp + i_3) + i_17) + 1)), .int (-1), .int (f (sp + i_3))])), (h1, .inr (9, [.ref h4, .int (nI n)])), (h4, .inl (D.1 13, 1600, .inl f)), (h2, .inl (D.1 14, 179, .inl fw))] H := hP
                have hD : va_D A [(h0, .inr (6, [.int fa, .int pl, .ref h1, .ref h2, .ref h3, .int mo, .int (nI op), .int 1, .int (nI (sp + i_3)), .int (nI (((sp + i_3) + i_17) + 1)), .int (-1), .int (f (sp + i_3))])), (h1, .inr (9, [.ref h4, .int (nI n)])), (h4, .inl (D.1 13, 1600, .inl f)), (h2, .inl (D.1 14, 179, .inl fw))] := hD
                refine lv_goto (tgt := 120) hx hb dX6_advance_162 (by decide) ?_
                rw [show ((sp + i_3) + i_17) + 1 = (sp + i_3) + (i_17 + 1) by omega] at hP hD
                exact ih_120 () _ _ _ (by omega) ⟨(by first | omega | (dsimp only; omega)), hP.sub [0, 1, 2, 3] rfl, hD.sub [0, 1, 2, 3] (by decide) rfl, hS, lv_sub hl [0] rfl⟩
              · skip
                refine lv_if_eq (tgt := 165) hx hb dX6_advance_149 (by decide) (fun _ => ?_) (fun c_65 => (z_abs c_65 (by decide)).elim)
                refine lv_aload_n hx hb dX6_advance_165 rfl (lv_at hl 0 rfl) ?_
                refine lv_aload_n hx hb dX6_advance_166 rfl (lv_at hl 0 rfl) ?_
                refine zcV (As := []) (rest := [.ref h0]) (C := RX6) (n := 0) ⟨hx, hb, hml, hown, ht⟩ (k_X6_wordNumber l D h0 h1 h2 h3 h4 fa pl mo 1 (-1) (f (sp + i_3)) op (sp + i_3) ((sp + i_3) + i_17) n f fw (by first | decide | omega) (by first | decide | omega) (by first | decide | omega)) (zgV ml_X6_114 im_X6_wordNumber se_X6_wordNumber in_X6 co_X6_wordNumber) rfl rfl (by decide +kernel) ⟨Nat.le_of_ble_eq_true rfl, Nat.le_of_ble_eq_true rfl⟩ hK hP hS [0, 1, 2, 3] rfl 0 rfl rfl rfl rfl hl.1 rfl (Nat.le_of_ble_eq_true rfl) dX6_advance_167 ⟨Nat.le_of_ble_eq_true rfl, Nat.le_of_ble_eq_true rfl⟩ (fun r_67 H locs hw hP hS => ?_)
                refine va_put (D := D) (ci := 6) (v := .int r_67) (ty := .int) (C := RX6) (T := TX6) (N := 12) hx hb ht inX6 tyX6 tyX6_ok nmX6 hown hK hP hD hS 0 rfl rfl 10 (by decide) (ht (.fieldLink RX6 72 "CloneVolumes$Reader" "word" "I") fl_X6_72) (fun _ h9 => h9) rfl (by decide +kernel) rfl rfl (Nat.le_of_ble_eq_true rfl) dX6_advance_170 (fun H locs hP hD hS => ?_)
                have hP : va_P D vwCl [(h0, .inr (6, [.int fa, .int pl, .ref h1, .ref h2, .ref h3, .int mo, .int (nI op), .int 1, .int (nI (sp + i_3)), .int (nI ((sp + i_3) + i_17)), .int r_67, .int (f (sp + i_3))])), (h1, .inr (9, [.ref h4, .int (nI n)])), (h4, .inl (D.1 13, 1600, .inl f)), (h2, .inl (D.1 14, 179, .inl fw))] H := hP
                have hD : va_D A [(h0, .inr (6, [.int fa, .int pl, .ref h1, .ref h2, .ref h3, .int mo, .int (nI op), .int 1, .int (nI (sp + i_3)), .int (nI ((sp + i_3) + i_17)), .int r_67, .int (f (sp + i_3))])), (h1, .inr (9, [.ref h4, .int (nI n)])), (h4, .inl (D.1 13, 1600, .inl f)), (h2, .inl (D.1 14, 179, .inl fw))] := hD
                refine lv_goto (tgt := 251) hx hb dX6_advance_173 (by decide) ?_
                refine lv_aload_n hx hb dX6_advance_251 rfl (lv_at hl 0 rfl) ?_
                refine va_get (D := D) (ci := 6) (v := .ref h1) (C := RX6) (T := TX6) (N := 12) hx hb ht inX6 hown hK hP 0 rfl rfl 2 (by decide) (ht (.fieldLink RX6 27 "CloneVolumes$Reader" "tape" "LCloneVolumes$Tape;") fl_X6_27) (fun _ h9 => h9) rfl dX6_advance_252 ?_
                refine lv_aload_n hx hb dX6_advance_255 rfl (lv_at hl 0 rfl) ?_
                refine va_get (D := D) (ci := 6) (v := .int (nI (sp + i_3))) (C := RX6) (T := TX6) (N := 12) hx hb ht inX6 hown hK hP 0 rfl rfl 8 (by decide) (ht (.fieldLink RX6 51 "CloneVolumes$Reader" "start" "I") fl_X6_51) (fun _ h9 => h9) rfl dX6_advance_256 ?_
                refine lv_iconst (v := 1) hx hb dX6_advance_259 (by decide) ?_
                refine lv_isub hx hb dX6_advance_260 ?_
                refine lv_topi (fun x_68 ex_68 => ?_)
                refine zcV (As := [.int x_68]) (rest := []) (C := RX9) (n := 1) ⟨hx, hb, hml, hown, ht⟩ (k_X9_at l D h1 h4 n f x_68 (by first | decide | omega)) (zgV ml_X6_104 im_X9_at se_X9_at in_X9 co_X9_at) rfl rfl (by decide +kernel) ⟨Nat.le_of_ble_eq_true rfl, Nat.le_of_ble_eq_true rfl⟩ hK hP hS [1, 2] rfl 0 rfl rfl rfl rfl hl.1 rfl (Nat.le_of_ble_eq_true rfl) dX6_advance_261 ⟨Nat.le_of_ble_eq_true rfl, Nat.le_of_ble_eq_true rfl⟩ (fun r_69 H locs hw hP hS => ?_)
                rcases hw with ⟨rfl, g_70⟩ | ⟨rfl, g_71⟩
                · skip
                  refine lv_istore_n (lv' := [(1, .int (f x_68.toNatClampNeg)), (0, .ref h0)]) hx hb dX6_advance_264 rfl hl (by decide) rfl (fun ls hl => ?_)
                  refine lv_aload_n hx hb dX6_advance_265 rfl (lv_at hl 1 rfl) ?_
                  refine va_get (D := D) (ci := 6) (v := .int 1) (C := RX6) (T := TX6) (N := 12) hx hb ht inX6 hown hK hP 0 rfl rfl 7 (by decide) (ht (.fieldLink RX6 44 "CloneVolumes$Reader" "kind" "I") fl_X6_44) (fun _ h9 => h9) rfl dX6_advance_266 ?_
                  refine lv_iconst (v := 1) hx hb dX6_advance_269 (by decide) ?_
                  refine lv_icmp_eq (tgt := 281) hx hb dX6_advance_270 (by decide) (fun _ => ?_) (fun c_72 => (z_abs c_72 (by decide)).elim)
                  refine lv_iload_n hx hb dX6_advance_281 rfl (lv_at hl 0 rfl) ?_
                  refine zcS (As := [.int (f x_68.toNatClampNeg)]) (rest := []) (n := 1) ⟨hx, hb, hml, hown, ht⟩ (k_X6_isLetter l D (f x_68.toNatClampNeg)) (zgT ml_X6_111 st_X6_isLetter in_X6 co_X6_isLetter) rfl rfl (by decide +kernel) ⟨Nat.le_of_ble_eq_true rfl, Nat.le_of_ble_eq_true rfl⟩ hK hP hS [] rfl rfl hl.1 rfl (Nat.le_of_ble_eq_true rfl) dX6_advance_282 ⟨Nat.le_of_ble_eq_true rfl, Nat.le_of_ble_eq_true rfl⟩ (fun r_74 H locs hw hP hS => ?_)
                  rcases hw with ⟨rfl, g_75⟩ | ⟨rfl, g_76⟩
                  · skip
                    refine lv_if_ne (tgt := 295) hx hb dX6_advance_285 (by decide) (fun _ => ?_) (fun c_77 => (z_abs c_77 (by decide)).elim)
                    refine lv_aload_n hx hb dX6_advance_295 rfl (lv_at hl 1 rfl) ?_
                    refine lv_iconst (v := 4) hx hb dX6_advance_296 (by decide) ?_
                    refine va_put (D := D) (ci := 6) (v := .int 4) (ty := .int) (C := RX6) (T := TX6) (N := 12) hx hb ht inX6 tyX6 tyX6_ok nmX6 hown hK hP hD hS 0 rfl rfl 7 (by decide) (ht (.fieldLink RX6 44 "CloneVolumes$Reader" "kind" "I") fl_X6_44) (fun _ h9 => h9) rfl (by decide +kernel) rfl rfl (Nat.le_of_ble_eq_true rfl) dX6_advance_297 (fun H locs hP hD hS => ?_)
                    have hP : va_P D vwCl [(h0, .inr (6, [.int fa, .int pl, .ref h1, .ref h2, .ref h3, .int mo, .int (nI op), .int 4, .int (nI (sp + i_3)), .int (nI ((sp + i_3) + i_17)), .int r_67, .int (f (sp + i_3))])), (h1, .inr (9, [.ref h4, .int (nI n)])), (h4, .inl (D.1 13, 1600, .inl f)), (h2, .inl (D.1 14, 179, .inl fw))] H := hP
                    have hD : va_D A [(h0, .inr (6, [.int fa, .int pl, .ref h1, .ref h2, .ref h3, .int mo, .int (nI op), .int 4, .int (nI (sp + i_3)), .int (nI ((sp + i_3) + i_17)), .int r_67, .int (f (sp + i_3))])), (h1, .inr (9, [.ref h4, .int (nI n)])), (h4, .inl (D.1 13, 1600, .inl f)), (h2, .inl (D.1 14, 179, .inl fw))] := hD
                    have hP9 := hP.sub (ws' := [(h0, .inr (6, [.int fa, .int pl, .ref h1, .ref h2, .ref h3, .int mo, .int (nI op), .int 4, .int (nI (sp + i_3)), .int (nI ((sp + i_3) + i_17)), .int r_67, .int (f (sp + i_3))])), (h1, .inr (9, [.ref h4, .int (nI n)])), (h4, .inl (D.1 13, 1600, .inl f)), (h2, .inl (D.1 14, 179, .inl fw))]) [0, 1, 2, 3] rfl
                    have hD9 := hD.sub (ws' := [(h0, .inr (6, [.int fa, .int pl, .ref h1, .ref h2, .ref h3, .int mo, .int (nI op), .int 4, .int (nI (sp + i_3)), .int (nI ((sp + i_3) + i_17)), .int r_67, .int (f (sp + i_3))])), (h1, .inr (9, [.ref h4, .int (nI n)])), (h4, .inl (D.1 13, 1600, .inl f)), (h2, .inl (D.1 14, 179, .inl fw))]) [0, 1, 2, 3] (by decide) rfl
                    refine W.widen (k := 0) (n := 0) (Nat.le_of_ble_eq_true rfl) (Nat.le_of_ble_eq_true rfl) ?_
                    exact W.vret hx hb hr (fun t ht hW => ⟨⟨(4, (sp + i_3), ((sp + i_3) + i_17), r_67, (f (sp + i_3))), rfl, (by first | omega | (dsimp only; omega)), by rw [ht]; exact hP9, va_K.moved hW.alike hK, hD9⟩, hS.F ht⟩) hS.2.2 dX6_advance_300
                  · skip
                    refine lv_if_ne (tgt := 295) hx hb dX6_advance_285 (by decide) (fun c_79 => (z_abs c_79 (by decide)).elim) (fun _ => ?_)
                    refine lv_iload_n hx hb dX6_advance_288 rfl (lv_at hl 0 rfl) ?_
                    refine zcS (As := [.int (f x_68.toNatClampNeg)]) (rest := []) (n := 1) ⟨hx, hb, hml, hown, ht⟩ (k_X6_isDigit l D (f x_68.toNatClampNeg)) (zgT ml_X6_118 st_X6_isDigit in_X6 co_X6_isDigit) rfl rfl (by decide +kernel) ⟨Nat.le_of_ble_eq_true rfl, Nat.le_of_ble_eq_true rfl⟩ hK hP hS [] rfl rfl hl.1 rfl (Nat.le_of_ble_eq_true rfl) dX6_advance_289 ⟨Nat.le_of_ble_eq_true rfl, Nat.le_of_ble_eq_true rfl⟩ (fun r_81 H locs hw hP hS => ?_)
                    rcases hw with ⟨rfl, g_82⟩ | ⟨rfl, g_83⟩
                    · skip
                      refine lv_if_eq (tgt := 300) hx hb dX6_advance_292 (by decide) (fun c_84 => (z_abs c_84 (by decide)).elim) (fun _ => ?_)
                      refine lv_aload_n hx hb dX6_advance_295 rfl (lv_at hl 1 rfl) ?_
                      refine lv_iconst (v := 4) hx hb dX6_advance_296 (by decide) ?_
                      refine va_put (D := D) (ci := 6) (v := .int 4) (ty := .int) (C := RX6) (T := TX6) (N := 12) hx hb ht inX6 tyX6 tyX6_ok nmX6 hown hK hP hD hS 0 rfl rfl 7 (by decide) (ht (.fieldLink RX6 44 "CloneVolumes$Reader" "kind" "I") fl_X6_44) (fun _ h9 => h9) rfl (by decide +kernel) rfl rfl (Nat.le_of_ble_eq_true rfl) dX6_advance_297 (fun H locs hP hD hS => ?_)
                      have hP : va_P D vwCl [(h0, .inr (6, [.int fa, .int pl, .ref h1, .ref h2, .ref h3, .int mo, .int (nI op), .int 4, .int (nI (sp + i_3)), .int (nI ((sp + i_3) + i_17)), .int r_67, .int (f (sp + i_3))])), (h1, .inr (9, [.ref h4, .int (nI n)])), (h4, .inl (D.1 13, 1600, .inl f)), (h2, .inl (D.1 14, 179, .inl fw))] H := hP
                      have hD : va_D A [(h0, .inr (6, [.int fa, .int pl, .ref h1, .ref h2, .ref h3, .int mo, .int (nI op), .int 4, .int (nI (sp + i_3)), .int (nI ((sp + i_3) + i_17)), .int r_67, .int (f (sp + i_3))])), (h1, .inr (9, [.ref h4, .int (nI n)])), (h4, .inl (D.1 13, 1600, .inl f)), (h2, .inl (D.1 14, 179, .inl fw))] := hD
                      have hP9 := hP.sub (ws' := [(h0, .inr (6, [.int fa, .int pl, .ref h1, .ref h2, .ref h3, .int mo, .int (nI op), .int 4, .int (nI (sp + i_3)), .int (nI ((sp + i_3) + i_17)), .int r_67, .int (f (sp + i_3))])), (h1, .inr (9, [.ref h4, .int (nI n)])), (h4, .inl (D.1 13, 1600, .inl f)), (h2, .inl (D.1 14, 179, .inl fw))]) [0, 1, 2, 3] rfl
                      have hD9 := hD.sub (ws' := [(h0, .inr (6, [.int fa, .int pl, .ref h1, .ref h2, .ref h3, .int mo, .int (nI op), .int 4, .int (nI (sp + i_3)), .int (nI ((sp + i_3) + i_17)), .int r_67, .int (f (sp + i_3))])), (h1, .inr (9, [.ref h4, .int (nI n)])), (h4, .inl (D.1 13, 1600, .inl f)), (h2, .inl (D.1 14, 179, .inl fw))]) [0, 1, 2, 3] (by decide) rfl
                      refine W.widen (k := 0) (n := 0) (Nat.le_of_ble_eq_true rfl) (Nat.le_of_ble_eq_true rfl) ?_
                      exact W.vret hx hb hr (fun t ht hW => ⟨⟨(4, (sp + i_3), ((sp + i_3) + i_17), r_67, (f (sp + i_3))), rfl, (by first | omega | (dsimp only; omega)), by rw [ht]; exact hP9, va_K.moved hW.alike hK, hD9⟩, hS.F ht⟩) hS.2.2 dX6_advance_300
                    · skip
                      refine lv_if_eq (tgt := 300) hx hb dX6_advance_292 (by decide) (fun _ => ?_) (fun c_86 => (z_abs c_86 (by decide)).elim)
                      have hP9 := hP.sub (ws' := [(h0, .inr (6, [.int fa, .int pl, .ref h1, .ref h2, .ref h3, .int mo, .int (nI op), .int 1, .int (nI (sp + i_3)), .int (nI ((sp + i_3) + i_17)), .int r_67, .int (f (sp + i_3))])), (h1, .inr (9, [.ref h4, .int (nI n)])), (h4, .inl (D.1 13, 1600, .inl f)), (h2, .inl (D.1 14, 179, .inl fw))]) [0, 1, 2, 3] rfl
                      have hD9 := hD.sub (ws' := [(h0, .inr (6, [.int fa, .int pl, .ref h1, .ref h2, .ref h3, .int mo, .int (nI op), .int 1, .int (nI (sp + i_3)), .int (nI ((sp + i_3) + i_17)), .int r_67, .int (f (sp + i_3))])), (h1, .inr (9, [.ref h4, .int (nI n)])), (h4, .inl (D.1 13, 1600, .inl f)), (h2, .inl (D.1 14, 179, .inl fw))]) [0, 1, 2, 3] (by decide) rfl
                      refine W.widen (k := 0) (n := 0) (Nat.le_of_ble_eq_true rfl) (Nat.le_of_ble_eq_true rfl) ?_
                      exact W.vret hx hb hr (fun t ht hW => ⟨⟨(1, (sp + i_3), ((sp + i_3) + i_17), r_67, (f (sp + i_3))), rfl, (by first | omega | (dsimp only; omega)), by rw [ht]; exact hP9, va_K.moved hW.alike hK, hD9⟩, hS.F ht⟩) hS.2.2 dX6_advance_300
                · skip
                  refine lv_istore_n (lv' := [(1, .int (-1)), (0, .ref h0)]) hx hb dX6_advance_264 rfl hl (by decide) rfl (fun ls hl => ?_)
                  refine lv_aload_n hx hb dX6_advance_265 rfl (lv_at hl 1 rfl) ?_
                  refine va_get (D := D) (ci := 6) (v := .int 1) (C := RX6) (T := TX6) (N := 12) hx hb ht inX6 hown hK hP 0 rfl rfl 7 (by decide) (ht (.fieldLink RX6 44 "CloneVolumes$Reader" "kind" "I") fl_X6_44) (fun _ h9 => h9) rfl dX6_advance_266 ?_
                  refine lv_iconst (v := 1) hx hb dX6_advance_269 (by decide) ?_
                  refine lv_icmp_eq (tgt := 281) hx hb dX6_advance_270 (by decide) (fun _ => ?_) (fun c_88 => (z_abs c_88 (by decide)).elim)
                  refine lv_iload_n hx hb dX6_advance_281 rfl (lv_at hl 0 rfl) ?_
                  have en_90 : ((-1) : Int32).toInt = (-1) := by decide
                  refine zcS (As := [.int (-1)]) (rest := []) (n := 1) ⟨hx, hb, hml, hown, ht⟩ (k_X6_isLetter l D (-1)) (zgT ml_X6_111 st_X6_isLetter in_X6 co_X6_isLetter) rfl rfl (by decide +kernel) ⟨Nat.le_of_ble_eq_true rfl, Nat.le_of_ble_eq_true rfl⟩ hK hP hS [] rfl rfl hl.1 rfl (Nat.le_of_ble_eq_true rfl) dX6_advance_282 ⟨Nat.le_of_ble_eq_true rfl, Nat.le_of_ble_eq_true rfl⟩ (fun r_91 H locs hw hP hS => ?_)
                  rcases hw with ⟨rfl, g_92⟩ | ⟨rfl, g_93⟩
                  · skip
                    refine lv_if_ne (tgt := 295) hx hb dX6_advance_285 (by decide) (fun _ => ?_) (fun c_94 => (z_abs c_94 (by decide)).elim)
                    refine lv_aload_n hx hb dX6_advance_295 rfl (lv_at hl 1 rfl) ?_
                    refine lv_iconst (v := 4) hx hb dX6_advance_296 (by decide) ?_
                    refine va_put (D := D) (ci := 6) (v := .int 4) (ty := .int) (C := RX6) (T := TX6) (N := 12) hx hb ht inX6 tyX6 tyX6_ok nmX6 hown hK hP hD hS 0 rfl rfl 7 (by decide) (ht (.fieldLink RX6 44 "CloneVolumes$Reader" "kind" "I") fl_X6_44) (fun _ h9 => h9) rfl (by decide +kernel) rfl rfl (Nat.le_of_ble_eq_true rfl) dX6_advance_297 (fun H locs hP hD hS => ?_)
                    have hP : va_P D vwCl [(h0, .inr (6, [.int fa, .int pl, .ref h1, .ref h2, .ref h3, .int mo, .int (nI op), .int 4, .int (nI (sp + i_3)), .int (nI ((sp + i_3) + i_17)), .int r_67, .int (f (sp + i_3))])), (h1, .inr (9, [.ref h4, .int (nI n)])), (h4, .inl (D.1 13, 1600, .inl f)), (h2, .inl (D.1 14, 179, .inl fw))] H := hP
                    have hD : va_D A [(h0, .inr (6, [.int fa, .int pl, .ref h1, .ref h2, .ref h3, .int mo, .int (nI op), .int 4, .int (nI (sp + i_3)), .int (nI ((sp + i_3) + i_17)), .int r_67, .int (f (sp + i_3))])), (h1, .inr (9, [.ref h4, .int (nI n)])), (h4, .inl (D.1 13, 1600, .inl f)), (h2, .inl (D.1 14, 179, .inl fw))] := hD
                    have hP9 := hP.sub (ws' := [(h0, .inr (6, [.int fa, .int pl, .ref h1, .ref h2, .ref h3, .int mo, .int (nI op), .int 4, .int (nI (sp + i_3)), .int (nI ((sp + i_3) + i_17)), .int r_67, .int (f (sp + i_3))])), (h1, .inr (9, [.ref h4, .int (nI n)])), (h4, .inl (D.1 13, 1600, .inl f)), (h2, .inl (D.1 14, 179, .inl fw))]) [0, 1, 2, 3] rfl
                    have hD9 := hD.sub (ws' := [(h0, .inr (6, [.int fa, .int pl, .ref h1, .ref h2, .ref h3, .int mo, .int (nI op), .int 4, .int (nI (sp + i_3)), .int (nI ((sp + i_3) + i_17)), .int r_67, .int (f (sp + i_3))])), (h1, .inr (9, [.ref h4, .int (nI n)])), (h4, .inl (D.1 13, 1600, .inl f)), (h2, .inl (D.1 14, 179, .inl fw))]) [0, 1, 2, 3] (by decide) rfl
                    refine W.widen (k := 0) (n := 0) (Nat.le_of_ble_eq_true rfl) (Nat.le_of_ble_eq_true rfl) ?_
                    exact W.vret hx hb hr (fun t ht hW => ⟨⟨(4, (sp + i_3), ((sp + i_3) + i_17), r_67, (f (sp + i_3))), rfl, (by first | omega | (dsimp only; omega)), by rw [ht]; exact hP9, va_K.moved hW.alike hK, hD9⟩, hS.F ht⟩) hS.2.2 dX6_advance_300
                  · skip
                    refine lv_if_ne (tgt := 295) hx hb dX6_advance_285 (by decide) (fun c_96 => (z_abs c_96 (by decide)).elim) (fun _ => ?_)
                    refine lv_iload_n hx hb dX6_advance_288 rfl (lv_at hl 0 rfl) ?_
                    have en_98 : ((-1) : Int32).toInt = (-1) := by decide
                    refine zcS (As := [.int (-1)]) (rest := []) (n := 1) ⟨hx, hb, hml, hown, ht⟩ (k_X6_isDigit l D (-1)) (zgT ml_X6_118 st_X6_isDigit in_X6 co_X6_isDigit) rfl rfl (by decide +kernel) ⟨Nat.le_of_ble_eq_true rfl, Nat.le_of_ble_eq_true rfl⟩ hK hP hS [] rfl rfl hl.1 rfl (Nat.le_of_ble_eq_true rfl) dX6_advance_289 ⟨Nat.le_of_ble_eq_true rfl, Nat.le_of_ble_eq_true rfl⟩ (fun r_99 H locs hw hP hS => ?_)
                    rcases hw with ⟨rfl, g_100⟩ | ⟨rfl, g_101⟩
                    · skip
                      refine lv_if_eq (tgt := 300) hx hb dX6_advance_292 (by decide) (fun c_102 => (z_abs c_102 (by decide)).elim) (fun _ => ?_)
                      refine lv_aload_n hx hb dX6_advance_295 rfl (lv_at hl 1 rfl) ?_
                      refine lv_iconst (v := 4) hx hb dX6_advance_296 (by decide) ?_
                      refine va_put (D := D) (ci := 6) (v := .int 4) (ty := .int) (C := RX6) (T := TX6) (N := 12) hx hb ht inX6 tyX6 tyX6_ok nmX6 hown hK hP hD hS 0 rfl rfl 7 (by decide) (ht (.fieldLink RX6 44 "CloneVolumes$Reader" "kind" "I") fl_X6_44) (fun _ h9 => h9) rfl (by decide +kernel) rfl rfl (Nat.le_of_ble_eq_true rfl) dX6_advance_297 (fun H locs hP hD hS => ?_)
                      have hP : va_P D vwCl [(h0, .inr (6, [.int fa, .int pl, .ref h1, .ref h2, .ref h3, .int mo, .int (nI op), .int 4, .int (nI (sp + i_3)), .int (nI ((sp + i_3) + i_17)), .int r_67, .int (f (sp + i_3))])), (h1, .inr (9, [.ref h4, .int (nI n)])), (h4, .inl (D.1 13, 1600, .inl f)), (h2, .inl (D.1 14, 179, .inl fw))] H := hP
                      have hD : va_D A [(h0, .inr (6, [.int fa, .int pl, .ref h1, .ref h2, .ref h3, .int mo, .int (nI op), .int 4, .int (nI (sp + i_3)), .int (nI ((sp + i_3) + i_17)), .int r_67, .int (f (sp + i_3))])), (h1, .inr (9, [.ref h4, .int (nI n)])), (h4, .inl (D.1 13, 1600, .inl f)), (h2, .inl (D.1 14, 179, .inl fw))] := hD
                      have hP9 := hP.sub (ws' := [(h0, .inr (6, [.int fa, .int pl, .ref h1, .ref h2, .ref h3, .int mo, .int (nI op), .int 4, .int (nI (sp + i_3)), .int (nI ((sp + i_3) + i_17)), .int r_67, .int (f (sp + i_3))])), (h1, .inr (9, [.ref h4, .int (nI n)])), (h4, .inl (D.1 13, 1600, .inl f)), (h2, .inl (D.1 14, 179, .inl fw))]) [0, 1, 2, 3] rfl
                      have hD9 := hD.sub (ws' := [(h0, .inr (6, [.int fa, .int pl, .ref h1, .ref h2, .ref h3, .int mo, .int (nI op), .int 4, .int (nI (sp + i_3)), .int (nI ((sp + i_3) + i_17)), .int r_67, .int (f (sp + i_3))])), (h1, .inr (9, [.ref h4, .int (nI n)])), (h4, .inl (D.1 13, 1600, .inl f)), (h2, .inl (D.1 14, 179, .inl fw))]) [0, 1, 2, 3] (by decide) rfl
                      refine W.widen (k := 0) (n := 0) (Nat.le_of_ble_eq_true rfl) (Nat.le_of_ble_eq_true rfl) ?_
                      exact W.vret hx hb hr (fun t ht hW => ⟨⟨(4, (sp + i_3), ((sp + i_3) + i_17), r_67, (f (sp + i_3))), rfl, (by first | omega | (dsimp only; omega)), by rw [ht]; exact hP9, va_K.moved hW.alike hK, hD9⟩, hS.F ht⟩) hS.2.2 dX6_advance_300
                    · skip
                      refine lv_if_eq (tgt := 300) hx hb dX6_advance_292 (by decide) (fun _ => ?_) (fun c_104 => (z_abs c_104 (by decide)).elim)
                      have hP9 := hP.sub (ws' := [(h0, .inr (6, [.int fa, .int pl, .ref h1, .ref h2, .ref h3, .int mo, .int (nI op), .int 1, .int (nI (sp + i_3)), .int (nI ((sp + i_3) + i_17)), .int r_67, .int (f (sp + i_3))])), (h1, .inr (9, [.ref h4, .int (nI n)])), (h4, .inl (D.1 13, 1600, .inl f)), (h2, .inl (D.1 14, 179, .inl fw))]) [0, 1, 2, 3] rfl
                      have hD9 := hD.sub (ws' := [(h0, .inr (6, [.int fa, .int pl, .ref h1, .ref h2, .ref h3, .int mo, .int (nI op), .int 1, .int (nI (sp + i_3)), .int (nI ((sp + i_3) + i_17)), .int r_67, .int (f (sp + i_3))])), (h1, .inr (9, [.ref h4, .int (nI n)])), (h4, .inl (D.1 13, 1600, .inl f)), (h2, .inl (D.1 14, 179, .inl fw))]) [0, 1, 2, 3] (by decide) rfl
                      refine W.widen (k := 0) (n := 0) (Nat.le_of_ble_eq_true rfl) (Nat.le_of_ble_eq_true rfl) ?_
                      exact W.vret hx hb hr (fun t ht hW => ⟨⟨(1, (sp + i_3), ((sp + i_3) + i_17), r_67, (f (sp + i_3))), rfl, (by first | omega | (dsimp only; omega)), by rw [ht]; exact hP9, va_K.moved hW.alike hK, hD9⟩, hS.F ht⟩) hS.2.2 dX6_advance_300
          · skip
            refine lv_if_eq (tgt := 176) hx hb dX6_advance_112 (by decide) (fun _ => ?_) (fun c_106 => (z_abs c_106 (by decide)).elim)
            refine lv_aload_n hx hb dX6_advance_176 rfl (lv_at hl 0 rfl) ?_
            refine va_get (D := D) (ci := 6) (v := .int (f (sp + i_3))) (C := RX6) (T := TX6) (N := 12) hx hb ht inX6 hown hK hP 0 rfl rfl 11 (by decide) (ht (.fieldLink RX6 108 "CloneVolumes$Reader" "sign" "I") fl_X6_108) (fun _ h9 => h9) rfl dX6_advance_177 ?_
            refine zcS (As := [.int (f (sp + i_3))]) (rest := []) (n := 1) ⟨hx, hb, hml, hown, ht⟩ (k_X6_isDigit l D (f (sp + i_3))) (zgT ml_X6_118 st_X6_isDigit in_X6 co_X6_isDigit) rfl rfl (by decide +kernel) ⟨Nat.le_of_ble_eq_true rfl, Nat.le_of_ble_eq_true rfl⟩ hK hP hS [] rfl rfl hl.1 rfl (Nat.le_of_ble_eq_true rfl) dX6_advance_180 ⟨Nat.le_of_ble_eq_true rfl, Nat.le_of_ble_eq_true rfl⟩ (fun r_108 H locs hw hP hS => ?_)
            rcases hw with ⟨rfl, g_109⟩ | ⟨rfl, g_110⟩
            · skip
              refine lv_if_eq (tgt := 236) hx hb dX6_advance_183 (by decide) (fun c_111 => (z_abs c_111 (by decide)).elim) (fun _ => ?_)
              refine lv_aload_n hx hb dX6_advance_186 rfl (lv_at hl 0 rfl) ?_
              refine lv_iconst (v := 2) hx hb dX6_advance_187 (by decide) ?_
              refine va_put (D := D) (ci := 6) (v := .int 2) (ty := .int) (C := RX6) (T := TX6) (N := 12) hx hb ht inX6 tyX6 tyX6_ok nmX6 hown hK hP hD hS 0 rfl rfl 7 (by decide) (ht (.fieldLink RX6 44 "CloneVolumes$Reader" "kind" "I") fl_X6_44) (fun _ h9 => h9) rfl (by decide +kernel) rfl rfl (Nat.le_of_ble_eq_true rfl) dX6_advance_188 (fun H locs hP hD hS => ?_)
              have hP : va_P D vwCl [(h0, .inr (6, [.int fa, .int pl, .ref h1, .ref h2, .ref h3, .int mo, .int (nI op), .int 2, .int (nI (sp + i_3)), .int (nI (sp + i_3)), .int (-1), .int (f (sp + i_3))])), (h1, .inr (9, [.ref h4, .int (nI n)])), (h4, .inl (D.1 13, 1600, .inl f)), (h2, .inl (D.1 14, 179, .inl fw))] H := hP
              have hD : va_D A [(h0, .inr (6, [.int fa, .int pl, .ref h1, .ref h2, .ref h3, .int mo, .int (nI op), .int 2, .int (nI (sp + i_3)), .int (nI (sp + i_3)), .int (-1), .int (f (sp + i_3))])), (h1, .inr (9, [.ref h4, .int (nI n)])), (h4, .inl (D.1 13, 1600, .inl f)), (h2, .inl (D.1 14, 179, .inl fw))] := hD
              refine z_loop (σ := Unit) (N := 1600) (fun i u H locs ls => ((sp + i_3) + i ≤ n) ∧ va_P D vwCl [(h0, .inr (6, [.int fa, .int pl, .ref h1, .ref h2, .ref h3, .int mo, .int (nI op), .int 2, .int (nI (sp + i_3)), .int (nI ((sp + i_3) + i)), .int (-1), .int (f (sp + i_3))])), (h1, .inr (9, [.ref h4, .int (nI n)])), (h4, .inl (D.1 13, 1600, .inl f)), (h2, .inl (D.1 14, 179, .inl fw))] H ∧ va_D A [(h0, .inr (6, [.int fa, .int pl, .ref h1, .ref h2, .ref h3, .int mo, .int (nI op), .int 2, .int (nI (sp + i_3)), .int (nI ((sp + i_3) + i)), .int (-1), .int (f (sp + i_3))])), (h1, .inr (9, [.ref h4, .int (nI n)])), (h4, .inl (D.1 13, 1600, .inl f)), (h2, .inl (D.1 14, 179, .inl fw))] ∧ va_S A s.heap H locs ∧ lv_has ls 2 [(0, .ref h0)]) (fun i_113 _u H locs ls hi_i_113 hI ih_191 => ?_) 0 () (by decide) ⟨(by first | omega | (dsimp only; omega)), hP, hD, hS, lv_sub hl [0] rfl⟩
              obtain ⟨hv_i_113, hP, hD, hS, hl⟩ := hI
              have hv_i_113 : (sp + i_3) + i_113 ≤ n := hv_i_113
              have hP : va_P D vwCl [(h0, .inr (6, [.int fa, .int pl, .ref h1, .ref h2, .ref h3, .int mo, .int (nI op), .int 2, .int (nI (sp + i_3)), .int (nI ((sp + i_3) + i_113)), .int (-1), .int (f (sp + i_3))])), (h1, .inr (9, [.ref h4, .int (nI n)])), (h4, .inl (D.1 13, 1600, .inl f)), (h2, .inl (D.1 14, 179, .inl fw))] H := hP
              have hD : va_D A [(h0, .inr (6, [.int fa, .int pl, .ref h1, .ref h2, .ref h3, .int mo, .int (nI op), .int 2, .int (nI (sp + i_3)), .int (nI ((sp + i_3) + i_113)), .int (-1), .int (f (sp + i_3))])), (h1, .inr (9, [.ref h4, .int (nI n)])), (h4, .inl (D.1 13, 1600, .inl f)), (h2, .inl (D.1 14, 179, .inl fw))] := hD
              have hl : lv_has ls 2 [(0, .ref h0)] := hl
              have hz_114 : i_113 = 0 → (f ((sp + i_3) + i_113)).toInt = (f ((sp + i_3))).toInt := fun h => by rw [h]; rfl
              refine lv_aload_n hx hb dX6_advance_191 rfl (lv_at hl 0 rfl) ?_
              refine va_get (D := D) (ci := 6) (v := .int (nI ((sp + i_3) + i_113))) (C := RX6) (T := TX6) (N := 12) hx hb ht inX6 hown hK hP 0 rfl rfl 9 (by decide) (ht (.fieldLink RX6 88 "CloneVolumes$Reader" "stop" "I") fl_X6_88) (fun _ h9 => h9) rfl dX6_advance_192 ?_
              refine lv_aload_n hx hb dX6_advance_195 rfl (lv_at hl 0 rfl) ?_
              refine va_get (D := D) (ci := 6) (v := .ref h1) (C := RX6) (T := TX6) (N := 12) hx hb ht inX6 hown hK hP 0 rfl rfl 2 (by decide) (ht (.fieldLink RX6 27 "CloneVolumes$Reader" "tape" "LCloneVolumes$Tape;") fl_X6_27) (fun _ h9 => h9) rfl dX6_advance_196 ?_
              refine va_get (D := D) (ci := 9) (v := .int (nI n)) (C := RX9) (T := TX9) (N := 2) hx hb ht inX9 hown hK hP 1 rfl rfl 1 (by decide) (ht (.fieldLink RX6 91 "CloneVolumes$Tape" "length" "I") fl_X6_91) (fun _ h9 => h9) rfl dX6_advance_199 ?_
              refine lv_icmp_ge (tgt := 251) hx hb dX6_advance_202 (by decide) (fun c_115 => ?_) (fun c_115 => ?_)
              · have g_116 : ((n : Nat) : Int) ≤ (((sp + i_3) + i_113 : Nat) : Int) := z_le (nI_toInt (by omega)) (nI_toInt (by omega)) c_115
                refine lv_aload_n hx hb dX6_advance_251 rfl (lv_at hl 0 rfl) ?_
                refine va_get (D := D) (ci := 6) (v := .ref h1) (C := RX6) (T := TX6) (N := 12) hx hb ht inX6 hown hK hP 0 rfl rfl 2 (by decide) (ht (.fieldLink RX6 27 "CloneVolumes$Reader" "tape" "LCloneVolumes$Tape;") fl_X6_27) (fun _ h9 => h9) rfl dX6_advance_252 ?_
                refine lv_aload_n hx hb dX6_advance_255 rfl (lv_at hl 0 rfl) ?_
                refine va_get (D := D) (ci := 6) (v := .int (nI (sp + i_3))) (C := RX6) (T := TX6) (N := 12) hx hb ht inX6 hown hK hP 0 rfl rfl 8 (by decide) (ht (.fieldLink RX6 51 "CloneVolumes$Reader" "start" "I") fl_X6_51) (fun _ h9 => h9) rfl dX6_advance_256 ?_
                refine lv_iconst (v := 1) hx hb dX6_advance_259 (by decide) ?_
                refine lv_isub hx hb dX6_advance_260 ?_
                refine lv_topi (fun x_117 ex_117 => ?_)
                refine zcV (As := [.int x_117]) (rest := []) (C := RX9) (n := 1) ⟨hx, hb, hml, hown, ht⟩ (k_X9_at l D h1 h4 n f x_117 (by first | decide | omega)) (zgV ml_X6_104 im_X9_at se_X9_at in_X9 co_X9_at) rfl rfl (by decide +kernel) ⟨Nat.le_of_ble_eq_true rfl, Nat.le_of_ble_eq_true rfl⟩ hK hP hS [1, 2] rfl 0 rfl rfl rfl rfl hl.1 rfl (Nat.le_of_ble_eq_true rfl) dX6_advance_261 ⟨Nat.le_of_ble_eq_true rfl, Nat.le_of_ble_eq_true rfl⟩ (fun r_118 H locs hw hP hS => ?_)
                rcases hw with ⟨rfl, g_119⟩ | ⟨rfl, g_120⟩
                · skip
                  refine lv_istore_n (lv' := [(1, .int (f x_117.toNatClampNeg)), (0, .ref h0)]) hx hb dX6_advance_264 rfl hl (by decide) rfl (fun ls hl => ?_)
                  refine lv_aload_n hx hb dX6_advance_265 rfl (lv_at hl 1 rfl) ?_
                  refine va_get (D := D) (ci := 6) (v := .int 2) (C := RX6) (T := TX6) (N := 12) hx hb ht inX6 hown hK hP 0 rfl rfl 7 (by decide) (ht (.fieldLink RX6 44 "CloneVolumes$Reader" "kind" "I") fl_X6_44) (fun _ h9 => h9) rfl dX6_advance_266 ?_
                  refine lv_iconst (v := 1) hx hb dX6_advance_269 (by decide) ?_
                  refine lv_icmp_eq (tgt := 281) hx hb dX6_advance_270 (by decide) (fun c_121 => (z_abs c_121 (by decide)).elim) (fun _ => ?_)
                  refine lv_aload_n hx hb dX6_advance_273 rfl (lv_at hl 1 rfl) ?_
                  refine va_get (D := D) (ci := 6) (v := .int 2) (C := RX6) (T := TX6) (N := 12) hx hb ht inX6 hown hK hP 0 rfl rfl 7 (by decide) (ht (.fieldLink RX6 44 "CloneVolumes$Reader" "kind" "I") fl_X6_44) (fun _ h9 => h9) rfl dX6_advance_274 ?_
                  refine lv_iconst (v := 2) hx hb dX6_advance_277 (by decide) ?_
                  refine lv_icmp_ne (tgt := 300) hx hb dX6_advance_278 (by decide) (fun c_123 => (z_abs c_123 (by decide)).elim) (fun _ => ?_)
                  refine lv_iload_n hx hb dX6_advance_281 rfl (lv_at hl 0 rfl) ?_
                  refine zcS (As := [.int (f x_117.toNatClampNeg)]) (rest := []) (n := 1) ⟨hx, hb, hml, hown, ht⟩ (k_X6_isLetter l D (f x_117.toNatClampNeg)) (zgT ml_X6_111 st_X6_isLetter in_X6 co_X6_isLetter) rfl rfl (by decide +kernel) ⟨Nat.le_of_ble_eq_true rfl, Nat.le_of_ble_eq_true rfl⟩ hK hP hS [] rfl rfl hl.1 rfl (Nat.le_of_ble_eq_true rfl) dX6_advance_282 ⟨Nat.le_of_ble_eq_true rfl, Nat.le_of_ble_eq_true rfl⟩ (fun r_125 H locs hw hP hS => ?_)
                  rcases hw with ⟨rfl, g_126⟩ | ⟨rfl, g_127⟩
                  · skip
                    refine lv_if_ne (tgt := 295) hx hb dX6_advance_285 (by decide) (fun _ => ?_) (fun c_128 => (z_abs c_128 (by decide)).elim)
                    refine lv_aload_n hx hb dX6_advance_295 rfl (lv_at hl 1 rfl) ?_
                    refine lv_iconst (v := 4) hx hb dX6_advance_296 (by decide) ?_
                    refine va_put (D := D) (ci := 6) (v := .int 4) (ty := .int) (C := RX6) (T := TX6) (N := 12) hx hb ht inX6 tyX6 tyX6_ok nmX6 hown hK hP hD hS 0 rfl rfl 7 (by decide) (ht (.fieldLink RX6 44 "CloneVolumes$Reader" "kind" "I") fl_X6_44) (fun _ h9 => h9) rfl (by decide +kernel) rfl rfl (Nat.le_of_ble_eq_true rfl) dX6_advance_297 (fun H locs hP hD hS => ?_)
                    have hP : va_P D vwCl [(h0, .inr (6, [.int fa, .int pl, .ref h1, .ref h2, .ref h3, .int mo, .int (nI op), .int 4, .int (nI (sp + i_3)), .int (nI ((sp + i_3) + i_113)), .int (-1), .int (f (sp + i_3))])), (h1, .inr (9, [.ref h4, .int (nI n)])), (h4, .inl (D.1 13, 1600, .inl f)), (h2, .inl (D.1 14, 179, .inl fw))] H := hP
                    have hD : va_D A [(h0, .inr (6, [.int fa, .int pl, .ref h1, .ref h2, .ref h3, .int mo, .int (nI op), .int 4, .int (nI (sp + i_3)), .int (nI ((sp + i_3) + i_113)), .int (-1), .int (f (sp + i_3))])), (h1, .inr (9, [.ref h4, .int (nI n)])), (h4, .inl (D.1 13, 1600, .inl f)), (h2, .inl (D.1 14, 179, .inl fw))] := hD
                    have hP9 := hP.sub (ws' := [(h0, .inr (6, [.int fa, .int pl, .ref h1, .ref h2, .ref h3, .int mo, .int (nI op), .int 4, .int (nI (sp + i_3)), .int (nI ((sp + i_3) + i_113)), .int (-1), .int (f (sp + i_3))])), (h1, .inr (9, [.ref h4, .int (nI n)])), (h4, .inl (D.1 13, 1600, .inl f)), (h2, .inl (D.1 14, 179, .inl fw))]) [0, 1, 2, 3] rfl
                    have hD9 := hD.sub (ws' := [(h0, .inr (6, [.int fa, .int pl, .ref h1, .ref h2, .ref h3, .int mo, .int (nI op), .int 4, .int (nI (sp + i_3)), .int (nI ((sp + i_3) + i_113)), .int (-1), .int (f (sp + i_3))])), (h1, .inr (9, [.ref h4, .int (nI n)])), (h4, .inl (D.1 13, 1600, .inl f)), (h2, .inl (D.1 14, 179, .inl fw))]) [0, 1, 2, 3] (by decide) rfl
                    refine W.widen (k := 0) (n := 0) (Nat.le_of_ble_eq_true rfl) (Nat.le_of_ble_eq_true rfl) ?_
                    exact W.vret hx hb hr (fun t ht hW => ⟨⟨(4, (sp + i_3), ((sp + i_3) + i_113), (-1), (f (sp + i_3))), rfl, (by first | omega | (dsimp only; omega)), by rw [ht]; exact hP9, va_K.moved hW.alike hK, hD9⟩, hS.F ht⟩) hS.2.2 dX6_advance_300
                  · skip
                    refine lv_if_ne (tgt := 295) hx hb dX6_advance_285 (by decide) (fun c_130 => (z_abs c_130 (by decide)).elim) (fun _ => ?_)
                    refine lv_iload_n hx hb dX6_advance_288 rfl (lv_at hl 0 rfl) ?_
                    refine zcS (As := [.int (f x_117.toNatClampNeg)]) (rest := []) (n := 1) ⟨hx, hb, hml, hown, ht⟩ (k_X6_isDigit l D (f x_117.toNatClampNeg)) (zgT ml_X6_118 st_X6_isDigit in_X6 co_X6_isDigit) rfl rfl (by decide +kernel) ⟨Nat.le_of_ble_eq_true rfl, Nat.le_of_ble_eq_true rfl⟩ hK hP hS [] rfl rfl hl.1 rfl (Nat.le_of_ble_eq_true rfl) dX6_advance_289 ⟨Nat.le_of_ble_eq_true rfl, Nat.le_of_ble_eq_true rfl⟩ (fun r_132 H locs hw hP hS => ?_)
                    rcases hw with ⟨rfl, g_133⟩ | ⟨rfl, g_134⟩
                    · skip
                      refine lv_if_eq (tgt := 300) hx hb dX6_advance_292 (by decide) (fun c_135 => (z_abs c_135 (by decide)).elim) (fun _ => ?_)
                      refine lv_aload_n hx hb dX6_advance_295 rfl (lv_at hl 1 rfl) ?_
                      refine lv_iconst (v := 4) hx hb dX6_advance_296 (by decide) ?_
                      refine va_put (D := D) (ci := 6) (v := .int 4) (ty := .int) (C := RX6) (T := TX6) (N := 12) hx hb ht inX6 tyX6 tyX6_ok nmX6 hown hK hP hD hS 0 rfl rfl 7 (by decide) (ht (.fieldLink RX6 44 "CloneVolumes$Reader" "kind" "I") fl_X6_44) (fun _ h9 => h9) rfl (by decide +kernel) rfl rfl (Nat.le_of_ble_eq_true rfl) dX6_advance_297 (fun H locs hP hD hS => ?_)
                      have hP : va_P D vwCl [(h0, .inr (6, [.int fa, .int pl, .ref h1, .ref h2, .ref h3, .int mo, .int (nI op), .int 4, .int (nI (sp + i_3)), .int (nI ((sp + i_3) + i_113)), .int (-1), .int (f (sp + i_3))])), (h1, .inr (9, [.ref h4, .int (nI n)])), (h4, .inl (D.1 13, 1600, .inl f)), (h2, .inl (D.1 14, 179, .inl fw))] H := hP
                      have hD : va_D A [(h0, .inr (6, [.int fa, .int pl, .ref h1, .ref h2, .ref h3, .int mo, .int (nI op), .int 4, .int (nI (sp + i_3)), .int (nI ((sp + i_3) + i_113)), .int (-1), .int (f (sp + i_3))])), (h1, .inr (9, [.ref h4, .int (nI n)])), (h4, .inl (D.1 13, 1600, .inl f)), (h2, .inl (D.1 14, 179, .inl fw))] := hD
                      have hP9 := hP.sub (ws' := [(h0, .inr (6, [.int fa, .int pl, .ref h1, .ref h2, .ref h3, .int mo, .int (nI op), .int 4, .int (nI (sp + i_3)), .int (nI ((sp + i_3) + i_113)), .int (-1), .int (f (sp + i_3))])), (h1, .inr (9, [.ref h4, .int (nI n)])), (h4, .inl (D.1 13, 1600, .inl f)), (h2, .inl (D.1 14, 179, .inl fw))]) [0, 1, 2, 3] rfl
                      have hD9 := hD.sub (ws' := [(h0, .inr (6, [.int fa, .int pl, .ref h1, .ref h2, .ref h3, .int mo, .int (nI op), .int 4, .int (nI (sp + i_3)), .int (nI ((sp + i_3) + i_113)), .int (-1), .int (f (sp + i_3))])), (h1, .inr (9, [.ref h4, .int (nI n)])), (h4, .inl (D.1 13, 1600, .inl f)), (h2, .inl (D.1 14, 179, .inl fw))]) [0, 1, 2, 3] (by decide) rfl
                      refine W.widen (k := 0) (n := 0) (Nat.le_of_ble_eq_true rfl) (Nat.le_of_ble_eq_true rfl) ?_
                      exact W.vret hx hb hr (fun t ht hW => ⟨⟨(4, (sp + i_3), ((sp + i_3) + i_113), (-1), (f (sp + i_3))), rfl, (by first | omega | (dsimp only; omega)), by rw [ht]; exact hP9, va_K.moved hW.alike hK, hD9⟩, hS.F ht⟩) hS.2.2 dX6_advance_300
                    · skip
                      refine lv_if_eq (tgt := 300) hx hb dX6_advance_292 (by decide) (fun _ => ?_) (fun c_137 => (z_abs c_137 (by decide)).elim)
                      have hP9 := hP.sub (ws' := [(h0, .inr (6, [.int fa, .int pl, .ref h1, .ref h2, .ref h3, .int mo, .int (nI op), .int 2, .int (nI (sp + i_3)), .int (nI ((sp + i_3) + i_113)), .int (-1), .int (f (sp + i_3))])), (h1, .inr (9, [.ref h4, .int (nI n)])), (h4, .inl (D.1 13, 1600, .inl f)), (h2, .inl (D.1 14, 179, .inl fw))]) [0, 1, 2, 3] rfl
                      have hD9 := hD.sub (ws' := [(h0, .inr (6, [.int fa, .int pl, .ref h1, .ref h2, .ref h3, .int mo, .int (nI op), .int 2, .int (nI (sp + i_3)), .int (nI ((sp + i_3) + i_113)), .int (-1), .int (f (sp + i_3))])), (h1, .inr (9, [.ref h4, .int (nI n)])), (h4, .inl (D.1 13, 1600, .inl f)), (h2, .inl (D.1 14, 179, .inl fw))]) [0, 1, 2, 3] (by decide) rfl
                      refine W.widen (k := 0) (n := 0) (Nat.le_of_ble_eq_true rfl) (Nat.le_of_ble_eq_true rfl) ?_
                      exact W.vret hx hb hr (fun t ht hW => ⟨⟨(2, (sp + i_3), ((sp + i_3) + i_113), (-1), (f (sp + i_3))), rfl, (by first | omega | (dsimp only; omega)), by rw [ht]; exact hP9, va_K.moved hW.alike hK, hD9⟩, hS.F ht⟩) hS.2.2 dX6_advance_300
                · skip
                  refine lv_istore_n (lv' := [(1, .int (-1)), (0, .ref h0)]) hx hb dX6_advance_264 rfl hl (by decide) rfl (fun ls hl => ?_)
                  refine lv_aload_n hx hb dX6_advance_265 rfl (lv_at hl 1 rfl) ?_
                  refine va_get (D := D) (ci := 6) (v := .int 2) (C := RX6) (T := TX6) (N := 12) hx hb ht inX6 hown hK hP 0 rfl rfl 7 (by decide) (ht (.fieldLink RX6 44 "CloneVolumes$Reader" "kind" "I") fl_X6_44) (fun _ h9 => h9) rfl dX6_advance_266 ?_
                  refine lv_iconst (v := 1) hx hb dX6_advance_269 (by decide) ?_
                  refine lv_icmp_eq (tgt := 281) hx hb dX6_advance_270 (by decide) (fun c_139 => (z_abs c_139 (by decide)).elim) (fun _ => ?_)
                  refine lv_aload_n hx hb dX6_advance_273 rfl (lv_at hl 1 rfl) ?_
                  refine va_get (D := D) (ci := 6) (v := .int 2) (C := RX6) (T := TX6) (N := 12) hx hb ht inX6 hown hK hP 0 rfl rfl 7 (by decide) (ht (.fieldLink RX6 44 "CloneVolumes$Reader" "kind" "I") fl_X6_44) (fun _ h9 => h9) rfl dX6_advance_274 ?_
                  refine lv_iconst (v := 2) hx hb dX6_advance_277 (by decide) ?_
                  refine lv_icmp_ne (tgt := 300) hx hb dX6_advance_278 (by decide) (fun c_141 => (z_abs c_141 (by decide)).elim) (fun _ => ?_)
                  refine lv_iload_n hx hb dX6_advance_281 rfl (lv_at hl 0 rfl) ?_
                  have en_143 : ((-1) : Int32).toInt = (-1) := by decide
                  refine zcS (As := [.int (-1)]) (rest := []) (n := 1) ⟨hx, hb, hml, hown, ht⟩ (k_X6_isLetter l D (-1)) (zgT ml_X6_111 st_X6_isLetter in_X6 co_X6_isLetter) rfl rfl (by decide +kernel) ⟨Nat.le_of_ble_eq_true rfl, Nat.le_of_ble_eq_true rfl⟩ hK hP hS [] rfl rfl hl.1 rfl (Nat.le_of_ble_eq_true rfl) dX6_advance_282 ⟨Nat.le_of_ble_eq_true rfl, Nat.le_of_ble_eq_true rfl⟩ (fun r_144 H locs hw hP hS => ?_)
                  rcases hw with ⟨rfl, g_145⟩ | ⟨rfl, g_146⟩
                  · skip
                    refine lv_if_ne (tgt := 295) hx hb dX6_advance_285 (by decide) (fun _ => ?_) (fun c_147 => (z_abs c_147 (by decide)).elim)
                    refine lv_aload_n hx hb dX6_advance_295 rfl (lv_at hl 1 rfl) ?_
                    refine lv_iconst (v := 4) hx hb dX6_advance_296 (by decide) ?_
                    refine va_put (D := D) (ci := 6) (v := .int 4) (ty := .int) (C := RX6) (T := TX6) (N := 12) hx hb ht inX6 tyX6 tyX6_ok nmX6 hown hK hP hD hS 0 rfl rfl 7 (by decide) (ht (.fieldLink RX6 44 "CloneVolumes$Reader" "kind" "I") fl_X6_44) (fun _ h9 => h9) rfl (by decide +kernel) rfl rfl (Nat.le_of_ble_eq_true rfl) dX6_advance_297 (fun H locs hP hD hS => ?_)
                    have hP : va_P D vwCl [(h0, .inr (6, [.int fa, .int pl, .ref h1, .ref h2, .ref h3, .int mo, .int (nI op), .int 4, .int (nI (sp + i_3)), .int (nI ((sp + i_3) + i_113)), .int (-1), .int (f (sp + i_3))])), (h1, .inr (9, [.ref h4, .int (nI n)])), (h4, .inl (D.1 13, 1600, .inl f)), (h2, .inl (D.1 14, 179, .inl fw))] H := hP
                    have hD : va_D A [(h0, .inr (6, [.int fa, .int pl, .ref h1, .ref h2, .ref h3, .int mo, .int (nI op), .int 4, .int (nI (sp + i_3)), .int (nI ((sp + i_3) + i_113)), .int (-1), .int (f (sp + i_3))])), (h1, .inr (9, [.ref h4, .int (nI n)])), (h4, .inl (D.1 13, 1600, .inl f)), (h2, .inl (D.1 14, 179, .inl fw))] := hD
                    have hP9 := hP.sub (ws' := [(h0, .inr (6, [.int fa, .int pl, .ref h1, .ref h2, .ref h3, .int mo, .int (nI op), .int 4, .int (nI (sp + i_3)), .int (nI ((sp + i_3) + i_113)), .int (-1), .int (f (sp + i_3))])), (h1, .inr (9, [.ref h4, .int (nI n)])), (h4, .inl (D.1 13, 1600, .inl f)), (h2, .inl (D.1 14, 179, .inl fw))]) [0, 1, 2, 3] rfl
                    have hD9 := hD.sub (ws' := [(h0, .inr (6, [.int fa, .int pl, .ref h1, .ref h2, .ref h3, .int mo, .int (nI op), .int 4, .int (nI (sp + i_3)), .int (nI ((sp + i_3) + i_113)), .int (-1), .int (f (sp + i_3))])), (h1, .inr (9, [.ref h4, .int (nI n)])), (h4, .inl (D.1 13, 1600, .inl f)), (h2, .inl (D.1 14, 179, .inl fw))]) [0, 1, 2, 3] (by decide) rfl
                    refine W.widen (k := 0) (n := 0) (Nat.le_of_ble_eq_true rfl) (Nat.le_of_ble_eq_true rfl) ?_
                    exact W.vret hx hb hr (fun t ht hW => ⟨⟨(4, (sp + i_3), ((sp + i_3) + i_113), (-1), (f (sp + i_3))), rfl, (by first | omega | (dsimp only; omega)), by rw [ht]; exact hP9, va_K.moved hW.alike hK, hD9⟩, hS.F ht⟩) hS.2.2 dX6_advance_300
                  · skip
                    refine lv_if_ne (tgt := 295) hx hb dX6_advance_285 (by decide) (fun c_149 => (z_abs c_149 (by decide)).elim) (fun _ => ?_)
                    refine lv_iload_n hx hb dX6_advance_288 rfl (lv_at hl 0 rfl) ?_
                    have en_151 : ((-1) : Int32).toInt = (-1) := by decide
                    refine zcS (As := [.int (-1)]) (rest := []) (n := 1) ⟨hx, hb, hml, hown, ht⟩ (k_X6_isDigit l D (-1)) (zgT ml_X6_118 st_X6_isDigit in_X6 co_X6_isDigit) rfl rfl (by decide +kernel) ⟨Nat.le_of_ble_eq_true rfl, Nat.le_of_ble_eq_true rfl⟩ hK hP hS [] rfl rfl hl.1 rfl (Nat.le_of_ble_eq_true rfl) dX6_advance_289 ⟨Nat.le_of_ble_eq_true rfl, Nat.le_of_ble_eq_true rfl⟩ (fun r_152 H locs hw hP hS => ?_)
                    rcases hw with ⟨rfl, g_153⟩ | ⟨rfl, g_154⟩
                    · skip
                      refine lv_if_eq (tgt := 300) hx hb dX6_advance_292 (by decide) (fun c_155 => (z_abs c_155 (by decide)).elim) (fun _ => ?_)
                      refine lv_aload_n hx hb dX6_advance_295 rfl (lv_at hl 1 rfl) ?_
                      refine lv_iconst (v := 4) hx hb dX6_advance_296 (by decide) ?_
                      refine va_put (D := D) (ci := 6) (v := .int 4) (ty := .int) (C := RX6) (T := TX6) (N := 12) hx hb ht inX6 tyX6 tyX6_ok nmX6 hown hK hP hD hS 0 rfl rfl 7 (by decide) (ht (.fieldLink RX6 44 "CloneVolumes$Reader" "kind" "I") fl_X6_44) (fun _ h9 => h9) rfl (by decide +kernel) rfl rfl (Nat.le_of_ble_eq_true rfl) dX6_advance_297 (fun H locs hP hD hS => ?_)
                      have hP : va_P D vwCl [(h0, .inr (6, [.int fa, .int pl, .ref h1, .ref h2, .ref h3, .int mo, .int (nI op), .int 4, .int (nI (sp + i_3)), .int (nI ((sp + i_3) + i_113)), .int (-1), .int (f (sp + i_3))])), (h1, .inr (9, [.ref h4, .int (nI n)])), (h4, .inl (D.1 13, 1600, .inl f)), (h2, .inl (D.1 14, 179, .inl fw))] H := hP
                      have hD : va_D A [(h0, .inr (6, [.int fa, .int pl, .ref h1, .ref h2, .ref h3, .int mo, .int (nI op), .int 4, .int (nI (sp + i_3)), .int (nI ((sp + i_3) + i_113)), .int (-1), .int (f (sp + i_3))])), (h1, .inr (9, [.ref h4, .int (nI n)])), (h4, .inl (D.1 13, 1600, .inl f)), (h2, .inl (D.1 14, 179, .inl fw))] := hD
                      have hP9 := hP.sub (ws' := [(h0, .inr (6, [.int fa, .int pl, .ref h1, .ref h2, .ref h3, .int mo, .int (nI op), .int 4, .int (nI (sp + i_3)), .int (nI ((sp + i_3) + i_113)), .int (-1), .int (f (sp + i_3))])), (h1, .inr (9, [.ref h4, .int (nI n)])), (h4, .inl (D.1 13, 1600, .inl f)), (h2, .inl (D.1 14, 179, .inl fw))]) [0, 1, 2, 3] rfl
                      have hD9 := hD.sub (ws' := [(h0, .inr (6, [.int fa, .int pl, .ref h1, .ref h2, .ref h3, .int mo, .int (nI op), .int 4, .int (nI (sp + i_3)), .int (nI ((sp + i_3) + i_113)), .int (-1), .int (f (sp + i_3))])), (h1, .inr (9, [.ref h4, .int (nI n)])), (h4, .inl (D.1 13, 1600, .inl f)), (h2, .inl (D.1 14, 179, .inl fw))]) [0, 1, 2, 3] (by decide) rfl
                      refine W.widen (k := 0) (n := 0) (Nat.le_of_ble_eq_true rfl) (Nat.le_of_ble_eq_true rfl) ?_
                      exact W.vret hx hb hr (fun t ht hW => ⟨⟨(4, (sp + i_3), ((sp + i_3) + i_113), (-1), (f (sp + i_3))), rfl, (by first | omega | (dsimp only; omega)), by rw [ht]; exact hP9, va_K.moved hW.alike hK, hD9⟩, hS.F ht⟩) hS.2.2 dX6_advance_300
                    · skip
                      refine lv_if_eq (tgt := 300) hx hb dX6_advance_292 (by decide) (fun _ => ?_) (fun c_157 => (z_abs c_157 (by decide)).elim)
                      have hP9 := hP.sub (ws' := [(h0, .inr (6, [.int fa, .int pl, .ref h1, .ref h2, .ref h3, .int mo, .int (nI op), .int 2, .int (nI (sp + i_3)), .int (nI ((sp + i_3) + i_113)), .int (-1), .int (f (sp + i_3))])), (h1, .inr (9, [.ref h4, .int (nI n)])), (h4, .inl (D.1 13, 1600, .inl f)), (h2, .inl (D.1 14, 179, .inl fw))]) [0, 1, 2, 3] rfl
                      have hD9 := hD.sub (ws' := [(h0, .inr (6, [.int fa, .int pl, .ref h1, .ref h2, .ref h3, .int mo, .int (nI op), .int 2, .int (nI (sp + i_3)), .int (nI ((sp + i_3) + i_113)), .int (-1), .int (f (sp + i_3))])), (h1, .inr (9, [.ref h4, .int (nI n)])), (h4, .inl (D.1 13, 1600, .inl f)), (h2, .inl (D.1 14, 179, .inl fw))]) [0, 1, 2, 3] (by decide) rfl
                      refine W.widen (k := 0) (n := 0) (Nat.le_of_ble_eq_true rfl) (Nat.le_of_ble_eq_true rfl) ?_
                      exact W.vret hx hb hr (fun t ht hW => ⟨⟨(2, (sp + i_3), ((sp + i_3) + i_113), (-1), (f (sp + i_3))), rfl, (by first | omega | (dsimp only; omega)), by rw [ht]; exact hP9, va_K.moved hW.alike hK, hD9⟩, hS.F ht⟩) hS.2.2 dX6_advance_300
              · have g_116 : (((sp + i_3) + i_113 : Nat) : Int) < ((n : Nat) : Int) := z_nle (nI_toInt (by omega)) (nI_toInt (by omega)) c_115
                refine lv_aload_n hx hb dX6_advance_205 rfl (lv_at hl 0 rfl) ?_
                refine va_get (D := D) (ci := 6) (v := .ref h1) (C := RX6) (T := TX6) (N := 12) hx hb ht inX6 hown hK hP 0 rfl rfl 2 (by decide) (ht (.fieldLink RX6 27 "CloneVolumes$Reader" "tape" "LCloneVolumes$Tape;") fl_X6_27) (fun _ h9 => h9) rfl dX6_advance_206 ?_
                refine va_get (D := D) (ci := 9) (v := .ref h4) (C := RX9) (T := TX9) (N := 2) hx hb ht inX9 hown hK hP 1 rfl rfl 0 (by decide) (ht (.fieldLink RX6 96 "CloneVolumes$Tape" "bytes" "[I") fl_X6_96) (fun _ h9 => h9) rfl dX6_advance_209 ?_
                refine lv_aload_n hx hb dX6_advance_212 rfl (lv_at hl 0 rfl) ?_
                refine va_get (D := D) (ci := 6) (v := .int (nI ((sp + i_3) + i_113))) (C := RX6) (T := TX6) (N := 12) hx hb ht inX6 hown hK hP 0 rfl rfl 9 (by decide) (ht (.fieldLink RX6 88 "CloneVolumes$Reader" "stop" "I") fl_X6_88) (fun _ h9 => h9) rfl dX6_advance_213 ?_
                refine va_iald hx hb hK hP 2 0 rfl rfl (vp_in_nI (by omega) (by omega)) dX6_advance_216 ?_
                refine z_topi (y := f ((sp + i_3) + i_113)) (by rw [nI_clamp (by omega)]) ?_
                refine zcS (As := [.int (f ((sp + i_3) + i_113))]) (rest := []) (n := 1) ⟨hx, hb, hml, hown, ht⟩ (k_X6_isDigit l D (f ((sp + i_3) + i_113))) (zgT ml_X6_118 st_X6_isDigit in_X6 co_X6_isDigit) rfl rfl (by decide +kernel) ⟨Nat.le_of_ble_eq_true rfl, Nat.le_of_ble_eq_true rfl⟩ hK hP hS [] rfl rfl hl.1 rfl (Nat.le_of_ble_eq_true rfl) dX6_advance_217 ⟨Nat.le_of_ble_eq_true rfl, Nat.le_of_ble_eq_true rfl⟩ (fun r_159 H locs hw hP hS => ?_)
                rcases hw with ⟨rfl, g_160⟩ | ⟨rfl, g_161⟩
                · skip
                  refine lv_if_eq (tgt := 251) hx hb dX6_advance_220 (by decide) (fun c_162 => (z_abs c_162 (by decide)).elim) (fun _ => ?_)
                  refine lv_aload_n hx hb dX6_advance_223 rfl (lv_at hl 0 rfl) ?_
                  refine lv_dup hx hb dX6_advance_224 rfl ?_
                  refine va_get (D := D) (ci := 6) (v := .int (nI ((sp + i_3) + i_113))) (C := RX6) (T := TX6) (N := 12) hx hb ht inX6 hown hK hP 0 rfl rfl 9 (by decide) (ht (.fieldLink RX6 88 "CloneVolumes$Reader" "stop" "I") fl_X6_88) (fun _ h9 => h9) rfl dX6_advance_225 ?_
                  refine lv_iconst (v := 1) hx hb dX6_advance_228 (by decide) ?_
                  refine lv_iadd hx hb dX6_advance_229 ?_
                  refine z_topi (y := nI (((sp + i_3) + i_113) + 1)) (z_nadd ((sp + i_3) + i_113) 1) ?_
                  refine va_put (D := D) (ci := 6) (v := .int (nI (((sp + i_3) + i_113) + 1))) (ty := .int) (C := RX6) (T := TX6) (N := 12) hx hb ht inX6 tyX6 tyX6_ok nmX6 hown hK hP hD hS 0 rfl rfl 9 (by decide) (ht (.fieldLink RX6 88 "CloneVolumes$Reader" "stop" "I") fl_X6_88) (fun _ h9 => h9) rfl (by decide +kernel) rfl rfl (Nat.le_of_ble_eq_true rfl) dX6_advance_230 (fun H locs hP hD hS => ?_)
                  have hP : va_P D vwCl [(h0, .inr (6, [.int fa, .int pl, .ref h1, .ref h2, .ref h3, .int mo, .int (nI op), .int 2, .int (nI (sp + i_3)), .int (nI (((sp + i_3) + i_113) + 1)), .int (-1), .int (f (sp + i_3))])), (h1, .inr (9, [.ref h4, .int (nI n)])), (h4, .inl (D.1 13, 1600, .inl f)), (h2, .inl (D.1 14, 179, .inl fw))] H := hP
                  have hD : va_D A [(h0, .inr (6, [.int fa, .int pl, .ref h1, .ref h2, .ref h3, .int mo, .int (nI op), .int 2, .int (nI (sp + i_3)), .int (nI (((sp + i_3) + i_113) + 1)), .int (-1), .int (f (sp + i_3))])), (h1, .inr (9, [.ref h4, .int (nI n)])), (h4, .inl (D.1 13, 1600, .inl f)), (h2, .inl (D.1 14, 179, .inl fw))] := hD
                  refine lv_goto (tgt := 191) hx hb dX6_advance_233 (by decide) ?_
                  rw [show ((sp + i_3) + i_113) + 1 = (sp + i_3) + (i_113 + 1) by omega] at hP hD
                  exact ih_191 () _ _ _ (by omega) ⟨(by first | omega | (dsimp only; omega)), hP.sub [0, 1, 2, 3] rfl, hD.sub [0, 1, 2, 3] (by decide) rfl, hS, lv_sub hl [0] rfl⟩
                · skip
                  refine lv_if_eq (tgt := 251) hx hb dX6_advance_220 (by decide) (fun _ => ?_) (fun c_164 => (z_abs c_164 (by decide)).elim)
                  refine lv_aload_n hx hb dX6_advance_251 rfl (lv_at hl 0 rfl) ?_
                  refine va_get (D := D) (ci := 6) (v := .ref h1) (C := RX6) (T := TX6) (N := 12) hx hb ht inX6 hown hK hP 0 rfl rfl 2 (by decide) (ht (.fieldLink RX6 27 "CloneVolumes$Reader" "tape" "LCloneVolumes$Tape;") fl_X6_27) (fun _ h9 => h9) rfl dX6_advance_252 ?_
                  refine lv_aload_n hx hb dX6_advance_255 rfl (lv_at hl 0 rfl) ?_
                  refine va_get (D := D) (ci := 6) (v := .int (nI (sp + i_3))) (C := RX6) (T := TX6) (N := 12) hx hb ht inX6 hown hK hP 0 rfl rfl 8 (by decide) (ht (.fieldLink RX6 51 "CloneVolumes$Reader" "start" "I") fl_X6_51) (fun _ h9 => h9) rfl dX6_advance_256 ?_
                  refine lv_iconst (v := 1) hx hb dX6_advance_259 (by decide) ?_
                  refine lv_isub hx hb dX6_advance_260 ?_
                  refine lv_topi (fun x_166 ex_166 => ?_)
                  refine zcV (As := [.int x_166]) (rest := []) (C := RX9) (n := 1) ⟨hx, hb, hml, hown, ht⟩ (k_X9_at l D h1 h4 n f x_166 (by first | decide | omega)) (zgV ml_X6_104 im_X9_at se_X9_at in_X9 co_X9_at) rfl rfl (by decide +kernel) ⟨Nat.le_of_ble_eq_true rfl, Nat.le_of_ble_eq_true rfl⟩ hK hP hS [1, 2] rfl 0 rfl rfl rfl rfl hl.1 rfl (Nat.le_of_ble_eq_true rfl) dX6_advance_261 ⟨Nat.le_of_ble_eq_true rfl, Nat.le_of_ble_eq_true rfl⟩ (fun r_167 H locs hw hP hS => ?_)
                  rcases hw with ⟨rfl, g_168⟩ | ⟨rfl, g_169⟩
                  · skip
                    refine lv_istore_n (lv' := [(1, .int (f x_166.toNatClampNeg)), (0, .ref h0)]) hx hb dX6_advance_264 rfl hl (by decide) rfl (fun ls hl => ?_)
                    refine lv_aload_n hx hb dX6_advance_265 rfl (lv_at hl 1 rfl) ?_
                    refine va_get (D := D) (ci := 6) (v := .int 2) (C := RX6) (T := TX6) (N := 12) hx hb ht inX6 hown hK hP 0 rfl rfl 7 (by decide) (ht (.fieldLink RX6 44 "CloneVolumes$Reader" "kind" "I") fl_X6_44) (fun _ h9 => h9) rfl dX6_advance_266 ?_
                    refine lv_iconst (v := 1) hx hb dX6_advance_269 (by decide) ?_
                    refine lv_icmp_eq (tgt := 281) hx hb dX6_advance_270 (by decide) (fun c_170 => (z_abs c_170 (by decide)).elim) (fun _ => ?_)
                    refine lv_aload_n hx hb dX6_advance_273 rfl (lv_at hl 1 rfl) ?_
                    refine va_get (D := D) (ci := 6) (v := .int 2) (C := RX6) (T := TX6) (N := 12) hx hb ht inX6 hown hK hP 0 rfl rfl 7 (by decide) (ht (.fieldLink RX6 44 "CloneVolumes$Reader" "kind" "I") fl_X6_44) (fun _ h9 => h9) rfl dX6_advance_274 ?_
                    refine lv_iconst (v := 2) hx hb dX6_advance_277 (by decide) ?_
                    refine lv_icmp_ne (tgt := 300) hx hb dX6_advance_278 (by decide) (fun c_172 => (z_abs c_172 (by decide)).elim) (fun _ => ?_)
                    refine lv_iload_n hx hb dX6_advance_281 rfl (lv_at hl 0 rfl) ?_
                    refine zcS (As := [.int (f x_166.toNatClampNeg)]) (rest := []) (n := 1) ⟨hx, hb, hml, hown, ht⟩ (k_X6_isLetter l D (f x_166.toNatClampNeg)) (zgT ml_X6_111 st_X6_isLetter in_X6 co_X6_isLetter) rfl rfl (by decide +kernel) ⟨Nat.le_of_ble_eq_true rfl, Nat.le_of_ble_eq_true rfl⟩ hK hP hS [] rfl rfl hl.1 rfl (Nat.le_of_ble_eq_true rfl) dX6_advance_282 ⟨Nat.le_of_ble_eq_true rfl, Nat.le_of_ble_eq_true rfl⟩ (fun r_174 H locs hw hP hS => ?_)
                    rcases hw with ⟨rfl, g_175⟩ | ⟨rfl, g_176⟩
                    · skip
                      refine lv_if_ne (tgt := 295) hx hb dX6_advance_285 (by decide) (fun _ => ?_) (fun c_177 => (z_abs c_177 (by decide)).elim)
                      refine lv_aload_n hx hb dX6_advance_295 rfl (lv_at hl 1 rfl) ?_
                      refine lv_iconst (v := 4) hx hb dX6_advance_296 (by decide) ?_
                      refine va_put (D := D) (ci := 6) (v := .int 4) (ty := .int) (C := RX6) (T := TX6) (N := 12) hx hb ht inX6 tyX6 tyX6_ok nmX6 hown hK hP hD hS 0 rfl rfl 7 (by decide) (ht (.fieldLink RX6 44 "CloneVolumes$Reader" "kind" "I") fl_X6_44) (fun _ h9 => h9) rfl (by decide +kernel) rfl rfl (Nat.le_of_ble_eq_true rfl) dX6_advance_297 (fun H locs hP hD hS => ?_)
                      have hP : va_P D vwCl [(h0, .inr (6, [.int fa, .int pl, .ref h1, .ref h2, .ref h3, .int mo, .int (nI op), .int 4, .int (nI (sp + i_3)), .int (nI ((sp + i_3) + i_113)), .int (-1), .int (f (sp + i_3))])), (h1, .inr (9, [.ref h4, .int (nI n)])), (h4, .inl (D.1 13, 1600, .inl f)), (h2, .inl (D.1 14, 179, .inl fw))] H := hP
                      have hD : va_D A [(h0, .inr (6, [.int fa, .int pl, .ref h1, .ref h2, .ref h3, .int mo, .int (nI op), .int 4, .int (nI (sp + i_3)), .int (nI ((sp + i_3) + i_113)), .int (-1), .int (f (sp + i_3))])), (h1, .inr (9, [.ref h4, .int (nI n)])), (h4, .inl (D.1 13, 1600, .inl f)), (h2, .inl (D.1 14, 179, .inl fw))] := hD
                      have hP9 := hP.sub (ws' := [(h0, .inr (6, [.int fa, .int pl, .ref h1, .ref h2, .ref h3, .int mo, .int (nI op), .int 4, .int (nI (sp + i_3)), .int (nI ((sp + i_3) + i_113)), .int (-1), .int (f (sp + i_3))])), (h1, .inr (9, [.ref h4, .int (nI n)])), (h4, .inl (D.1 13, 1600, .inl f)), (h2, .inl (D.1 14, 179, .inl fw))]) [0, 1, 2, 3] rfl
                      have hD9 := hD.sub (ws' := [(h0, .inr (6, [.int fa, .int pl, .ref h1, .ref h2, .ref h3, .int mo, .int (nI op), .int 4, .int (nI (sp + i_3)), .int (nI ((sp + i_3) + i_113)), .int (-1), .int (f (sp + i_3))])), (h1, .inr (9, [.ref h4, .int (nI n)])), (h4, .inl (D.1 13, 1600, .inl f)), (h2, .inl (D.1 14, 179, .inl fw))]) [0, 1, 2, 3] (by decide) rfl
                      refine W.widen (k := 0) (n := 0) (Nat.le_of_ble_eq_true rfl) (Nat.le_of_ble_eq_true rfl) ?_
                      exact W.vret hx hb hr (fun t ht hW => ⟨⟨(4, (sp + i_3), ((sp + i_3) + i_113), (-1), (f (sp + i_3))), rfl, (by first | omega | (dsimp only; omega)), by rw [ht]; exact hP9, va_K.moved hW.alike hK, hD9⟩, hS.F ht⟩) hS.2.2 dX6_advance_300
                    · skip
                      refine lv_if_ne (tgt := 295) hx hb dX6_advance_285 (by decide) (fun c_179 => (z_abs c_179 (by decide)).elim) (fun _ => ?_)
                      refine lv_iload_n hx hb dX6_advance_288 rfl (lv_at hl 0 rfl) ?_
                      refine zcS (As := [.int (f x_166.toNatClampNeg)]) (rest := []) (n := 1) ⟨hx, hb, hml, hown, ht⟩ (k_X6_isDigit l D (f x_166.toNatClampNeg)) (zgT ml_X6_118 st_X6_isDigit in_X6 co_X6_isDigit) rfl rfl (by decide +kernel) ⟨Nat.le_of_ble_eq_true rfl, Nat.le_of_ble_eq_true rfl⟩ hK hP hS [] rfl rfl hl.1 rfl (Nat.le_of_ble_eq_true rfl) dX6_advance_289 ⟨Nat.le_of_ble_eq_true rfl, Nat.le_of_ble_eq_true rfl⟩ (fun r_181 H locs hw hP hS => ?_)
                      rcases hw with ⟨rfl, g_182⟩ | ⟨rfl, g_183⟩
                      · skip
                        refine lv_if_eq (tgt := 300) hx hb dX6_advance_292 (by decide) (fun c_184 => (z_abs c_184 (by decide)).elim) (fun _ => ?_)
                        refine lv_aload_n hx hb dX6_advance_295 rfl (lv_at hl 1 rfl) ?_
                        refine lv_iconst (v := 4) hx hb dX6_advance_296 (by decide) ?_
                        refine va_put (D := D) (ci := 6) (v := .int 4) (ty := .int) (C := RX6) (T := TX6) (N := 12) hx hb ht inX6 tyX6 tyX6_ok nmX6 hown hK hP hD hS 0 rfl rfl 7 (by decide) (ht (.fieldLink RX6 44 "CloneVolumes$Reader" "kind" "I") fl_X6_44) (fun _ h9 => h9) rfl (by decide +kernel) rfl rfl (Nat.le_of_ble_eq_true rfl) dX6_advance_297 (fun H locs hP hD hS => ?_)
                        have hP : va_P D vwCl [(h0, .inr (6, [.int fa, .int pl, .ref h1, .ref h2, .ref h3, .int mo, .int (nI op), .int 4, .int (nI (sp + i_3)), .int (nI ((sp + i_3) + i_113)), .int (-1), .int (f (sp + i_3))])), (h1, .inr (9, [.ref h4, .int (nI n)])), (h4, .inl (D.1 13, 1600, .inl f)), (h2, .inl (D.1 14, 179, .inl fw))] H := hP
                        have hD : va_D A [(h0, .inr (6, [.int fa, .int pl, .ref h1, .ref h2, .ref h3, .int mo, .int (nI op), .int 4, .int (nI (sp + i_3)), .int (nI ((sp + i_3) + i_113)), .int (-1), .int (f (sp + i_3))])), (h1, .inr (9, [.ref h4, .int (nI n)])), (h4, .inl (D.1 13, 1600, .inl f)), (h2, .inl (D.1 14, 179, .inl fw))] := hD
                        have hP9 := hP.sub (ws' := [(h0, .inr (6, [.int fa, .int pl, .ref h1, .ref h2, .ref h3, .int mo, .int (nI op), .int 4, .int (nI (sp + i_3)), .int (nI ((sp + i_3) + i_113)), .int (-1), .int (f (sp + i_3))])), (h1, .inr (9, [.ref h4, .int (nI n)])), (h4, .inl (D.1 13, 1600, .inl f)), (h2, .inl (D.1 14, 179, .inl fw))]) [0, 1, 2, 3] rfl
                        have hD9 := hD.sub (ws' := [(h0, .inr (6, [.int fa, .int pl, .ref h1, .ref h2, .ref h3, .int mo, .int (nI op), .int 4, .int (nI (sp + i_3)), .int (nI ((sp + i_3) + i_113)), .int (-1), .int (f (sp + i_3))])), (h1, .inr (9, [.ref h4, .int (nI n)])), (h4, .inl (D.1 13, 1600, .inl f)), (h2, .inl (D.1 14, 179, .inl fw))]) [0, 1, 2, 3] (by decide) rfl
                        refine W.widen (k := 0) (n := 0) (Nat.le_of_ble_eq_true rfl) (Nat.le_of_ble_eq_true rfl) ?_
                        exact W.vret hx hb hr (fun t ht hW => ⟨⟨(4, (sp + i_3), ((sp + i_3) + i_113), (-1), (f (sp + i_3))), rfl, (by first | omega | (dsimp only; omega)), by rw [ht]; exact hP9, va_K.moved hW.alike hK, hD9⟩, hS.F ht⟩) hS.2.2 dX6_advance_300
                      · skip
                        refine lv_if_eq (tgt := 300) hx hb dX6_advance_292 (by decide) (fun _ => ?_) (fun c_186 => (z_abs c_186 (by decide)).elim)
                        have hP9 := hP.sub (ws' := [(h0, .inr (6, [.int fa, .int pl, .ref h1, .ref h2, .ref h3, .int mo, .int (nI op), .int 2, .int (nI (sp + i_3)), .int (nI ((sp + i_3) + i_113)), .int (-1), .int (f (sp + i_3))])), (h1, .inr (9, [.ref h4, .int (nI n)])), (h4, .inl (D.1 13, 1600, .inl f)), (h2, .inl (D.1 14, 179, .inl fw))]) [0, 1, 2, 3] rfl
                        have hD9 := hD.sub (ws' := [(h0, .inr (6, [.int fa, .int pl, .ref h1, .ref h2, .ref h3, .int mo, .int (nI op), .int 2, .int (nI (sp + i_3)), .int (nI ((sp + i_3) + i_113)), .int (-1), .int (f (sp + i_3))])), (h1, .inr (9, [.ref h4, .int (nI n)])), (h4, .inl (D.1 13, 1600, .inl f)), (h2, .inl (D.1 14, 179, .inl fw))]) [0, 1, 2, 3] (by decide) rfl
                        refine W.widen (k := 0) (n := 0) (Nat.le_of_ble_eq_true rfl) (Nat.le_of_ble_eq_true rfl) ?_
                        exact W.vret hx hb hr (fun t ht hW => ⟨⟨(2, (sp + i_3), ((sp + i_3) + i_113), (-1), (f (sp + i_3))), rfl, (by first | omega | (dsimp only; omega)), by rw [ht]; exact hP9, va_K.moved hW.alike hK, hD9⟩, hS.F ht⟩) hS.2.2 dX6_advance_300
                  · skip
                    refine lv_istore_n (lv' := [(1, .int (-1)), (0, .ref h0)]) hx hb dX6_advance_264 rfl hl (by decide) rfl (fun ls hl => ?_)
                    refine lv_aload_n hx hb dX6_advance_265 rfl (lv_at hl 1 rfl) ?_
                    refine va_get (D := D) (ci := 6) (v := .int 2) (C := RX6) (T := TX6) (N := 12) hx hb ht inX6 hown hK hP 0 rfl rfl 7 (by decide) (ht (.fieldLink RX6 44 "CloneVolumes$Reader" "kind" "I") fl_X6_44) (fun _ h9 => h9) rfl dX6_advance_266 ?_
                    refine lv_iconst (v := 1) hx hb dX6_advance_269 (by decide) ?_
                    refine lv_icmp_eq (tgt := 281) hx hb dX6_advance_270 (by decide) (fun c_188 => (z_abs c_188 (by decide)).elim) (fun _ => ?_)
                    refine lv_aload_n hx hb dX6_advance_273 rfl (lv_at hl 1 rfl) ?_
                    refine va_get (D := D) (ci := 6) (v := .int 2) (C := RX6) (T := TX6) (N := 12) hx hb ht inX6 hown hK hP 0 rfl rfl 7 (by decide) (ht (.fieldLink RX6 44 "CloneVolumes$Reader" "kind" "I") fl_X6_44) (fun _ h9 => h9) rfl dX6_advance_274 ?_
                    refine lv_iconst (v := 2) hx hb dX6_advance_277 (by decide) ?_
                    refine lv_icmp_ne (tgt := 300) hx hb dX6_advance_278 (by decide) (fun c_190 => (z_abs c_190 (by decide)).elim) (fun _ => ?_)
                    refine lv_iload_n hx hb dX6_advance_281 rfl (lv_at hl 0 rfl) ?_
                    have en_192 : ((-1) : Int32).toInt = (-1) := by decide
                    refine zcS (As := [.int (-1)]) (rest := []) (n := 1) ⟨hx, hb, hml, hown, ht⟩ (k_X6_isLetter l D (-1)) (zgT ml_X6_111 st_X6_isLetter in_X6 co_X6_isLetter) rfl rfl (by decide +kernel) ⟨Nat.le_of_ble_eq_true rfl, Nat.le_of_ble_eq_true rfl⟩ hK hP hS [] rfl rfl hl.1 rfl (Nat.le_of_ble_eq_true rfl) dX6_advance_282 ⟨Nat.le_of_ble_eq_true rfl, Nat.le_of_ble_eq_true rfl⟩ (fun r_193 H locs hw hP hS => ?_)
                    rcases hw with ⟨rfl, g_194⟩ | ⟨rfl, g_195⟩
                    · skip
                      refine lv_if_ne (tgt := 295) hx hb dX6_advance_285 (by decide) (fun _ => ?_) (fun c_196 => (z_abs c_196 (by decide)).elim)
                      refine lv_aload_n hx hb dX6_advance_295 rfl (lv_at hl 1 rfl) ?_
                      refine lv_iconst (v := 4) hx hb dX6_advance_296 (by decide) ?_
                      refine va_put (D := D) (ci := 6) (v := .int 4) (ty := .int) (C := RX6) (T := TX6) (N := 12) hx hb ht inX6 tyX6 tyX6_ok nmX6 hown hK hP hD hS 0 rfl rfl 7 (by decide) (ht (.fieldLink RX6 44 "CloneVolumes$Reader" "kind" "I") fl_X6_44) (fun _ h9 => h9) rfl (by decide +kernel) rfl rfl (Nat.le_of_ble_eq_true rfl) dX6_advance_297 (fun H locs hP hD hS => ?_)
                      have hP : va_P D vwCl [(h0, .inr (6, [.int fa, .int pl, .ref h1, .ref h2, .ref h3, .int mo, .int (nI op), .int 4, .int (nI (sp + i_3)), .int (nI ((sp + i_3) + i_113)), .int (-1), .int (f (sp + i_3))])), (h1, .inr (9, [.ref h4, .int (nI n)])), (h4, .inl (D.1 13, 1600, .inl f)), (h2, .inl (D.1 14, 179, .inl fw))] H := hP
                      have hD : va_D A [(h0, .inr (6, [.int fa, .int pl, .ref h1, .ref h2, .ref h3, .int mo, .int (nI op), .int 4, .int (nI (sp + i_3)), .int (nI ((sp + i_3) + i_113)), .int (-1), .int (f (sp + i_3))])), (h1, .inr (9, [.ref h4, .int (nI n)])), (h4, .inl (D.1 13, 1600, .inl f)), (h2, .inl (D.1 14, 179, .inl fw))] := hD
                      have hP9 := hP.sub (ws' := [(h0, .inr (6, [.int fa, .int pl, .ref h1, .ref h2, .ref h3, .int mo, .int (nI op), .int 4, .int (nI (sp + i_3)), .int (nI ((sp + i_3) + i_113)), .int (-1), .int (f (sp + i_3))])), (h1, .inr (9, [.ref h4, .int (nI n)])), (h4, .inl (D.1 13, 1600, .inl f)), (h2, .inl (D.1 14, 179, .inl fw))]) [0, 1, 2, 3] rfl
                      have hD9 := hD.sub (ws' := [(h0, .inr (6, [.int fa, .int pl, .ref h1, .ref h2, .ref h3, .int mo, .int (nI op), .int 4, .int (nI (sp + i_3)), .int (nI ((sp + i_3) + i_113)), .int (-1), .int (f (sp + i_3))])), (h1, .inr (9, [.ref h4, .int (nI n)])), (h4, .inl (D.1 13, 1600, .inl f)), (h2, .inl (D.1 14, 179, .inl fw))]) [0, 1, 2, 3] (by decide) rfl
                      refine W.widen (k := 0) (n := 0) (Nat.le_of_ble_eq_true rfl) (Nat.le_of_ble_eq_true rfl) ?_
                      exact W.vret hx hb hr (fun t ht hW => ⟨⟨(4, (sp + i_3), ((sp + i_3) + i_113), (-1), (f (sp + i_3))), rfl, (by first | omega | (dsimp only; omega)), by rw [ht]; exact hP9, va_K.moved hW.alike hK, hD9⟩, hS.F ht⟩) hS.2.2 dX6_advance_300
                    · skip
                      refine lv_if_ne (tgt := 295) hx hb dX6_advance_285 (by decide) (fun c_198 => (z_abs c_198 (by decide)).elim) (fun _ => ?_)
                      refine lv_iload_n hx hb dX6_advance_288 rfl (lv_at hl 0 rfl) ?_
                      have en_200 : ((-1) : Int32).toInt = (-1) := by decide
                      refine zcS (As := [.int (-1)]) (rest := []) (n := 1) ⟨hx, hb, hml, hown, ht⟩ (k_X6_isDigit l D (-1)) (zgT ml_X6_118 st_X6_isDigit in_X6 co_X6_isDigit) rfl rfl (by decide +kernel) ⟨Nat.le_of_ble_eq_true rfl, Nat.le_of_ble_eq_true rfl⟩ hK hP hS [] rfl rfl hl.1 rfl (Nat.le_of_ble_eq_true rfl) dX6_advance_289 ⟨Nat.le_of_ble_eq_true rfl, Nat.le_of_ble_eq_true rfl⟩ (fun r_201 H locs hw hP hS => ?_)
                      rcases hw with ⟨rfl, g_202⟩ | ⟨rfl, g_203⟩
                      · skip
                        refine lv_if_eq (tgt := 300) hx hb dX6_advance_292 (by decide) (fun c_204 => (z_abs c_204 (by decide)).elim) (fun _ => ?_)
                        refine lv_aload_n hx hb dX6_advance_295 rfl (lv_at hl 1 rfl) ?_
                        refine lv_iconst (v := 4) hx hb dX6_advance_296 (by decide) ?_
                        refine va_put (D := D) (ci := 6) (v := .int 4) (ty := .int) (C := RX6) (T := TX6) (N := 12) hx hb ht inX6 tyX6 tyX6_ok nmX6 hown hK hP hD hS 0 rfl rfl 7 (by decide) (ht (.fieldLink RX6 44 "CloneVolumes$Reader" "kind" "I") fl_X6_44) (fun _ h9 => h9) rfl (by decide +kernel) rfl rfl (Nat.le_of_ble_eq_true rfl) dX6_advance_297 (fun H locs hP hD hS => ?_)
                        have hP : va_P D vwCl [(h0, .inr (6, [.int fa, .int pl, .ref h1, .ref h2, .ref h3, .int mo, .int (nI op), .int 4, .int (nI (sp + i_3)), .int (nI ((sp + i_3) + i_113)), .int (-1), .int (f (sp + i_3))])), (h1, .inr (9, [.ref h4, .int (nI n)])), (h4, .inl (D.1 13, 1600, .inl f)), (h2, .inl (D.1 14, 179, .inl fw))] H := hP
                        have hD : va_D A [(h0, .inr (6, [.int fa, .int pl, .ref h1, .ref h2, .ref h3, .int mo, .int (nI op), .int 4, .int (nI (sp + i_3)), .int (nI ((sp + i_3) + i_113)), .int (-1), .int (f (sp + i_3))])), (h1, .inr (9, [.ref h4, .int (nI n)])), (h4, .inl (D.1 13, 1600, .inl f)), (h2, .inl (D.1 14, 179, .inl fw))] := hD
                        have hP9 := hP.sub (ws' := [(h0, .inr (6, [.int fa, .int pl, .ref h1, .ref h2, .ref h3, .int mo, .int (nI op), .int 4, .int (nI (sp + i_3)), .int (nI ((sp + i_3) + i_113)), .int (-1), .int (f (sp + i_3))])), (h1, .inr (9, [.ref h4, .int (nI n)])), (h4, .inl (D.1 13, 1600, .inl f)), (h2, .inl (D.1 14, 179, .inl fw))]) [0, 1, 2, 3] rfl
                        have hD9 := hD.sub (ws' := [(h0, .inr (6, [.int fa, .int pl, .ref h1, .ref h2, .ref h3, .int mo, .int (nI op), .int 4, .int (nI (sp + i_3)), .int (nI ((sp + i_3) + i_113)), .int (-1), .int (f (sp + i_3))])), (h1, .inr (9, [.ref h4, .int (nI n)])), (h4, .inl (D.1 13, 1600, .inl f)), (h2, .inl (D.1 14, 179, .inl fw))]) [0, 1, 2, 3] (by decide) rfl
                        refine W.widen (k := 0) (n := 0) (Nat.le_of_ble_eq_true rfl) (Nat.le_of_ble_eq_true rfl) ?_
                        exact W.vret hx hb hr (fun t ht hW => ⟨⟨(4, (sp + i_3), ((sp + i_3) + i_113), (-1), (f (sp + i_3))), rfl, (by first | omega | (dsimp only; omega)), by rw [ht]; exact hP9, va_K.moved hW.alike hK, hD9⟩, hS.F ht⟩) hS.2.2 dX6_advance_300
                      · skip
                        refine lv_if_eq (tgt := 300) hx hb dX6_advance_292 (by decide) (fun _ => ?_) (fun c_206 => (z_abs c_206 (by decide)).elim)
                        have hP9 := hP.sub (ws' := [(h0, .inr (6, [.int fa, .int pl, .ref h1, .ref h2, .ref h3, .int mo, .int (nI op), .int 2, .int (nI (sp + i_3)), .int (nI ((sp + i_3) + i_113)), .int (-1), .int (f (sp + i_3))])), (h1, .inr (9, [.ref h4, .int (nI n)])), (h4, .inl (D.1 13, 1600, .inl f)), (h2, .inl (D.1 14, 179, .inl fw))]) [0, 1, 2, 3] rfl
                        have hD9 := hD.sub (ws' := [(h0, .inr (6, [.int fa, .int pl, .ref h1, .ref h2, .ref h3, .int mo, .int (nI op), .int 2, .int (nI (sp + i_3)), .int (nI ((sp + i_3) + i_113)), .int (-1), .int (f (sp + i_3))])), (h1, .inr (9, [.ref h4, .int (nI n)])), (h4, .inl (D.1 13, 1600, .inl f)), (h2, .inl (D.1 14, 179, .inl fw))]) [0, 1, 2, 3] (by decide) rfl
                        refine W.widen (k := 0) (n := 0) (Nat.le_of_ble_eq_true rfl) (Nat.le_of_ble_eq_true rfl) ?_
                        exact W.vret hx hb hr (fun t ht hW => ⟨⟨(2, (sp + i_3), ((sp + i_3) + i_113), (-1), (f (sp + i_3))), rfl, (by first | omega | (dsimp only; omega)), by rw [ht]; exact hP9, va_K.moved hW.alike hK, hD9⟩, hS.F ht⟩) hS.2.2 dX6_advance_300
            · skip
              refine lv_if_eq (tgt := 236) hx hb dX6_advance_183 (by decide) (fun _ => ?_) (fun c_208 => (z_abs c_208 (by decide)).elim)
              refine lv_aload_n hx hb dX6_advance_236 rfl (lv_at hl 0 rfl) ?_
              refine lv_iconst (v := 3) hx hb dX6_advance_237 (by decide) ?_
              refine va_put (D := D) (ci := 6) (v := .int 3) (ty := .int) (C := RX6) (T := TX6) (N := 12) hx hb ht inX6 tyX6 tyX6_ok nmX6 hown hK hP hD hS 0 rfl rfl 7 (by decide) (ht (.fieldLink RX6 44 "CloneVolumes$Reader" "kind" "I") fl_X6_44) (fun _ h9 => h9) rfl (by decide +kernel) rfl rfl (Nat.le_of_ble_eq_true rfl) dX6_advance_238 (fun H locs hP hD hS => ?_)
              have hP : va_P D vwCl [(h0, .inr (6, [.int fa, .int pl, .ref h1, .ref h2, .ref h3, .int mo, .int (nI op), .int 3, .int (nI (sp + i_3)), .int (nI (sp + i_3)), .int (-1), .int (f (sp + i_3))])), (h1, .inr (9, [.ref h4, .int (nI n)])), (h4, .inl (D.1 13, 1600, .inl f)), (h2, .inl (D.1 14, 179, .inl fw))] H := hP
              have hD : va_D A [(h0, .inr (6, [.int fa, .int pl, .ref h1, .ref h2, .ref h3, .int mo, .int (nI op), .int 3, .int (nI (sp + i_3)), .int (nI (sp + i_3)), .int (-1), .int (f (sp + i_3))])), (h1, .inr (9, [.ref h4, .int (nI n)])), (h4, .inl (D.1 13, 1600, .inl f)), (h2, .inl (D.1 14, 179, .inl fw))] := hD
              refine lv_aload_n hx hb dX6_advance_241 rfl (lv_at hl 0 rfl) ?_
              refine lv_dup hx hb dX6_advance_242 rfl ?_
              refine va_get (D := D) (ci := 6) (v := .int (nI (sp + i_3))) (C := RX6) (T := TX6) (N := 12) hx hb ht inX6 hown hK hP 0 rfl rfl 9 (by decide) (ht (.fieldLink RX6 88 "CloneVolumes$Reader" "stop" "I") fl_X6_88) (fun _ h9 => h9) rfl dX6_advance_243 ?_
              refine lv_iconst (v := 1) hx hb dX6_advance_246 (by decide) ?_
              refine lv_iadd hx hb dX6_advance_247 ?_
              refine z_topi (y := nI ((sp + i_3) + 1)) (z_nadd (sp + i_3) 1) ?_
              refine va_put (D := D) (ci := 6) (v := .int (nI ((sp + i_3) + 1))) (ty := .int) (C := RX6) (T := TX6) (N := 12) hx hb ht inX6 tyX6 tyX6_ok nmX6 hown hK hP hD hS 0 rfl rfl 9 (by decide) (ht (.fieldLink RX6 88 "CloneVolumes$Reader" "stop" "I") fl_X6_88) (fun _ h9 => h9) rfl (by decide +kernel) rfl rfl (Nat.le_of_ble_eq_true rfl) dX6_advance_248 (fun H locs hP hD hS => ?_)
              have hP : va_P D vwCl [(h0, .inr (6, [.int fa, .int pl, .ref h1, .ref h2, .ref h3, .int mo, .int (nI op), .int 3, .int (nI (sp + i_3)), .int (nI ((sp + i_3) + 1)), .int (-1), .int (f (sp + i_3))])), (h1, .inr (9, [.ref h4, .int (nI n)])), (h4, .inl (D.1 13, 1600, .inl f)), (h2, .inl (D.1 14, 179, .inl fw))] H := hP
              have hD : va_D A [(h0, .inr (6, [.int fa, .int pl, .ref h1, .ref h2, .ref h3, .int mo, .int (nI op), .int 3, .int (nI (sp + i_3)), .int (nI ((sp + i_3) + 1)), .int (-1), .int (f (sp + i_3))])), (h1, .inr (9, [.ref h4, .int (nI n)])), (h4, .inl (D.1 13, 1600, .inl f)), (h2, .inl (D.1 14, 179, .inl fw))] := hD
              refine lv_aload_n hx hb dX6_advance_251 rfl (lv_at hl 0 rfl) ?_
              refine va_get (D := D) (ci := 6) (v := .ref h1) (C := RX6) (T := TX6) (N := 12) hx hb ht inX6 hown hK hP 0 rfl rfl 2 (by decide) (ht (.fieldLink RX6 27 "CloneVolumes$Reader" "tape" "LCloneVolumes$Tape;") fl_X6_27) (fun _ h9 => h9) rfl dX6_advance_252 ?_
              refine lv_aload_n hx hb dX6_advance_255 rfl (lv_at hl 0 rfl) ?_
              refine va_get (D := D) (ci := 6) (v := .int (nI (sp + i_3))) (C := RX6) (T := TX6) (N := 12) hx hb ht inX6 hown hK hP 0 rfl rfl 8 (by decide) (ht (.fieldLink RX6 51 "CloneVolumes$Reader" "start" "I") fl_X6_51) (fun _ h9 => h9) rfl dX6_advance_256 ?_
              refine lv_iconst (v := 1) hx hb dX6_advance_259 (by decide) ?_
              refine lv_isub hx hb dX6_advance_260 ?_
              refine lv_topi (fun x_210 ex_210 => ?_)
              refine zcV (As := [.int x_210]) (rest := []) (C := RX9) (n := 1) ⟨hx, hb, hml, hown, ht⟩ (k_X9_at l D h1 h4 n f x_210 (by first | decide | omega)) (zgV ml_X6_104 im_X9_at se_X9_at in_X9 co_X9_at) rfl rfl (by decide +kernel) ⟨Nat.le_of_ble_eq_true rfl, Nat.le_of_ble_eq_true rfl⟩ hK hP hS [1, 2] rfl 0 rfl rfl rfl rfl hl.1 rfl (Nat.le_of_ble_eq_true rfl) dX6_advance_261 ⟨Nat.le_of_ble_eq_true rfl, Nat.le_of_ble_eq_true rfl⟩ (fun r_211 H locs hw hP hS => ?_)
              rcases hw with ⟨rfl, g_212⟩ | ⟨rfl, g_213⟩
              · skip
                refine lv_istore_n (lv' := [(1, .int (f x_210.toNatClampNeg)), (0, .ref h0)]) hx hb dX6_advance_264 rfl hl (by decide) rfl (fun ls hl => ?_)
                refine lv_aload_n hx hb dX6_advance_265 rfl (lv_at hl 1 rfl) ?_
                refine va_get (D := D) (ci := 6) (v := .int 3) (C := RX6) (T := TX6) (N := 12) hx hb ht inX6 hown hK hP 0 rfl rfl 7 (by decide) (ht (.fieldLink RX6 44 "CloneVolumes$Reader" "kind" "I") fl_X6_44) (fun _ h9 => h9) rfl dX6_advance_266 ?_
                refine lv_iconst (v := 1) hx hb dX6_advance_269 (by decide) ?_
                refine lv_icmp_eq (tgt := 281) hx hb dX6_advance_270 (by decide) (fun c_214 => (z_abs c_214 (by decide)).elim) (fun _ => ?_)
                refine lv_aload_n hx hb dX6_advance_273 rfl (lv_at hl 1 rfl) ?_
                refine va_get (D := D) (ci := 6) (v := .int 3) (C := RX6) (T := TX6) (N := 12) hx hb ht inX6 hown hK hP 0 rfl rfl 7 (by decide) (ht (.fieldLink RX6 44 "CloneVolumes$Reader" "kind" "I") fl_X6_44) (fun _ h9 => h9) rfl dX6_advance_274 ?_
                refine lv_iconst (v := 2) hx hb dX6_advance_277 (by decide) ?_
                refine lv_icmp_ne (tgt := 300) hx hb dX6_advance_278 (by decide) (fun _ => ?_) (fun c_216 => (z_abs c_216 (by decide)).elim)
                have hP9 := hP.sub (ws' := [(h0, .inr (6, [.int fa, .int pl, .ref h1, .ref h2, .ref h3, .int mo, .int (nI op), .int 3, .int (nI (sp + i_3)), .int (nI ((sp + i_3) + 1)), .int (-1), .int (f (sp + i_3))])), (h1, .inr (9, [.ref h4, .int (nI n)])), (h4, .inl (D.1 13, 1600, .inl f)), (h2, .inl (D.1 14, 179, .inl fw))]) [0, 1, 2, 3] rfl
                have hD9 := hD.sub (ws' := [(h0, .inr (6, [.int fa, .int pl, .ref h1, .ref h2, .ref h3, .int mo, .int (nI op), .int 3, .int (nI (sp + i_3)), .int (nI ((sp + i_3) + 1)), .int (-1), .int (f (sp + i_3))])), (h1, .inr (9, [.ref h4, .int (nI n)])), (h4, .inl (D.1 13, 1600, .inl f)), (h2, .inl (D.1 14, 179, .inl fw))]) [0, 1, 2, 3] (by decide) rfl
                refine W.widen (k := 0) (n := 0) (Nat.le_of_ble_eq_true rfl) (Nat.le_of_ble_eq_true rfl) ?_
                exact W.vret hx hb hr (fun t ht hW => ⟨⟨(3, (sp + i_3), ((sp + i_3) + 1), (-1), (f (sp + i_3))), rfl, (by first | omega | (dsimp only; omega)), by rw [ht]; exact hP9, va_K.moved hW.alike hK, hD9⟩, hS.F ht⟩) hS.2.2 dX6_advance_300
              · skip
                refine lv_istore_n (lv' := [(1, .int (-1)), (0, .ref h0)]) hx hb dX6_advance_264 rfl hl (by decide) rfl (fun ls hl => ?_)
                refine lv_aload_n hx hb dX6_advance_265 rfl (lv_at hl 1 rfl) ?_
                refine va_get (D := D) (ci := 6) (v := .int 3) (C := RX6) (T := TX6) (N := 12) hx hb ht inX6 hown hK hP 0 rfl rfl 7 (by decide) (ht (.fieldLink RX6 44 "CloneVolumes$Reader" "kind" "I") fl_X6_44) (fun _ h9 => h9) rfl dX6_advance_266 ?_
                refine lv_iconst (v := 1) hx hb dX6_advance_269 (by decide) ?_
                refine lv_icmp_eq (tgt := 281) hx hb dX6_advance_270 (by decide) (fun c_218 => (z_abs c_218 (by decide)).elim) (fun _ => ?_)
                refine lv_aload_n hx hb dX6_advance_273 rfl (lv_at hl 1 rfl) ?_
                refine va_get (D := D) (ci := 6) (v := .int 3) (C := RX6) (T := TX6) (N := 12) hx hb ht inX6 hown hK hP 0 rfl rfl 7 (by decide) (ht (.fieldLink RX6 44 "CloneVolumes$Reader" "kind" "I") fl_X6_44) (fun _ h9 => h9) rfl dX6_advance_274 ?_
                refine lv_iconst (v := 2) hx hb dX6_advance_277 (by decide) ?_
                refine lv_icmp_ne (tgt := 300) hx hb dX6_advance_278 (by decide) (fun _ => ?_) (fun c_220 => (z_abs c_220 (by decide)).elim)
                have hP9 := hP.sub (ws' := [(h0, .inr (6, [.int fa, .int pl, .ref h1, .ref h2, .ref h3, .int mo, .int (nI op), .int 3, .int (nI (sp + i_3)), .int (nI ((sp + i_3) + 1)), .int (-1), .int (f (sp + i_3))])), (h1, .inr (9, [.ref h4, .int (nI n)])), (h4, .inl (D.1 13, 1600, .inl f)), (h2, .inl (D.1 14, 179, .inl fw))]) [0, 1, 2, 3] rfl
                have hD9 := hD.sub (ws' := [(h0, .inr (6, [.int fa, .int pl, .ref h1, .ref h2, .ref h3, .int mo, .int (nI op), .int 3, .int (nI (sp + i_3)), .int (nI ((sp + i_3) + 1)), .int (-1), .int (f (sp + i_3))])), (h1, .inr (9, [.ref h4, .int (nI n)])), (h4, .inl (D.1 13, 1600, .inl f)), (h2, .inl (D.1 14, 179, .inl fw))]) [0, 1, 2, 3] (by decide) rfl
                refine W.widen (k := 0) (n := 0) (Nat.le_of_ble_eq_true rfl) (Nat.le_of_ble_eq_true rfl) ?_
                exact W.vret hx hb hr (fun t ht hW => ⟨⟨(3, (sp + i_3), ((sp + i_3) + 1), (-1), (f (sp + i_3))), rfl, (by first | omega | (dsimp only; omega)), by rw [ht]; exact hP9, va_K.moved hW.alike hK, hD9⟩, hS.F ht⟩) hS.2.2 dX6_advance_300
        · have g_11 : (f (sp + i_3)).toInt = (-1) := z_eq rfl (by decide) c_10
          refine lv_aload_n hx hb dX6_advance_97 rfl (lv_at hl 0 rfl) ?_
          refine lv_iconst (v := 0) hx hb dX6_advance_98 (by decide) ?_
          refine va_put (D := D) (ci := 6) (v := .int 0) (ty := .int) (C := RX6) (T := TX6) (N := 12) hx hb ht inX6 tyX6 tyX6_ok nmX6 hown hK hP hD hS 0 rfl rfl 7 (by decide) (ht (.fieldLink RX6 44 "CloneVolumes$Reader" "kind" "I") fl_X6_44) (fun _ h9 => h9) rfl (by decide +kernel) rfl rfl (Nat.le_of_ble_eq_true rfl) dX6_advance_99 (fun H locs hP hD hS => ?_)
          have hP : va_P D vwCl [(h0, .inr (6, [.int fa, .int pl, .ref h1, .ref h2, .ref h3, .int mo, .int (nI op), .int 0, .int (nI (sp + i_3)), .int (nI (sp + i_3)), .int (-1), .int (f (sp + i_3))])), (h1, .inr (9, [.ref h4, .int (nI n)])), (h4, .inl (D.1 13, 1600, .inl f)), (h2, .inl (D.1 14, 179, .inl fw))] H := hP
          have hD : va_D A [(h0, .inr (6, [.int fa, .int pl, .ref h1, .ref h2, .ref h3, .int mo, .int (nI op), .int 0, .int (nI (sp + i_3)), .int (nI (sp + i_3)), .int (-1), .int (f (sp + i_3))])), (h1, .inr (9, [.ref h4, .int (nI n)])), (h4, .inl (D.1 13, 1600, .inl f)), (h2, .inl (D.1 14, 179, .inl fw))] := hD
          refine lv_goto (tgt := 251) hx hb dX6_advance_102 (by decide) ?_
          refine lv_aload_n hx hb dX6_advance_251 rfl (lv_at hl 0 rfl) ?_
          refine va_get (D := D) (ci := 6) (v := .ref h1) (C := RX6) (T := TX6) (N := 12) hx hb ht inX6 hown hK hP 0 rfl rfl 2 (by decide) (ht (.fieldLink RX6 27 "CloneVolumes$Reader" "tape" "LCloneVolumes$Tape;") fl_X6_27) (fun _ h9 => h9) rfl dX6_advance_252 ?_
          refine lv_aload_n hx hb dX6_advance_255 rfl (lv_at hl 0 rfl) ?_
          refine va_get (D := D) (ci := 6) (v := .int (nI (sp + i_3))) (C := RX6) (T := TX6) (N := 12) hx hb ht inX6 hown hK hP 0 rfl rfl 8 (by decide) (ht (.fieldLink RX6 51 "CloneVolumes$Reader" "start" "I") fl_X6_51) (fun _ h9 => h9) rfl dX6_advance_256 ?_
          refine lv_iconst (v := 1) hx hb dX6_advance_259 (by decide) ?_
          refine lv_isub hx hb dX6_advance_260 ?_
          refine lv_topi (fun x_222 ex_222 => ?_)
          refine zcV (As := [.int x_222]) (rest := []) (C := RX9) (n := 1) ⟨hx, hb, hml, hown, ht⟩ (k_X9_at l D h1 h4 n f x_222 (by first | decide | omega)) (zgV ml_X6_104 im_X9_at se_X9_at in_X9 co_X9_at) rfl rfl (by decide +kernel) ⟨Nat.le_of_ble_eq_true rfl, Nat.le_of_ble_eq_true rfl⟩ hK hP hS [1, 2] rfl 0 rfl rfl rfl rfl hl.1 rfl (Nat.le_of_ble_eq_true rfl) dX6_advance_261 ⟨Nat.le_of_ble_eq_true rfl, Nat.le_of_ble_eq_true rfl⟩ (fun r_223 H locs hw hP hS => ?_)
          rcases hw with ⟨rfl, g_224⟩ | ⟨rfl, g_225⟩
          · skip
            refine lv_istore_n (lv' := [(1, .int (f x_222.toNatClampNeg)), (0, .ref h0)]) hx hb dX6_advance_264 rfl hl (by decide) rfl (fun ls hl => ?_)
            refine lv_aload_n hx hb dX6_advance_265 rfl (lv_at hl 1 rfl) ?_
            refine va_get (D := D) (ci := 6) (v := .int 0) (C := RX6) (T := TX6) (N := 12) hx hb ht inX6 hown hK hP 0 rfl rfl 7 (by decide) (ht (.fieldLink RX6 44 "CloneVolumes$Reader" "kind" "I") fl_X6_44) (fun _ h9 => h9) rfl dX6_advance_266 ?_
            refine lv_iconst (v := 1) hx hb dX6_advance_269 (by decide) ?_
            refine lv_icmp_eq (tgt := 281) hx hb dX6_advance_270 (by decide) (fun c_226 => (z_abs c_226 (by decide)).elim) (fun _ => ?_)
            refine lv_aload_n hx hb dX6_advance_273 rfl (lv_at hl 1 rfl) ?_
            refine va_get (D := D) (ci := 6) (v := .int 0) (C := RX6) (T := TX6) (N := 12) hx hb ht inX6 hown hK hP 0 rfl rfl 7 (by decide) (ht (.fieldLink RX6 44 "CloneVolumes$Reader" "kind" "I") fl_X6_44) (fun _ h9 => h9) rfl dX6_advance_274 ?_
            refine lv_iconst (v := 2) hx hb dX6_advance_277 (by decide) ?_
            refine lv_icmp_ne (tgt := 300) hx hb dX6_advance_278 (by decide) (fun _ => ?_) (fun c_228 => (z_abs c_228 (by decide)).elim)
            have hP9 := hP.sub (ws' := [(h0, .inr (6, [.int fa, .int pl, .ref h1, .ref h2, .ref h3, .int mo, .int (nI op), .int 0, .int (nI (sp + i_3)), .int (nI (sp + i_3)), .int (-1), .int (f (sp + i_3))])), (h1, .inr (9, [.ref h4, .int (nI n)])), (h4, .inl (D.1 13, 1600, .inl f)), (h2, .inl (D.1 14, 179, .inl fw))]) [0, 1, 2, 3] rfl
            have hD9 := hD.sub (ws' := [(h0, .inr (6, [.int fa, .int pl, .ref h1, .ref h2, .ref h3, .int mo, .int (nI op), .int 0, .int (nI (sp + i_3)), .int (nI (sp + i_3)), .int (-1), .int (f (sp + i_3))])), (h1, .inr (9, [.ref h4, .int (nI n)])), (h4, .inl (D.1 13, 1600, .inl f)), (h2, .inl (D.1 14, 179, .inl fw))]) [0, 1, 2, 3] (by decide) rfl
            refine W.widen (k := 0) (n := 0) (Nat.le_of_ble_eq_true rfl) (Nat.le_of_ble_eq_true rfl) ?_
            exact W.vret hx hb hr (fun t ht hW => ⟨⟨(0, (sp + i_3), (sp + i_3), (-1), (f (sp + i_3))), rfl, (by first | omega | (dsimp only; omega)), by rw [ht]; exact hP9, va_K.moved hW.alike hK, hD9⟩, hS.F ht⟩) hS.2.2 dX6_advance_300
          · skip
            refine lv_istore_n (lv' := [(1, .int (-1)), (0, .ref h0)]) hx hb dX6_advance_264 rfl hl (by decide) rfl (fun ls hl => ?_)
            refine lv_aload_n hx hb dX6_advance_265 rfl (lv_at hl 1 rfl) ?_
            refine va_get (D := D) (ci := 6) (v := .int 0) (C := RX6) (T := TX6) (N := 12) hx hb ht inX6 hown hK hP 0 rfl rfl 7 (by decide) (ht (.fieldLink RX6 44 "CloneVolumes$Reader" "kind" "I") fl_X6_44) (fun _ h9 => h9) rfl dX6_advance_266 ?_
            refine lv_iconst (v := 1) hx hb dX6_advance_269 (by decide) ?_
            refine lv_icmp_eq (tgt := 281) hx hb dX6_advance_270 (by decide) (fun c_230 => (z_abs c_230 (by decide)).elim) (fun _ => ?_)
            refine lv_aload_n hx hb dX6_advance_273 rfl (lv_at hl 1 rfl) ?_
            refine va_get (D := D) (ci := 6) (v := .int 0) (C := RX6) (T := TX6) (N := 12) hx hb ht inX6 hown hK hP 0 rfl rfl 7 (by decide) (ht (.fieldLink RX6 44 "CloneVolumes$Reader" "kind" "I") fl_X6_44) (fun _ h9 => h9) rfl dX6_advance_274 ?_
            refine lv_iconst (v := 2) hx hb dX6_advance_277 (by decide) ?_
            refine lv_icmp_ne (tgt := 300) hx hb dX6_advance_278 (by decide) (fun _ => ?_) (fun c_232 => (z_abs c_232 (by decide)).elim)
            have hP9 := hP.sub (ws' := [(h0, .inr (6, [.int fa, .int pl, .ref h1, .ref h2, .ref h3, .int mo, .int (nI op), .int 0, .int (nI (sp + i_3)), .int (nI (sp + i_3)), .int (-1), .int (f (sp + i_3))])), (h1, .inr (9, [.ref h4, .int (nI n)])), (h4, .inl (D.1 13, 1600, .inl f)), (h2, .inl (D.1 14, 179, .inl fw))]) [0, 1, 2, 3] rfl
            have hD9 := hD.sub (ws' := [(h0, .inr (6, [.int fa, .int pl, .ref h1, .ref h2, .ref h3, .int mo, .int (nI op), .int 0, .int (nI (sp + i_3)), .int (nI (sp + i_3)), .int (-1), .int (f (sp + i_3))])), (h1, .inr (9, [.ref h4, .int (nI n)])), (h4, .inl (D.1 13, 1600, .inl f)), (h2, .inl (D.1 14, 179, .inl fw))]) [0, 1, 2, 3] (by decide) rfl
            refine W.widen (k := 0) (n := 0) (Nat.le_of_ble_eq_true rfl) (Nat.le_of_ble_eq_true rfl) ?_
            exact W.vret hx hb hr (fun t ht hW => ⟨⟨(0, (sp + i_3), (sp + i_3), (-1), (f (sp + i_3))), rfl, (by first | omega | (dsimp only; omega)), by rw [ht]; exact hP9, va_K.moved hW.alike hK, hD9⟩, hS.F ht⟩) hS.2.2 dX6_advance_300
      · skip
        refine va_put (D := D) (ci := 6) (v := .int (-1)) (ty := .int) (C := RX6) (T := TX6) (N := 12) hx hb ht inX6 tyX6 tyX6_ok nmX6 hown hK hP hD hS 0 rfl rfl 11 (by decide) (ht (.fieldLink RX6 108 "CloneVolumes$Reader" "sign" "I") fl_X6_108) (fun _ h9 => h9) rfl (by decide +kernel) rfl rfl (Nat.le_of_ble_eq_true rfl) dX6_advance_86 (fun H locs hP hD hS => ?_)
        have hP : va_P D vwCl [(h0, .inr (6, [.int fa, .int pl, .ref h1, .ref h2, .ref h3, .int mo, .int (nI op), .int ki, .int (nI (sp + i_3)), .int (nI (sp + i_3)), .int (-1), .int (-1)])), (h1, .inr (9, [.ref h4, .int (nI n)])), (h4, .inl (D.1 13, 1600, .inl f)), (h2, .inl (D.1 14, 179, .inl fw))] H := hP
        have hD : va_D A [(h0, .inr (6, [.int fa, .int pl, .ref h1, .ref h2, .ref h3, .int mo, .int (nI op), .int ki, .int (nI (sp + i_3)), .int (nI (sp + i_3)), .int (-1), .int (-1)])), (h1, .inr (9, [.ref h4, .int (nI n)])), (h4, .inl (D.1 13, 1600, .inl f)), (h2, .inl (D.1 14, 179, .inl fw))] := hD
        refine lv_aload_n hx hb dX6_advance_89 rfl (lv_at hl 0 rfl) ?_
        refine va_get (D := D) (ci := 6) (v := .int (-1)) (C := RX6) (T := TX6) (N := 12) hx hb ht inX6 hown hK hP 0 rfl rfl 11 (by decide) (ht (.fieldLink RX6 108 "CloneVolumes$Reader" "sign" "I") fl_X6_108) (fun _ h9 => h9) rfl dX6_advance_90 ?_
        refine lv_iconst (v := (-1)) hx hb dX6_advance_93 (by decide) ?_
        refine lv_icmp_ne (tgt := 105) hx hb dX6_advance_94 (by decide) (fun c_234 => (z_abs c_234 (by decide)).elim) (fun _ => ?_)
        refine lv_aload_n hx hb dX6_advance_97 rfl (lv_at hl 0 rfl) ?_
        refine lv_iconst (v := 0) hx hb dX6_advance_98 (by decide) ?_
        refine va_put (D := D) (ci := 6) (v := .int 0) (ty := .int) (C := RX6) (T := TX6) (N := 12) hx hb ht inX6 tyX6 tyX6_ok nmX6 hown hK hP hD hS 0 rfl rfl 7 (by decide) (ht (.fieldLink RX6 44 "CloneVolumes$Reader" "kind" "I") fl_X6_44) (fun _ h9 => h9) rfl (by decide +kernel) rfl rfl (Nat.le_of_ble_eq_true rfl) dX6_advance_99 (fun H locs hP hD hS => ?_)
        have hP : va_P D vwCl [(h0, .inr (6, [.int fa, .int pl, .ref h1, .ref h2, .ref h3, .int mo, .int (nI op), .int 0, .int (nI (sp + i_3)), .int (nI (sp + i_3)), .int (-1), .int (-1)])), (h1, .inr (9, [.ref h4, .int (nI n)])), (h4, .inl (D.1 13, 1600, .inl f)), (h2, .inl (D.1 14, 179, .inl fw))] H := hP
        have hD : va_D A [(h0, .inr (6, [.int fa, .int pl, .ref h1, .ref h2, .ref h3, .int mo, .int (nI op), .int 0, .int (nI (sp + i_3)), .int (nI (sp + i_3)), .int (-1), .int (-1)])), (h1, .inr (9, [.ref h4, .int (nI n)])), (h4, .inl (D.1 13, 1600, .inl f)), (h2, .inl (D.1 14, 179, .inl fw))] := hD
        refine lv_goto (tgt := 251) hx hb dX6_advance_102 (by decide) ?_
        refine lv_aload_n hx hb dX6_advance_251 rfl (lv_at hl 0 rfl) ?_
        refine va_get (D := D) (ci := 6) (v := .ref h1) (C := RX6) (T := TX6) (N := 12) hx hb ht inX6 hown hK hP 0 rfl rfl 2 (by decide) (ht (.fieldLink RX6 27 "CloneVolumes$Reader" "tape" "LCloneVolumes$Tape;") fl_X6_27) (fun _ h9 => h9) rfl dX6_advance_252 ?_
        refine lv_aload_n hx hb dX6_advance_255 rfl (lv_at hl 0 rfl) ?_
        refine va_get (D := D) (ci := 6) (v := .int (nI (sp + i_3))) (C := RX6) (T := TX6) (N := 12) hx hb ht inX6 hown hK hP 0 rfl rfl 8 (by decide) (ht (.fieldLink RX6 51 "CloneVolumes$Reader" "start" "I") fl_X6_51) (fun _ h9 => h9) rfl dX6_advance_256 ?_
        refine lv_iconst (v := 1) hx hb dX6_advance_259 (by decide) ?_
        refine lv_isub hx hb dX6_advance_260 ?_
        refine lv_topi (fun x_236 ex_236 => ?_)
        refine zcV (As := [.int x_236]) (rest := []) (C := RX9) (n := 1) ⟨hx, hb, hml, hown, ht⟩ (k_X9_at l D h1 h4 n f x_236 (by first | decide | omega)) (zgV ml_X6_104 im_X9_at se_X9_at in_X9 co_X9_at) rfl rfl (by decide +kernel) ⟨Nat.le_of_ble_eq_true rfl, Nat.le_of_ble_eq_true rfl⟩ hK hP hS [1, 2] rfl 0 rfl rfl rfl rfl hl.1 rfl (Nat.le_of_ble_eq_true rfl) dX6_advance_261 ⟨Nat.le_of_ble_eq_true rfl, Nat.le_of_ble_eq_true rfl⟩ (fun r_237 H locs hw hP hS => ?_)
        rcases hw with ⟨rfl, g_238⟩ | ⟨rfl, g_239⟩
        · skip
          refine lv_istore_n (lv' := [(1, .int (f x_236.toNatClampNeg)), (0, .ref h0)]) hx hb dX6_advance_264 rfl hl (by decide) rfl (fun ls hl => ?_)
          refine lv_aload_n hx hb dX6_advance_265 rfl (lv_at hl 1 rfl) ?_
          refine va_get (D := D) (ci := 6) (v := .int 0) (C := RX6) (T := TX6) (N := 12) hx hb ht inX6 hown hK hP 0 rfl rfl 7 (by decide) (ht (.fieldLink RX6 44 "CloneVolumes$Reader" "kind" "I") fl_X6_44) (fun _ h9 => h9) rfl dX6_advance_266 ?_
          refine lv_iconst (v := 1) hx hb dX6_advance_269 (by decide) ?_
          refine lv_icmp_eq (tgt := 281) hx hb dX6_advance_270 (by decide) (fun c_240 => (z_abs c_240 (by decide)).elim) (fun _ => ?_)
          refine lv_aload_n hx hb dX6_advance_273 rfl (lv_at hl 1 rfl) ?_
          refine va_get (D := D) (ci := 6) (v := .int 0) (C := RX6) (T := TX6) (N := 12) hx hb ht inX6 hown hK hP 0 rfl rfl 7 (by decide) (ht (.fieldLink RX6 44 "CloneVolumes$Reader" "kind" "I") fl_X6_44) (fun _ h9 => h9) rfl dX6_advance_274 ?_
          refine lv_iconst (v := 2) hx hb dX6_advance_277 (by decide) ?_
          refine lv_icmp_ne (tgt := 300) hx hb dX6_advance_278 (by decide) (fun _ => ?_) (fun c_242 => (z_abs c_242 (by decide)).elim)
          have hP9 := hP.sub (ws' := [(h0, .inr (6, [.int fa, .int pl, .ref h1, .ref h2, .ref h3, .int mo, .int (nI op), .int 0, .int (nI (sp + i_3)), .int (nI (sp + i_3)), .int (-1), .int (-1)])), (h1, .inr (9, [.ref h4, .int (nI n)])), (h4, .inl (D.1 13, 1600, .inl f)), (h2, .inl (D.1 14, 179, .inl fw))]) [0, 1, 2, 3] rfl
          have hD9 := hD.sub (ws' := [(h0, .inr (6, [.int fa, .int pl, .ref h1, .ref h2, .ref h3, .int mo, .int (nI op), .int 0, .int (nI (sp + i_3)), .int (nI (sp + i_3)), .int (-1), .int (-1)])), (h1, .inr (9, [.ref h4, .int (nI n)])), (h4, .inl (D.1 13, 1600, .inl f)), (h2, .inl (D.1 14, 179, .inl fw))]) [0, 1, 2, 3] (by decide) rfl
          refine W.widen (k := 0) (n := 0) (Nat.le_of_ble_eq_true rfl) (Nat.le_of_ble_eq_true rfl) ?_
          exact W.vret hx hb hr (fun t ht hW => ⟨⟨(0, (sp + i_3), (sp + i_3), (-1), (-1)), rfl, (by first | omega | (dsimp only; omega)), by rw [ht]; exact hP9, va_K.moved hW.alike hK, hD9⟩, hS.F ht⟩) hS.2.2 dX6_advance_300
        · skip
          refine lv_istore_n (lv' := [(1, .int (-1)), (0, .ref h0)]) hx hb dX6_advance_264 rfl hl (by decide) rfl (fun ls hl => ?_)
          refine lv_aload_n hx hb dX6_advance_265 rfl (lv_at hl 1 rfl) ?_
          refine va_get (D := D) (ci := 6) (v := .int 0) (C := RX6) (T := TX6) (N := 12) hx hb ht inX6 hown hK hP 0 rfl rfl 7 (by decide) (ht (.fieldLink RX6 44 "CloneVolumes$Reader" "kind" "I") fl_X6_44) (fun _ h9 => h9) rfl dX6_advance_266 ?_
          refine lv_iconst (v := 1) hx hb dX6_advance_269 (by decide) ?_
          refine lv_icmp_eq (tgt := 281) hx hb dX6_advance_270 (by decide) (fun c_244 => (z_abs c_244 (by decide)).elim) (fun _ => ?_)
          refine lv_aload_n hx hb dX6_advance_273 rfl (lv_at hl 1 rfl) ?_
          refine va_get (D := D) (ci := 6) (v := .int 0) (C := RX6) (T := TX6) (N := 12) hx hb ht inX6 hown hK hP 0 rfl rfl 7 (by decide) (ht (.fieldLink RX6 44 "CloneVolumes$Reader" "kind" "I") fl_X6_44) (fun _ h9 => h9) rfl dX6_advance_274 ?_
          refine lv_iconst (v := 2) hx hb dX6_advance_277 (by decide) ?_
          refine lv_icmp_ne (tgt := 300) hx hb dX6_advance_278 (by decide) (fun _ => ?_) (fun c_246 => (z_abs c_246 (by decide)).elim)
          have hP9 := hP.sub (ws' := [(h0, .inr (6, [.int fa, .int pl, .ref h1, .ref h2, .ref h3, .int mo, .int (nI op), .int 0, .int (nI (sp + i_3)), .int (nI (sp + i_3)), .int (-1), .int (-1)])), (h1, .inr (9, [.ref h4, .int (nI n)])), (h4, .inl (D.1 13, 1600, .inl f)), (h2, .inl (D.1 14, 179, .inl fw))]) [0, 1, 2, 3] rfl
          have hD9 := hD.sub (ws' := [(h0, .inr (6, [.int fa, .int pl, .ref h1, .ref h2, .ref h3, .int mo, .int (nI op), .int 0, .int (nI (sp + i_3)), .int (nI (sp + i_3)), .int (-1), .int (-1)])), (h1, .inr (9, [.ref h4, .int (nI n)])), (h4, .inl (D.1 13, 1600, .inl f)), (h2, .inl (D.1 14, 179, .inl fw))]) [0, 1, 2, 3] (by decide) rfl
          refine W.widen (k := 0) (n := 0) (Nat.le_of_ble_eq_true rfl) (Nat.le_of_ble_eq_true rfl) ?_
          exact W.vret hx hb hr (fun t ht hW => ⟨⟨(0, (sp + i_3), (sp + i_3), (-1), (-1)), rfl, (by first | omega | (dsimp only; omega)), by rw [ht]; exact hP9, va_K.moved hW.alike hK, hD9⟩, hS.F ht⟩) hS.2.2 dX6_advance_300
    · have g_5 : ((sp + i_3 : Nat) : Int) < ((n : Nat) : Int) := z_nle (nI_toInt (by omega)) (nI_toInt (by omega)) c_4
      refine lv_aload_n hx hb dX6_advance_30 rfl (lv_at hl 0 rfl) ?_
      refine va_get (D := D) (ci := 6) (v := .ref h1) (C := RX6) (T := TX6) (N := 12) hx hb ht inX6 hown hK hP 0 rfl rfl 2 (by decide) (ht (.fieldLink RX6 27 "CloneVolumes$Reader" "tape" "LCloneVolumes$Tape;") fl_X6_27) (fun _ h9 => h9) rfl dX6_advance_31 ?_
      refine va_get (D := D) (ci := 9) (v := .ref h4) (C := RX9) (T := TX9) (N := 2) hx hb ht inX9 hown hK hP 1 rfl rfl 0 (by decide) (ht (.fieldLink RX6 96 "CloneVolumes$Tape" "bytes" "[I") fl_X6_96) (fun _ h9 => h9) rfl dX6_advance_34 ?_
      refine lv_aload_n hx hb dX6_advance_37 rfl (lv_at hl 0 rfl) ?_
      refine va_get (D := D) (ci := 6) (v := .int (nI (sp + i_3))) (C := RX6) (T := TX6) (N := 12) hx hb ht inX6 hown hK hP 0 rfl rfl 8 (by decide) (ht (.fieldLink RX6 51 "CloneVolumes$Reader" "start" "I") fl_X6_51) (fun _ h9 => h9) rfl dX6_advance_38 ?_
      refine va_iald hx hb hK hP 2 0 rfl rfl (vp_in_nI (by omega) (by omega)) dX6_advance_41 ?_
      refine z_topi (y := f (sp + i_3)) (by rw [nI_clamp (by omega)]) ?_
      refine zcS (As := [.int (f (sp + i_3))]) (rest := []) (n := 1) ⟨hx, hb, hml, hown, ht⟩ (k_X6_isBlank l D (f (sp + i_3))) (zgT ml_X6_100 st_X6_isBlank in_X6 co_X6_isBlank) rfl rfl (by decide +kernel) ⟨Nat.le_of_ble_eq_true rfl, Nat.le_of_ble_eq_true rfl⟩ hK hP hS [] rfl rfl hl.1 rfl (Nat.le_of_ble_eq_true rfl) dX6_advance_42 ⟨Nat.le_of_ble_eq_true rfl, Nat.le_of_ble_eq_true rfl⟩ (fun r_248 H locs hw hP hS => ?_)
      rcases hw with ⟨rfl, g_249⟩ | ⟨rfl, g_250⟩
      · skip
        refine lv_if_eq (tgt := 61) hx hb dX6_advance_45 (by decide) (fun c_251 => (z_abs c_251 (by decide)).elim) (fun _ => ?_)
        refine lv_aload_n hx hb dX6_advance_48 rfl (lv_at hl 0 rfl) ?_
        refine lv_dup hx hb dX6_advance_49 rfl ?_
        refine va_get (D := D) (ci := 6) (v := .int (nI (sp + i_3))) (C := RX6) (T := TX6) (N := 12) hx hb ht inX6 hown hK hP 0 rfl rfl 8 (by decide) (ht (.fieldLink RX6 51 "CloneVolumes$Reader" "start" "I") fl_X6_51) (fun _ h9 => h9) rfl dX6_advance_50 ?_
        refine lv_iconst (v := 1) hx hb dX6_advance_53 (by decide) ?_
        refine lv_iadd hx hb dX6_advance_54 ?_
        refine z_topi (y := nI ((sp + i_3) + 1)) (z_nadd (sp + i_3) 1) ?_
        refine va_put (D := D) (ci := 6) (v := .int (nI ((sp + i_3) + 1))) (ty := .int) (C := RX6) (T := TX6) (N := 12) hx hb ht inX6 tyX6 tyX6_ok nmX6 hown hK hP hD hS 0 rfl rfl 8 (by decide) (ht (.fieldLink RX6 51 "CloneVolumes$Reader" "start" "I") fl_X6_51) (fun _ h9 => h9) rfl (by decide +kernel) rfl rfl (Nat.le_of_ble_eq_true rfl) dX6_advance_55 (fun H locs hP hD hS => ?_)
        have hP : va_P D vwCl [(h0, .inr (6, [.int fa, .int pl, .ref h1, .ref h2, .ref h3, .int mo, .int (nI op), .int ki, .int (nI ((sp + i_3) + 1)), .int (nI sp), .int wo, .int si])), (h1, .inr (9, [.ref h4, .int (nI n)])), (h4, .inl (D.1 13, 1600, .inl f)), (h2, .inl (D.1 14, 179, .inl fw))] H := hP
        have hD : va_D A [(h0, .inr (6, [.int fa, .int pl, .ref h1, .ref h2, .ref h3, .int mo, .int (nI op), .int ki, .int (nI ((sp + i_3) + 1)), .int (nI sp), .int wo, .int si])), (h1, .inr (9, [.ref h4, .int (nI n)])), (h4, .inl (D.1 13, 1600, .inl f)), (h2, .inl (D.1 14, 179, .inl fw))] := hD
        refine lv_goto (tgt := 16) hx hb dX6_advance_58 (by decide) ?_
        rw [show (sp + i_3) + 1 = sp + (i_3 + 1) by omega] at hP hD
        exact ih_16 () _ _ _ (by omega) ⟨(by first | omega | (dsimp only; omega)), hP.sub [0, 1, 2, 3] rfl, hD.sub [0, 1, 2, 3] (by decide) rfl, hS, lv_sub hl [0] rfl⟩
      · skip
        refine lv_if_eq (tgt := 61) hx hb dX6_advance_45 (by decide) (fun _ => ?_) (fun c_253 => (z_abs c_253 (by decide)).elim)
        refine lv_aload_n hx hb dX6_advance_61 rfl (lv_at hl 0 rfl) ?_
        refine lv_aload_n hx hb dX6_advance_62 rfl (lv_at hl 0 rfl) ?_
        refine va_get (D := D) (ci := 6) (v := .int (nI (sp + i_3))) (C := RX6) (T := TX6) (N := 12) hx hb ht inX6 hown hK hP 0 rfl rfl 8 (by decide) (ht (.fieldLink RX6 51 "CloneVolumes$Reader" "start" "I") fl_X6_51) (fun _ h9 => h9) rfl dX6_advance_63 ?_
        refine va_put (D := D) (ci := 6) (v := .int (nI (sp + i_3))) (ty := .int) (C := RX6) (T := TX6) (N := 12) hx hb ht inX6 tyX6 tyX6_ok nmX6 hown hK hP hD hS 0 rfl rfl 9 (by decide) (ht (.fieldLink RX6 88 "CloneVolumes$Reader" "stop" "I") fl_X6_88) (fun _ h9 => h9) rfl (by decide +kernel) rfl rfl (Nat.le_of_ble_eq_true rfl) dX6_advance_66 (fun H locs hP hD hS => ?_)
        have hP : va_P D vwCl [(h0, .inr (6, [.int fa, .int pl, .ref h1, .ref h2, .ref h3, .int mo, .int (nI op), .int ki, .int (nI (sp + i_3)), .int (nI (sp + i_3)), .int wo, .int si])), (h1, .inr (9, [.ref h4, .int (nI n)])), (h4, .inl (D.1 13, 1600, .inl f)), (h2, .inl (D.1 14, 179, .inl fw))] H := hP
        have hD : va_D A [(h0, .inr (6, [.int fa, .int pl, .ref h1, .ref h2, .ref h3, .int mo, .int (nI op), .int ki, .int (nI (sp + i_3)), .int (nI (sp + i_3)), .int wo, .int si])), (h1, .inr (9, [.ref h4, .int (nI n)])), (h4, .inl (D.1 13, 1600, .inl f)), (h2, .inl (D.1 14, 179, .inl fw))] := hD
        refine lv_aload_n hx hb dX6_advance_69 rfl (lv_at hl 0 rfl) ?_
        refine lv_iconst (v := (-1)) hx hb dX6_advance_70 (by decide) ?_
        refine va_put (D := D) (ci := 6) (v := .int (-1)) (ty := .int) (C := RX6) (T := TX6) (N := 12) hx hb ht inX6 tyX6 tyX6_ok nmX6 hown hK hP hD hS 0 rfl rfl 10 (by decide) (ht (.fieldLink RX6 72 "CloneVolumes$Reader" "word" "I") fl_X6_72) (fun _ h9 => h9) rfl (by decide +kernel) rfl rfl (Nat.le_of_ble_eq_true rfl) dX6_advance_71 (fun H locs hP hD hS => ?_)
        have hP : va_P D vwCl [(h0, .inr (6, [.int fa, .int pl, .ref h1, .ref h2, .ref h3, .int mo, .int (nI op), .int ki, .int (nI (sp + i_3)), .int (nI (sp + i_3)), .int (-1), .int si])), (h1, .inr (9, [.ref h4, .int (nI n)])), (h4, .inl (D.1 13, 1600, .inl f)), (h2, .inl (D.1 14, 179, .inl fw))] H := hP
        have hD : va_D A [(h0, .inr (6, [.int fa, .int pl, .ref h1, .ref h2, .ref h3, .int mo, .int (nI op), .int ki, .int (nI (sp + i_3)), .int (nI (sp + i_3)), .int (-1), .int si])), (h1, .inr (9, [.ref h4, .int (nI n)])), (h4, .inl (D.1 13, 1600, .inl f)), (h2, .inl (D.1 14, 179, .inl fw))] := hD
        refine lv_aload_n hx hb dX6_advance_74 rfl (lv_at hl 0 rfl) ?_
        refine lv_aload_n hx hb dX6_advance_75 rfl (lv_at hl 0 rfl) ?_
        refine va_get (D := D) (ci := 6) (v := .ref h1) (C := RX6) (T := TX6) (N := 12) hx hb ht inX6 hown hK hP 0 rfl rfl 2 (by decide) (ht (.fieldLink RX6 27 "CloneVolumes$Reader" "tape" "LCloneVolumes$Tape;") fl_X6_27) (fun _ h9 => h9) rfl dX6_advance_76 ?_
        refine lv_aload_n hx hb dX6_advance_79 rfl (lv_at hl 0 rfl) ?_
        refine va_get (D := D) (ci := 6) (v := .int (nI (sp + i_3))) (C := RX6) (T := TX6) (N := 12) hx hb ht inX6 hown hK hP 0 rfl rfl 8 (by decide) (ht (.fieldLink RX6 51 "CloneVolumes$Reader" "start" "I") fl_X6_51) (fun _ h9 => h9) rfl dX6_advance_80 ?_
        have en_255 : (nI (sp + i_3)).toInt = ((sp + i_3 : Nat) : Int) := nI_toInt (by omega)
        refine zcV (As := [.int (nI (sp + i_3))]) (rest := [.ref h0]) (C := RX9) (n := 1) ⟨hx, hb, hml, hown, ht⟩ (k_X9_at l D h1 h4 n f (nI (sp + i_3)) (by first | decide | omega)) (zgV ml_X6_104 im_X9_at se_X9_at in_X9 co_X9_at) rfl rfl (by decide +kernel) ⟨Nat.le_of_ble_eq_true rfl, Nat.le_of_ble_eq_true rfl⟩ hK hP hS [1, 2] rfl 0 rfl rfl rfl rfl hl.1 rfl (Nat.le_of_ble_eq_true rfl) dX6_advance_83 ⟨Nat.le_of_ble_eq_true rfl, Nat.le_of_ble_eq_true rfl⟩ (fun r_256 H locs hw hP hS => ?_)
        rcases hw with ⟨rfl, g_257⟩ | ⟨rfl, g_258⟩
        · skip
          refine z_topi (y := f (sp + i_3)) (by rw [nI_clamp (by omega)]) ?_
          refine va_put (D := D) (ci := 6) (v := .int (f (sp + i_3))) (ty := .int) (C := RX6) (T := TX6) (N := 12) hx hb ht inX6 tyX6 tyX6_ok nmX6 hown hK hP hD hS 0 rfl rfl 11 (by decide) (ht (.fieldLink RX6 108 "CloneVolumes$Reader" "sign" "I") fl_X6_108) (fun _ h9 => h9) rfl (by decide +kernel) rfl rfl (Nat.le_of_ble_eq_true rfl) dX6_advance_86 (fun H locs hP hD hS => ?_)
          have hP : va_P D vwCl [(h0, .inr (6, [.int fa, .int pl, .ref h1, .ref h2, .ref h3, .int mo, .int (nI op), .int ki, .int (nI (sp + i_3)), .int (nI (sp + i_3)), .int (-1), .int (f (sp + i_3))])), (h1, .inr (9, [.ref h4, .int (nI n)])), (h4, .inl (D.1 13, 1600, .inl f)), (h2, .inl (D.1 14, 179, .inl fw))] H := hP
          have hD : va_D A [(h0, .inr (6, [.int fa, .int pl, .ref h1, .ref h2, .ref h3, .int mo, .int (nI op), .int ki, .int (nI (sp + i_3)), .int (nI (sp + i_3)), .int (-1), .int (f (sp + i_3))])), (h1, .inr (9, [.ref h4, .int (nI n)])), (h4, .inl (D.1 13, 1600, .inl f)), (h2, .inl (D.1 14, 179, .inl fw))] := hD
          refine lv_aload_n hx hb dX6_advance_89 rfl (lv_at hl 0 rfl) ?_
          refine va_get (D := D) (ci := 6) (v := .int (f (sp + i_3))) (C := RX6) (T := TX6) (N := 12) hx hb ht inX6 hown hK hP 0 rfl rfl 11 (by decide) (ht (.fieldLink RX6 108 "CloneVolumes$Reader" "sign" "I") fl_X6_108) (fun _ h9 => h9) rfl dX6_advance_90 ?_
          refine lv_iconst (v := (-1)) hx hb dX6_advance_93 (by decide) ?_
          refine lv_icmp_ne (tgt := 105) hx hb dX6_advance_94 (by decide) (fun c_259 => ?_) (fun c_259 => ?_)
          · have g_260 : ¬ (f (sp + i_3)).toInt = (-1) := z_ne rfl (by decide) c_259
            refine lv_aload_n hx hb dX6_advance_105 rfl (lv_at hl 0 rfl) ?_
            refine va_get (D := D) (ci := 6) (v := .int (f (sp + i_3))) (C := RX6) (T := TX6) (N := 12) hx hb ht inX6 hown hK hP 0 rfl rfl 11 (by decide) (ht (.fieldLink RX6 108 "CloneVolumes$Reader" "sign" "I") fl_X6_108) (fun _ h9 => h9) rfl dX6_advance_106 ?_
            refine zcS (As := [.int (f (sp + i_3))]) (rest := []) (n := 1) ⟨hx, hb, hml, hown, ht⟩ (k_X6_isLetter l D (f (sp + i_3))) (zgT ml_X6_111 st_X6_isLetter in_X6 co_X6_isLetter) rfl rfl (by decide +kernel) ⟨Nat.le_of_ble_eq_true rfl, Nat.le_of_ble_eq_true rfl⟩ hK hP hS [] rfl rfl hl.1 rfl (Nat.le_of_ble_eq_true rfl) dX6_advance_109 ⟨Nat.le_of_ble_eq_true rfl, Nat.le_of_ble_eq_true rfl⟩ (fun r_261 H locs hw hP hS => ?_)
            rcases hw with ⟨rfl, g_262⟩ | ⟨rfl, g_263⟩
            · skip
              refine lv_if_eq (tgt := 176) hx hb dX6_advance_112 (by decide) (fun c_264 => (z_abs c_264 (by decide)).elim) (fun _ => ?_)
              refine lv_aload_n hx hb dX6_advance_115 rfl (lv_at hl 0 rfl) ?_
              refine lv_iconst (v := 1) hx hb dX6_advance_116 (by decide) ?_
              refine va_put (D := D) (ci := 6) (v := .int 1) (ty := .int) (C := RX6) (T := TX6) (N := 12) hx hb ht inX6 tyX6 tyX6_ok nmX6 hown hK hP hD hS 0 rfl rfl 7 (by decide) (ht (.fieldLink RX6 44 "CloneVolumes$Reader" "kind" "I") fl_X6_44) (fun _ h9 => h9) rfl (by decide +kernel) rfl rfl (Nat.le_of_ble_eq_true rfl) dX6_advance_117 (fun H locs hP hD hS => ?_)
              have hP : va_P D vwCl [(h0, .inr (6, [.int fa, .int pl, .ref h1, .ref h2, .ref h3, .int mo, .int (nI op), .int 1, .int (nI (sp + i_3)), .int (nI (sp + i_3)), .int (-1), .int (f (sp + i_3))])), (h1, .inr (9, [.ref h4, .int (nI n)])), (h4, .inl (D.1 13, 1600, .inl f)), (h2, .inl (D.1 14, 179, .inl fw))] H := hP
              have hD : va_D A [(h0, .inr (6, [.int fa, .int pl, .ref h1, .ref h2, .ref h3, .int mo, .int (nI op), .int 1, .int (nI (sp + i_3)), .int (nI (sp + i_3)), .int (-1), .int (f (sp + i_3))])), (h1, .inr (9, [.ref h4, .int (nI n)])), (h4, .inl (D.1 13, 1600, .inl f)), (h2, .inl (D.1 14, 179, .inl fw))] := hD
              refine z_loop (σ := Unit) (N := 1600) (fun i u H locs ls => ((sp + i_3) + i ≤ n) ∧ va_P D vwCl [(h0, .inr (6, [.int fa, .int pl, .ref h1, .ref h2, .ref h3, .int mo, .int (nI op), .int 1, .int (nI (sp + i_3)), .int (nI ((sp + i_3) + i)), .int (-1), .int (f (sp + i_3))])), (h1, .inr (9, [.ref h4, .int (nI n)])), (h4, .inl (D.1 13, 1600, .inl f)), (h2, .inl (D.1 14, 179, .inl fw))] H ∧ va_D A [(h0, .inr (6, [.int fa, .int pl, .ref h1, .ref h2, .ref h3, .int mo, .int (nI op), .int 1, .int (nI (sp + i_3)), .int (nI ((sp + i_3) + i)), .int (-1), .int (f (sp + i_3))])), (h1, .inr (9, [.ref h4, .int (nI n)])), (h4, .inl (D.1 13, 1600, .inl f)), (h2, .inl (D.1 14, 179, .inl fw))] ∧ va_S A s.heap H locs ∧ lv_has ls 2 [(0, .ref h0)]) (fun i_266 _u H locs ls hi_i_266 hI ih_120 => ?_) 0 () (by decide) ⟨(by first | omega | (dsimp only; omega)), hP, hD, hS, lv_sub hl [0] rfl⟩
              obtain ⟨hv_i_266, hP, hD, hS, hl⟩ := hI
              have hv_i_266 : (sp + i_3) + i_266 ≤ n := hv_i_266
              have hP : va_P D vwCl [(h0, .inr (6, [.int fa, .int pl, .ref h1, .ref h2, .ref h3, .int mo, .int (nI op), .int 1, .int (nI (sp + i_3)), .int (nI ((sp + i_3) + i_266)), .int (-1), .int (f (sp + i_3))])), (h1, .inr (9, [.ref h4, .int (nI n)])), (h4, .inl (D.1 13, 1600, .inl f)), (h2, .inl (D.1 14, 179, .inl fw))] H := hP
              have hD : va_D A [(h0, .inr (6, [.int fa, .int pl, .ref h1, .ref h2, .ref h3, .int mo, .int (nI op), .int 1, .int (nI (sp + i_3)), .int (nI ((sp + i_3) + i_266)), .int (-1), .int (f (sp + i_3))])), (h1, .inr (9, [.ref h4, .int (nI n)])), (h4, .inl (D.1 13, 1600, .inl f)), (h2, .inl (D.1 14, 179, .inl fw))] := hD
              have hl : lv_has ls 2 [(0, .ref h0)] := hl
              have hz_267 : i_266 = 0 → (f ((sp + i_3) + i_266)).toInt = (f ((sp + i_3))).toInt := fun h => by rw [h]; rfl
              refine lv_aload_n hx hb dX6_advance_120 rfl (lv_at hl 0 rfl) ?_
              refine va_get (D := D) (ci := 6) (v := .int (nI ((sp + i_3) + i_266))) (C := RX6) (T := TX6) (N := 12) hx hb ht inX6 hown hK hP 0 rfl rfl 9 (by decide) (ht (.fieldLink RX6 88 "CloneVolumes$Reader" "stop" "I") fl_X6_88) (fun _ h9 => h9) rfl dX6_advance_121 ?_
              refine lv_aload_n hx hb dX6_advance_124 rfl (lv_at hl 0 rfl) ?_
              refine va_get (D := D) (ci := 6) (v := .ref h1) (C := RX6) (T := TX6) (N := 12) hx hb ht inX6 hown hK hP 0 rfl rfl 2 (by decide) (ht (.fieldLink RX6 27 "CloneVolumes$Reader" "tape" "LCloneVolumes$Tape;") fl_X6_27) (fun _ h9 => h9) rfl dX6_advance_125 ?_
              refine va_get (D := D) (ci := 9) (v := .int (nI n)) (C := RX9) (T := TX9) (N := 2) hx hb ht inX9 hown hK hP 1 rfl rfl 1 (by decide) (ht (.fieldLink RX6 91 "CloneVolumes$Tape" "length" "I") fl_X6_91) (fun _ h9 => h9) rfl dX6_advance_128 ?_
              refine lv_icmp_ge (tgt := 165) hx hb dX6_advance_131 (by decide) (fun c_268 => ?_) (fun c_268 => ?_)
              · have g_269 : ((n : Nat) : Int) ≤ (((sp + i_3) + i_266 : Nat) : Int) := z_le (nI_toInt (by omega)) (nI_toInt (by omega)) c_268
                refine lv_aload_n hx hb dX6_advance_165 rfl (lv_at hl 0 rfl) ?_
                refine lv_aload_n hx hb dX6_advance_166 rfl (lv_at hl 0 rfl) ?_
                refine zcV (As := []) (rest := [.ref h0]) (C := RX6) (n := 0) ⟨hx, hb, hml, hown, ht⟩ (k_X6_wordNumber l D h0 h1 h2 h3 h4 fa pl mo 1 (-1) (f (sp + i_3)) op (sp + i_3) ((sp + i_3) + i_266) n f fw (by first | decide | omega) (by first | decide | omega) (by first | decide | omega)) (zgV ml_X6_114 im_X6_wordNumber se_X6_wordNumber in_X6 co_X6_wordNumber) rfl rfl (by decide +kernel) ⟨Nat.le_of_ble_eq_true rfl, Nat.le_of_ble_eq_true rfl⟩ hK hP hS [0, 1, 2, 3] rfl 0 rfl rfl rfl rfl hl.1 rfl (Nat.le_of_ble_eq_true rfl) dX6_advance_167 ⟨Nat.le_of_ble_eq_true rfl, Nat.le_of_ble_eq_true rfl⟩ (fun r_270 H locs hw hP hS => ?_)
                refine va_put (D := D) (ci := 6) (v := .int r_270) (ty := .int) (C := RX6) (T := TX6) (N := 12) hx hb ht inX6 tyX6 tyX6_ok nmX6 hown hK hP hD hS 0 rfl rfl 10 (by decide) (ht (.fieldLink RX6 72 "CloneVolumes$Reader" "word" "I") fl_X6_72) (fun _ h9 => h9) rfl (by decide +kernel) rfl rfl (Nat.le_of_ble_eq_true rfl) dX6_advance_170 (fun H locs hP hD hS => ?_)
                have hP : va_P D vwCl [(h0, .inr (6, [.int fa, .int pl, .ref h1, .ref h2, .ref h3, .int mo, .int (nI op), .int 1, .int (nI (sp + i_3)), .int (nI ((sp + i_3) + i_266)), .int r_270, .int (f (sp + i_3))])), (h1, .inr (9, [.ref h4, .int (nI n)])), (h4, .inl (D.1 13, 1600, .inl f)), (h2, .inl (D.1 14, 179, .inl fw))] H := hP
                have hD : va_D A [(h0, .inr (6, [.int fa, .int pl, .ref h1, .ref h2, .ref h3, .int mo, .int (nI op), .int 1, .int (nI (sp + i_3)), .int (nI ((sp + i_3) + i_266)), .int r_270, .int (f (sp + i_3))])), (h1, .inr (9, [.ref h4, .int (nI n)])), (h4, .inl (D.1 13, 1600, .inl f)), (h2, .inl (D.1 14, 179, .inl fw))] := hD
                refine lv_goto (tgt := 251) hx hb dX6_advance_173 (by decide) ?_
                refine lv_aload_n hx hb dX6_advance_251 rfl (lv_at hl 0 rfl) ?_
                refine va_get (D := D) (ci := 6) (v := .ref h1) (C := RX6) (T := TX6) (N := 12) hx hb ht inX6 hown hK hP 0 rfl rfl 2 (by decide) (ht (.fieldLink RX6 27 "CloneVolumes$Reader" "tape" "LCloneVolumes$Tape;") fl_X6_27) (fun _ h9 => h9) rfl dX6_advance_252 ?_
                refine lv_aload_n hx hb dX6_advance_255 rfl (lv_at hl 0 rfl) ?_
                refine va_get (D := D) (ci := 6) (v := .int (nI (sp + i_3))) (C := RX6) (T := TX6) (N := 12) hx hb ht inX6 hown hK hP 0 rfl rfl 8 (by decide) (ht (.fieldLink RX6 51 "CloneVolumes$Reader" "start" "I") fl_X6_51) (fun _ h9 => h9) rfl dX6_advance_256 ?_
                refine lv_iconst (v := 1) hx hb dX6_advance_259 (by decide) ?_
                refine lv_isub hx hb dX6_advance_260 ?_
                refine lv_topi (fun x_271 ex_271 => ?_)
                refine zcV (As := [.int x_271]) (rest := []) (C := RX9) (n := 1) ⟨hx, hb, hml, hown, ht⟩ (k_X9_at l D h1 h4 n f x_271 (by first | decide | omega)) (zgV ml_X6_104 im_X9_at se_X9_at in_X9 co_X9_at) rfl rfl (by decide +kernel) ⟨Nat.le_of_ble_eq_true rfl, Nat.le_of_ble_eq_true rfl⟩ hK hP hS [1, 2] rfl 0 rfl rfl rfl rfl hl.1 rfl (Nat.le_of_ble_eq_true rfl) dX6_advance_261 ⟨Nat.le_of_ble_eq_true rfl, Nat.le_of_ble_eq_true rfl⟩ (fun r_272 H locs hw hP hS => ?_)
                rcases hw with ⟨rfl, g_273⟩ | ⟨rfl, g_274⟩
                · skip
                  refine lv_istore_n (lv' := [(1, .int (f x_271.toNatClampNeg)), (0, .ref h0)]) hx hb dX6_advance_264 rfl hl (by decide) rfl (fun ls hl => ?_)
                  refine lv_aload_n hx hb dX6_advance_265 rfl (lv_at hl 1 rfl) ?_
                  refine va_get (D := D) (ci := 6) (v := .int 1) (C := RX6) (T := TX6) (N := 12) hx hb ht inX6 hown hK hP 0 rfl rfl 7 (by decide) (ht (.fieldLink RX6 44 "CloneVolumes$Reader" "kind" "I") fl_X6_44) (fun _ h9 => h9) rfl dX6_advance_266 ?_
                  refine lv_iconst (v := 1) hx hb dX6_advance_269 (by decide) ?_
                  refine lv_icmp_eq (tgt := 281) hx hb dX6_advance_270 (by decide) (fun _ => ?_) (fun c_275 => (z_abs c_275 (by decide)).elim)
                  refine lv_iload_n hx hb dX6_advance_281 rfl (lv_at hl 0 rfl) ?_
                  refine zcS (As := [.int (f x_271.toNatClampNeg)]) (rest := []) (n := 1) ⟨hx, hb, hml, hown, ht⟩ (k_X6_isLetter l D (f x_271.toNatClampNeg)) (zgT ml_X6_111 st_X6_isLetter in_X6 co_X6_isLetter) rfl rfl (by decide +kernel) ⟨Nat.le_of_ble_eq_true rfl, Nat.le_of_ble_eq_true rfl⟩ hK hP hS [] rfl rfl hl.1 rfl (Nat.le_of_ble_eq_true rfl) dX6_advance_282 ⟨Nat.le_of_ble_eq_true rfl, Nat.le_of_ble_eq_true rfl⟩ (fun r_277 H locs hw hP hS => ?_)
                  rcases hw with ⟨rfl, g_278⟩ | ⟨rfl, g_279⟩
                  · skip
                    refine lv_if_ne (tgt := 295) hx hb dX6_advance_285 (by decide) (fun _ => ?_) (fun c_280 => (z_abs c_280 (by decide)).elim)
                    refine lv_aload_n hx hb dX6_advance_295 rfl (lv_at hl 1 rfl) ?_
                    refine lv_iconst (v := 4) hx hb dX6_advance_296 (by decide) ?_
                    refine va_put (D := D) (ci := 6) (v := .int 4) (ty := .int) (C := RX6) (T := TX6) (N := 12) hx hb ht inX6 tyX6 tyX6_ok nmX6 hown hK hP hD hS 0 rfl rfl 7 (by decide) (ht (.fieldLink RX6 44 "CloneVolumes$Reader" "kind" "I") fl_X6_44) (fun _ h9 => h9) rfl (by decide +kernel) rfl rfl (Nat.le_of_ble_eq_true rfl) dX6_advance_297 (fun H locs hP hD hS => ?_)
                    have hP : va_P D vwCl [(h0, .inr (6, [.int fa, .int pl, .ref h1, .ref h2, .ref h3, .int mo, .int (nI op), .int 4, .int (nI (sp + i_3)), .int (nI ((sp + i_3) + i_266)), .int r_270, .int (f (sp + i_3))])), (h1, .inr (9, [.ref h4, .int (nI n)])), (h4, .inl (D.1 13, 1600, .inl f)), (h2, .inl (D.1 14, 179, .inl fw))] H := hP
                    have hD : va_D A [(h0, .inr (6, [.int fa, .int pl, .ref h1, .ref h2, .ref h3, .int mo, .int (nI op), .int 4, .int (nI (sp + i_3)), .int (nI ((sp + i_3) + i_266)), .int r_270, .int (f (sp + i_3))])), (h1, .inr (9, [.ref h4, .int (nI n)])), (h4, .inl (D.1 13, 1600, .inl f)), (h2, .inl (D.1 14, 179, .inl fw))] := hD
                    have hP9 := hP.sub (ws' := [(h0, .inr (6, [.int fa, .int pl, .ref h1, .ref h2, .ref h3, .int mo, .int (nI op), .int 4, .int (nI (sp + i_3)), .int (nI ((sp + i_3) + i_266)), .int r_270, .int (f (sp + i_3))])), (h1, .inr (9, [.ref h4, .int (nI n)])), (h4, .inl (D.1 13, 1600, .inl f)), (h2, .inl (D.1 14, 179, .inl fw))]) [0, 1, 2, 3] rfl
                    have hD9 := hD.sub (ws' := [(h0, .inr (6, [.int fa, .int pl, .ref h1, .ref h2, .ref h3, .int mo, .int (nI op), .int 4, .int (nI (sp + i_3)), .int (nI ((sp + i_3) + i_266)), .int r_270, .int (f (sp + i_3))])), (h1, .inr (9, [.ref h4, .int (nI n)])), (h4, .inl (D.1 13, 1600, .inl f)), (h2, .inl (D.1 14, 179, .inl fw))]) [0, 1, 2, 3] (by decide) rfl
                    refine W.widen (k := 0) (n := 0) (Nat.le_of_ble_eq_true rfl) (Nat.le_of_ble_eq_true rfl) ?_
                    exact W.vret hx hb hr (fun t ht hW => ⟨⟨(4, (sp + i_3), ((sp + i_3) + i_266), r_270, (f (sp + i_3))), rfl, (by first | omega | (dsimp only; omega)), by rw [ht]; exact hP9, va_K.moved hW.alike hK, hD9⟩, hS.F ht⟩) hS.2.2 dX6_advance_300
                  · skip
                    refine lv_if_ne (tgt := 295) hx hb dX6_advance_285 (by decide) (fun c_282 => (z_abs c_282 (by decide)).elim) (fun _ => ?_)
                    refine lv_iload_n hx hb dX6_advance_288 rfl (lv_at hl 0 rfl) ?_
                    refine zcS (As := [.int (f x_271.toNatClampNeg)]) (rest := []) (n := 1) ⟨hx, hb, hml, hown, ht⟩ (k_X6_isDigit l D (f x_271.toNatClampNeg)) (zgT ml_X6_118 st_X6_isDigit in_X6 co_X6_isDigit) rfl rfl (by decide +kernel) ⟨Nat.le_of_ble_eq_true rfl, Nat.le_of_ble_eq_true rfl⟩ hK hP hS [] rfl rfl hl.1 rfl (Nat.le_of_ble_eq_true rfl) dX6_advance_289 ⟨Nat.le_of_ble_eq_true rfl, Nat.le_of_ble_eq_true rfl⟩ (fun r_284 H locs hw hP hS => ?_)
                    rcases hw with ⟨rfl, g_285⟩ | ⟨rfl, g_286⟩
                    · skip
                      refine lv_if_eq (tgt := 300) hx hb dX6_advance_292 (by decide) (fun c_287 => (z_abs c_287 (by decide)).elim) (fun _ => ?_)
                      refine lv_aload_n hx hb dX6_advance_295 rfl (lv_at hl 1 rfl) ?_
                      refine lv_iconst (v := 4) hx hb dX6_advance_296 (by decide) ?_
                      refine va_put (D := D) (ci := 6) (v := .int 4) (ty := .int) (C := RX6) (T := TX6) (N := 12) hx hb ht inX6 tyX6 tyX6_ok nmX6 hown hK hP hD hS 0 rfl rfl 7 (by decide) (ht (.fieldLink RX6 44 "CloneVolumes$Reader" "kind" "I") fl_X6_44) (fun _ h9 => h9) rfl (by decide +kernel) rfl rfl (Nat.le_of_ble_eq_true rfl) dX6_advance_297 (fun H locs hP hD hS => ?_)
                      have hP : va_P D vwCl [(h0, .inr (6, [.int fa, .int pl, .ref h1, .ref h2, .ref h3, .int mo, .int (nI op), .int 4, .int (nI (sp + i_3)), .int (nI ((sp + i_3) + i_266)), .int r_270, .int (f (sp + i_3))])), (h1, .inr (9, [.ref h4, .int (nI n)])), (h4, .inl (D.1 13, 1600, .inl f)), (h2, .inl (D.1 14, 179, .inl fw))] H := hP
                      have hD : va_D A [(h0, .inr (6, [.int fa, .int pl, .ref h1, .ref h2, .ref h3, .int mo, .int (nI op), .int 4, .int (nI (sp + i_3)), .int (nI ((sp + i_3) + i_266)), .int r_270, .int (f (sp + i_3))])), (h1, .inr (9, [.ref h4, .int (nI n)])), (h4, .inl (D.1 13, 1600, .inl f)), (h2, .inl (D.1 14, 179, .inl fw))] := hD
                      have hP9 := hP.sub (ws' := [(h0, .inr (6, [.int fa, .int pl, .ref h1, .ref h2, .ref h3, .int mo, .int (nI op), .int 4, .int (nI (sp + i_3)), .int (nI ((sp + i_3) + i_266)), .int r_270, .int (f (sp + i_3))])), (h1, .inr (9, [.ref h4, .int (nI n)])), (h4, .inl (D.1 13, 1600, .inl f)), (h2, .inl (D.1 14, 179, .inl fw))]) [0, 1, 2, 3] rfl
                      have hD9 := hD.sub (ws' := [(h0, .inr (6, [.int fa, .int pl, .ref h1, .ref h2, .ref h3, .int mo, .int (nI op), .int 4, .int (nI (sp + i_3)), .int (nI ((sp + i_3) + i_266)), .int r_270, .int (f (sp + i_3))])), (h1, .inr (9, [.ref h4, .int (nI n)])), (h4, .inl (D.1 13, 1600, .inl f)), (h2, .inl (D.1 14, 179, .inl fw))]) [0, 1, 2, 3] (by decide) rfl
                      refine W.widen (k := 0) (n := 0) (Nat.le_of_ble_eq_true rfl) (Nat.le_of_ble_eq_true rfl) ?_
                      exact W.vret hx hb hr (fun t ht hW => ⟨⟨(4, (sp + i_3), ((sp + i_3) + i_266), r_270, (f (sp + i_3))), rfl, (by first | omega | (dsimp only; omega)), by rw [ht]; exact hP9, va_K.moved hW.alike hK, hD9⟩, hS.F ht⟩) hS.2.2 dX6_advance_300
                    · skip
                      refine lv_if_eq (tgt := 300) hx hb dX6_advance_292 (by decide) (fun _ => ?_) (fun c_289 => (z_abs c_289 (by decide)).elim)
                      have hP9 := hP.sub (ws' := [(h0, .inr (6, [.int fa, .int pl, .ref h1, .ref h2, .ref h3, .int mo, .int (nI op), .int 1, .int (nI (sp + i_3)), .int (nI ((sp + i_3) + i_266)), .int r_270, .int (f (sp + i_3))])), (h1, .inr (9, [.ref h4, .int (nI n)])), (h4, .inl (D.1 13, 1600, .inl f)), (h2, .inl (D.1 14, 179, .inl fw))]) [0, 1, 2, 3] rfl
                      have hD9 := hD.sub (ws' := [(h0, .inr (6, [.int fa, .int pl, .ref h1, .ref h2, .ref h3, .int mo, .int (nI op), .int 1, .int (nI (sp + i_3)), .int (nI ((sp + i_3) + i_266)), .int r_270, .int (f (sp + i_3))])), (h1, .inr (9, [.ref h4, .int (nI n)])), (h4, .inl (D.1 13, 1600, .inl f)), (h2, .inl (D.1 14, 179, .inl fw))]) [0, 1, 2, 3] (by decide) rfl
                      refine W.widen (k := 0) (n := 0) (Nat.le_of_ble_eq_true rfl) (Nat.le_of_ble_eq_true rfl) ?_
                      exact W.vret hx hb hr (fun t ht hW => ⟨⟨(1, (sp + i_3), ((sp + i_3) + i_266), r_270, (f (sp + i_3))), rfl, (by first | omega | (dsimp only; omega)), by rw [ht]; exact hP9, va_K.moved hW.alike hK, hD9⟩, hS.F ht⟩) hS.2.2 dX6_advance_300
                · skip
                  refine lv_istore_n (lv' := [(1, .int (-1)), (0, .ref h0)]) hx hb dX6_advance_264 rfl hl (by decide) rfl (fun ls hl => ?_)
                  refine lv_aload_n hx hb dX6_advance_265 rfl (lv_at hl 1 rfl) ?_
                  refine va_get (D := D) (ci := 6) (v := .int 1) (C := RX6) (T := TX6) (N := 12) hx hb ht inX6 hown hK hP 0 rfl rfl 7 (by decide) (ht (.fieldLink RX6 44 "CloneVolumes$Reader" "kind" "I") fl_X6_44) (fun _ h9 => h9) rfl dX6_advance_266 ?_
                  refine lv_iconst (v := 1) hx hb dX6_advance_269 (by decide) ?_
                  refine lv_icmp_eq (tgt := 281) hx hb dX6_advance_270 (by decide) (fun _ => ?_) (fun c_291 => (z_abs c_291 (by decide)).elim)
                  refine lv_iload_n hx hb dX6_advance_281 rfl (lv_at hl 0 rfl) ?_
                  have en_293 : ((-1) : Int32).toInt = (-1) := by decide
                  refine zcS (As := [.int (-1)]) (rest := []) (n := 1) ⟨hx, hb, hml, hown, ht⟩ (k_X6_isLetter l D (-1)) (zgT ml_X6_111 st_X6_isLetter in_X6 co_X6_isLetter) rfl rfl (by decide +kernel) ⟨Nat.le_of_ble_eq_true rfl, Nat.le_of_ble_eq_true rfl⟩ hK hP hS [] rfl rfl hl.1 rfl (Nat.le_of_ble_eq_true rfl) dX6_advance_282 ⟨Nat.le_of_ble_eq_true rfl, Nat.le_of_ble_eq_true rfl⟩ (fun r_294 H locs hw hP hS => ?_)
                  rcases hw with ⟨rfl, g_295⟩ | ⟨rfl, g_296⟩
                  · skip
                    refine lv_if_ne (tgt := 295) hx hb dX6_advance_285 (by decide) (fun _ => ?_) (fun c_297 => (z_abs c_297 (by decide)).elim)
                    refine lv_aload_n hx hb dX6_advance_295 rfl (lv_at hl 1 rfl) ?_
                    refine lv_iconst (v := 4) hx hb dX6_advance_296 (by decide) ?_
                    refine va_put (D := D) (ci := 6) (v := .int 4) (ty := .int) (C := RX6) (T := TX6) (N := 12) hx hb ht inX6 tyX6 tyX6_ok nmX6 hown hK hP hD hS 0 rfl rfl 7 (by decide) (ht (.fieldLink RX6 44 "CloneVolumes$Reader" "kind" "I") fl_X6_44) (fun _ h9 => h9) rfl (by decide +kernel) rfl rfl (Nat.le_of_ble_eq_true rfl) dX6_advance_297 (fun H locs hP hD hS => ?_)
                    have hP : va_P D vwCl [(h0, .inr (6, [.int fa, .int pl, .ref h1, .ref h2, .ref h3, .int mo, .int (nI op), .int 4, .int (nI (sp + i_3)), .int (nI ((sp + i_3) + i_266)), .int r_270, .int (f (sp + i_3))])), (h1, .inr (9, [.ref h4, .int (nI n)])), (h4, .inl (D.1 13, 1600, .inl f)), (h2, .inl (D.1 14, 179, .inl fw))] H := hP
                    have hD : va_D A [(h0, .inr (6, [.int fa, .int pl, .ref h1, .ref h2, .ref h3, .int mo, .int (nI op), .int 4, .int (nI (sp + i_3)), .int (nI ((sp + i_3) + i_266)), .int r_270, .int (f (sp + i_3))])), (h1, .inr (9, [.ref h4, .int (nI n)])), (h4, .inl (D.1 13, 1600, .inl f)), (h2, .inl (D.1 14, 179, .inl fw))] := hD
                    have hP9 := hP.sub (ws' := [(h0, .inr (6, [.int fa, .int pl, .ref h1, .ref h2, .ref h3, .int mo, .int (nI op), .int 4, .int (nI (sp + i_3)), .int (nI ((sp + i_3) + i_266)), .int r_270, .int (f (sp + i_3))])), (h1, .inr (9, [.ref h4, .int (nI n)])), (h4, .inl (D.1 13, 1600, .inl f)), (h2, .inl (D.1 14, 179, .inl fw))]) [0, 1, 2, 3] rfl
                    have hD9 := hD.sub (ws' := [(h0, .inr (6, [.int fa, .int pl, .ref h1, .ref h2, .ref h3, .int mo, .int (nI op), .int 4, .int (nI (sp + i_3)), .int (nI ((sp + i_3) + i_266)), .int r_270, .int (f (sp + i_3))])), (h1, .inr (9, [.ref h4, .int (nI n)])), (h4, .inl (D.1 13, 1600, .inl f)), (h2, .inl (D.1 14, 179, .inl fw))]) [0, 1, 2, 3] (by decide) rfl
                    refine W.widen (k := 0) (n := 0) (Nat.le_of_ble_eq_true rfl) (Nat.le_of_ble_eq_true rfl) ?_
                    exact W.vret hx hb hr (fun t ht hW => ⟨⟨(4, (sp + i_3), ((sp + i_3) + i_266), r_270, (f (sp + i_3))), rfl, (by first | omega | (dsimp only; omega)), by rw [ht]; exact hP9, va_K.moved hW.alike hK, hD9⟩, hS.F ht⟩) hS.2.2 dX6_advance_300
                  · skip
                    refine lv_if_ne (tgt := 295) hx hb dX6_advance_285 (by decide) (fun c_299 => (z_abs c_299 (by decide)).elim) (fun _ => ?_)
                    refine lv_iload_n hx hb dX6_advance_288 rfl (lv_at hl 0 rfl) ?_
                    have en_301 : ((-1) : Int32).toInt = (-1) := by decide
                    refine zcS (As := [.int (-1)]) (rest := []) (n := 1) ⟨hx, hb, hml, hown, ht⟩ (k_X6_isDigit l D (-1)) (zgT ml_X6_118 st_X6_isDigit in_X6 co_X6_isDigit) rfl rfl (by decide +kernel) ⟨Nat.le_of_ble_eq_true rfl, Nat.le_of_ble_eq_true rfl⟩ hK hP hS [] rfl rfl hl.1 rfl (Nat.le_of_ble_eq_true rfl) dX6_advance_289 ⟨Nat.le_of_ble_eq_true rfl, Nat.le_of_ble_eq_true rfl⟩ (fun r_302 H locs hw hP hS => ?_)
                    rcases hw with ⟨rfl, g_303⟩ | ⟨rfl, g_304⟩
                    · skip
                      refine lv_if_eq (tgt := 300) hx hb dX6_advance_292 (by decide) (fun c_305 => (z_abs c_305 (by decide)).elim) (fun _ => ?_)
                      refine lv_aload_n hx hb dX6_advance_295 rfl (lv_at hl 1 rfl) ?_
                      refine lv_iconst (v := 4) hx hb dX6_advance_296 (by decide) ?_
                      refine va_put (D := D) (ci := 6) (v := .int 4) (ty := .int) (C := RX6) (T := TX6) (N := 12) hx hb ht inX6 tyX6 tyX6_ok nmX6 hown hK hP hD hS 0 rfl rfl 7 (by decide) (ht (.fieldLink RX6 44 "CloneVolumes$Reader" "kind" "I") fl_X6_44) (fun _ h9 => h9) rfl (by decide +kernel) rfl rfl (Nat.le_of_ble_eq_true rfl) dX6_advance_297 (fun H locs hP hD hS => ?_)
                      have hP : va_P D vwCl [(h0, .inr (6, [.int fa, .int pl, .ref h1, .ref h2, .ref h3, .int mo, .int (nI op), .int 4, .int (nI (sp + i_3)), .int (nI ((sp + i_3) + i_266)), .int r_270, .int (f (sp + i_3))])), (h1, .inr (9, [.ref h4, .int (nI n)])), (h4, .inl (D.1 13, 1600, .inl f)), (h2, .inl (D.1 14, 179, .inl fw))] H := hP
                      have hD : va_D A [(h0, .inr (6, [.int fa, .int pl, .ref h1, .ref h2, .ref h3, .int mo, .int (nI op), .int 4, .int (nI (sp + i_3)), .int (nI ((sp + i_3) + i_266)), .int r_270, .int (f (sp + i_3))])), (h1, .inr (9, [.ref h4, .int (nI n)])), (h4, .inl (D.1 13, 1600, .inl f)), (h2, .inl (D.1 14, 179, .inl fw))] := hD
                      have hP9 := hP.sub (ws' := [(h0, .inr (6, [.int fa, .int pl, .ref h1, .ref h2, .ref h3, .int mo, .int (nI op), .int 4, .int (nI (sp + i_3)), .int (nI ((sp + i_3) + i_266)), .int r_270, .int (f (sp + i_3))])), (h1, .inr (9, [.ref h4, .int (nI n)])), (h4, .inl (D.1 13, 1600, .inl f)), (h2, .inl (D.1 14, 179, .inl fw))]) [0, 1, 2, 3] rfl
                      have hD9 := hD.sub (ws' := [(h0, .inr (6, [.int fa, .int pl, .ref h1, .ref h2, .ref h3, .int mo, .int (nI op), .int 4, .int (nI (sp + i_3)), .int (nI ((sp + i_3) + i_266)), .int r_270, .int (f (sp + i_3))])), (h1, .inr (9, [.ref h4, .int (nI n)])), (h4, .inl (D.1 13, 1600, .inl f)), (h2, .inl (D.1 14, 179, .inl fw))]) [0, 1, 2, 3] (by decide) rfl
                      refine W.widen (k := 0) (n := 0) (Nat.le_of_ble_eq_true rfl) (Nat.le_of_ble_eq_true rfl) ?_
                      exact W.vret hx hb hr (fun t ht hW => ⟨⟨(4, (sp + i_3), ((sp + i_3) + i_266), r_270, (f (sp + i_3))), rfl, (by first | omega | (dsimp only; omega)), by rw [ht]; exact hP9, va_K.moved hW.alike hK, hD9⟩, hS.F ht⟩) hS.2.2 dX6_advance_300
                    · skip
                      refine lv_if_eq (tgt := 300) hx hb dX6_advance_292 (by decide) (fun _ => ?_) (fun c_307 => (z_abs c_307 (by decide)).elim)
                      have hP9 := hP.sub (ws' := [(h0, .inr (6, [.int fa, .int pl, .ref h1, .ref h2, .ref h3, .int mo, .int (nI op), .int 1, .int (nI (sp + i_3)), .int (nI ((sp + i_3) + i_266)), .int r_270, .int (f (sp + i_3))])), (h1, .inr (9, [.ref h4, .int (nI n)])), (h4, .inl (D.1 13, 1600, .inl f)), (h2, .inl (D.1 14, 179, .inl fw))]) [0, 1, 2, 3] rfl
                      have hD9 := hD.sub (ws' := [(h0, .inr (6, [.int fa, .int pl, .ref h1, .ref h2, .ref h3, .int mo, .int (nI op), .int 1, .int (nI (sp + i_3)), .int (nI ((sp + i_3) + i_266)), .int r_270, .int (f (sp + i_3))])), (h1, .inr (9, [.ref h4, .int (nI n)])), (h4, .inl (D.1 13, 1600, .inl f)), (h2, .inl (D.1 14, 179, .inl fw))]) [0, 1, 2, 3] (by decide) rfl
                      refine W.widen (k := 0) (n := 0) (Nat.le_of_ble_eq_true rfl) (Nat.le_of_ble_eq_true rfl) ?_
                      exact W.vret hx hb hr (fun t ht hW => ⟨⟨(1, (sp + i_3), ((sp + i_3) + i_266), r_270, (f (sp + i_3))), rfl, (by first | omega | (dsimp only; omega)), by rw [ht]; exact hP9, va_K.moved hW.alike hK, hD9⟩, hS.F ht⟩) hS.2.2 dX6_advance_300
              · have g_269 : (((sp + i_3) + i_266 : Nat) : Int) < ((n : Nat) : Int) := z_nle (nI_toInt (by omega)) (nI_toInt (by omega)) c_268
                refine lv_aload_n hx hb dX6_advance_134 rfl (lv_at hl 0 rfl) ?_
                refine va_get (D := D) (ci := 6) (v := .ref h1) (C := RX6) (T := TX6) (N := 12) hx hb ht inX6 hown hK hP 0 rfl rfl 2 (by decide) (ht (.fieldLink RX6 27 "CloneVolumes$Reader" "tape" "LCloneVolumes$Tape;") fl_X6_27) (fun _ h9 => h9) rfl dX6_advance_135 ?_
                refine va_get (D := D) (ci := 9) (v := .ref h4) (C := RX9) (T := TX9) (N := 2) hx hb ht inX9 hown hK hP 1 rfl rfl 0 (by decide) (ht (.fieldLink RX6 96 "CloneVolumes$Tape" "bytes" "[I") fl_X6_96) (fun _ h9 => h9) rfl dX6_advance_138 ?_
                refine lv_aload_n hx hb dX6_advance_141 rfl (lv_at hl 0 rfl) ?_
                refine va_get (D := D) (ci := 6) (v := .int (nI ((sp + i_3) + i_266))) (C := RX6) (T := TX6) (N := 12) hx hb ht inX6 hown hK hP 0 rfl rfl 9 (by decide) (ht (.fieldLink RX6 88 "CloneVolumes$Reader" "stop" "I") fl_X6_88) (fun _ h9 => h9) rfl dX6_advance_142 ?_
                refine va_iald hx hb hK hP 2 0 rfl rfl (vp_in_nI (by omega) (by omega)) dX6_advance_145 ?_
                refine z_topi (y := f ((sp + i_3) + i_266)) (by rw [nI_clamp (by omega)]) ?_
                refine zcS (As := [.int (f ((sp + i_3) + i_266))]) (rest := []) (n := 1) ⟨hx, hb, hml, hown, ht⟩ (k_X6_isLetter l D (f ((sp + i_3) + i_266))) (zgT ml_X6_111 st_X6_isLetter in_X6 co_X6_isLetter) rfl rfl (by decide +kernel) ⟨Nat.le_of_ble_eq_true rfl, Nat.le_of_ble_eq_true rfl⟩ hK hP hS [] rfl rfl hl.1 rfl (Nat.le_of_ble_eq_true rfl) dX6_advance_146 ⟨Nat.le_of_ble_eq_true rfl, Nat.le_of_ble_eq_true rfl⟩ (fun r_309 H locs hw hP hS => ?_)
                rcases hw with ⟨rfl, g_310⟩ | ⟨rfl, g_311⟩
                · skip
                  refine lv_if_eq (tgt := 165) hx hb dX6_advance_149 (by decide) (fun c_312 => (z_abs c_312 (by decide)).elim) (fun _ => ?_)
                  refine lv_aload_n hx hb dX6_advance_152 rfl (lv_at hl 0 rfl) ?_
                  refine lv_dup hx hb dX6_advance_153 rfl ?_
                  refine va_get (D := D) (ci := 6) (v := .int (nI ((sp + i_3) + i_266))) (C := RX6) (T := TX6) (N := 12) hx hb ht inX6 hown hK hP 0 rfl rfl 9 (by decide) (ht (.fieldLink RX6 88 "CloneVolumes$Reader" "stop" "I") fl_X6_88) (fun _ h9 => h9) rfl dX6_advance_154 ?_
                  refine lv_iconst (v := 1) hx hb dX6_advance_157 (by decide) ?_
                  refine lv_iadd hx hb dX6_advance_158 ?_
                  refine z_topi (y := nI (((sp + i_3) + i_266) + 1)) (z_nadd ((sp + i_3) + i_266) 1) ?_
                  refine va_put (D := D) (ci := 6) (v := .int (nI (((sp + i_3) + i_266) + 1))) (ty := .int) (C := RX6) (T := TX6) (N := 12) hx hb ht inX6 tyX6 tyX6_ok nmX6 hown hK hP hD hS 0 rfl rfl 9 (by decide) (ht (.fieldLink RX6 88 "CloneVolumes$Reader" "stop" "I") fl_X6_88) (fun _ h9 => h9) rfl (by decide +kernel) rfl rfl (Nat.le_of_ble_eq_true rfl) dX6_advance_159 (fun H locs hP hD hS => ?_)
                  have hP : va_P D vwCl [(h0, .inr (6, [.int fa, .int pl, .ref h1, .ref h2, .ref h3, .int mo, .int (nI op), .int 1, .int (nI (sp + i_3)), .int (nI (((sp + i_3) + i_266) + 1)), .int (-1), .int (f (sp + i_3))])), (h1, .inr (9, [.ref h4, .int (nI n)])), (h4, .inl (D.1 13, 1600, .inl f)), (h2, .inl (D.1 14, 179, .inl fw))] H := hP
                  have hD : va_D A [(h0, .inr (6, [.int fa, .int pl, .ref h1, .ref h2, .ref h3, .int mo, .int (nI op), .int 1, .int (nI (sp + i_3)), .int (nI (((sp + i_3) + i_266) + 1)), .int (-1), .int (f (sp + i_3))])), (h1, .inr (9, [.ref h4, .int (nI n)])), (h4, .inl (D.1 13, 1600, .inl f)), (h2, .inl (D.1 14, 179, .inl fw))] := hD
                  refine lv_goto (tgt := 120) hx hb dX6_advance_162 (by decide) ?_
                  rw [show ((sp + i_3) + i_266) + 1 = (sp + i_3) + (i_266 + 1) by omega] at hP hD
                  exact ih_120 () _ _ _ (by omega) ⟨(by first | omega | (dsimp only; omega)), hP.sub [0, 1, 2, 3] rfl, hD.sub [0, 1, 2, 3] (by decide) rfl, hS, lv_sub hl [0] rfl⟩
                · skip
                  refine lv_if_eq (tgt := 165) hx hb dX6_advance_149 (by decide) (fun _ => ?_) (fun c_314 => (z_abs c_314 (by decide)).elim)
                  refine lv_aload_n hx hb dX6_advance_165 rfl (lv_at hl 0 rfl) ?_
                  refine lv_aload_n hx hb dX6_advance_166 rfl (lv_at hl 0 rfl) ?_
                  refine zcV (As := []) (rest := [.ref h0]) (C := RX6) (n := 0) ⟨hx, hb, hml, hown, ht⟩ (k_X6_wordNumber l D h0 h1 h2 h3 h4 fa pl mo 1 (-1) (f (sp + i_3)) op (sp + i_3) ((sp + i_3) + i_266) n f fw (by first | decide | omega) (by first | decide | omega) (by first | decide | omega)) (zgV ml_X6_114 im_X6_wordNumber se_X6_wordNumber in_X6 co_X6_wordNumber) rfl rfl (by decide +kernel) ⟨Nat.le_of_ble_eq_true rfl, Nat.le_of_ble_eq_true rfl⟩ hK hP hS [0, 1, 2, 3] rfl 0 rfl rfl rfl rfl hl.1 rfl (Nat.le_of_ble_eq_true rfl) dX6_advance_167 ⟨Nat.le_of_ble_eq_true rfl, Nat.le_of_ble_eq_true rfl⟩ (fun r_316 H locs hw hP hS => ?_)
                  refine va_put (D := D) (ci := 6) (v := .int r_316) (ty := .int) (C := RX6) (T := TX6) (N := 12) hx hb ht inX6 tyX6 tyX6_ok nmX6 hown hK hP hD hS 0 rfl rfl 10 (by decide) (ht (.fieldLink RX6 72 "CloneVolumes$Reader" "word" "I") fl_X6_72) (fun _ h9 => h9) rfl (by decide +kernel) rfl rfl (Nat.le_of_ble_eq_true rfl) dX6_advance_170 (fun H locs hP hD hS => ?_)
                  have hP : va_P D vwCl [(h0, .inr (6, [.int fa, .int pl, .ref h1, .ref h2, .ref h3, .int mo, .int (nI op), .int 1, .int (nI (sp + i_3)), .int (nI ((sp + i_3) + i_266)), .int r_316, .int (f (sp + i_3))])), (h1, .inr (9, [.ref h4, .int (nI n)])), (h4, .inl (D.1 13, 1600, .inl f)), (h2, .inl (D.1 14, 179, .inl fw))] H := hP
                  have hD : va_D A [(h0, .inr (6, [.int fa, .int pl, .ref h1, .ref h2, .ref h3, .int mo, .int (nI op), .int 1, .int (nI (sp + i_3)), .int (nI ((sp + i_3) + i_266)), .int r_316, .int (f (sp + i_3))])), (h1, .inr (9, [.ref h4, .int (nI n)])), (h4, .inl (D.1 13, 1600, .inl f)), (h2, .inl (D.1 14, 179, .inl fw))] := hD
                  refine lv_goto (tgt := 251) hx hb dX6_advance_173 (by decide) ?_
                  refine lv_aload_n hx hb dX6_advance_251 rfl (lv_at hl 0 rfl) ?_
                  refine va_get (D := D) (ci := 6) (v := .ref h1) (C := RX6) (T := TX6) (N := 12) hx hb ht inX6 hown hK hP 0 rfl rfl 2 (by decide) (ht (.fieldLink RX6 27 "CloneVolumes$Reader" "tape" "LCloneVolumes$Tape;") fl_X6_27) (fun _ h9 => h9) rfl dX6_advance_252 ?_
                  refine lv_aload_n hx hb dX6_advance_255 rfl (lv_at hl 0 rfl) ?_
                  refine va_get (D := D) (ci := 6) (v := .int (nI (sp + i_3))) (C := RX6) (T := TX6) (N := 12) hx hb ht inX6 hown hK hP 0 rfl rfl 8 (by decide) (ht (.fieldLink RX6 51 "CloneVolumes$Reader" "start" "I") fl_X6_51) (fun _ h9 => h9) rfl dX6_advance_256 ?_
                  refine lv_iconst (v := 1) hx hb dX6_advance_259 (by decide) ?_
                  refine lv_isub hx hb dX6_advance_260 ?_
                  refine lv_topi (fun x_317 ex_317 => ?_)
                  refine zcV (As := [.int x_317]) (rest := []) (C := RX9) (n := 1) ⟨hx, hb, hml, hown, ht⟩ (k_X9_at l D h1 h4 n f x_317 (by first | decide | omega)) (zgV ml_X6_104 im_X9_at se_X9_at in_X9 co_X9_at) rfl rfl (by decide +kernel) ⟨Nat.le_of_ble_eq_true rfl, Nat.le_of_ble_eq_true rfl⟩ hK hP hS [1, 2] rfl 0 rfl rfl rfl rfl hl.1 rfl (Nat.le_of_ble_eq_true rfl) dX6_advance_261 ⟨Nat.le_of_ble_eq_true rfl, Nat.le_of_ble_eq_true rfl⟩ (fun r_318 H locs hw hP hS => ?_)
                  rcases hw with ⟨rfl, g_319⟩ | ⟨rfl, g_320⟩
                  · skip
                    refine lv_istore_n (lv' := [(1, .int (f x_317.toNatClampNeg)), (0, .ref h0)]) hx hb dX6_advance_264 rfl hl (by decide) rfl (fun ls hl => ?_)
                    refine lv_aload_n hx hb dX6_advance_265 rfl (lv_at hl 1 rfl) ?_
                    refine va_get (D := D) (ci := 6) (v := .int 1) (C := RX6) (T := TX6) (N := 12) hx hb ht inX6 hown hK hP 0 rfl rfl 7 (by decide) (ht (.fieldLink RX6 44 "CloneVolumes$Reader" "kind" "I") fl_X6_44) (fun _ h9 => h9) rfl dX6_advance_266 ?_
                    refine lv_iconst (v := 1) hx hb dX6_advance_269 (by decide) ?_
                    refine lv_icmp_eq (tgt := 281) hx hb dX6_advance_270 (by decide) (fun _ => ?_) (fun c_321 => (z_abs c_321 (by decide)).elim)
                    refine lv_iload_n hx hb dX6_advance_281 rfl (lv_at hl 0 rfl) ?_
                    refine zcS (As := [.int (f x_317.toNatClampNeg)]) (rest := []) (n := 1) ⟨hx, hb, hml, hown, ht⟩ (k_X6_isLetter l D (f x_317.toNatClampNeg)) (zgT ml_X6_111 st_X6_isLetter in_X6 co_X6_isLetter) rfl rfl (by decide +kernel) ⟨Nat.le_of_ble_eq_true rfl, Nat.le_of_ble_eq_true rfl⟩ hK hP hS [] rfl rfl hl.1 rfl (Nat.le_of_ble_eq_true rfl) dX6_advance_282 ⟨Nat.le_of_ble_eq_true rfl, Nat.le_of_ble_eq_true rfl⟩ (fun r_323 H locs hw hP hS => ?_)
                    rcases hw with ⟨rfl, g_324⟩ | ⟨rfl, g_325⟩
                    · skip
                      refine lv_if_ne (tgt := 295) hx hb dX6_advance_285 (by decide) (fun _ => ?_) (fun c_326 => (z_abs c_326 (by decide)).elim)
                      refine lv_aload_n hx hb dX6_advance_295 rfl (lv_at hl 1 rfl) ?_
                      refine lv_iconst (v := 4) hx hb dX6_advance_296 (by decide) ?_
                      refine va_put (D := D) (ci := 6) (v := .int 4) (ty := .int) (C := RX6) (T := TX6) (N := 12) hx hb ht inX6 tyX6 tyX6_ok nmX6 hown hK hP hD hS 0 rfl rfl 7 (by decide) (ht (.fieldLink RX6 44 "CloneVolumes$Reader" "kind" "I") fl_X6_44) (fun _ h9 => h9) rfl (by decide +kernel) rfl rfl (Nat.le_of_ble_eq_true rfl) dX6_advance_297 (fun H locs hP hD hS => ?_)
                      have hP : va_P D vwCl [(h0, .inr (6, [.int fa, .int pl, .ref h1, .ref h2, .ref h3, .int mo, .int (nI op), .int 4, .int (nI (sp + i_3)), .int (nI ((sp + i_3) + i_266)), .int r_316, .int (f (sp + i_3))])), (h1, .inr (9, [.ref h4, .int (nI n)])), (h4, .inl (D.1 13, 1600, .inl f)), (h2, .inl (D.1 14, 179, .inl fw))] H := hP
                      have hD : va_D A [(h0, .inr (6, [.int fa, .int pl, .ref h1, .ref h2, .ref h3, .int mo, .int (nI op), .int 4, .int (nI (sp + i_3)), .int (nI ((sp + i_3) + i_266)), .int r_316, .int (f (sp + i_3))])), (h1, .inr (9, [.ref h4, .int (nI n)])), (h4, .inl (D.1 13, 1600, .inl f)), (h2, .inl (D.1 14, 179, .inl fw))] := hD
                      have hP9 := hP.sub (ws' := [(h0, .inr (6, [.int fa, .int pl, .ref h1, .ref h2, .ref h3, .int mo, .int (nI op), .int 4, .int (nI (sp + i_3)), .int (nI ((sp + i_3) + i_266)), .int r_316, .int (f (sp + i_3))])), (h1, .inr (9, [.ref h4, .int (nI n)])), (h4, .inl (D.1 13, 1600, .inl f)), (h2, .inl (D.1 14, 179, .inl fw))]) [0, 1, 2, 3] rfl
                      have hD9 := hD.sub (ws' := [(h0, .inr (6, [.int fa, .int pl, .ref h1, .ref h2, .ref h3, .int mo, .int (nI op), .int 4, .int (nI (sp + i_3)), .int (nI ((sp + i_3) + i_266)), .int r_316, .int (f (sp + i_3))])), (h1, .inr (9, [.ref h4, .int (nI n)])), (h4, .inl (D.1 13, 1600, .inl f)), (h2, .inl (D.1 14, 179, .inl fw))]) [0, 1, 2, 3] (by decide) rfl
                      refine W.widen (k := 0) (n := 0) (Nat.le_of_ble_eq_true rfl) (Nat.le_of_ble_eq_true rfl) ?_
                      exact W.vret hx hb hr (fun t ht hW => ⟨⟨(4, (sp + i_3), ((sp + i_3) + i_266), r_316, (f (sp + i_3))), rfl, (by first | omega | (dsimp only; omega)), by rw [ht]; exact hP9, va_K.moved hW.alike hK, hD9⟩, hS.F ht⟩) hS.2.2 dX6_advance_300
                    · skip
                      refine lv_if_ne (tgt := 295) hx hb dX6_advance_285 (by decide) (fun c_328 => (z_abs c_328 (by decide)).elim) (fun _ => ?_)
                      refine lv_iload_n hx hb dX6_advance_288 rfl (lv_at hl 0 rfl) ?_
                      refine zcS (As := [.int (f x_317.toNatClampNeg)]) (rest := []) (n := 1) ⟨hx, hb, hml, hown, ht⟩ (k_X6_isDigit l D (f x_317.toNatClampNeg)) (zgT ml_X6_118 st_X6_isDigit in_X6 co_X6_isDigit) rfl rfl (by decide +kernel) ⟨Nat.le_of_ble_eq_true rfl, Nat.le_of_ble_eq_true rfl⟩ hK hP hS [] rfl rfl hl.1 rfl (Nat.le_of_ble_eq_true rfl) dX6_advance_289 ⟨Nat.le_of_ble_eq_true rfl, Nat.le_of_ble_eq_true rfl⟩ (fun r_330 H locs hw hP hS => ?_)
                      rcases hw with ⟨rfl, g_331⟩ | ⟨rfl, g_332⟩
                      · skip
                        refine lv_if_eq (tgt := 300) hx hb dX6_advance_292 (by decide) (fun c_333 => (z_abs c_333 (by decide)).elim) (fun _ => ?_)
                        refine lv_aload_n hx hb dX6_advance_295 rfl (lv_at hl 1 rfl) ?_
                        refine lv_iconst (v := 4) hx hb dX6_advance_296 (by decide) ?_
                        refine va_put (D := D) (ci := 6) (v := .int 4) (ty := .int) (C := RX6) (T := TX6) (N := 12) hx hb ht inX6 tyX6 tyX6_ok nmX6 hown hK hP hD hS 0 rfl rfl 7 (by decide) (ht (.fieldLink RX6 44 "CloneVolumes$Reader" "kind" "I") fl_X6_44) (fun _ h9 => h9) rfl (by decide +kernel) rfl rfl (Nat.le_of_ble_eq_true rfl) dX6_advance_297 (fun H locs hP hD hS => ?_)
                        have hP : va_P D vwCl [(h0, .inr (6, [.int fa, .int pl, .ref h1, .ref h2, .ref h3, .int mo, .int (nI op), .int 4, .int (nI (sp + i_3)), .int (nI ((sp + i_3) + i_266)), .int r_316, .int (f (sp + i_3))])), (h1, .inr (9, [.ref h4, .int (nI n)])), (h4, .inl (D.1 13, 1600, .inl f)), (h2, .inl (D.1 14, 179, .inl fw))] H := hP
                        have hD : va_D A [(h0, .inr (6, [.int fa, .int pl, .ref h1, .ref h2, .ref h3, .int mo, .int (nI op), .int 4, .int (nI (sp + i_3)), .int (nI ((sp + i_3) + i_266)), .int r_316, .int (f (sp + i_3))])), (h1, .inr (9, [.ref h4, .int (nI n)])), (h4, .inl (D.1 13, 1600, .inl f)), (h2, .inl (D.1 14, 179, .inl fw))] := hD
                        have hP9 := hP.sub (ws' := [(h0, .inr (6, [.int fa, .int pl, .ref h1, .ref h2, .ref h3, .int mo, .int (nI op), .int 4, .int (nI (sp + i_3)), .int (nI ((sp + i_3) + i_266)), .int r_316, .int (f (sp + i_3))])), (h1, .inr (9, [.ref h4, .int (nI n)])), (h4, .inl (D.1 13, 1600, .inl f)), (h2, .inl (D.1 14, 179, .inl fw))]) [0, 1, 2, 3] rfl
                        have hD9 := hD.sub (ws' := [(h0, .inr (6, [.int fa, .int pl, .ref h1, .ref h2, .ref h3, .int mo, .int (nI op), .int 4, .int (nI (sp + i_3)), .int (nI ((sp + i_3) + i_266)), .int r_316, .int (f (sp + i_3))])), (h1, .inr (9, [.ref h4, .int (nI n)])), (h4, .inl (D.1 13, 1600, .inl f)), (h2, .inl (D.1 14, 179, .inl fw))]) [0, 1, 2, 3] (by decide) rfl
                        refine W.widen (k := 0) (n := 0) (Nat.le_of_ble_eq_true rfl) (Nat.le_of_ble_eq_true rfl) ?_
                        exact W.vret hx hb hr (fun t ht hW => ⟨⟨(4, (sp + i_3), ((sp + i_3) + i_266), r_316, (f (sp + i_3))), rfl, (by first | omega | (dsimp only; omega)), by rw [ht]; exact hP9, va_K.moved hW.alike hK, hD9⟩, hS.F ht⟩) hS.2.2 dX6_advance_300
                      · skip
                        refine lv_if_eq (tgt := 300) hx hb dX6_advance_292 (by decide) (fun _ => ?_) (fun c_335 => (z_abs c_335 (by decide)).elim)
                        have hP9 := hP.sub (ws' := [(h0, .inr (6, [.int fa, .int pl, .ref h1, .ref h2, .ref h3, .int mo, .int (nI op), .int 1, .int (nI (sp + i_3)), .int (nI ((sp + i_3) + i_266)), .int r_316, .int (f (sp + i_3))])), (h1, .inr (9, [.ref h4, .int (nI n)])), (h4, .inl (D.1 13, 1600, .inl f)), (h2, .inl (D.1 14, 179, .inl fw))]) [0, 1, 2, 3] rfl
                        have hD9 := hD.sub (ws' := [(h0, .inr (6, [.int fa, .int pl, .ref h1, .ref h2, .ref h3, .int mo, .int (nI op), .int 1, .int (nI (sp + i_3)), .int (nI ((sp + i_3) + i_266)), .int r_316, .int (f (sp + i_3))])), (h1, .inr (9, [.ref h4, .int (nI n)])), (h4, .inl (D.1 13, 1600, .inl f)), (h2, .inl (D.1 14, 179, .inl fw))]) [0, 1, 2, 3] (by decide) rfl
                        refine W.widen (k := 0) (n := 0) (Nat.le_of_ble_eq_true rfl) (Nat.le_of_ble_eq_true rfl) ?_
                        exact W.vret hx hb hr (fun t ht hW => ⟨⟨(1, (sp + i_3), ((sp + i_3) + i_266), r_316, (f (sp + i_3))), rfl, (by first | omega | (dsimp only; omega)), by rw [ht]; exact hP9, va_K.moved hW.alike hK, hD9⟩, hS.F ht⟩) hS.2.2 dX6_advance_300
                  · skip
                    refine lv_istore_n (lv' := [(1, .int (-1)), (0, .ref h0)]) hx hb dX6_advance_264 rfl hl (by decide) rfl (fun ls hl => ?_)
                    refine lv_aload_n hx hb dX6_advance_265 rfl (lv_at hl 1 rfl) ?_
                    refine va_get (D := D) (ci := 6) (v := .int 1) (C := RX6) (T := TX6) (N := 12) hx hb ht inX6 hown hK hP 0 rfl rfl 7 (by decide) (ht (.fieldLink RX6 44 "CloneVolumes$Reader" "kind" "I") fl_X6_44) (fun _ h9 => h9) rfl dX6_advance_266 ?_
                    refine lv_iconst (v := 1) hx hb dX6_advance_269 (by decide) ?_
                    refine lv_icmp_eq (tgt := 281) hx hb dX6_advance_270 (by decide) (fun _ => ?_) (fun c_337 => (z_abs c_337 (by decide)).elim)
                    refine lv_iload_n hx hb dX6_advance_281 rfl (lv_at hl 0 rfl) ?_
                    have en_339 : ((-1) : Int32).toInt = (-1) := by decide
                    refine zcS (As := [.int (-1)]) (rest := []) (n := 1) ⟨hx, hb, hml, hown, ht⟩ (k_X6_isLetter l D (-1)) (zgT ml_X6_111 st_X6_isLetter in_X6 co_X6_isLetter) rfl rfl (by decide +kernel) ⟨Nat.le_of_ble_eq_true rfl, Nat.le_of_ble_eq_true rfl⟩ hK hP hS [] rfl rfl hl.1 rfl (Nat.le_of_ble_eq_true rfl) dX6_advance_282 ⟨Nat.le_of_ble_eq_true rfl, Nat.le_of_ble_eq_true rfl⟩ (fun r_340 H locs hw hP hS => ?_)
                    rcases hw with ⟨rfl, g_341⟩ | ⟨rfl, g_342⟩
                    · skip
                      refine lv_if_ne (tgt := 295) hx hb dX6_advance_285 (by decide) (fun _ => ?_) (fun c_343 => (z_abs c_343 (by decide)).elim)
                      refine lv_aload_n hx hb dX6_advance_295 rfl (lv_at hl 1 rfl) ?_
                      refine lv_iconst (v := 4) hx hb dX6_advance_296 (by decide) ?_
                      refine va_put (D := D) (ci := 6) (v := .int 4) (ty := .int) (C := RX6) (T := TX6) (N := 12) hx hb ht inX6 tyX6 tyX6_ok nmX6 hown hK hP hD hS 0 rfl rfl 7 (by decide) (ht (.fieldLink RX6 44 "CloneVolumes$Reader" "kind" "I") fl_X6_44) (fun _ h9 => h9) rfl (by decide +kernel) rfl rfl (Nat.le_of_ble_eq_true rfl) dX6_advance_297 (fun H locs hP hD hS => ?_)
                      have hP : va_P D vwCl [(h0, .inr (6, [.int fa, .int pl, .ref h1, .ref h2, .ref h3, .int mo, .int (nI op), .int 4, .int (nI (sp + i_3)), .int (nI ((sp + i_3) + i_266)), .int r_316, .int (f (sp + i_3))])), (h1, .inr (9, [.ref h4, .int (nI n)])), (h4, .inl (D.1 13, 1600, .inl f)), (h2, .inl (D.1 14, 179, .inl fw))] H := hP
                      have hD : va_D A [(h0, .inr (6, [.int fa, .int pl, .ref h1, .ref h2, .ref h3, .int mo, .int (nI op), .int 4, .int (nI (sp + i_3)), .int (nI ((sp + i_3) + i_266)), .int r_316, .int (f (sp + i_3))])), (h1, .inr (9, [.ref h4, .int (nI n)])), (h4, .inl (D.1 13, 1600, .inl f)), (h2, .inl (D.1 14, 179, .inl fw))] := hD
                      have hP9 := hP.sub (ws' := [(h0, .inr (6, [.int fa, .int pl, .ref h1, .ref h2, .ref h3, .int mo, .int (nI op), .int 4, .int (nI (sp + i_3)), .int (nI ((sp + i_3) + i_266)), .int r_316, .int (f (sp + i_3))])), (h1, .inr (9, [.ref h4, .int (nI n)])), (h4, .inl (D.1 13, 1600, .inl f)), (h2, .inl (D.1 14, 179, .inl fw))]) [0, 1, 2, 3] rfl
                      have hD9 := hD.sub (ws' := [(h0, .inr (6, [.int fa, .int pl, .ref h1, .ref h2, .ref h3, .int mo, .int (nI op), .int 4, .int (nI (sp + i_3)), .int (nI ((sp + i_3) + i_266)), .int r_316, .int (f (sp + i_3))])), (h1, .inr (9, [.ref h4, .int (nI n)])), (h4, .inl (D.1 13, 1600, .inl f)), (h2, .inl (D.1 14, 179, .inl fw))]) [0, 1, 2, 3] (by decide) rfl
                      refine W.widen (k := 0) (n := 0) (Nat.le_of_ble_eq_true rfl) (Nat.le_of_ble_eq_true rfl) ?_
                      exact W.vret hx hb hr (fun t ht hW => ⟨⟨(4, (sp + i_3), ((sp + i_3) + i_266), r_316, (f (sp + i_3))), rfl, (by first | omega | (dsimp only; omega)), by rw [ht]; exact hP9, va_K.moved hW.alike hK, hD9⟩, hS.F ht⟩) hS.2.2 dX6_advance_300
                    · skip
                      refine lv_if_ne (tgt := 295) hx hb dX6_advance_285 (by decide) (fun c_345 => (z_abs c_345 (by decide)).elim) (fun _ => ?_)
                      refine lv_iload_n hx hb dX6_advance_288 rfl (lv_at hl 0 rfl) ?_
                      have en_347 : ((-1) : Int32).toInt = (-1) := by decide
                      refine zcS (As := [.int (-1)]) (rest := []) (n := 1) ⟨hx, hb, hml, hown, ht⟩ (k_X6_isDigit l D (-1)) (zgT ml_X6_118 st_X6_isDigit in_X6 co_X6_isDigit) rfl rfl (by decide +kernel) ⟨Nat.le_of_ble_eq_true rfl, Nat.le_of_ble_eq_true rfl⟩ hK hP hS [] rfl rfl hl.1 rfl (Nat.le_of_ble_eq_true rfl) dX6_advance_289 ⟨Nat.le_of_ble_eq_true rfl, Nat.le_of_ble_eq_true rfl⟩ (fun r_348 H locs hw hP hS => ?_)
                      rcases hw with ⟨rfl, g_349⟩ | ⟨rfl, g_350⟩
                      · skip
                        refine lv_if_eq (tgt := 300) hx hb dX6_advance_292 (by decide) (fun c_351 => (z_abs c_351 (by decide)).elim) (fun _ => ?_)
                        refine lv_aload_n hx hb dX6_advance_295 rfl (lv_at hl 1 rfl) ?_
                        refine lv_iconst (v := 4) hx hb dX6_advance_296 (by decide) ?_
                        refine va_put (D := D) (ci := 6) (v := .int 4) (ty := .int) (C := RX6) (T := TX6) (N := 12) hx hb ht inX6 tyX6 tyX6_ok nmX6 hown hK hP hD hS 0 rfl rfl 7 (by decide) (ht (.fieldLink RX6 44 "CloneVolumes$Reader" "kind" "I") fl_X6_44) (fun _ h9 => h9) rfl (by decide +kernel) rfl rfl (Nat.le_of_ble_eq_true rfl) dX6_advance_297 (fun H locs hP hD hS => ?_)
                        have hP : va_P D vwCl [(h0, .inr (6, [.int fa, .int pl, .ref h1, .ref h2, .ref h3, .int mo, .int (nI op), .int 4, .int (nI (sp + i_3)), .int (nI ((sp + i_3) + i_266)), .int r_316, .int (f (sp + i_3))])), (h1, .inr (9, [.ref h4, .int (nI n)])), (h4, .inl (D.1 13, 1600, .inl f)), (h2, .inl (D.1 14, 179, .inl fw))] H := hP
                        have hD : va_D A [(h0, .inr (6, [.int fa, .int pl, .ref h1, .ref h2, .ref h3, .int mo, .int (nI op), .int 4, .int (nI (sp + i_3)), .int (nI ((sp + i_3) + i_266)), .int r_316, .int (f (sp + i_3))])), (h1, .inr (9, [.ref h4, .int (nI n)])), (h4, .inl (D.1 13, 1600, .inl f)), (h2, .inl (D.1 14, 179, .inl fw))] := hD
                        have hP9 := hP.sub (ws' := [(h0, .inr (6, [.int fa, .int pl, .ref h1, .ref h2, .ref h3, .int mo, .int (nI op), .int 4, .int (nI (sp + i_3)), .int (nI ((sp + i_3) + i_266)), .int r_316, .int (f (sp + i_3))])), (h1, .inr (9, [.ref h4, .int (nI n)])), (h4, .inl (D.1 13, 1600, .inl f)), (h2, .inl (D.1 14, 179, .inl fw))]) [0, 1, 2, 3] rfl
                        have hD9 := hD.sub (ws' := [(h0, .inr (6, [.int fa, .int pl, .ref h1, .ref h2, .ref h3, .int mo, .int (nI op), .int 4, .int (nI (sp + i_3)), .int (nI ((sp + i_3) + i_266)), .int r_316, .int (f (sp + i_3))])), (h1, .inr (9, [.ref h4, .int (nI n)])), (h4, .inl (D.1 13, 1600, .inl f)), (h2, .inl (D.1 14, 179, .inl fw))]) [0, 1, 2, 3] (by decide) rfl
                        refine W.widen (k := 0) (n := 0) (Nat.le_of_ble_eq_true rfl) (Nat.le_of_ble_eq_true rfl) ?_
                        exact W.vret hx hb hr (fun t ht hW => ⟨⟨(4, (sp + i_3), ((sp + i_3) + i_266), r_316, (f (sp + i_3))), rfl, (by first | omega | (dsimp only; omega)), by rw [ht]; exact hP9, va_K.moved hW.alike hK, hD9⟩, hS.F ht⟩) hS.2.2 dX6_advance_300
                      · skip
                        refine lv_if_eq (tgt := 300) hx hb dX6_advance_292 (by decide) (fun _ => ?_) (fun c_353 => (z_abs c_353 (by decide)).elim)
                        have hP9 := hP.sub (ws' := [(h0, .inr (6, [.int fa, .int pl, .ref h1, .ref h2, .ref h3, .int mo, .int (nI op), .int 1, .int (nI (sp + i_3)), .int (nI ((sp + i_3) + i_266)), .int r_316, .int (f (sp + i_3))])), (h1, .inr (9, [.ref h4, .int (nI n)])), (h4, .inl (D.1 13, 1600, .inl f)), (h2, .inl (D.1 14, 179, .inl fw))]) [0, 1, 2, 3] rfl
                        have hD9 := hD.sub (ws' := [(h0, .inr (6, [.int fa, .int pl, .ref h1, .ref h2, .ref h3, .int mo, .int (nI op), .int 1, .int (nI (sp + i_3)), .int (nI ((sp + i_3) + i_266)), .int r_316, .int (f (sp + i_3))])), (h1, .inr (9, [.ref h4, .int (nI n)])), (h4, .inl (D.1 13, 1600, .inl f)), (h2, .inl (D.1 14, 179, .inl fw))]) [0, 1, 2, 3] (by decide) rfl
                        refine W.widen (k := 0) (n := 0) (Nat.le_of_ble_eq_true rfl) (Nat.le_of_ble_eq_true rfl) ?_
                        exact W.vret hx hb hr (fun t ht hW => ⟨⟨(1, (sp + i_3), ((sp + i_3) + i_266), r_316, (f (sp + i_3))), rfl, (by first | omega | (dsimp only; omega)), by rw [ht]; exact hP9, va_K.moved hW.alike hK, hD9⟩, hS.F ht⟩) hS.2.2 dX6_advance_300
            · skip
              refine lv_if_eq (tgt := 176) hx hb dX6_advance_112 (by decide) (fun _ => ?_) (fun c_355 => (z_abs c_355 (by decide)).elim)
              refine lv_aload_n hx hb dX6_advance_176 rfl (lv_at hl 0 rfl) ?_
              refine va_get (D := D) (ci := 6) (v := .int (f (sp + i_3))) (C := RX6) (T := TX6) (N := 12) hx hb ht inX6 hown hK hP 0 rfl rfl 11 (by decide) (ht (.fieldLink RX6 108 "CloneVolumes$Reader" "sign" "I") fl_X6_108) (fun _ h9 => h9) rfl dX6_advance_177 ?_
              refine zcS (As := [.int (f (sp + i_3))]) (rest := []) (n := 1) ⟨hx, hb, hml, hown, ht⟩ (k_X6_isDigit l D (f (sp + i_3))) (zgT ml_X6_118 st_X6_isDigit in_X6 co_X6_isDigit) rfl rfl (by decide +kernel) ⟨Nat.le_of_ble_eq_true rfl, Nat.le_of_ble_eq_true rfl⟩ hK hP hS [] rfl rfl hl.1 rfl (Nat.le_of_ble_eq_true rfl) dX6_advance_180 ⟨Nat.le_of_ble_eq_true rfl, Nat.le_of_ble_eq_true rfl⟩ (fun r_357 H locs hw hP hS => ?_)
              rcases hw with ⟨rfl, g_358⟩ | ⟨rfl, g_359⟩
              · skip
                refine lv_if_eq (tgt := 236) hx hb dX6_advance_183 (by decide) (fun c_360 => (z_abs c_360 (by decide)).elim) (fun _ => ?_)
                refine lv_aload_n hx hb dX6_advance_186 rfl (lv_at hl 0 rfl) ?_
                refine lv_iconst (v := 2) hx hb dX6_advance_187 (by decide) ?_
                refine va_put (D := D) (ci := 6) (v := .int 2) (ty := .int) (C := RX6) (T := TX6) (N := 12) hx hb ht inX6 tyX6 tyX6_ok nmX6 hown hK hP hD hS 0 rfl rfl 7 (by decide) (ht (.fieldLink RX6 44 "CloneVolumes$Reader" "kind" "I") fl_X6_44) (fun _ h9 => h9) rfl (by decide +kernel) rfl rfl (Nat.le_of_ble_eq_true rfl) dX6_advance_188 (fun H locs hP hD hS => ?_)
                have hP : va_P D vwCl [(h0, .inr (6, [.int fa, .int pl, .ref h1, .ref h2, .ref h3, .int mo, .int (nI op), .int 2, .int (nI (sp + i_3)), .int (nI (sp + i_3)), .int (-1), .int (f (sp + i_3))])), (h1, .inr (9, [.ref h4, .int (nI n)])), (h4, .inl (D.1 13, 1600, .inl f)), (h2, .inl (D.1 14, 179, .inl fw))] H := hP
                have hD : va_D A [(h0, .inr (6, [.int fa, .int pl, .ref h1, .ref h2, .ref h3, .int mo, .int (nI op), .int 2, .int (nI (sp + i_3)), .int (nI (sp + i_3)), .int (-1), .int (f (sp + i_3))])), (h1, .inr (9, [.ref h4, .int (nI n)])), (h4, .inl (D.1 13, 1600, .inl f)), (h2, .inl (D.1 14, 179, .inl fw))] := hD
                refine z_loop (σ := Unit) (N := 1600) (fun i u H locs ls => ((sp + i_3) + i ≤ n) ∧ va_P D vwCl [(h0, .inr (6, [.int fa, .int pl, .ref h1, .ref h2, .ref h3, .int mo, .int (nI op), .int 2, .int (nI (sp + i_3)), .int (nI ((sp + i_3) + i)), .int (-1), .int (f (sp + i_3))])), (h1, .inr (9, [.ref h4, .int (nI n)])), (h4, .inl (D.1 13, 1600, .inl f)), (h2, .inl (D.1 14, 179, .inl fw))] H ∧ va_D A [(h0, .inr (6, [.int fa, .int pl, .ref h1, .ref h2, .ref h3, .int mo, .int (nI op), .int 2, .int (nI (sp + i_3)), .int (nI ((sp + i_3) + i)), .int (-1), .int (f (sp + i_3))])), (h1, .inr (9, [.ref h4, .int (nI n)])), (h4, .inl (D.1 13, 1600, .inl f)), (h2, .inl (D.1 14, 179, .inl fw))] ∧ va_S A s.heap H locs ∧ lv_has ls 2 [(0, .ref h0)]) (fun i_362 _u H locs ls hi_i_362 hI ih_191 => ?_) 0 () (by decide) ⟨(by first | omega | (dsimp only; omega)), hP, hD, hS, lv_sub hl [0] rfl⟩
                obtain ⟨hv_i_362, hP, hD, hS, hl⟩ := hI
                have hv_i_362 : (sp + i_3) + i_362 ≤ n := hv_i_362
                have hP : va_P D vwCl [(h0, .inr (6, [.int fa, .int pl, .ref h1, .ref h2, .ref h3, .int mo, .int (nI op), .int 2, .int (nI (sp + i_3)), .int (nI ((sp + i_3) + i_362)), .int (-1), .int (f (sp + i_3))])), (h1, .inr (9, [.ref h4, .int (nI n)])), (h4, .inl (D.1 13, 1600, .inl f)), (h2, .inl (D.1 14, 179, .inl fw))] H := hP
                have hD : va_D A [(h0, .inr (6, [.int fa, .int pl, .ref h1, .ref h2, .ref h3, .int mo, .int (nI op), .int 2, .int (nI (sp + i_3)), .int (nI ((sp + i_3) + i_362)), .int (-1), .int (f (sp + i_3))])), (h1, .inr (9, [.ref h4, .int (nI n)])), (h4, .inl (D.1 13, 1600, .inl f)), (h2, .inl (D.1 14, 179, .inl fw))] := hD
                have hl : lv_has ls 2 [(0, .ref h0)] := hl
                have hz_363 : i_362 = 0 → (f ((sp + i_3) + i_362)).toInt = (f ((sp + i_3))).toInt := fun h => by rw [h]; rfl
                refine lv_aload_n hx hb dX6_advance_191 rfl (lv_at hl 0 rfl) ?_
                refine va_get (D := D) (ci := 6) (v := .int (nI ((sp + i_3) + i_362))) (C := RX6) (T := TX6) (N := 12) hx hb ht inX6 hown hK hP 0 rfl rfl 9 (by decide) (ht (.fieldLink RX6 88 "CloneVolumes$Reader" "stop" "I") fl_X6_88) (fun _ h9 => h9) rfl dX6_advance_192 ?_
                refine lv_aload_n hx hb dX6_advance_195 rfl (lv_at hl 0 rfl) ?_
                refine va_get (D := D) (ci := 6) (v := .ref h1) (C := RX6) (T := TX6) (N := 12) hx hb ht inX6 hown hK hP 0 rfl rfl 2 (by decide) (ht (.fieldLink RX6 27 "CloneVolumes$Reader" "tape" "LCloneVolumes$Tape;") fl_X6_27) (fun _ h9 => h9) rfl dX6_advance_196 ?_
                refine va_get (D := D) (ci := 9) (v := .int (nI n)) (C := RX9) (T := TX9) (N := 2) hx hb ht inX9 hown hK hP 1 rfl rfl 1 (by decide) (ht (.fieldLink RX6 91 "CloneVolumes$Tape" "length" "I") fl_X6_91) (fun _ h9 => h9) rfl dX6_advance_199 ?_
                refine lv_icmp_ge (tgt := 251) hx hb dX6_advance_202 (by decide) (fun c_364 => ?_) (fun c_364 => ?_)
                · have g_365 : ((n : Nat) : Int) ≤ (((sp + i_3) + i_362 : Nat) : Int) := z_le (nI_toInt (by omega)) (nI_toInt (by omega)) c_364
                  refine lv_aload_n hx hb dX6_advance_251 rfl (lv_at hl 0 rfl) ?_
                  refine va_get (D := D) (ci := 6) (v := .ref h1) (C := RX6) (T := TX6) (N := 12) hx hb ht inX6 hown hK hP 0 rfl rfl 2 (by decide) (ht (.fieldLink RX6 27 "CloneVolumes$Reader" "tape" "LCloneVolumes$Tape;") fl_X6_27) (fun _ h9 => h9) rfl dX6_advance_252 ?_
                  refine lv_aload_n hx hb dX6_advance_255 rfl (lv_at hl 0 rfl) ?_
                  refine va_get (D := D) (ci := 6) (v := .int (nI (sp + i_3))) (C := RX6) (T := TX6) (N := 12) hx hb ht inX6 hown hK hP 0 rfl rfl 8 (by decide) (ht (.fieldLink RX6 51 "CloneVolumes$Reader" "start" "I") fl_X6_51) (fun _ h9 => h9) rfl dX6_advance_256 ?_
                  refine lv_iconst (v := 1) hx hb dX6_advance_259 (by decide) ?_
                  refine lv_isub hx hb dX6_advance_260 ?_
                  refine lv_topi (fun x_366 ex_366 => ?_)
                  refine zcV (As := [.int x_366]) (rest := []) (C := RX9) (n := 1) ⟨hx, hb, hml, hown, ht⟩ (k_X9_at l D h1 h4 n f x_366 (by first | decide | omega)) (zgV ml_X6_104 im_X9_at se_X9_at in_X9 co_X9_at) rfl rfl (by decide +kernel) ⟨Nat.le_of_ble_eq_true rfl, Nat.le_of_ble_eq_true rfl⟩ hK hP hS [1, 2] rfl 0 rfl rfl rfl rfl hl.1 rfl (Nat.le_of_ble_eq_true rfl) dX6_advance_261 ⟨Nat.le_of_ble_eq_true rfl, Nat.le_of_ble_eq_true rfl⟩ (fun r_367 H locs hw hP hS => ?_)
                  rcases hw with ⟨rfl, g_368⟩ | ⟨rfl, g_369⟩
                  · skip
                    refine lv_istore_n (lv' := [(1, .int (f x_366.toNatClampNeg)), (0, .ref h0)]) hx hb dX6_advance_264 rfl hl (by decide) rfl (fun ls hl => ?_)
                    refine lv_aload_n hx hb dX6_advance_265 rfl (lv_at hl 1 rfl) ?_
                    refine va_get (D := D) (ci := 6) (v := .int 2) (C := RX6) (T := TX6) (N := 12) hx hb ht inX6 hown hK hP 0 rfl rfl 7 (by decide) (ht (.fieldLink RX6 44 "CloneVolumes$Reader" "kind" "I") fl_X6_44) (fun _ h9 => h9) rfl dX6_advance_266 ?_
                    refine lv_iconst (v := 1) hx hb dX6_advance_269 (by decide) ?_
                    refine lv_icmp_eq (tgt := 281) hx hb dX6_advance_270 (by decide) (fun c_370 => (z_abs c_370 (by decide)).elim) (fun _ => ?_)
                    refine lv_aload_n hx hb dX6_advance_273 rfl (lv_at hl 1 rfl) ?_
                    refine va_get (D := D) (ci := 6) (v := .int 2) (C := RX6) (T := TX6) (N := 12) hx hb ht inX6 hown hK hP 0 rfl rfl 7 (by decide) (ht (.fieldLink RX6 44 "CloneVolumes$Reader" "kind" "I") fl_X6_44) (fun _ h9 => h9) rfl dX6_advance_274 ?_
                    refine lv_iconst (v := 2) hx hb dX6_advance_277 (by decide) ?_
                    refine lv_icmp_ne (tgt := 300) hx hb dX6_advance_278 (by decide) (fun c_372 => (z_abs c_372 (by decide)).elim) (fun _ => ?_)
                    refine lv_iload_n hx hb dX6_advance_281 rfl (lv_at hl 0 rfl) ?_
                    refine zcS (As := [.int (f x_366.toNatClampNeg)]) (rest := []) (n := 1) ⟨hx, hb, hml, hown, ht⟩ (k_X6_isLetter l D (f x_366.toNatClampNeg)) (zgT ml_X6_111 st_X6_isLetter in_X6 co_X6_isLetter) rfl rfl (by decide +kernel) ⟨Nat.le_of_ble_eq_true rfl, Nat.le_of_ble_eq_true rfl⟩ hK hP hS [] rfl rfl hl.1 rfl (Nat.le_of_ble_eq_true rfl) dX6_advance_282 ⟨Nat.le_of_ble_eq_true rfl, Nat.le_of_ble_eq_true rfl⟩ (fun r_374 H locs hw hP hS => ?_)
                    rcases hw with ⟨rfl, g_375⟩ | ⟨rfl, g_376⟩
                    · skip
                      refine lv_if_ne (tgt := 295) hx hb dX6_advance_285 (by decide) (fun _ => ?_) (fun c_377 => (z_abs c_377 (by decide)).elim)
                      refine lv_aload_n hx hb dX6_advance_295 rfl (lv_at hl 1 rfl) ?_
                      refine lv_iconst (v := 4) hx hb dX6_advance_296 (by decide) ?_
                      refine va_put (D := D) (ci := 6) (v := .int 4) (ty := .int) (C := RX6) (T := TX6) (N := 12) hx hb ht inX6 tyX6 tyX6_ok nmX6 hown hK hP hD hS 0 rfl rfl 7 (by decide) (ht (.fieldLink RX6 44 "CloneVolumes$Reader" "kind" "I") fl_X6_44) (fun _ h9 => h9) rfl (by decide +kernel) rfl rfl (Nat.le_of_ble_eq_true rfl) dX6_advance_297 (fun H locs hP hD hS => ?_)
                      have hP : va_P D vwCl [(h0, .inr (6, [.int fa, .int pl, .ref h1, .ref h2, .ref h3, .int mo, .int (nI op), .int 4, .int (nI (sp + i_3)), .int (nI ((sp + i_3) + i_362)), .int (-1), .int (f (sp + i_3))])), (h1, .inr (9, [.ref h4, .int (nI n)])), (h4, .inl (D.1 13, 1600, .inl f)), (h2, .inl (D.1 14, 179, .inl fw))] H := hP
                      have hD : va_D A [(h0, .inr (6, [.int fa, .int pl, .ref h1, .ref h2, .ref h3, .int mo, .int (nI op), .int 4, .int (nI (sp + i_3)), .int (nI ((sp + i_3) + i_362)), .int (-1), .int (f (sp + i_3))])), (h1, .inr (9, [.ref h4, .int (nI n)])), (h4, .inl (D.1 13, 1600, .inl f)), (h2, .inl (D.1 14, 179, .inl fw))] := hD
                      have hP9 := hP.sub (ws' := [(h0, .inr (6, [.int fa, .int pl, .ref h1, .ref h2, .ref h3, .int mo, .int (nI op), .int 4, .int (nI (sp + i_3)), .int (nI ((sp + i_3) + i_362)), .int (-1), .int (f (sp + i_3))])), (h1, .inr (9, [.ref h4, .int (nI n)])), (h4, .inl (D.1 13, 1600, .inl f)), (h2, .inl (D.1 14, 179, .inl fw))]) [0, 1, 2, 3] rfl
                      have hD9 := hD.sub (ws' := [(h0, .inr (6, [.int fa, .int pl, .ref h1, .ref h2, .ref h3, .int mo, .int (nI op), .int 4, .int (nI (sp + i_3)), .int (nI ((sp + i_3) + i_362)), .int (-1), .int (f (sp + i_3))])), (h1, .inr (9, [.ref h4, .int (nI n)])), (h4, .inl (D.1 13, 1600, .inl f)), (h2, .inl (D.1 14, 179, .inl fw))]) [0, 1, 2, 3] (by decide) rfl
                      refine W.widen (k := 0) (n := 0) (Nat.le_of_ble_eq_true rfl) (Nat.le_of_ble_eq_true rfl) ?_
                      exact W.vret hx hb hr (fun t ht hW => ⟨⟨(4, (sp + i_3), ((sp + i_3) + i_362), (-1), (f (sp + i_3))), rfl, (by first | omega | (dsimp only; omega)), by rw [ht]; exact hP9, va_K.moved hW.alike hK, hD9⟩, hS.F ht⟩) hS.2.2 dX6_advance_300
                    · skip
                      refine lv_if_ne (tgt := 295) hx hb dX6_advance_285 (by decide) (fun c_379 => (z_abs c_379 (by decide)).elim) (fun _ => ?_)
                      refine lv_iload_n hx hb dX6_advance_288 rfl (lv_at hl 0 rfl) ?_
                      refine zcS (As := [.int (f x_366.toNatClampNeg)]) (rest := []) (n := 1) ⟨hx, hb, hml, hown, ht⟩ (k_X6_isDigit l D (f x_366.toNatClampNeg)) (zgT ml_X6_118 st_X6_isDigit in_X6 co_X6_isDigit) rfl rfl (by decide +kernel) ⟨Nat.le_of_ble_eq_true rfl, Nat.le_of_ble_eq_true rfl⟩ hK hP hS [] rfl rfl hl.1 rfl (Nat.le_of_ble_eq_true rfl) dX6_advance_289 ⟨Nat.le_of_ble_eq_true rfl, Nat.le_of_ble_eq_true rfl⟩ (fun r_381 H locs hw hP hS => ?_)
                      rcases hw with ⟨rfl, g_382⟩ | ⟨rfl, g_383⟩
                      · skip
                        refine lv_if_eq (tgt := 300) hx hb dX6_advance_292 (by decide) (fun c_384 => (z_abs c_384 (by decide)).elim) (fun _ => ?_)
                        refine lv_aload_n hx hb dX6_advance_295 rfl (lv_at hl 1 rfl) ?_
                        refine lv_iconst (v := 4) hx hb dX6_advance_296 (by decide) ?_
                        refine va_put (D := D) (ci := 6) (v := .int 4) (ty := .int) (C := RX6) (T := TX6) (N := 12) hx hb ht inX6 tyX6 tyX6_ok nmX6 hown hK hP hD hS 0 rfl rfl 7 (by decide) (ht (.fieldLink RX6 44 "CloneVolumes$Reader" "kind" "I") fl_X6_44) (fun _ h9 => h9) rfl (by decide +kernel) rfl rfl (Nat.le_of_ble_eq_true rfl) dX6_advance_297 (fun H locs hP hD hS => ?_)
                        have hP : va_P D vwCl [(h0, .inr (6, [.int fa, .int pl, .ref h1, .ref h2, .ref h3, .int mo, .int (nI op), .int 4, .int (nI (sp + i_3)), .int (nI ((sp + i_3) + i_362)), .int (-1), .int (f (sp + i_3))])), (h1, .inr (9, [.ref h4, .int (nI n)])), (h4, .inl (D.1 13, 1600, .inl f)), (h2, .inl (D.1 14, 179, .inl fw))] H := hP
                        have hD : va_D A [(h0, .inr (6, [.int fa, .int pl, .ref h1, .ref h2, .ref h3, .int mo, .int (nI op), .int 4, .int (nI (sp + i_3)), .int (nI ((sp + i_3) + i_362)), .int (-1), .int (f (sp + i_3))])), (h1, .inr (9, [.ref h4, .int (nI n)])), (h4, .inl (D.1 13, 1600, .inl f)), (h2, .inl (D.1 14, 179, .inl fw))] := hD
                        have hP9 := hP.sub (ws' := [(h0, .inr (6, [.int fa, .int pl, .ref h1, .ref h2, .ref h3, .int mo, .int (nI op), .int 4, .int (nI (sp + i_3)), .int (nI ((sp + i_3) + i_362)), .int (-1), .int (f (sp + i_3))])), (h1, .inr (9, [.ref h4, .int (nI n)])), (h4, .inl (D.1 13, 1600, .inl f)), (h2, .inl (D.1 14, 179, .inl fw))]) [0, 1, 2, 3] rfl
                        have hD9 := hD.sub (ws' := [(h0, .inr (6, [.int fa, .int pl, .ref h1, .ref h2, .ref h3, .int mo, .int (nI op), .int 4, .int (nI (sp + i_3)), .int (nI ((sp + i_3) + i_362)), .int (-1), .int (f (sp + i_3))])), (h1, .inr (9, [.ref h4, .int (nI n)])), (h4, .inl (D.1 13, 1600, .inl f)), (h2, .inl (D.1 14, 179, .inl fw))]) [0, 1, 2, 3] (by decide) rfl
                        refine W.widen (k := 0) (n := 0) (Nat.le_of_ble_eq_true rfl) (Nat.le_of_ble_eq_true rfl) ?_
                        exact W.vret hx hb hr (fun t ht hW => ⟨⟨(4, (sp + i_3), ((sp + i_3) + i_362), (-1), (f (sp + i_3))), rfl, (by first | omega | (dsimp only; omega)), by rw [ht]; exact hP9, va_K.moved hW.alike hK, hD9⟩, hS.F ht⟩) hS.2.2 dX6_advance_300
                      · skip
                        refine lv_if_eq (tgt := 300) hx hb dX6_advance_292 (by decide) (fun _ => ?_) (fun c_386 => (z_abs c_386 (by decide)).elim)
                        have hP9 := hP.sub (ws' := [(h0, .inr (6, [.int fa, .int pl, .ref h1, .ref h2, .ref h3, .int mo, .int (nI op), .int 2, .int (nI (sp + i_3)), .int (nI ((sp + i_3) + i_362)), .int (-1), .int (f (sp + i_3))])), (h1, .inr (9, [.ref h4, .int (nI n)])), (h4, .inl (D.1 13, 1600, .inl f)), (h2, .inl (D.1 14, 179, .inl fw))]) [0, 1, 2, 3] rfl
                        have hD9 := hD.sub (ws' := [(h0, .inr (6, [.int fa, .int pl, .ref h1, .ref h2, .ref h3, .int mo, .int (nI op), .int 2, .int (nI (sp + i_3)), .int (nI ((sp + i_3) + i_362)), .int (-1), .int (f (sp + i_3))])), (h1, .inr (9, [.ref h4, .int (nI n)])), (h4, .inl (D.1 13, 1600, .inl f)), (h2, .inl (D.1 14, 179, .inl fw))]) [0, 1, 2, 3] (by decide) rfl
                        refine W.widen (k := 0) (n := 0) (Nat.le_of_ble_eq_true rfl) (Nat.le_of_ble_eq_true rfl) ?_
                        exact W.vret hx hb hr (fun t ht hW => ⟨⟨(2, (sp + i_3), ((sp + i_3) + i_362), (-1), (f (sp + i_3))), rfl, (by first | omega | (dsimp only; omega)), by rw [ht]; exact hP9, va_K.moved hW.alike hK, hD9⟩, hS.F ht⟩) hS.2.2 dX6_advance_300
                  · skip
                    refine lv_istore_n (lv' := [(1, .int (-1)), (0, .ref h0)]) hx hb dX6_advance_264 rfl hl (by decide) rfl (fun ls hl => ?_)
                    refine lv_aload_n hx hb dX6_advance_265 rfl (lv_at hl 1 rfl) ?_
                    refine va_get (D := D) (ci := 6) (v := .int 2) (C := RX6) (T := TX6) (N := 12) hx hb ht inX6 hown hK hP 0 rfl rfl 7 (by decide) (ht (.fieldLink RX6 44 "CloneVolumes$Reader" "kind" "I") fl_X6_44) (fun _ h9 => h9) rfl dX6_advance_266 ?_
                    refine lv_iconst (v := 1) hx hb dX6_advance_269 (by decide) ?_
                    refine lv_icmp_eq (tgt := 281) hx hb dX6_advance_270 (by decide) (fun c_388 => (z_abs c_388 (by decide)).elim) (fun _ => ?_)
                    refine lv_aload_n hx hb dX6_advance_273 rfl (lv_at hl 1 rfl) ?_
                    refine va_get (D := D) (ci := 6) (v := .int 2) (C := RX6) (T := TX6) (N := 12) hx hb ht inX6 hown hK hP 0 rfl rfl 7 (by decide) (ht (.fieldLink RX6 44 "CloneVolumes$Reader" "kind" "I") fl_X6_44) (fun _ h9 => h9) rfl dX6_advance_274 ?_
                    refine lv_iconst (v := 2) hx hb dX6_advance_277 (by decide) ?_
                    refine lv_icmp_ne (tgt := 300) hx hb dX6_advance_278 (by decide) (fun c_390 => (z_abs c_390 (by decide)).elim) (fun _ => ?_)
                    refine lv_iload_n hx hb dX6_advance_281 rfl (lv_at hl 0 rfl) ?_
                    have en_392 : ((-1) : Int32).toInt = (-1) := by decide
                    refine zcS (As := [.int (-1)]) (rest := []) (n := 1) ⟨hx, hb, hml, hown, ht⟩ (k_X6_isLetter l D (-1)) (zgT ml_X6_111 st_X6_isLetter in_X6 co_X6_isLetter) rfl rfl (by decide +kernel) ⟨Nat.le_of_ble_eq_true rfl, Nat.le_of_ble_eq_true rfl⟩ hK hP hS [] rfl rfl hl.1 rfl (Nat.le_of_ble_eq_true rfl) dX6_advance_282 ⟨Nat.le_of_ble_eq_true rfl, Nat.le_of_ble_eq_true rfl⟩ (fun r_393 H locs hw hP hS => ?_)
                    rcases hw with ⟨rfl, g_394⟩ | ⟨rfl, g_395⟩
                    · skip
                      refine lv_if_ne (tgt := 295) hx hb dX6_advance_285 (by decide) (fun _ => ?_) (fun c_396 => (z_abs c_396 (by decide)).elim)
                      refine lv_aload_n hx hb dX6_advance_295 rfl (lv_at hl 1 rfl) ?_
                      refine lv_iconst (v := 4) hx hb dX6_advance_296 (by decide) ?_
                      refine va_put (D := D) (ci := 6) (v := .int 4) (ty := .int) (C := RX6) (T := TX6) (N := 12) hx hb ht inX6 tyX6 tyX6_ok nmX6 hown hK hP hD hS 0 rfl rfl 7 (by decide) (ht (.fieldLink RX6 44 "CloneVolumes$Reader" "kind" "I") fl_X6_44) (fun _ h9 => h9) rfl (by decide +kernel) rfl rfl (Nat.le_of_ble_eq_true rfl) dX6_advance_297 (fun H locs hP hD hS => ?_)
                      have hP : va_P D vwCl [(h0, .inr (6, [.int fa, .int pl, .ref h1, .ref h2, .ref h3, .int mo, .int (nI op), .int 4, .int (nI (sp + i_3)), .int (nI ((sp + i_3) + i_362)), .int (-1), .int (f (sp + i_3))])), (h1, .inr (9, [.ref h4, .int (nI n)])), (h4, .inl (D.1 13, 1600, .inl f)), (h2, .inl (D.1 14, 179, .inl fw))] H := hP
                      have hD : va_D A [(h0, .inr (6, [.int fa, .int pl, .ref h1, .ref h2, .ref h3, .int mo, .int (nI op), .int 4, .int (nI (sp + i_3)), .int (nI ((sp + i_3) + i_362)), .int (-1), .int (f (sp + i_3))])), (h1, .inr (9, [.ref h4, .int (nI n)])), (h4, .inl (D.1 13, 1600, .inl f)), (h2, .inl (D.1 14, 179, .inl fw))] := hD
                      have hP9 := hP.sub (ws' := [(h0, .inr (6, [.int fa, .int pl, .ref h1, .ref h2, .ref h3, .int mo, .int (nI op), .int 4, .int (nI (sp + i_3)), .int (nI ((sp + i_3) + i_362)), .int (-1), .int (f (sp + i_3))])), (h1, .inr (9, [.ref h4, .int (nI n)])), (h4, .inl (D.1 13, 1600, .inl f)), (h2, .inl (D.1 14, 179, .inl fw))]) [0, 1, 2, 3] rfl
                      have hD9 := hD.sub (ws' := [(h0, .inr (6, [.int fa, .int pl, .ref h1, .ref h2, .ref h3, .int mo, .int (nI op), .int 4, .int (nI (sp + i_3)), .int (nI ((sp + i_3) + i_362)), .int (-1), .int (f (sp + i_3))])), (h1, .inr (9, [.ref h4, .int (nI n)])), (h4, .inl (D.1 13, 1600, .inl f)), (h2, .inl (D.1 14, 179, .inl fw))]) [0, 1, 2, 3] (by decide) rfl
                      refine W.widen (k := 0) (n := 0) (Nat.le_of_ble_eq_true rfl) (Nat.le_of_ble_eq_true rfl) ?_
                      exact W.vret hx hb hr (fun t ht hW => ⟨⟨(4, (sp + i_3), ((sp + i_3) + i_362), (-1), (f (sp + i_3))), rfl, (by first | omega | (dsimp only; omega)), by rw [ht]; exact hP9, va_K.moved hW.alike hK, hD9⟩, hS.F ht⟩) hS.2.2 dX6_advance_300
                    · skip
                      refine lv_if_ne (tgt := 295) hx hb dX6_advance_285 (by decide) (fun c_398 => (z_abs c_398 (by decide)).elim) (fun _ => ?_)
                      refine lv_iload_n hx hb dX6_advance_288 rfl (lv_at hl 0 rfl) ?_
                      have en_400 : ((-1) : Int32).toInt = (-1) := by decide
                      refine zcS (As := [.int (-1)]) (rest := []) (n := 1) ⟨hx, hb, hml, hown, ht⟩ (k_X6_isDigit l D (-1)) (zgT ml_X6_118 st_X6_isDigit in_X6 co_X6_isDigit) rfl rfl (by decide +kernel) ⟨Nat.le_of_ble_eq_true rfl, Nat.le_of_ble_eq_true rfl⟩ hK hP hS [] rfl rfl hl.1 rfl (Nat.le_of_ble_eq_true rfl) dX6_advance_289 ⟨Nat.le_of_ble_eq_true rfl, Nat.le_of_ble_eq_true rfl⟩ (fun r_401 H locs hw hP hS => ?_)
                      rcases hw with ⟨rfl, g_402⟩ | ⟨rfl, g_403⟩
                      · skip
                        refine lv_if_eq (tgt := 300) hx hb dX6_advance_292 (by decide) (fun c_404 => (z_abs c_404 (by decide)).elim) (fun _ => ?_)
                        refine lv_aload_n hx hb dX6_advance_295 rfl (lv_at hl 1 rfl) ?_
                        refine lv_iconst (v := 4) hx hb dX6_advance_296 (by decide) ?_
                        refine va_put (D := D) (ci := 6) (v := .int 4) (ty := .int) (C := RX6) (T := TX6) (N := 12) hx hb ht inX6 tyX6 tyX6_ok nmX6 hown hK hP hD hS 0 rfl rfl 7 (by decide) (ht (.fieldLink RX6 44 "CloneVolumes$Reader" "kind" "I") fl_X6_44) (fun _ h9 => h9) rfl (by decide +kernel) rfl rfl (Nat.le_of_ble_eq_true rfl) dX6_advance_297 (fun H locs hP hD hS => ?_)
                        have hP : va_P D vwCl [(h0, .inr (6, [.int fa, .int pl, .ref h1, .ref h2, .ref h3, .int mo, .int (nI op), .int 4, .int (nI (sp + i_3)), .int (nI ((sp + i_3) + i_362)), .int (-1), .int (f (sp + i_3))])), (h1, .inr (9, [.ref h4, .int (nI n)])), (h4, .inl (D.1 13, 1600, .inl f)), (h2, .inl (D.1 14, 179, .inl fw))] H := hP
                        have hD : va_D A [(h0, .inr (6, [.int fa, .int pl, .ref h1, .ref h2, .ref h3, .int mo, .int (nI op), .int 4, .int (nI (sp + i_3)), .int (nI ((sp + i_3) + i_362)), .int (-1), .int (f (sp + i_3))])), (h1, .inr (9, [.ref h4, .int (nI n)])), (h4, .inl (D.1 13, 1600, .inl f)), (h2, .inl (D.1 14, 179, .inl fw))] := hD
                        have hP9 := hP.sub (ws' := [(h0, .inr (6, [.int fa, .int pl, .ref h1, .ref h2, .ref h3, .int mo, .int (nI op), .int 4, .int (nI (sp + i_3)), .int (nI ((sp + i_3) + i_362)), .int (-1), .int (f (sp + i_3))])), (h1, .inr (9, [.ref h4, .int (nI n)])), (h4, .inl (D.1 13, 1600, .inl f)), (h2, .inl (D.1 14, 179, .inl fw))]) [0, 1, 2, 3] rfl
                        have hD9 := hD.sub (ws' := [(h0, .inr (6, [.int fa, .int pl, .ref h1, .ref h2, .ref h3, .int mo, .int (nI op), .int 4, .int (nI (sp + i_3)), .int (nI ((sp + i_3) + i_362)), .int (-1), .int (f (sp + i_3))])), (h1, .inr (9, [.ref h4, .int (nI n)])), (h4, .inl (D.1 13, 1600, .inl f)), (h2, .inl (D.1 14, 179, .inl fw))]) [0, 1, 2, 3] (by decide) rfl
                        refine W.widen (k := 0) (n := 0) (Nat.le_of_ble_eq_true rfl) (Nat.le_of_ble_eq_true rfl) ?_
                        exact W.vret hx hb hr (fun t ht hW => ⟨⟨(4, (sp + i_3), ((sp + i_3) + i_362), (-1), (f (sp + i_3))), rfl, (by first | omega | (dsimp only; omega)), by rw [ht]; exact hP9, va_K.moved hW.alike hK, hD9⟩, hS.F ht⟩) hS.2.2 dX6_advance_300
                      · skip
                        refine lv_if_eq (tgt := 300) hx hb dX6_advance_292 (by decide) (fun _ => ?_) (fun c_406 => (z_abs c_406 (by decide)).elim)
                        have hP9 := hP.sub (ws' := [(h0, .inr (6, [.int fa, .int pl, .ref h1, .ref h2, .ref h3, .int mo, .int (nI op), .int 2, .int (nI (sp + i_3)), .int (nI ((sp + i_3) + i_362)), .int (-1), .int (f (sp + i_3))])), (h1, .inr (9, [.ref h4, .int (nI n)])), (h4, .inl (D.1 13, 1600, .inl f)), (h2, .inl (D.1 14, 179, .inl fw))]) [0, 1, 2, 3] rfl
                        have hD9 := hD.sub (ws' := [(h0, .inr (6, [.int fa, .int pl, .ref h1, .ref h2, .ref h3, .int mo, .int (nI op), .int 2, .int (nI (sp + i_3)), .int (nI ((sp + i_3) + i_362)), .int (-1), .int (f (sp + i_3))])), (h1, .inr (9, [.ref h4, .int (nI n)])), (h4, .inl (D.1 13, 1600, .inl f)), (h2, .inl (D.1 14, 179, .inl fw))]) [0, 1, 2, 3] (by decide) rfl
                        refine W.widen (k := 0) (n := 0) (Nat.le_of_ble_eq_true rfl) (Nat.le_of_ble_eq_true rfl) ?_
                        exact W.vret hx hb hr (fun t ht hW => ⟨⟨(2, (sp + i_3), ((sp + i_3) + i_362), (-1), (f (sp + i_3))), rfl, (by first | omega | (dsimp only; omega)), by rw [ht]; exact hP9, va_K.moved hW.alike hK, hD9⟩, hS.F ht⟩) hS.2.2 dX6_advance_300
                · have g_365 : (((sp + i_3) + i_362 : Nat) : Int) < ((n : Nat) : Int) := z_nle (nI_toInt (by omega)) (nI_toInt (by omega)) c_364
                  refine lv_aload_n hx hb dX6_advance_205 rfl (lv_at hl 0 rfl) ?_
                  refine va_get (D := D) (ci := 6) (v := .ref h1) (C := RX6) (T := TX6) (N := 12) hx hb ht inX6 hown hK hP 0 rfl rfl 2 (by decide) (ht (.fieldLink RX6 27 "CloneVolumes$Reader" "tape" "LCloneVolumes$Tape;") fl_X6_27) (fun _ h9 => h9) rfl dX6_advance_206 ?_
                  refine va_get (D := D) (ci := 9) (v := .ref h4) (C := RX9) (T := TX9) (N := 2) hx hb ht inX9 hown hK hP 1 rfl rfl 0 (by decide) (ht (.fieldLink RX6 96 "CloneVolumes$Tape" "bytes" "[I") fl_X6_96) (fun _ h9 => h9) rfl dX6_advance_209 ?_
                  refine lv_aload_n hx hb dX6_advance_212 rfl (lv_at hl 0 rfl) ?_
                  refine va_get (D := D) (ci := 6) (v := .int (nI ((sp + i_3) + i_362))) (C := RX6) (T := TX6) (N := 12) hx hb ht inX6 hown hK hP 0 rfl rfl 9 (by decide) (ht (.fieldLink RX6 88 "CloneVolumes$Reader" "stop" "I") fl_X6_88) (fun _ h9 => h9) rfl dX6_advance_213 ?_
                  refine va_iald hx hb hK hP 2 0 rfl rfl (vp_in_nI (by omega) (by omega)) dX6_advance_216 ?_
                  refine z_topi (y := f ((sp + i_3) + i_362)) (by rw [nI_clamp (by omega)]) ?_
                  refine zcS (As := [.int (f ((sp + i_3) + i_362))]) (rest := []) (n := 1) ⟨hx, hb, hml, hown, ht⟩ (k_X6_isDigit l D (f ((sp + i_3) + i_362))) (zgT ml_X6_118 st_X6_isDigit in_X6 co_X6_isDigit) rfl rfl (by decide +kernel) ⟨Nat.le_of_ble_eq_true rfl, Nat.le_of_ble_eq_true rfl⟩ hK hP hS [] rfl rfl hl.1 rfl (Nat.le_of_ble_eq_true rfl) dX6_advance_217 ⟨Nat.le_of_ble_eq_true rfl, Nat.le_of_ble_eq_true rfl⟩ (fun r_408 H locs hw hP hS => ?_)
                  rcases hw with ⟨rfl, g_409⟩ | ⟨rfl, g_410⟩
                  · skip
                    refine lv_if_eq (tgt := 251) hx hb dX6_advance_220 (by decide) (fun c_411 => (z_abs c_411 (by decide)).elim) (fun _ => ?_)
                    refine lv_aload_n hx hb dX6_advance_223 rfl (lv_at hl 0 rfl) ?_
                    refine lv_dup hx hb dX6_advance_224 rfl ?_
                    refine va_get (D := D) (ci := 6) (v := .int (nI ((sp + i_3) + i_362))) (C := RX6) (T := TX6) (N := 12) hx hb ht inX6 hown hK hP 0 rfl rfl 9 (by decide) (ht (.fieldLink RX6 88 "CloneVolumes$Reader" "stop" "I") fl_X6_88) (fun _ h9 => h9) rfl dX6_advance_225 ?_
                    refine lv_iconst (v := 1) hx hb dX6_advance_228 (by decide) ?_
                    refine lv_iadd hx hb dX6_advance_229 ?_
                    refine z_topi (y := nI (((sp + i_3) + i_362) + 1)) (z_nadd ((sp + i_3) + i_362) 1) ?_
                    refine va_put (D := D) (ci := 6) (v := .int (nI (((sp + i_3) + i_362) + 1))) (ty := .int) (C := RX6) (T := TX6) (N := 12) hx hb ht inX6 tyX6 tyX6_ok nmX6 hown hK hP hD hS 0 rfl rfl 9 (by decide) (ht (.fieldLink RX6 88 "CloneVolumes$Reader" "stop" "I") fl_X6_88) (fun _ h9 => h9) rfl (by decide +kernel) rfl rfl (Nat.le_of_ble_eq_true rfl) dX6_advance_230 (fun H locs hP hD hS => ?_)
                    have hP : va_P D vwCl [(h0, .inr (6, [.int fa, .int pl, .ref h1, .ref h2, .ref h3, .int mo, .int (nI op), .int 2, .int (nI (sp + i_3)), .int (nI (((sp + i_3) + i_362) + 1)), .int (-1), .int (f (sp + i_3))])), (h1, .inr (9, [.ref h4, .int (nI n)])), (h4, .inl (D.1 13, 1600, .inl f)), (h2, .inl (D.1 14, 179, .inl fw))] H := hP
                    have hD : va_D A [(h0, .inr (6, [.int fa, .int pl, .ref h1, .ref h2, .ref h3, .int mo, .int (nI op), .int 2, .int (nI (sp + i_3)), .int (nI (((sp + i_3) + i_362) + 1)), .int (-1), .int (f (sp + i_3))])), (h1, .inr (9, [.ref h4, .int (nI n)])), (h4, .inl (D.1 13, 1600, .inl f)), (h2, .inl (D.1 14, 179, .inl fw))] := hD
                    refine lv_goto (tgt := 191) hx hb dX6_advance_233 (by decide) ?_
                    rw [show ((sp + i_3) + i_362) + 1 = (sp + i_3) + (i_362 + 1) by omega] at hP hD
                    exact ih_191 () _ _ _ (by omega) ⟨(by first | omega | (dsimp only; omega)), hP.sub [0, 1, 2, 3] rfl, hD.sub [0, 1, 2, 3] (by decide) rfl, hS, lv_sub hl [0] rfl⟩
                  · skip
                    refine lv_if_eq (tgt := 251) hx hb dX6_advance_220 (by decide) (fun _ => ?_) (fun c_413 => (z_abs c_413 (by decide)).elim)
                    refine lv_aload_n hx hb dX6_advance_251 rfl (lv_at hl 0 rfl) ?_
                    refine va_get (D := D) (ci := 6) (v := .ref h1) (C := RX6) (T := TX6) (N := 12) hx hb ht inX6 hown hK hP 0 rfl rfl 2 (by decide) (ht (.fieldLink RX6 27 "CloneVolumes$Reader" "tape" "LCloneVolumes$Tape;") fl_X6_27) (fun _ h9 => h9) rfl dX6_advance_252 ?_
                    refine lv_aload_n hx hb dX6_advance_255 rfl (lv_at hl 0 rfl) ?_
                    refine va_get (D := D) (ci := 6) (v := .int (nI (sp + i_3))) (C := RX6) (T := TX6) (N := 12) hx hb ht inX6 hown hK hP 0 rfl rfl 8 (by decide) (ht (.fieldLink RX6 51 "CloneVolumes$Reader" "start" "I") fl_X6_51) (fun _ h9 => h9) rfl dX6_advance_256 ?_
                    refine lv_iconst (v := 1) hx hb dX6_advance_259 (by decide) ?_
                    refine lv_isub hx hb dX6_advance_260 ?_
                    refine lv_topi (fun x_415 ex_415 => ?_)
                    refine zcV (As := [.int x_415]) (rest := []) (C := RX9) (n := 1) ⟨hx, hb, hml, hown, ht⟩ (k_X9_at l D h1 h4 n f x_415 (by first | decide | omega)) (zgV ml_X6_104 im_X9_at se_X9_at in_X9 co_X9_at) rfl rfl (by decide +kernel) ⟨Nat.le_of_ble_eq_true rfl, Nat.le_of_ble_eq_true rfl⟩ hK hP hS [1, 2] rfl 0 rfl rfl rfl rfl hl.1 rfl (Nat.le_of_ble_eq_true rfl) dX6_advance_261 ⟨Nat.le_of_ble_eq_true rfl, Nat.le_of_ble_eq_true rfl⟩ (fun r_416 H locs hw hP hS => ?_)
                    rcases hw with ⟨rfl, g_417⟩ | ⟨rfl, g_418⟩
                    · skip
                      refine lv_istore_n (lv' := [(1, .int (f x_415.toNatClampNeg)), (0, .ref h0)]) hx hb dX6_advance_264 rfl hl (by decide) rfl (fun ls hl => ?_)
                      refine lv_aload_n hx hb dX6_advance_265 rfl (lv_at hl 1 rfl) ?_
                      refine va_get (D := D) (ci := 6) (v := .int 2) (C := RX6) (T := TX6) (N := 12) hx hb ht inX6 hown hK hP 0 rfl rfl 7 (by decide) (ht (.fieldLink RX6 44 "CloneVolumes$Reader" "kind" "I") fl_X6_44) (fun _ h9 => h9) rfl dX6_advance_266 ?_
                      refine lv_iconst (v := 1) hx hb dX6_advance_269 (by decide) ?_
                      refine lv_icmp_eq (tgt := 281) hx hb dX6_advance_270 (by decide) (fun c_419 => (z_abs c_419 (by decide)).elim) (fun _ => ?_)
                      refine lv_aload_n hx hb dX6_advance_273 rfl (lv_at hl 1 rfl) ?_
                      refine va_get (D := D) (ci := 6) (v := .int 2) (C := RX6) (T := TX6) (N := 12) hx hb ht inX6 hown hK hP 0 rfl rfl 7 (by decide) (ht (.fieldLink RX6 44 "CloneVolumes$Reader" "kind" "I") fl_X6_44) (fun _ h9 => h9) rfl dX6_advance_274 ?_
                      refine lv_iconst (v := 2) hx hb dX6_advance_277 (by decide) ?_
                      refine lv_icmp_ne (tgt := 300) hx hb dX6_advance_278 (by decide) (fun c_421 => (z_abs c_421 (by decide)).elim) (fun _ => ?_)
                      refine lv_iload_n hx hb dX6_advance_281 rfl (lv_at hl 0 rfl) ?_
                      refine zcS (As := [.int (f x_415.toNatClampNeg)]) (rest := []) (n := 1) ⟨hx, hb, hml, hown, ht⟩ (k_X6_isLetter l D (f x_415.toNatClampNeg)) (zgT ml_X6_111 st_X6_isLetter in_X6 co_X6_isLetter) rfl rfl (by decide +kernel) ⟨Nat.le_of_ble_eq_true rfl, Nat.le_of_ble_eq_true rfl⟩ hK hP hS [] rfl rfl hl.1 rfl (Nat.le_of_ble_eq_true rfl) dX6_advance_282 ⟨Nat.le_of_ble_eq_true rfl, Nat.le_of_ble_eq_true rfl⟩ (fun r_423 H locs hw hP hS => ?_)
                      rcases hw with ⟨rfl, g_424⟩ | ⟨rfl, g_425⟩
                      · skip
                        refine lv_if_ne (tgt := 295) hx hb dX6_advance_285 (by decide) (fun _ => ?_) (fun c_426 => (z_abs c_426 (by decide)).elim)
                        refine lv_aload_n hx hb dX6_advance_295 rfl (lv_at hl 1 rfl) ?_
                        refine lv_iconst (v := 4) hx hb dX6_advance_296 (by decide) ?_
                        refine va_put (D := D) (ci := 6) (v := .int 4) (ty := .int) (C := RX6) (T := TX6) (N := 12) hx hb ht inX6 tyX6 tyX6_ok nmX6 hown hK hP hD hS 0 rfl rfl 7 (by decide) (ht (.fieldLink RX6 44 "CloneVolumes$Reader" "kind" "I") fl_X6_44) (fun _ h9 => h9) rfl (by decide +kernel) rfl rfl (Nat.le_of_ble_eq_true rfl) dX6_advance_297 (fun H locs hP hD hS => ?_)
                        have hP : va_P D vwCl [(h0, .inr (6, [.int fa, .int pl, .ref h1, .ref h2, .ref h3, .int mo, .int (nI op), .int 4, .int (nI (sp + i_3)), .int (nI ((sp + i_3) + i_362)), .int (-1), .int (f (sp + i_3))])), (h1, .inr (9, [.ref h4, .int (nI n)])), (h4, .inl (D.1 13, 1600, .inl f)), (h2, .inl (D.1 14, 179, .inl fw))] H := hP
                        have hD : va_D A [(h0, .inr (6, [.int fa, .int pl, .ref h1, .ref h2, .ref h3, .int mo, .int (nI op), .int 4, .int (nI (sp + i_3)), .int (nI ((sp + i_3) + i_362)), .int (-1), .int (f (sp + i_3))])), (h1, .inr (9, [.ref h4, .int (nI n)])), (h4, .inl (D.1 13, 1600, .inl f)), (h2, .inl (D.1 14, 179, .inl fw))] := hD
                        have hP9 := hP.sub (ws' := [(h0, .inr (6, [.int fa, .int pl, .ref h1, .ref h2, .ref h3, .int mo, .int (nI op), .int 4, .int (nI (sp + i_3)), .int (nI ((sp + i_3) + i_362)), .int (-1), .int (f (sp + i_3))])), (h1, .inr (9, [.ref h4, .int (nI n)])), (h4, .inl (D.1 13, 1600, .inl f)), (h2, .inl (D.1 14, 179, .inl fw))]) [0, 1, 2, 3] rfl
                        have hD9 := hD.sub (ws' := [(h0, .inr (6, [.int fa, .int pl, .ref h1, .ref h2, .ref h3, .int mo, .int (nI op), .int 4, .int (nI (sp + i_3)), .int (nI ((sp + i_3) + i_362)), .int (-1), .int (f (sp + i_3))])), (h1, .inr (9, [.ref h4, .int (nI n)])), (h4, .inl (D.1 13, 1600, .inl f)), (h2, .inl (D.1 14, 179, .inl fw))]) [0, 1, 2, 3] (by decide) rfl
                        refine W.widen (k := 0) (n := 0) (Nat.le_of_ble_eq_true rfl) (Nat.le_of_ble_eq_true rfl) ?_
                        exact W.vret hx hb hr (fun t ht hW => ⟨⟨(4, (sp + i_3), ((sp + i_3) + i_362), (-1), (f (sp + i_3))), rfl, (by first | omega | (dsimp only; omega)), by rw [ht]; exact hP9, va_K.moved hW.alike hK, hD9⟩, hS.F ht⟩) hS.2.2 dX6_advance_300
                      · skip
                        refine lv_if_ne (tgt := 295) hx hb dX6_advance_285 (by decide) (fun c_428 => (z_abs c_428 (by decide)).elim) (fun _ => ?_)
                        refine lv_iload_n hx hb dX6_advance_288 rfl (lv_at hl 0 rfl) ?_
                        refine zcS (As := [.int (f x_415.toNatClampNeg)]) (rest := []) (n := 1) ⟨hx, hb, hml, hown, ht⟩ (k_X6_isDigit l D (f x_415.toNatClampNeg)) (zgT ml_X6_118 st_X6_isDigit in_X6 co_X6_isDigit) rfl rfl (by decide +kernel) ⟨Nat.le_of_ble_eq_true rfl, Nat.le_of_ble_eq_true rfl⟩ hK hP hS [] rfl rfl hl.1 rfl (Nat.le_of_ble_eq_true rfl) dX6_advance_289 ⟨Nat.le_of_ble_eq_true rfl, Nat.le_of_ble_eq_true rfl⟩ (fun r_430 H locs hw hP hS => ?_)
                        rcases hw with ⟨rfl, g_431⟩ | ⟨rfl, g_432⟩
                        · skip
                          refine lv_if_eq (tgt := 300) hx hb dX6_advance_292 (by decide) (fun c_433 => (z_abs c_433 (by decide)).elim) (fun _ => ?_)
                          refine lv_aload_n hx hb dX6_advance_295 rfl (lv_at hl 1 rfl) ?_
                          refine lv_iconst (v := 4) hx hb dX6_advance_296 (by decide) ?_
                          refine va_put (D := D) (ci := 6) (v := .int 4) (ty := .int) (C := RX6) (T := TX6) (N := 12) hx hb ht inX6 tyX6 tyX6_ok nmX6 hown hK hP hD hS 0 rfl rfl 7 (by decide) (ht (.fieldLink RX6 44 "CloneVolumes$Reader" "kind" "I") fl_X6_44) (fun _ h9 => h9) rfl (by decide +kernel) rfl rfl (Nat.le_of_ble_eq_true rfl) dX6_advance_297 (fun H locs hP hD hS => ?_)
                          have hP : va_P D vwCl [(h0, .inr (6, [.int fa, .int pl, .ref h1, .ref h2, .ref h3, .int mo, .int (nI op), .int 4, .int (nI (sp + i_3)), .int (nI ((sp + i_3) + i_362)), .int (-1), .int (f (sp + i_3))])), (h1, .inr (9, [.ref h4, .int (nI n)])), (h4, .inl (D.1 13, 1600, .inl f)), (h2, .inl (D.1 14, 179, .inl fw))] H := hP
                          have hD : va_D A [(h0, .inr (6, [.int fa, .int pl, .ref h1, .ref h2, .ref h3, .int mo, .int (nI op), .int 4, .int (nI (sp + i_3)), .int (nI ((sp + i_3) + i_362)), .int (-1), .int (f (sp + i_3))])), (h1, .inr (9, [.ref h4, .int (nI n)])), (h4, .inl (D.1 13, 1600, .inl f)), (h2, .inl (D.1 14, 179, .inl fw))] := hD
                          have hP9 := hP.sub (ws' := [(h0, .inr (6, [.int fa, .int pl, .ref h1, .ref h2, .ref h3, .int mo, .int (nI op), .int 4, .int (nI (sp + i_3)), .int (nI ((sp + i_3) + i_362)), .int (-1), .int (f (sp + i_3))])), (h1, .inr (9, [.ref h4, .int (nI n)])), (h4, .inl (D.1 13, 1600, .inl f)), (h2, .inl (D.1 14, 179, .inl fw))]) [0, 1, 2, 3] rfl
                          have hD9 := hD.sub (ws' := [(h0, .inr (6, [.int fa, .int pl, .ref h1, .ref h2, .ref h3, .int mo, .int (nI op), .int 4, .int (nI (sp + i_3)), .int (nI ((sp + i_3) + i_362)), .int (-1), .int (f (sp + i_3))])), (h1, .inr (9, [.ref h4, .int (nI n)])), (h4, .inl (D.1 13, 1600, .inl f)), (h2, .inl (D.1 14, 179, .inl fw))]) [0, 1, 2, 3] (by decide) rfl
                          refine W.widen (k := 0) (n := 0) (Nat.le_of_ble_eq_true rfl) (Nat.le_of_ble_eq_true rfl) ?_
                          exact W.vret hx hb hr (fun t ht hW => ⟨⟨(4, (sp + i_3), ((sp + i_3) + i_362), (-1), (f (sp + i_3))), rfl, (by first | omega | (dsimp only; omega)), by rw [ht]; exact hP9, va_K.moved hW.alike hK, hD9⟩, hS.F ht⟩) hS.2.2 dX6_advance_300
                        · skip
                          refine lv_if_eq (tgt := 300) hx hb dX6_advance_292 (by decide) (fun _ => ?_) (fun c_435 => (z_abs c_435 (by decide)).elim)
                          have hP9 := hP.sub (ws' := [(h0, .inr (6, [.int fa, .int pl, .ref h1, .ref h2, .ref h3, .int mo, .int (nI op), .int 2, .int (nI (sp + i_3)), .int (nI ((sp + i_3) + i_362)), .int (-1), .int (f (sp + i_3))])), (h1, .inr (9, [.ref h4, .int (nI n)])), (h4, .inl (D.1 13, 1600, .inl f)), (h2, .inl (D.1 14, 179, .inl fw))]) [0, 1, 2, 3] rfl
                          have hD9 := hD.sub (ws' := [(h0, .inr (6, [.int fa, .int pl, .ref h1, .ref h2, .ref h3, .int mo, .int (nI op), .int 2, .int (nI (sp + i_3)), .int (nI ((sp + i_3) + i_362)), .int (-1), .int (f (sp + i_3))])), (h1, .inr (9, [.ref h4, .int (nI n)])), (h4, .inl (D.1 13, 1600, .inl f)), (h2, .inl (D.1 14, 179, .inl fw))]) [0, 1, 2, 3] (by decide) rfl
                          refine W.widen (k := 0) (n := 0) (Nat.le_of_ble_eq_true rfl) (Nat.le_of_ble_eq_true rfl) ?_
                          exact W.vret hx hb hr (fun t ht hW => ⟨⟨(2, (sp + i_3), ((sp + i_3) + i_362), (-1), (f (sp + i_3))), rfl, (by first | omega | (dsimp only; omega)), by rw [ht]; exact hP9, va_K.moved hW.alike hK, hD9⟩, hS.F ht⟩) hS.2.2 dX6_advance_300
                    · skip
                      refine lv_istore_n (lv' := [(1, .int (-1)), (0, .ref h0)]) hx hb dX6_advance_264 rfl hl (by decide) rfl (fun ls hl => ?_)
                      refine lv_aload_n hx hb dX6_advance_265 rfl (lv_at hl 1 rfl) ?_
                      refine va_get (D := D) (ci := 6) (v := .int 2) (C := RX6) (T := TX6) (N := 12) hx hb ht inX6 hown hK hP 0 rfl rfl 7 (by decide) (ht (.fieldLink RX6 44 "CloneVolumes$Reader" "kind" "I") fl_X6_44) (fun _ h9 => h9) rfl dX6_advance_266 ?_
                      refine lv_iconst (v := 1) hx hb dX6_advance_269 (by decide) ?_
                      refine lv_icmp_eq (tgt := 281) hx hb dX6_advance_270 (by decide) (fun c_437 => (z_abs c_437 (by decide)).elim) (fun _ => ?_)
                      refine lv_aload_n hx hb dX6_advance_273 rfl (lv_at hl 1 rfl) ?_
                      refine va_get (D := D) (ci := 6) (v := .int 2) (C := RX6) (T := TX6) (N := 12) hx hb ht inX6 hown hK hP 0 rfl rfl 7 (by decide) (ht (.fieldLink RX6 44 "CloneVolumes$Reader" "kind" "I") fl_X6_44) (fun _ h9 => h9) rfl dX6_advance_274 ?_
                      refine lv_iconst (v := 2) hx hb dX6_advance_277 (by decide) ?_
                      refine lv_icmp_ne (tgt := 300) hx hb dX6_advance_278 (by decide) (fun c_439 => (z_abs c_439 (by decide)).elim) (fun _ => ?_)
                      refine lv_iload_n hx hb dX6_advance_281 rfl (lv_at hl 0 rfl) ?_
                      have en_441 : ((-1) : Int32).toInt = (-1) := by decide
                      refine zcS (As := [.int (-1)]) (rest := []) (n := 1) ⟨hx, hb, hml, hown, ht⟩ (k_X6_isLetter l D (-1)) (zgT ml_X6_111 st_X6_isLetter in_X6 co_X6_isLetter) rfl rfl (by decide +kernel) ⟨Nat.le_of_ble_eq_true rfl, Nat.le_of_ble_eq_true rfl⟩ hK hP hS [] rfl rfl hl.1 rfl (Nat.le_of_ble_eq_true rfl) dX6_advance_282 ⟨Nat.le_of_ble_eq_true rfl, Nat.le_of_ble_eq_true rfl⟩ (fun r_442 H locs hw hP hS => ?_)
                      rcases hw with ⟨rfl, g_443⟩ | ⟨rfl, g_444⟩
                      · skip
                        refine lv_if_ne (tgt := 295) hx hb dX6_advance_285 (by decide) (fun _ => ?_) (fun c_445 => (z_abs c_445 (by decide)).elim)
                        refine lv_aload_n hx hb dX6_advance_295 rfl (lv_at hl 1 rfl) ?_
                        refine lv_iconst (v := 4) hx hb dX6_advance_296 (by decide) ?_
                        refine va_put (D := D) (ci := 6) (v := .int 4) (ty := .int) (C := RX6) (T := TX6) (N := 12) hx hb ht inX6 tyX6 tyX6_ok nmX6 hown hK hP hD hS 0 rfl rfl 7 (by decide) (ht (.fieldLink RX6 44 "CloneVolumes$Reader" "kind" "I") fl_X6_44) (fun _ h9 => h9) rfl (by decide +kernel) rfl rfl (Nat.le_of_ble_eq_true rfl) dX6_advance_297 (fun H locs hP hD hS => ?_)
                        have hP : va_P D vwCl [(h0, .inr (6, [.int fa, .int pl, .ref h1, .ref h2, .ref h3, .int mo, .int (nI op), .int 4, .int (nI (sp + i_3)), .int (nI ((sp + i_3) + i_362)), .int (-1), .int (f (sp + i_3))])), (h1, .inr (9, [.ref h4, .int (nI n)])), (h4, .inl (D.1 13, 1600, .inl f)), (h2, .inl (D.1 14, 179, .inl fw))] H := hP
                        have hD : va_D A [(h0, .inr (6, [.int fa, .int pl, .ref h1, .ref h2, .ref h3, .int mo, .int (nI op), .int 4, .int (nI (sp + i_3)), .int (nI ((sp + i_3) + i_362)), .int (-1), .int (f (sp + i_3))])), (h1, .inr (9, [.ref h4, .int (nI n)])), (h4, .inl (D.1 13, 1600, .inl f)), (h2, .inl (D.1 14, 179, .inl fw))] := hD
                        have hP9 := hP.sub (ws' := [(h0, .inr (6, [.int fa, .int pl, .ref h1, .ref h2, .ref h3, .int mo, .int (nI op), .int 4, .int (nI (sp + i_3)), .int (nI ((sp + i_3) + i_362)), .int (-1), .int (f (sp + i_3))])), (h1, .inr (9, [.ref h4, .int (nI n)])), (h4, .inl (D.1 13, 1600, .inl f)), (h2, .inl (D.1 14, 179, .inl fw))]) [0, 1, 2, 3] rfl
                        have hD9 := hD.sub (ws' := [(h0, .inr (6, [.int fa, .int pl, .ref h1, .ref h2, .ref h3, .int mo, .int (nI op), .int 4, .int (nI (sp + i_3)), .int (nI ((sp + i_3) + i_362)), .int (-1), .int (f (sp + i_3))])), (h1, .inr (9, [.ref h4, .int (nI n)])), (h4, .inl (D.1 13, 1600, .inl f)), (h2, .inl (D.1 14, 179, .inl fw))]) [0, 1, 2, 3] (by decide) rfl
                        refine W.widen (k := 0) (n := 0) (Nat.le_of_ble_eq_true rfl) (Nat.le_of_ble_eq_true rfl) ?_
                        exact W.vret hx hb hr (fun t ht hW => ⟨⟨(4, (sp + i_3), ((sp + i_3) + i_362), (-1), (f (sp + i_3))), rfl, (by first | omega | (dsimp only; omega)), by rw [ht]; exact hP9, va_K.moved hW.alike hK, hD9⟩, hS.F ht⟩) hS.2.2 dX6_advance_300
                      · skip
                        refine lv_if_ne (tgt := 295) hx hb dX6_advance_285 (by decide) (fun c_447 => (z_abs c_447 (by decide)).elim) (fun _ => ?_)
                        refine lv_iload_n hx hb dX6_advance_288 rfl (lv_at hl 0 rfl) ?_
                        have en_449 : ((-1) : Int32).toInt = (-1) := by decide
                        refine zcS (As := [.int (-1)]) (rest := []) (n := 1) ⟨hx, hb, hml, hown, ht⟩ (k_X6_isDigit l D (-1)) (zgT ml_X6_118 st_X6_isDigit in_X6 co_X6_isDigit) rfl rfl (by decide +kernel) ⟨Nat.le_of_ble_eq_true rfl, Nat.le_of_ble_eq_true rfl⟩ hK hP hS [] rfl rfl hl.1 rfl (Nat.le_of_ble_eq_true rfl) dX6_advance_289 ⟨Nat.le_of_ble_eq_true rfl, Nat.le_of_ble_eq_true rfl⟩ (fun r_450 H locs hw hP hS => ?_)
                        rcases hw with ⟨rfl, g_451⟩ | ⟨rfl, g_452⟩
                        · skip
                          refine lv_if_eq (tgt := 300) hx hb dX6_advance_292 (by decide) (fun c_453 => (z_abs c_453 (by decide)).elim) (fun _ => ?_)
                          refine lv_aload_n hx hb dX6_advance_295 rfl (lv_at hl 1 rfl) ?_
                          refine lv_iconst (v := 4) hx hb dX6_advance_296 (by decide) ?_
                          refine va_put (D := D) (ci := 6) (v := .int 4) (ty := .int) (C := RX6) (T := TX6) (N := 12) hx hb ht inX6 tyX6 tyX6_ok nmX6 hown hK hP hD hS 0 rfl rfl 7 (by decide) (ht (.fieldLink RX6 44 "CloneVolumes$Reader" "kind" "I") fl_X6_44) (fun _ h9 => h9) rfl (by decide +kernel) rfl rfl (Nat.le_of_ble_eq_true rfl) dX6_advance_297 (fun H locs hP hD hS => ?_)
                          have hP : va_P D vwCl [(h0, .inr (6, [.int fa, .int pl, .ref h1, .ref h2, .ref h3, .int mo, .int (nI op), .int 4, .int (nI (sp + i_3)), .int (nI ((sp + i_3) + i_362)), .int (-1), .int (f (sp + i_3))])), (h1, .inr (9, [.ref h4, .int (nI n)])), (h4, .inl (D.1 13, 1600, .inl f)), (h2, .inl (D.1 14, 179, .inl fw))] H := hP
                          have hD : va_D A [(h0, .inr (6, [.int fa, .int pl, .ref h1, .ref h2, .ref h3, .int mo, .int (nI op), .int 4, .int (nI (sp + i_3)), .int (nI ((sp + i_3) + i_362)), .int (-1), .int (f (sp + i_3))])), (h1, .inr (9, [.ref h4, .int (nI n)])), (h4, .inl (D.1 13, 1600, .inl f)), (h2, .inl (D.1 14, 179, .inl fw))] := hD
                          have hP9 := hP.sub (ws' := [(h0, .inr (6, [.int fa, .int pl, .ref h1, .ref h2, .ref h3, .int mo, .int (nI op), .int 4, .int (nI (sp + i_3)), .int (nI ((sp + i_3) + i_362)), .int (-1), .int (f (sp + i_3))])), (h1, .inr (9, [.ref h4, .int (nI n)])), (h4, .inl (D.1 13, 1600, .inl f)), (h2, .inl (D.1 14, 179, .inl fw))]) [0, 1, 2, 3] rfl
                          have hD9 := hD.sub (ws' := [(h0, .inr (6, [.int fa, .int pl, .ref h1, .ref h2, .ref h3, .int mo, .int (nI op), .int 4, .int (nI (sp + i_3)), .int (nI ((sp + i_3) + i_362)), .int (-1), .int (f (sp + i_3))])), (h1, .inr (9, [.ref h4, .int (nI n)])), (h4, .inl (D.1 13, 1600, .inl f)), (h2, .inl (D.1 14, 179, .inl fw))]) [0, 1, 2, 3] (by decide) rfl
                          refine W.widen (k := 0) (n := 0) (Nat.le_of_ble_eq_true rfl) (Nat.le_of_ble_eq_true rfl) ?_
                          exact W.vret hx hb hr (fun t ht hW => ⟨⟨(4, (sp + i_3), ((sp + i_3) + i_362), (-1), (f (sp + i_3))), rfl, (by first | omega | (dsimp only; omega)), by rw [ht]; exact hP9, va_K.moved hW.alike hK, hD9⟩, hS.F ht⟩) hS.2.2 dX6_advance_300
                        · skip
                          refine lv_if_eq (tgt := 300) hx hb dX6_advance_292 (by decide) (fun _ => ?_) (fun c_455 => (z_abs c_455 (by decide)).elim)
                          have hP9 := hP.sub (ws' := [(h0, .inr (6, [.int fa, .int pl, .ref h1, .ref h2, .ref h3, .int mo, .int (nI op), .int 2, .int (nI (sp + i_3)), .int (nI ((sp + i_3) + i_362)), .int (-1), .int (f (sp + i_3))])), (h1, .inr (9, [.ref h4, .int (nI n)])), (h4, .inl (D.1 13, 1600, .inl f)), (h2, .inl (D.1 14, 179, .inl fw))]) [0, 1, 2, 3] rfl
                          have hD9 := hD.sub (ws' := [(h0, .inr (6, [.int fa, .int pl, .ref h1, .ref h2, .ref h3, .int mo, .int (nI op), .int 2, .int (nI (sp + i_3)), .int (nI ((sp + i_3) + i_362)), .int (-1), .int (f (sp + i_3))])), (h1, .inr (9, [.ref h4, .int (nI n)])), (h4, .inl (D.1 13, 1600, .inl f)), (h2, .inl (D.1 14, 179, .inl fw))]) [0, 1, 2, 3] (by decide) rfl
                          refine W.widen (k := 0) (n := 0) (Nat.le_of_ble_eq_true rfl) (Nat.le_of_ble_eq_true rfl) ?_
                          exact W.vret hx hb hr (fun t ht hW => ⟨⟨(2, (sp + i_3), ((sp + i_3) + i_362), (-1), (f (sp + i_3))), rfl, (by first | omega | (dsimp only; omega)), by rw [ht]; exact hP9, va_K.moved hW.alike hK, hD9⟩, hS.F ht⟩) hS.2.2 dX6_advance_300
              · skip
                refine lv_if_eq (tgt := 236) hx hb dX6_advance_183 (by decide) (fun _ => ?_) (fun c_457 => (z_abs c_457 (by decide)).elim)
                refine lv_aload_n hx hb dX6_advance_236 rfl (lv_at hl 0 rfl) ?_
                refine lv_iconst (v := 3) hx hb dX6_advance_237 (by decide) ?_
                refine va_put (D := D) (ci := 6) (v := .int 3) (ty := .int) (C := RX6) (T := TX6) (N := 12) hx hb ht inX6 tyX6 tyX6_ok nmX6 hown hK hP hD hS 0 rfl rfl 7 (by decide) (ht (.fieldLink RX6 44 "CloneVolumes$Reader" "kind" "I") fl_X6_44) (fun _ h9 => h9) rfl (by decide +kernel) rfl rfl (Nat.le_of_ble_eq_true rfl) dX6_advance_238 (fun H locs hP hD hS => ?_)
                have hP : va_P D vwCl [(h0, .inr (6, [.int fa, .int pl, .ref h1, .ref h2, .ref h3, .int mo, .int (nI op), .int 3, .int (nI (sp + i_3)), .int (nI (sp + i_3)), .int (-1), .int (f (sp + i_3))])), (h1, .inr (9, [.ref h4, .int (nI n)])), (h4, .inl (D.1 13, 1600, .inl f)), (h2, .inl (D.1 14, 179, .inl fw))] H := hP
                have hD : va_D A [(h0, .inr (6, [.int fa, .int pl, .ref h1, .ref h2, .ref h3, .int mo, .int (nI op), .int 3, .int (nI (sp + i_3)), .int (nI (sp + i_3)), .int (-1), .int (f (sp + i_3))])), (h1, .inr (9, [.ref h4, .int (nI n)])), (h4, .inl (D.1 13, 1600, .inl f)), (h2, .inl (D.1 14, 179, .inl fw))] := hD
                refine lv_aload_n hx hb dX6_advance_241 rfl (lv_at hl 0 rfl) ?_
                refine lv_dup hx hb dX6_advance_242 rfl ?_
                refine va_get (D := D) (ci := 6) (v := .int (nI (sp + i_3))) (C := RX6) (T := TX6) (N := 12) hx hb ht inX6 hown hK hP 0 rfl rfl 9 (by decide) (ht (.fieldLink RX6 88 "CloneVolumes$Reader" "stop" "I") fl_X6_88) (fun _ h9 => h9) rfl dX6_advance_243 ?_
                refine lv_iconst (v := 1) hx hb dX6_advance_246 (by decide) ?_
                refine lv_iadd hx hb dX6_advance_247 ?_
                refine z_topi (y := nI ((sp + i_3) + 1)) (z_nadd (sp + i_3) 1) ?_
                refine va_put (D := D) (ci := 6) (v := .int (nI ((sp + i_3) + 1))) (ty := .int) (C := RX6) (T := TX6) (N := 12) hx hb ht inX6 tyX6 tyX6_ok nmX6 hown hK hP hD hS 0 rfl rfl 9 (by decide) (ht (.fieldLink RX6 88 "CloneVolumes$Reader" "stop" "I") fl_X6_88) (fun _ h9 => h9) rfl (by decide +kernel) rfl rfl (Nat.le_of_ble_eq_true rfl) dX6_advance_248 (fun H locs hP hD hS => ?_)
                have hP : va_P D vwCl [(h0, .inr (6, [.int fa, .int pl, .ref h1, .ref h2, .ref h3, .int mo, .int (nI op), .int 3, .int (nI (sp + i_3)), .int (nI ((sp + i_3) + 1)), .int (-1), .int (f (sp + i_3))])), (h1, .inr (9, [.ref h4, .int (nI n)])), (h4, .inl (D.1 13, 1600, .inl f)), (h2, .inl (D.1 14, 179, .inl fw))] H := hP
                have hD : va_D A [(h0, .inr (6, [.int fa, .int pl, .ref h1, .ref h2, .ref h3, .int mo, .int (nI op), .int 3, .int (nI (sp + i_3)), .int (nI ((sp + i_3) + 1)), .int (-1), .int (f (sp + i_3))])), (h1, .inr (9, [.ref h4, .int (nI n)])), (h4, .inl (D.1 13, 1600, .inl f)), (h2, .inl (D.1 14, 179, .inl fw))] := hD
                refine lv_aload_n hx hb dX6_advance_251 rfl (lv_at hl 0 rfl) ?_
                refine va_get (D := D) (ci := 6) (v := .ref h1) (C := RX6) (T := TX6) (N := 12) hx hb ht inX6 hown hK hP 0 rfl rfl 2 (by decide) (ht (.fieldLink RX6 27 "CloneVolumes$Reader" "tape" "LCloneVolumes$Tape;") fl_X6_27) (fun _ h9 => h9) rfl dX6_advance_252 ?_
                refine lv_aload_n hx hb dX6_advance_255 rfl (lv_at hl 0 rfl) ?_
                refine va_get (D := D) (ci := 6) (v := .int (nI (sp + i_3))) (C := RX6) (T := TX6) (N := 12) hx hb ht inX6 hown hK hP 0 rfl rfl 8 (by decide) (ht (.fieldLink RX6 51 "CloneVolumes$Reader" "start" "I") fl_X6_51) (fun _ h9 => h9) rfl dX6_advance_256 ?_
                refine lv_iconst (v := 1) hx hb dX6_advance_259 (by decide) ?_
                refine lv_isub hx hb dX6_advance_260 ?_
                refine lv_topi (fun x_459 ex_459 => ?_)
                refine zcV (As := [.int x_459]) (rest := []) (C := RX9) (n := 1) ⟨hx, hb, hml, hown, ht⟩ (k_X9_at l D h1 h4 n f x_459 (by first | decide | omega)) (zgV ml_X6_104 im_X9_at se_X9_at in_X9 co_X9_at) rfl rfl (by decide +kernel) ⟨Nat.le_of_ble_eq_true rfl, Nat.le_of_ble_eq_true rfl⟩ hK hP hS [1, 2] rfl 0 rfl rfl rfl rfl hl.1 rfl (Nat.le_of_ble_eq_true rfl) dX6_advance_261 ⟨Nat.le_of_ble_eq_true rfl, Nat.le_of_ble_eq_true rfl⟩ (fun r_460 H locs hw hP hS => ?_)
                rcases hw with ⟨rfl, g_461⟩ | ⟨rfl, g_462⟩
                · skip
                  refine lv_istore_n (lv' := [(1, .int (f x_459.toNatClampNeg)), (0, .ref h0)]) hx hb dX6_advance_264 rfl hl (by decide) rfl (fun ls hl => ?_)
                  refine lv_aload_n hx hb dX6_advance_265 rfl (lv_at hl 1 rfl) ?_
                  refine va_get (D := D) (ci := 6) (v := .int 3) (C := RX6) (T := TX6) (N := 12) hx hb ht inX6 hown hK hP 0 rfl rfl 7 (by decide) (ht (.fieldLink RX6 44 "CloneVolumes$Reader" "kind" "I") fl_X6_44) (fun _ h9 => h9) rfl dX6_advance_266 ?_
                  refine lv_iconst (v := 1) hx hb dX6_advance_269 (by decide) ?_
                  refine lv_icmp_eq (tgt := 281) hx hb dX6_advance_270 (by decide) (fun c_463 => (z_abs c_463 (by decide)).elim) (fun _ => ?_)
                  refine lv_aload_n hx hb dX6_advance_273 rfl (lv_at hl 1 rfl) ?_
                  refine va_get (D := D) (ci := 6) (v := .int 3) (C := RX6) (T := TX6) (N := 12) hx hb ht inX6 hown hK hP 0 rfl rfl 7 (by decide) (ht (.fieldLink RX6 44 "CloneVolumes$Reader" "kind" "I") fl_X6_44) (fun _ h9 => h9) rfl dX6_advance_274 ?_
                  refine lv_iconst (v := 2) hx hb dX6_advance_277 (by decide) ?_
                  refine lv_icmp_ne (tgt := 300) hx hb dX6_advance_278 (by decide) (fun _ => ?_) (fun c_465 => (z_abs c_465 (by decide)).elim)
                  have hP9 := hP.sub (ws' := [(h0, .inr (6, [.int fa, .int pl, .ref h1, .ref h2, .ref h3, .int mo, .int (nI op), .int 3, .int (nI (sp + i_3)), .int (nI ((sp + i_3) + 1)), .int (-1), .int (f (sp + i_3))])), (h1, .inr (9, [.ref h4, .int (nI n)])), (h4, .inl (D.1 13, 1600, .inl f)), (h2, .inl (D.1 14, 179, .inl fw))]) [0, 1, 2, 3] rfl
                  have hD9 := hD.sub (ws' := [(h0, .inr (6, [.int fa, .int pl, .ref h1, .ref h2, .ref h3, .int mo, .int (nI op), .int 3, .int (nI (sp + i_3)), .int (nI ((sp + i_3) + 1)), .int (-1), .int (f (sp + i_3))])), (h1, .inr (9, [.ref h4, .int (nI n)])), (h4, .inl (D.1 13, 1600, .inl f)), (h2, .inl (D.1 14, 179, .inl fw))]) [0, 1, 2, 3] (by decide) rfl
                  refine W.widen (k := 0) (n := 0) (Nat.le_of_ble_eq_true rfl) (Nat.le_of_ble_eq_true rfl) ?_
                  exact W.vret hx hb hr (fun t ht hW => ⟨⟨(3, (sp + i_3), ((sp + i_3) + 1), (-1), (f (sp + i_3))), rfl, (by first | omega | (dsimp only; omega)), by rw [ht]; exact hP9, va_K.moved hW.alike hK, hD9⟩, hS.F ht⟩) hS.2.2 dX6_advance_300
                · skip
                  refine lv_istore_n (lv' := [(1, .int (-1)), (0, .ref h0)]) hx hb dX6_advance_264 rfl hl (by decide) rfl (fun ls hl => ?_)
                  refine lv_aload_n hx hb dX6_advance_265 rfl (lv_at hl 1 rfl) ?_
                  refine va_get (D := D) (ci := 6) (v := .int 3) (C := RX6) (T := TX6) (N := 12) hx hb ht inX6 hown hK hP 0 rfl rfl 7 (by decide) (ht (.fieldLink RX6 44 "CloneVolumes$Reader" "kind" "I") fl_X6_44) (fun _ h9 => h9) rfl dX6_advance_266 ?_
                  refine lv_iconst (v := 1) hx hb dX6_advance_269 (by decide) ?_
                  refine lv_icmp_eq (tgt := 281) hx hb dX6_advance_270 (by decide) (fun c_467 => (z_abs c_467 (by decide)).elim) (fun _ => ?_)
                  refine lv_aload_n hx hb dX6_advance_273 rfl (lv_at hl 1 rfl) ?_
                  refine va_get (D := D) (ci := 6) (v := .int 3) (C := RX6) (T := TX6) (N := 12) hx hb ht inX6 hown hK hP 0 rfl rfl 7 (by decide) (ht (.fieldLink RX6 44 "CloneVolumes$Reader" "kind" "I") fl_X6_44) (fun _ h9 => h9) rfl dX6_advance_274 ?_
                  refine lv_iconst (v := 2) hx hb dX6_advance_277 (by decide) ?_
                  refine lv_icmp_ne (tgt := 300) hx hb dX6_advance_278 (by decide) (fun _ => ?_) (fun c_469 => (z_abs c_469 (by decide)).elim)
                  have hP9 := hP.sub (ws' := [(h0, .inr (6, [.int fa, .int pl, .ref h1, .ref h2, .ref h3, .int mo, .int (nI op), .int 3, .int (nI (sp + i_3)), .int (nI ((sp + i_3) + 1)), .int (-1), .int (f (sp + i_3))])), (h1, .inr (9, [.ref h4, .int (nI n)])), (h4, .inl (D.1 13, 1600, .inl f)), (h2, .inl (D.1 14, 179, .inl fw))]) [0, 1, 2, 3] rfl
                  have hD9 := hD.sub (ws' := [(h0, .inr (6, [.int fa, .int pl, .ref h1, .ref h2, .ref h3, .int mo, .int (nI op), .int 3, .int (nI (sp + i_3)), .int (nI ((sp + i_3) + 1)), .int (-1), .int (f (sp + i_3))])), (h1, .inr (9, [.ref h4, .int (nI n)])), (h4, .inl (D.1 13, 1600, .inl f)), (h2, .inl (D.1 14, 179, .inl fw))]) [0, 1, 2, 3] (by decide) rfl
                  refine W.widen (k := 0) (n := 0) (Nat.le_of_ble_eq_true rfl) (Nat.le_of_ble_eq_true rfl) ?_
                  exact W.vret hx hb hr (fun t ht hW => ⟨⟨(3, (sp + i_3), ((sp + i_3) + 1), (-1), (f (sp + i_3))), rfl, (by first | omega | (dsimp only; omega)), by rw [ht]; exact hP9, va_K.moved hW.alike hK, hD9⟩, hS.F ht⟩) hS.2.2 dX6_advance_300
          · have g_260 : (f (sp + i_3)).toInt = (-1) := z_eq rfl (by decide) c_259
            refine lv_aload_n hx hb dX6_advance_97 rfl (lv_at hl 0 rfl) ?_
            refine lv_iconst (v := 0) hx hb dX6_advance_98 (by decide) ?_
            refine va_put (D := D) (ci := 6) (v := .int 0) (ty := .int) (C := RX6) (T := TX6) (N := 12) hx hb ht inX6 tyX6 tyX6_ok nmX6 hown hK hP hD hS 0 rfl rfl 7 (by decide) (ht (.fieldLink RX6 44 "CloneVolumes$Reader" "kind" "I") fl_X6_44) (fun _ h9 => h9) rfl (by decide +kernel) rfl rfl (Nat.le_of_ble_eq_true rfl) dX6_advance_99 (fun H locs hP hD hS => ?_)
            have hP : va_P D vwCl [(h0, .inr (6, [.int fa, .int pl, .ref h1, .ref h2, .ref h3, .int mo, .int (nI op), .int 0, .int (nI (sp + i_3)), .int (nI (sp + i_3)), .int (-1), .int (f (sp + i_3))])), (h1, .inr (9, [.ref h4, .int (nI n)])), (h4, .inl (D.1 13, 1600, .inl f)), (h2, .inl (D.1 14, 179, .inl fw))] H := hP
            have hD : va_D A [(h0, .inr (6, [.int fa, .int pl, .ref h1, .ref h2, .ref h3, .int mo, .int (nI op), .int 0, .int (nI (sp + i_3)), .int (nI (sp + i_3)), .int (-1), .int (f (sp + i_3))])), (h1, .inr (9, [.ref h4, .int (nI n)])), (h4, .inl (D.1 13, 1600, .inl f)), (h2, .inl (D.1 14, 179, .inl fw))] := hD
            refine lv_goto (tgt := 251) hx hb dX6_advance_102 (by decide) ?_
            refine lv_aload_n hx hb dX6_advance_251 rfl (lv_at hl 0 rfl) ?_
            refine va_get (D := D) (ci := 6) (v := .ref h1) (C := RX6) (T := TX6) (N := 12) hx hb ht inX6 hown hK hP 0 rfl rfl 2 (by decide) (ht (.fieldLink RX6 27 "CloneVolumes$Reader" "tape" "LCloneVolumes$Tape;") fl_X6_27) (fun _ h9 => h9) rfl dX6_advance_252 ?_
            refine lv_aload_n hx hb dX6_advance_255 rfl (lv_at hl 0 rfl) ?_
            refine va_get (D := D) (ci := 6) (v := .int (nI (sp + i_3))) (C := RX6) (T := TX6) (N := 12) hx hb ht inX6 hown hK hP 0 rfl rfl 8 (by decide) (ht (.fieldLink RX6 51 "CloneVolumes$Reader" "start" "I") fl_X6_51) (fun _ h9 => h9) rfl dX6_advance_256 ?_
            refine lv_iconst (v := 1) hx hb dX6_advance_259 (by decide) ?_
            refine lv_isub hx hb dX6_advance_260 ?_
            refine lv_topi (fun x_471 ex_471 => ?_)
            refine zcV (As := [.int x_471]) (rest := []) (C := RX9) (n := 1) ⟨hx, hb, hml, hown, ht⟩ (k_X9_at l D h1 h4 n f x_471 (by first | decide | omega)) (zgV ml_X6_104 im_X9_at se_X9_at in_X9 co_X9_at) rfl rfl (by decide +kernel) ⟨Nat.le_of_ble_eq_true rfl, Nat.le_of_ble_eq_true rfl⟩ hK hP hS [1, 2] rfl 0 rfl rfl rfl rfl hl.1 rfl (Nat.le_of_ble_eq_true rfl) dX6_advance_261 ⟨Nat.le_of_ble_eq_true rfl, Nat.le_of_ble_eq_true rfl⟩ (fun r_472 H locs hw hP hS => ?_)
            rcases hw with ⟨rfl, g_473⟩ | ⟨rfl, g_474⟩
            · skip
              refine lv_istore_n (lv' := [(1, .int (f x_471.toNatClampNeg)), (0, .ref h0)]) hx hb dX6_advance_264 rfl hl (by decide) rfl (fun ls hl => ?_)
              refine lv_aload_n hx hb dX6_advance_265 rfl (lv_at hl 1 rfl) ?_
              refine va_get (D := D) (ci := 6) (v := .int 0) (C := RX6) (T := TX6) (N := 12) hx hb ht inX6 hown hK hP 0 rfl rfl 7 (by decide) (ht (.fieldLink RX6 44 "CloneVolumes$Reader" "kind" "I") fl_X6_44) (fun _ h9 => h9) rfl dX6_advance_266 ?_
              refine lv_iconst (v := 1) hx hb dX6_advance_269 (by decide) ?_
              refine lv_icmp_eq (tgt := 281) hx hb dX6_advance_270 (by decide) (fun c_475 => (z_abs c_475 (by decide)).elim) (fun _ => ?_)
              refine lv_aload_n hx hb dX6_advance_273 rfl (lv_at hl 1 rfl) ?_
              refine va_get (D := D) (ci := 6) (v := .int 0) (C := RX6) (T := TX6) (N := 12) hx hb ht inX6 hown hK hP 0 rfl rfl 7 (by decide) (ht (.fieldLink RX6 44 "CloneVolumes$Reader" "kind" "I") fl_X6_44) (fun _ h9 => h9) rfl dX6_advance_274 ?_
              refine lv_iconst (v := 2) hx hb dX6_advance_277 (by decide) ?_
              refine lv_icmp_ne (tgt := 300) hx hb dX6_advance_278 (by decide) (fun _ => ?_) (fun c_477 => (z_abs c_477 (by decide)).elim)
              have hP9 := hP.sub (ws' := [(h0, .inr (6, [.int fa, .int pl, .ref h1, .ref h2, .ref h3, .int mo, .int (nI op), .int 0, .int (nI (sp + i_3)), .int (nI (sp + i_3)), .int (-1), .int (f (sp + i_3))])), (h1, .inr (9, [.ref h4, .int (nI n)])), (h4, .inl (D.1 13, 1600, .inl f)), (h2, .inl (D.1 14, 179, .inl fw))]) [0, 1, 2, 3] rfl
              have hD9 := hD.sub (ws' := [(h0, .inr (6, [.int fa, .int pl, .ref h1, .ref h2, .ref h3, .int mo, .int (nI op), .int 0, .int (nI (sp + i_3)), .int (nI (sp + i_3)), .int (-1), .int (f (sp + i_3))])), (h1, .inr (9, [.ref h4, .int (nI n)])), (h4, .inl (D.1 13, 1600, .inl f)), (h2, .inl (D.1 14, 179, .inl fw))]) [0, 1, 2, 3] (by decide) rfl
              refine W.widen (k := 0) (n := 0) (Nat.le_of_ble_eq_true rfl) (Nat.le_of_ble_eq_true rfl) ?_
              exact W.vret hx hb hr (fun t ht hW => ⟨⟨(0, (sp + i_3), (sp + i_3), (-1), (f (sp + i_3))), rfl, (by first | omega | (dsimp only; omega)), by rw [ht]; exact hP9, va_K.moved hW.alike hK, hD9⟩, hS.F ht⟩) hS.2.2 dX6_advance_300
            · skip
              refine lv_istore_n (lv' := [(1, .int (-1)), (0, .ref h0)]) hx hb dX6_advance_264 rfl hl (by decide) rfl (fun ls hl => ?_)
              refine lv_aload_n hx hb dX6_advance_265 rfl (lv_at hl 1 rfl) ?_
              refine va_get (D := D) (ci := 6) (v := .int 0) (C := RX6) (T := TX6) (N := 12) hx hb ht inX6 hown hK hP 0 rfl rfl 7 (by decide) (ht (.fieldLink RX6 44 "CloneVolumes$Reader" "kind" "I") fl_X6_44) (fun _ h9 => h9) rfl dX6_advance_266 ?_
              refine lv_iconst (v := 1) hx hb dX6_advance_269 (by decide) ?_
              refine lv_icmp_eq (tgt := 281) hx hb dX6_advance_270 (by decide) (fun c_479 => (z_abs c_479 (by decide)).elim) (fun _ => ?_)
              refine lv_aload_n hx hb dX6_advance_273 rfl (lv_at hl 1 rfl) ?_
              refine va_get (D := D) (ci := 6) (v := .int 0) (C := RX6) (T := TX6) (N := 12) hx hb ht inX6 hown hK hP 0 rfl rfl 7 (by decide) (ht (.fieldLink RX6 44 "CloneVolumes$Reader" "kind" "I") fl_X6_44) (fun _ h9 => h9) rfl dX6_advance_274 ?_
              refine lv_iconst (v := 2) hx hb dX6_advance_277 (by decide) ?_
              refine lv_icmp_ne (tgt := 300) hx hb dX6_advance_278 (by decide) (fun _ => ?_) (fun c_481 => (z_abs c_481 (by decide)).elim)
              have hP9 := hP.sub (ws' := [(h0, .inr (6, [.int fa, .int pl, .ref h1, .ref h2, .ref h3, .int mo, .int (nI op), .int 0, .int (nI (sp + i_3)), .int (nI (sp + i_3)), .int (-1), .int (f (sp + i_3))])), (h1, .inr (9, [.ref h4, .int (nI n)])), (h4, .inl (D.1 13, 1600, .inl f)), (h2, .inl (D.1 14, 179, .inl fw))]) [0, 1, 2, 3] rfl
              have hD9 := hD.sub (ws' := [(h0, .inr (6, [.int fa, .int pl, .ref h1, .ref h2, .ref h3, .int mo, .int (nI op), .int 0, .int (nI (sp + i_3)), .int (nI (sp + i_3)), .int (-1), .int (f (sp + i_3))])), (h1, .inr (9, [.ref h4, .int (nI n)])), (h4, .inl (D.1 13, 1600, .inl f)), (h2, .inl (D.1 14, 179, .inl fw))]) [0, 1, 2, 3] (by decide) rfl
              refine W.widen (k := 0) (n := 0) (Nat.le_of_ble_eq_true rfl) (Nat.le_of_ble_eq_true rfl) ?_
              exact W.vret hx hb hr (fun t ht hW => ⟨⟨(0, (sp + i_3), (sp + i_3), (-1), (f (sp + i_3))), rfl, (by first | omega | (dsimp only; omega)), by rw [ht]; exact hP9, va_K.moved hW.alike hK, hD9⟩, hS.F ht⟩) hS.2.2 dX6_advance_300
        · skip
          refine va_put (D := D) (ci := 6) (v := .int (-1)) (ty := .int) (C := RX6) (T := TX6) (N := 12) hx hb ht inX6 tyX6 tyX6_ok nmX6 hown hK hP hD hS 0 rfl rfl 11 (by decide) (ht (.fieldLink RX6 108 "CloneVolumes$Reader" "sign" "I") fl_X6_108) (fun _ h9 => h9) rfl (by decide +kernel) rfl rfl (Nat.le_of_ble_eq_true rfl) dX6_advance_86 (fun H locs hP hD hS => ?_)
          have hP : va_P D vwCl [(h0, .inr (6, [.int fa, .int pl, .ref h1, .ref h2, .ref h3, .int mo, .int (nI op), .int ki, .int (nI (sp + i_3)), .int (nI (sp + i_3)), .int (-1), .int (-1)])), (h1, .inr (9, [.ref h4, .int (nI n)])), (h4, .inl (D.1 13, 1600, .inl f)), (h2, .inl (D.1 14, 179, .inl fw))] H := hP
          have hD : va_D A [(h0, .inr (6, [.int fa, .int pl, .ref h1, .ref h2, .ref h3, .int mo, .int (nI op), .int ki, .int (nI (sp + i_3)), .int (nI (sp + i_3)), .int (-1), .int (-1)])), (h1, .inr (9, [.ref h4, .int (nI n)])), (h4, .inl (D.1 13, 1600, .inl f)), (h2, .inl (D.1 14, 179, .inl fw))] := hD
          refine lv_aload_n hx hb dX6_advance_89 rfl (lv_at hl 0 rfl) ?_
          refine va_get (D := D) (ci := 6) (v := .int (-1)) (C := RX6) (T := TX6) (N := 12) hx hb ht inX6 hown hK hP 0 rfl rfl 11 (by decide) (ht (.fieldLink RX6 108 "CloneVolumes$Reader" "sign" "I") fl_X6_108) (fun _ h9 => h9) rfl dX6_advance_90 ?_
          refine lv_iconst (v := (-1)) hx hb dX6_advance_93 (by decide) ?_
          refine lv_icmp_ne (tgt := 105) hx hb dX6_advance_94 (by decide) (fun c_483 => (z_abs c_483 (by decide)).elim) (fun _ => ?_)
          refine lv_aload_n hx hb dX6_advance_97 rfl (lv_at hl 0 rfl) ?_
          refine lv_iconst (v := 0) hx hb dX6_advance_98 (by decide) ?_
          refine va_put (D := D) (ci := 6) (v := .int 0) (ty := .int) (C := RX6) (T := TX6) (N := 12) hx hb ht inX6 tyX6 tyX6_ok nmX6 hown hK hP hD hS 0 rfl rfl 7 (by decide) (ht (.fieldLink RX6 44 "CloneVolumes$Reader" "kind" "I") fl_X6_44) (fun _ h9 => h9) rfl (by decide +kernel) rfl rfl (Nat.le_of_ble_eq_true rfl) dX6_advance_99 (fun H locs hP hD hS => ?_)
          have hP : va_P D vwCl [(h0, .inr (6, [.int fa, .int pl, .ref h1, .ref h2, .ref h3, .int mo, .int (nI op), .int 0, .int (nI (sp + i_3)), .int (nI (sp + i_3)), .int (-1), .int (-1)])), (h1, .inr (9, [.ref h4, .int (nI n)])), (h4, .inl (D.1 13, 1600, .inl f)), (h2, .inl (D.1 14, 179, .inl fw))] H := hP
          have hD : va_D A [(h0, .inr (6, [.int fa, .int pl, .ref h1, .ref h2, .ref h3, .int mo, .int (nI op), .int 0, .int (nI (sp + i_3)), .int (nI (sp + i_3)), .int (-1), .int (-1)])), (h1, .inr (9, [.ref h4, .int (nI n)])), (h4, .inl (D.1 13, 1600, .inl f)), (h2, .inl (D.1 14, 179, .inl fw))] := hD
          refine lv_goto (tgt := 251) hx hb dX6_advance_102 (by decide) ?_
          refine lv_aload_n hx hb dX6_advance_251 rfl (lv_at hl 0 rfl) ?_
          refine va_get (D := D) (ci := 6) (v := .ref h1) (C := RX6) (T := TX6) (N := 12) hx hb ht inX6 hown hK hP 0 rfl rfl 2 (by decide) (ht (.fieldLink RX6 27 "CloneVolumes$Reader" "tape" "LCloneVolumes$Tape;") fl_X6_27) (fun _ h9 => h9) rfl dX6_advance_252 ?_
          refine lv_aload_n hx hb dX6_advance_255 rfl (lv_at hl 0 rfl) ?_
          refine va_get (D := D) (ci := 6) (v := .int (nI (sp + i_3))) (C := RX6) (T := TX6) (N := 12) hx hb ht inX6 hown hK hP 0 rfl rfl 8 (by decide) (ht (.fieldLink RX6 51 "CloneVolumes$Reader" "start" "I") fl_X6_51) (fun _ h9 => h9) rfl dX6_advance_256 ?_
          refine lv_iconst (v := 1) hx hb dX6_advance_259 (by decide) ?_
          refine lv_isub hx hb dX6_advance_260 ?_
          refine lv_topi (fun x_485 ex_485 => ?_)
          refine zcV (As := [.int x_485]) (rest := []) (C := RX9) (n := 1) ⟨hx, hb, hml, hown, ht⟩ (k_X9_at l D h1 h4 n f x_485 (by first | decide | omega)) (zgV ml_X6_104 im_X9_at se_X9_at in_X9 co_X9_at) rfl rfl (by decide +kernel) ⟨Nat.le_of_ble_eq_true rfl, Nat.le_of_ble_eq_true rfl⟩ hK hP hS [1, 2] rfl 0 rfl rfl rfl rfl hl.1 rfl (Nat.le_of_ble_eq_true rfl) dX6_advance_261 ⟨Nat.le_of_ble_eq_true rfl, Nat.le_of_ble_eq_true rfl⟩ (fun r_486 H locs hw hP hS => ?_)
          rcases hw with ⟨rfl, g_487⟩ | ⟨rfl, g_488⟩
          · skip
            refine lv_istore_n (lv' := [(1, .int (f x_485.toNatClampNeg)), (0, .ref h0)]) hx hb dX6_advance_264 rfl hl (by decide) rfl (fun ls hl => ?_)
            refine lv_aload_n hx hb dX6_advance_265 rfl (lv_at hl 1 rfl) ?_
            refine va_get (D := D) (ci := 6) (v := .int 0) (C := RX6) (T := TX6) (N := 12) hx hb ht inX6 hown hK hP 0 rfl rfl 7 (by decide) (ht (.fieldLink RX6 44 "CloneVolumes$Reader" "kind" "I") fl_X6_44) (fun _ h9 => h9) rfl dX6_advance_266 ?_
            refine lv_iconst (v := 1) hx hb dX6_advance_269 (by decide) ?_
            refine lv_icmp_eq (tgt := 281) hx hb dX6_advance_270 (by decide) (fun c_489 => (z_abs c_489 (by decide)).elim) (fun _ => ?_)
            refine lv_aload_n hx hb dX6_advance_273 rfl (lv_at hl 1 rfl) ?_
            refine va_get (D := D) (ci := 6) (v := .int 0) (C := RX6) (T := TX6) (N := 12) hx hb ht inX6 hown hK hP 0 rfl rfl 7 (by decide) (ht (.fieldLink RX6 44 "CloneVolumes$Reader" "kind" "I") fl_X6_44) (fun _ h9 => h9) rfl dX6_advance_274 ?_
            refine lv_iconst (v := 2) hx hb dX6_advance_277 (by decide) ?_
            refine lv_icmp_ne (tgt := 300) hx hb dX6_advance_278 (by decide) (fun _ => ?_) (fun c_491 => (z_abs c_491 (by decide)).elim)
            have hP9 := hP.sub (ws' := [(h0, .inr (6, [.int fa, .int pl, .ref h1, .ref h2, .ref h3, .int mo, .int (nI op), .int 0, .int (nI (sp + i_3)), .int (nI (sp + i_3)), .int (-1), .int (-1)])), (h1, .inr (9, [.ref h4, .int (nI n)])), (h4, .inl (D.1 13, 1600, .inl f)), (h2, .inl (D.1 14, 179, .inl fw))]) [0, 1, 2, 3] rfl
            have hD9 := hD.sub (ws' := [(h0, .inr (6, [.int fa, .int pl, .ref h1, .ref h2, .ref h3, .int mo, .int (nI op), .int 0, .int (nI (sp + i_3)), .int (nI (sp + i_3)), .int (-1), .int (-1)])), (h1, .inr (9, [.ref h4, .int (nI n)])), (h4, .inl (D.1 13, 1600, .inl f)), (h2, .inl (D.1 14, 179, .inl fw))]) [0, 1, 2, 3] (by decide) rfl
            refine W.widen (k := 0) (n := 0) (Nat.le_of_ble_eq_true rfl) (Nat.le_of_ble_eq_true rfl) ?_
            exact W.vret hx hb hr (fun t ht hW => ⟨⟨(0, (sp + i_3), (sp + i_3), (-1), (-1)), rfl, (by first | omega | (dsimp only; omega)), by rw [ht]; exact hP9, va_K.moved hW.alike hK, hD9⟩, hS.F ht⟩) hS.2.2 dX6_advance_300
          · skip
            refine lv_istore_n (lv' := [(1, .int (-1)), (0, .ref h0)]) hx hb dX6_advance_264 rfl hl (by decide) rfl (fun ls hl => ?_)
            refine lv_aload_n hx hb dX6_advance_265 rfl (lv_at hl 1 rfl) ?_
            refine va_get (D := D) (ci := 6) (v := .int 0) (C := RX6) (T := TX6) (N := 12) hx hb ht inX6 hown hK hP 0 rfl rfl 7 (by decide) (ht (.fieldLink RX6 44 "CloneVolumes$Reader" "kind" "I") fl_X6_44) (fun _ h9 => h9) rfl dX6_advance_266 ?_
            refine lv_iconst (v := 1) hx hb dX6_advance_269 (by decide) ?_
            refine lv_icmp_eq (tgt := 281) hx hb dX6_advance_270 (by decide) (fun c_493 => (z_abs c_493 (by decide)).elim) (fun _ => ?_)
            refine lv_aload_n hx hb dX6_advance_273 rfl (lv_at hl 1 rfl) ?_
            refine va_get (D := D) (ci := 6) (v := .int 0) (C := RX6) (T := TX6) (N := 12) hx hb ht inX6 hown hK hP 0 rfl rfl 7 (by decide) (ht (.fieldLink RX6 44 "CloneVolumes$Reader" "kind" "I") fl_X6_44) (fun _ h9 => h9) rfl dX6_advance_274 ?_
            refine lv_iconst (v := 2) hx hb dX6_advance_277 (by decide) ?_
            refine lv_icmp_ne (tgt := 300) hx hb dX6_advance_278 (by decide) (fun _ => ?_) (fun c_495 => (z_abs c_495 (by decide)).elim)
            have hP9 := hP.sub (ws' := [(h0, .inr (6, [.int fa, .int pl, .ref h1, .ref h2, .ref h3, .int mo, .int (nI op), .int 0, .int (nI (sp + i_3)), .int (nI (sp + i_3)), .int (-1), .int (-1)])), (h1, .inr (9, [.ref h4, .int (nI n)])), (h4, .inl (D.1 13, 1600, .inl f)), (h2, .inl (D.1 14, 179, .inl fw))]) [0, 1, 2, 3] rfl
            have hD9 := hD.sub (ws' := [(h0, .inr (6, [.int fa, .int pl, .ref h1, .ref h2, .ref h3, .int mo, .int (nI op), .int 0, .int (nI (sp + i_3)), .int (nI (sp + i_3)), .int (-1), .int (-1)])), (h1, .inr (9, [.ref h4, .int (nI n)])), (h4, .inl (D.1 13, 1600, .inl f)), (h2, .inl (D.1 14, 179, .inl fw))]) [0, 1, 2, 3] (by decide) rfl
            refine W.widen (k := 0) (n := 0) (Nat.le_of_ble_eq_true rfl) (Nat.le_of_ble_eq_true rfl) ?_
            exact W.vret hx hb hr (fun t ht hW => ⟨⟨(0, (sp + i_3), (sp + i_3), (-1), (-1)), rfl, (by first | omega | (dsimp only; omega)), by rw [ht]; exact hP9, va_K.moved hW.alike hK, hD9⟩, hS.F ht⟩) hS.2.2 dX6_advance_300
  · have g_2 : ¬ fa.toInt = 0 := z_ne rfl (by decide) c_1
    have hP9 := hP.sub (ws' := [(h0, .inr (6, [.int fa, .int pl, .ref h1, .ref h2, .ref h3, .int mo, .int (nI op), .int ki, .int (nI s0), .int (nI sp), .int wo, .int si])), (h1, .inr (9, [.ref h4, .int (nI n)])), (h4, .inl (D.1 13, 1600, .inl f)), (h2, .inl (D.1 14, 179, .inl fw))]) [0, 1, 2, 3] rfl
    have hD9 := hD.sub (ws' := [(h0, .inr (6, [.int fa, .int pl, .ref h1, .ref h2, .ref h3, .int mo, .int (nI op), .int ki, .int (nI s0), .int (nI sp), .int wo, .int si])), (h1, .inr (9, [.ref h4, .int (nI n)])), (h4, .inl (D.1 13, 1600, .inl f)), (h2, .inl (D.1 14, 179, .inl fw))]) [0, 1, 2, 3] (by decide) rfl
    refine W.widen (k := 0) (n := 0) (Nat.le_of_ble_eq_true rfl) (Nat.le_of_ble_eq_true rfl) ?_
    exact W.vret hx hb hr (fun t ht hW => ⟨⟨(ki, s0, sp, wo, si), rfl, (by first | omega | (dsimp only; omega)), by rw [ht]; exact hP9, va_K.moved hW.alike hK, hD9⟩, hS.F ht⟩) hS.2.2 dX6_advance_7
