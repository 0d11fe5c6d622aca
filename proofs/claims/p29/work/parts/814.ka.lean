theorem co_X0_add : Cond.code yX0_add cX0_add 2 none ∈ lw_gd := zm (lw_g_3 (List.mem_of_getElem? (i := 193) (by decide +kernel))) rfl
theorem co_X6_advance : Cond.code yX6_advance cX6_advance 2 none ∈ lw_gd := zm (lw_g_3 (List.mem_of_getElem? (i := 99) (by decide +kernel))) rfl
theorem co_X6_expectSign : Cond.code yX6_expectSign cX6_expectSign 2 none ∈ lw_gd := zm (lw_g_3 (List.mem_of_getElem? (i := 205) (by decide +kernel))) rfl
theorem co_X6_fail : Cond.code yX6_fail cX6_fail 3 (some .boolean) ∈ lw_gd := zm (lw_g_3 (List.mem_of_getElem? (i := 124) (by decide +kernel))) rfl
theorem co_X6_isBlank : Cond.code yX6_isBlank cX6_isBlank 1 (some .boolean) ∈ lw_gd := zm (lw_g_3 (List.mem_of_getElem? (i := 102) (by decide +kernel))) rfl
theorem co_X6_isDigit : Cond.code yX6_isDigit cX6_isDigit 1 (some .boolean) ∈ lw_gd := zm (lw_g_3 (List.mem_of_getElem? (i := 116) (by decide +kernel))) rfl
theorem co_X6_isLetter : Cond.code yX6_isLetter cX6_isLetter 1 (some .boolean) ∈ lw_gd := zm (lw_g_3 (List.mem_of_getElem? (i := 109) (by decide +kernel))) rfl
theorem co_X6_isSign : Cond.code yX6_isSign cX6_isSign 2 (some .boolean) ∈ lw_gd := zm (lw_g_3 (List.mem_of_getElem? (i := 197) (by decide +kernel))) rfl
theorem co_X6_opens : Cond.code yX6_opens cX6_opens 1 (some .boolean) ∈ lw_gd := zm (lw_g_3 (List.mem_of_getElem? (i := 201) (by decide +kernel))) rfl
theorem co_X6_readPart : Cond.code yX6_readPart cX6_readPart 1 none ∈ lw_gd := zm (lw_g_3 (List.mem_of_getElem? (i := 188) (by decide +kernel))) rfl
theorem co_X6_readSum : Cond.code yX6_readSum cX6_readSum 3 none ∈ lw_gd := zm (lw_g_3 (List.mem_of_getElem? (i := 180) (by decide +kernel))) rfl
theorem co_X6_wordNumber : Cond.code yX6_wordNumber cX6_wordNumber 5 (some .int) ∈ lw_gd := zm (lw_g_3 (List.mem_of_getElem? (i := 113) (by decide +kernel))) rfl
theorem co_X9_at : Cond.code yX9_at cX9_at 2 (some .int) ∈ lw_gd := zm (lw_g_3 (List.mem_of_getElem? (i := 106) (by decide +kernel))) rfl
theorem fl_X0_15 : Cond.fieldLink RX0 15 "CloneVolumes$Code" "size" "I" ∈ lw_gd := zm (lw_g_2 (List.mem_of_getElem? (i := 19) (by decide +kernel))) rfl
theorem fl_X6_108 : Cond.fieldLink RX6 108 "CloneVolumes$Reader" "sign" "I" ∈ lw_gd := zm (lw_g_1 (List.mem_of_getElem? (i := 114) (by decide +kernel))) rfl
theorem fl_X6_44 : Cond.fieldLink RX6 44 "CloneVolumes$Reader" "kind" "I" ∈ lw_gd := zm (lw_g_1 (List.mem_of_getElem? (i := 110) (by decide +kernel))) rfl
theorem fl_X6_51 : Cond.fieldLink RX6 51 "CloneVolumes$Reader" "start" "I" ∈ lw_gd := zm (lw_g_1 (List.mem_of_getElem? (i := 111) (by decide +kernel))) rfl
theorem fl_X6_61 : Cond.fieldLink RX6 61 "CloneVolumes$Reader" "fault" "I" ∈ lw_gd := zm (lw_g_1 (List.mem_of_getElem? (i := 101) (by decide +kernel))) rfl
theorem fl_X6_72 : Cond.fieldLink RX6 72 "CloneVolumes$Reader" "word" "I" ∈ lw_gd := zm (lw_g_1 (List.mem_of_getElem? (i := 113) (by decide +kernel))) rfl
theorem fl_X6_84 : Cond.fieldLink RX6 84 "CloneVolumes$Reader" "code" "LCloneVolumes$Code;" ∈ lw_gd := zm (lw_g_1 (List.mem_of_getElem? (i := 107) (by decide +kernel))) rfl
theorem fl_X6_85 : Cond.fieldLink RX6 85 "CloneVolumes$Reader" "open" "I" ∈ lw_gd := zm (lw_g_1 (List.mem_of_getElem? (i := 109) (by decide +kernel))) rfl
theorem fl_X6_88 : Cond.fieldLink RX6 88 "CloneVolumes$Reader" "stop" "I" ∈ lw_gd := zm (lw_g_1 (List.mem_of_getElem? (i := 112) (by decide +kernel))) rfl
theorem fl_X6_91 : Cond.fieldLink RX6 91 "CloneVolumes$Tape" "length" "I" ∈ lw_gd := zm (lw_g_1 (List.mem_of_getElem? (i := 41) (by decide +kernel))) rfl
theorem fl_X6_96 : Cond.fieldLink RX6 96 "CloneVolumes$Tape" "bytes" "[I" ∈ lw_gd := zm (lw_g_1 (List.mem_of_getElem? (i := 36) (by decide +kernel))) rfl
theorem fl_X9_15 : Cond.fieldLink RX9 15 "CloneVolumes$Tape" "length" "I" ∈ lw_gd := zm (lw_g_1 (List.mem_of_getElem? (i := 38) (by decide +kernel))) rfl
theorem im_X0_add : Cond.instanceMethod yX0_add ∈ lw_gd := zm (lw_g_3 (List.mem_of_getElem? (i := 191) (by decide +kernel))) rfl
theorem im_X6_advance : Cond.instanceMethod yX6_advance ∈ lw_gd := zm (lw_g_3 (List.mem_of_getElem? (i := 98) (by decide +kernel))) rfl
theorem im_X6_expectSign : Cond.instanceMethod yX6_expectSign ∈ lw_gd := zm (lw_g_3 (List.mem_of_getElem? (i := 204) (by decide +kernel))) rfl
theorem im_X6_fail : Cond.instanceMethod yX6_fail ∈ lw_gd := zm (lw_g_3 (List.mem_of_getElem? (i := 123) (by decide +kernel))) rfl
theorem im_X6_isSign : Cond.instanceMethod yX6_isSign ∈ lw_gd := zm (lw_g_3 (List.mem_of_getElem? (i := 196) (by decide +kernel))) rfl
theorem im_X6_opens : Cond.instanceMethod yX6_opens ∈ lw_gd := zm (lw_g_3 (List.mem_of_getElem? (i := 200) (by decide +kernel))) rfl
theorem im_X6_readPart : Cond.instanceMethod yX6_readPart ∈ lw_gd := zm (lw_g_3 (List.mem_of_getElem? (i := 187) (by decide +kernel))) rfl
theorem im_X6_readSum : Cond.instanceMethod yX6_readSum ∈ lw_gd := zm (lw_g_3 (List.mem_of_getElem? (i := 179) (by decide +kernel))) rfl
theorem im_X6_wordNumber : Cond.instanceMethod yX6_wordNumber ∈ lw_gd := zm (lw_g_3 (List.mem_of_getElem? (i := 112) (by decide +kernel))) rfl
theorem im_X9_at : Cond.instanceMethod yX9_at ∈ lw_gd := zm (lw_g_3 (List.mem_of_getElem? (i := 104) (by decide +kernel))) rfl
theorem ml_X6_100 : Cond.methodLink RX6 100 yX6_isBlank ∈ lw_gd := zm (lw_g_3 (List.mem_of_getElem? (i := 100) (by decide +kernel))) rfl
theorem ml_X6_104 : Cond.methodLink RX6 104 yX9_at ∈ lw_gd := zm (lw_g_3 (List.mem_of_getElem? (i := 103) (by decide +kernel))) rfl
theorem ml_X6_111 : Cond.methodLink RX6 111 yX6_isLetter ∈ lw_gd := zm (lw_g_3 (List.mem_of_getElem? (i := 107) (by decide +kernel))) rfl
theorem ml_X6_114 : Cond.methodLink RX6 114 yX6_wordNumber ∈ lw_gd := zm (lw_g_3 (List.mem_of_getElem? (i := 110) (by decide +kernel))) rfl
theorem ml_X6_118 : Cond.methodLink RX6 118 yX6_isDigit ∈ lw_gd := zm (lw_g_3 (List.mem_of_getElem? (i := 114) (by decide +kernel))) rfl
theorem ml_X6_124 : Cond.methodLink RX6 124 yX6_isSign ∈ lw_gd := zm (lw_g_3 (List.mem_of_getElem? (i := 194) (by decide +kernel))) rfl
theorem ml_X6_158 : Cond.methodLink RX6 158 yX6_expectSign ∈ lw_gd := zm (lw_g_3 (List.mem_of_getElem? (i := 202) (by decide +kernel))) rfl
theorem ml_X6_191 : Cond.methodLink RX6 191 yX0_add ∈ lw_gd := zm (lw_g_3 (List.mem_of_getElem? (i := 190) (by decide +kernel))) rfl
theorem ml_X6_197 : Cond.methodLink RX6 197 yX6_opens ∈ lw_gd := zm (lw_g_3 (List.mem_of_getElem? (i := 198) (by decide +kernel))) rfl
theorem ml_X6_206 : Cond.methodLink RX6 206 yX6_readPart ∈ lw_gd := zm (lw_g_3 (List.mem_of_getElem? (i := 185) (by decide +kernel))) rfl
theorem ml_X6_54 : Cond.methodLink RX6 54 yX6_fail ∈ lw_gd := zm (lw_g_3 (List.mem_of_getElem? (i := 121) (by decide +kernel))) rfl
theorem ml_X6_75 : Cond.methodLink RX6 75 yX6_advance ∈ lw_gd := zm (lw_g_3 (List.mem_of_getElem? (i := 96) (by decide +kernel))) rfl
theorem ml_X6_81 : Cond.methodLink RX6 81 yX6_readSum ∈ lw_gd := zm (lw_g_3 (List.mem_of_getElem? (i := 177) (by decide +kernel))) rfl
theorem se_X0_add : Cond.selects RX0 yX0_add yX0_add ∈ lw_gd := zm (lw_g_3 (List.mem_of_getElem? (i := 192) (by decide +kernel))) rfl
theorem se_X6_advance : Cond.selects RX6 yX6_advance yX6_advance ∈ lw_gd := zm (List.mem_of_getElem? (i := 2) (by decide +kernel)) rfl
theorem se_X6_expectSign : Cond.selects RX6 yX6_expectSign yX6_expectSign ∈ lw_gd := zm (List.mem_of_getElem? (i := 20) (by decide +kernel)) rfl
theorem se_X6_fail : Cond.selects RX6 yX6_fail yX6_fail ∈ lw_gd := zm (List.mem_of_getElem? (i := 5) (by decide +kernel)) rfl
theorem se_X6_isSign : Cond.selects RX6 yX6_isSign yX6_isSign ∈ lw_gd := zm (List.mem_of_getElem? (i := 18) (by decide +kernel)) rfl
theorem se_X6_opens : Cond.selects RX6 yX6_opens yX6_opens ∈ lw_gd := zm (List.mem_of_getElem? (i := 19) (by decide +kernel)) rfl
theorem se_X6_readPart : Cond.selects RX6 yX6_readPart yX6_readPart ∈ lw_gd := zm (List.mem_of_getElem? (i := 17) (by decide +kernel)) rfl
theorem se_X6_readSum : Cond.selects RX6 yX6_readSum yX6_readSum ∈ lw_gd := zm (List.mem_of_getElem? (i := 15) (by decide +kernel)) rfl
theorem se_X6_wordNumber : Cond.selects RX6 yX6_wordNumber yX6_wordNumber ∈ lw_gd := zm (List.mem_of_getElem? (i := 3) (by decide +kernel)) rfl
theorem se_X9_at : Cond.selects RX9 yX9_at yX9_at ∈ lw_gd := zm (lw_g_3 (List.mem_of_getElem? (i := 105) (by decide +kernel))) rfl
theorem st_X6_isBlank : Cond.static yX6_isBlank ∈ lw_gd := zm (lw_g_3 (List.mem_of_getElem? (i := 101) (by decide +kernel))) rfl
theorem st_X6_isDigit : Cond.static yX6_isDigit ∈ lw_gd := zm (lw_g_3 (List.mem_of_getElem? (i := 115) (by decide +kernel))) rfl
theorem st_X6_isLetter : Cond.static yX6_isLetter ∈ lw_gd := zm (lw_g_3 (List.mem_of_getElem? (i := 108) (by decide +kernel))) rfl
theorem eX0_add_0 : decode cX0_add 0 = .ok (.aload_n 0, 1) ∧ decode cX0_add 1 = .ok (.getfield 15, 3) ∧ decode cX0_add 4 = .ok (.sipush 1600, 3) ∧ decode cX0_add 7 = .ok (.if_icmp .ge 23, 3) ∧ decode cX0_add 10 = .ok (.aload_n 0, 1) ∧ decode cX0_add 11 = .ok (.getfield 9, 3) ∧ decode cX0_add 14 = .ok (.aload_n 0, 1) ∧ decode cX0_add 15 = .ok (.getfield 15, 3) := by decide +kernel
theorem eX0_add_18 : decode cX0_add 18 = .ok (.iload_n 1, 1) ∧ decode cX0_add 19 = .ok (.iastore, 1) ∧ decode cX0_add 20 = .ok (.aload_n 0, 1) ∧ decode cX0_add 21 = .ok (.dup, 1) ∧ decode cX0_add 22 = .ok (.getfield 15, 3) ∧ decode cX0_add 25 = .ok (.iconst 1, 1) ∧ decode cX0_add 26 = .ok (.iadd, 1) ∧ decode cX0_add 27 = .ok (.putfield 15, 3) := by decide +kernel
theorem eX0_add_30 : decode cX0_add 30 = .ok (.return_, 1) ∧ decode cX6_advance 0 = .ok (.aload_n 0, 1) ∧ decode cX6_advance 1 = .ok (.getfield 61, 3) ∧ decode cX6_advance 4 = .ok (.ifCond .eq 4, 3) ∧ decode cX6_advance 7 = .ok (.return_, 1) ∧ decode cX6_advance 8 = .ok (.aload_n 0, 1) ∧ decode cX6_advance 9 = .ok (.aload_n 0, 1) ∧ decode cX6_advance 10 = .ok (.getfield 88, 3) := by decide +kernel
theorem eX6_advance_13 : decode cX6_advance 13 = .ok (.putfield 51, 3) ∧ decode cX6_advance 16 = .ok (.aload_n 0, 1) ∧ decode cX6_advance 17 = .ok (.getfield 51, 3) ∧ decode cX6_advance 20 = .ok (.aload_n 0, 1) ∧ decode cX6_advance 21 = .ok (.getfield 27, 3) ∧ decode cX6_advance 24 = .ok (.getfield 91, 3) ∧ decode cX6_advance 27 = .ok (.if_icmp .ge 34, 3) ∧ decode cX6_advance 30 = .ok (.aload_n 0, 1) := by decide +kernel
theorem eX6_advance_31 : decode cX6_advance 31 = .ok (.getfield 27, 3) ∧ decode cX6_advance 34 = .ok (.getfield 96, 3) ∧ decode cX6_advance 37 = .ok (.aload_n 0, 1) ∧ decode cX6_advance 38 = .ok (.getfield 51, 3) ∧ decode cX6_advance 41 = .ok (.iaload, 1) ∧ decode cX6_advance 42 = .ok (.invokestatic 100, 3) ∧ decode cX6_advance 45 = .ok (.ifCond .eq 16, 3) ∧ decode cX6_advance 48 = .ok (.aload_n 0, 1) := by decide +kernel
theorem eX6_advance_49 : decode cX6_advance 49 = .ok (.dup, 1) ∧ decode cX6_advance 50 = .ok (.getfield 51, 3) ∧ decode cX6_advance 53 = .ok (.iconst 1, 1) ∧ decode cX6_advance 54 = .ok (.iadd, 1) ∧ decode cX6_advance 55 = .ok (.putfield 51, 3) ∧ decode cX6_advance 58 = .ok (.goto (-42), 3) ∧ decode cX6_advance 61 = .ok (.aload_n 0, 1) ∧ decode cX6_advance 62 = .ok (.aload_n 0, 1) := by decide +kernel
theorem eX6_advance_63 : decode cX6_advance 63 = .ok (.getfield 51, 3) ∧ decode cX6_advance 66 = .ok (.putfield 88, 3) ∧ decode cX6_advance 69 = .ok (.aload_n 0, 1) ∧ decode cX6_advance 70 = .ok (.iconst (-1), 1) ∧ decode cX6_advance 71 = .ok (.putfield 72, 3) ∧ decode cX6_advance 74 = .ok (.aload_n 0, 1) ∧ decode cX6_advance 75 = .ok (.aload_n 0, 1) ∧ decode cX6_advance 76 = .ok (.getfield 27, 3) := by decide +kernel
theorem eX6_advance_79 : decode cX6_advance 79 = .ok (.aload_n 0, 1) ∧ decode cX6_advance 80 = .ok (.getfield 51, 3) ∧ decode cX6_advance 83 = .ok (.invokevirtual 104, 3) ∧ decode cX6_advance 86 = .ok (.putfield 108, 3) ∧ decode cX6_advance 89 = .ok (.aload_n 0, 1) ∧ decode cX6_advance 90 = .ok (.getfield 108, 3) ∧ decode cX6_advance 93 = .ok (.iconst (-1), 1) ∧ decode cX6_advance 94 = .ok (.if_icmp .ne 11, 3) := by decide +kernel
theorem eX6_advance_97 : decode cX6_advance 97 = .ok (.aload_n 0, 1) ∧ decode cX6_advance 98 = .ok (.iconst 0, 1) ∧ decode cX6_advance 99 = .ok (.putfield 44, 3) ∧ decode cX6_advance 102 = .ok (.goto 149, 3) ∧ decode cX6_advance 105 = .ok (.aload_n 0, 1) ∧ decode cX6_advance 106 = .ok (.getfield 108, 3) ∧ decode cX6_advance 109 = .ok (.invokestatic 111, 3) ∧ decode cX6_advance 112 = .ok (.ifCond .eq 64, 3) := by decide +kernel
theorem eX6_advance_115 : decode cX6_advance 115 = .ok (.aload_n 0, 1) ∧ decode cX6_advance 116 = .ok (.iconst 1, 1) ∧ decode cX6_advance 117 = .ok (.putfield 44, 3) ∧ decode cX6_advance 120 = .ok (.aload_n 0, 1) ∧ decode cX6_advance 121 = .ok (.getfield 88, 3) ∧ decode cX6_advance 124 = .ok (.aload_n 0, 1) ∧ decode cX6_advance 125 = .ok (.getfield 27, 3) ∧ decode cX6_advance 128 = .ok (.getfield 91, 3) := by decide +kernel
theorem eX6_advance_131 : decode cX6_advance 131 = .ok (.if_icmp .ge 34, 3) ∧ decode cX6_advance 134 = .ok (.aload_n 0, 1) ∧ decode cX6_advance 135 = .ok (.getfield 27, 3) ∧ decode cX6_advance 138 = .ok (.getfield 96, 3) ∧ decode cX6_advance 141 = .ok (.aload_n 0, 1) ∧ decode cX6_advance 142 = .ok (.getfield 88, 3) ∧ decode cX6_advance 145 = .ok (.iaload, 1) ∧ decode cX6_advance 146 = .ok (.invokestatic 111, 3) := by decide +kernel
theorem eX6_advance_149 : decode cX6_advance 149 = .ok (.ifCond .eq 16, 3) ∧ decode cX6_advance 152 = .ok (.aload_n 0, 1) ∧ decode cX6_advance 153 = .ok (.dup, 1) ∧ decode cX6_advance 154 = .ok (.getfield 88, 3) ∧ decode cX6_advance 157 = .ok (.iconst 1, 1) ∧ decode cX6_advance 158 = .ok (.iadd, 1) ∧ decode cX6_advance 159 = .ok (.putfield 88, 3) ∧ decode cX6_advance 162 = .ok (.goto (-42), 3) := by decide +kernel
theorem eX6_advance_165 : decode cX6_advance 165 = .ok (.aload_n 0, 1) ∧ decode cX6_advance 166 = .ok (.aload_n 0, 1) ∧ decode cX6_advance 167 = .ok (.invokevirtual 114, 3) ∧ decode cX6_advance 170 = .ok (.putfield 72, 3) ∧ decode cX6_advance 173 = .ok (.goto 78, 3) ∧ decode cX6_advance 176 = .ok (.aload_n 0, 1) ∧ decode cX6_advance 177 = .ok (.getfield 108, 3) ∧ decode cX6_advance 180 = .ok (.invokestatic 118, 3) := by decide +kernel
theorem eX6_advance_183 : decode cX6_advance 183 = .ok (.ifCond .eq 53, 3) ∧ decode cX6_advance 186 = .ok (.aload_n 0, 1) ∧ decode cX6_advance 187 = .ok (.iconst 2, 1) ∧ decode cX6_advance 188 = .ok (.putfield 44, 3) ∧ decode cX6_advance 191 = .ok (.aload_n 0, 1) ∧ decode cX6_advance 192 = .ok (.getfield 88, 3) ∧ decode cX6_advance 195 = .ok (.aload_n 0, 1) ∧ decode cX6_advance 196 = .ok (.getfield 27, 3) := by decide +kernel
theorem eX6_advance_199 : decode cX6_advance 199 = .ok (.getfield 91, 3) ∧ decode cX6_advance 202 = .ok (.if_icmp .ge 49, 3) ∧ decode cX6_advance 205 = .ok (.aload_n 0, 1) ∧ decode cX6_advance 206 = .ok (.getfield 27, 3) ∧ decode cX6_advance 209 = .ok (.getfield 96, 3) ∧ decode cX6_advance 212 = .ok (.aload_n 0, 1) ∧ decode cX6_advance 213 = .ok (.getfield 88, 3) ∧ decode cX6_advance 216 = .ok (.iaload, 1) := by decide +kernel
theorem eX6_advance_217 : decode cX6_advance 217 = .ok (.invokestatic 118, 3) ∧ decode cX6_advance 220 = .ok (.ifCond .eq 31, 3) ∧ decode cX6_advance 223 = .ok (.aload_n 0, 1) ∧ decode cX6_advance 224 = .ok (.dup, 1) ∧ decode cX6_advance 225 = .ok (.getfield 88, 3) ∧ decode cX6_advance 228 = .ok (.iconst 1, 1) ∧ decode cX6_advance 229 = .ok (.iadd, 1) ∧ decode cX6_advance 230 = .ok (.putfield 88, 3) := by decide +kernel
theorem eX6_advance_233 : decode cX6_advance 233 = .ok (.goto (-42), 3) ∧ decode cX6_advance 236 = .ok (.aload_n 0, 1) ∧ decode cX6_advance 237 = .ok (.iconst 3, 1) ∧ decode cX6_advance 238 = .ok (.putfield 44, 3) ∧ decode cX6_advance 241 = .ok (.aload_n 0, 1) ∧ decode cX6_advance 242 = .ok (.dup, 1) ∧ decode cX6_advance 243 = .ok (.getfield 88, 3) ∧ decode cX6_advance 246 = .ok (.iconst 1, 1) := by decide +kernel
theorem eX6_advance_247 : decode cX6_advance 247 = .ok (.iadd, 1) ∧ decode cX6_advance 248 = .ok (.putfield 88, 3) ∧ decode cX6_advance 251 = .ok (.aload_n 0, 1) ∧ decode cX6_advance 252 = .ok (.getfield 27, 3) ∧ decode cX6_advance 255 = .ok (.aload_n 0, 1) ∧ decode cX6_advance 256 = .ok (.getfield 51, 3) ∧ decode cX6_advance 259 = .ok (.iconst 1, 1) ∧ decode cX6_advance 260 = .ok (.isub, 1) := by decide +kernel
theorem eX6_advance_261 : decode cX6_advance 261 = .ok (.invokevirtual 104, 3) ∧ decode cX6_advance 264 = .ok (.istore_n 1, 1) ∧ decode cX6_advance 265 = .ok (.aload_n 0, 1) ∧ decode cX6_advance 266 = .ok (.getfield 44, 3) ∧ decode cX6_advance 269 = .ok (.iconst 1, 1) ∧ decode cX6_advance 270 = .ok (.if_icmp .eq 11, 3) ∧ decode cX6_advance 273 = .ok (.aload_n 0, 1) ∧ decode cX6_advance 274 = .ok (.getfield 44, 3) := by decide +kernel
theorem eX6_advance_277 : decode cX6_advance 277 = .ok (.iconst 2, 1) ∧ decode cX6_advance 278 = .ok (.if_icmp .ne 22, 3) ∧ decode cX6_advance 281 = .ok (.iload_n 1, 1) ∧ decode cX6_advance 282 = .ok (.invokestatic 111, 3) ∧ decode cX6_advance 285 = .ok (.ifCond .ne 10, 3) ∧ decode cX6_advance 288 = .ok (.iload_n 1, 1) ∧ decode cX6_advance 289 = .ok (.invokestatic 118, 3) ∧ decode cX6_advance 292 = .ok (.ifCond .eq 8, 3) := by decide +kernel
theorem eX6_advance_295 : decode cX6_advance 295 = .ok (.aload_n 0, 1) ∧ decode cX6_advance 296 = .ok (.iconst 4, 1) ∧ decode cX6_advance 297 = .ok (.putfield 44, 3) ∧ decode cX6_advance 300 = .ok (.return_, 1) ∧ decode cX6_expectSign 0 = .ok (.aload_n 0, 1) ∧ decode cX6_expectSign 1 = .ok (.iload_n 1, 1) ∧ decode cX6_expectSign 2 = .ok (.invokevirtual 124, 3) ∧ decode cX6_expectSign 5 = .ok (.ifCond .eq 10, 3) := by decide +kernel
theorem eX6_expectSign_8 : decode cX6_expectSign 8 = .ok (.aload_n 0, 1) ∧ decode cX6_expectSign 9 = .ok (.invokevirtual 75, 3) ∧ decode cX6_expectSign 12 = .ok (.goto 13, 3) ∧ decode cX6_expectSign 15 = .ok (.aload_n 0, 1) ∧ decode cX6_expectSign 16 = .ok (.iconst 1, 1) ∧ decode cX6_expectSign 17 = .ok (.aload_n 0, 1) ∧ decode cX6_expectSign 18 = .ok (.getfield 51, 3) ∧ decode cX6_expectSign 21 = .ok (.invokevirtual 54, 3) := by decide +kernel
theorem eX6_expectSign_24 : decode cX6_expectSign 24 = .ok (.pop, 1) ∧ decode cX6_expectSign 25 = .ok (.return_, 1) ∧ decode cX6_fail 0 = .ok (.aload_n 0, 1) ∧ decode cX6_fail 1 = .ok (.getfield 61, 3) ∧ decode cX6_fail 4 = .ok (.ifCond .ne 18, 3) ∧ decode cX6_fail 7 = .ok (.aload_n 0, 1) ∧ decode cX6_fail 8 = .ok (.iload_n 1, 1) ∧ decode cX6_fail 9 = .ok (.putfield 61, 3) := by decide +kernel
theorem eX6_fail_12 : decode cX6_fail 12 = .ok (.aload_n 0, 1) ∧ decode cX6_fail 13 = .ok (.iload_n 2, 1) ∧ decode cX6_fail 14 = .ok (.putfield 9, 3) ∧ decode cX6_fail 17 = .ok (.aload_n 0, 1) ∧ decode cX6_fail 18 = .ok (.iconst 0, 1) ∧ decode cX6_fail 19 = .ok (.putfield 44, 3) ∧ decode cX6_fail 22 = .ok (.iconst 0, 1) ∧ decode cX6_fail 23 = .ok (.ireturn, 1) := by decide +kernel
theorem eX6_isBlank_0 : decode cX6_isBlank 0 = .ok (.iload_n 0, 1) ∧ decode cX6_isBlank 1 = .ok (.bipush 10, 2) ∧ decode cX6_isBlank 3 = .ok (.if_icmp .eq 9, 3) ∧ decode cX6_isBlank 6 = .ok (.iload_n 0, 1) ∧ decode cX6_isBlank 7 = .ok (.bipush 32, 2) ∧ decode cX6_isBlank 9 = .ok (.if_icmp .ne 7, 3) ∧ decode cX6_isBlank 12 = .ok (.iconst 1, 1) ∧ decode cX6_isBlank 13 = .ok (.goto 4, 3) := by decide +kernel
theorem eX6_isBlank_16 : decode cX6_isBlank 16 = .ok (.iconst 0, 1) ∧ decode cX6_isBlank 17 = .ok (.ireturn, 1) ∧ decode cX6_isDigit 0 = .ok (.iload_n 0, 1) ∧ decode cX6_isDigit 1 = .ok (.bipush 48, 2) ∧ decode cX6_isDigit 3 = .ok (.if_icmp .lt 13, 3) ∧ decode cX6_isDigit 6 = .ok (.iload_n 0, 1) ∧ decode cX6_isDigit 7 = .ok (.bipush 57, 2) ∧ decode cX6_isDigit 9 = .ok (.if_icmp .gt 7, 3) := by decide +kernel
theorem eX6_isDigit_12 : decode cX6_isDigit 12 = .ok (.iconst 1, 1) ∧ decode cX6_isDigit 13 = .ok (.goto 4, 3) ∧ decode cX6_isDigit 16 = .ok (.iconst 0, 1) ∧ decode cX6_isDigit 17 = .ok (.ireturn, 1) ∧ decode cX6_isLetter 0 = .ok (.iload_n 0, 1) ∧ decode cX6_isLetter 1 = .ok (.bipush 97, 2) ∧ decode cX6_isLetter 3 = .ok (.if_icmp .lt 13, 3) ∧ decode cX6_isLetter 6 = .ok (.iload_n 0, 1) := by decide +kernel
theorem eX6_isLetter_7 : decode cX6_isLetter 7 = .ok (.bipush 122, 2) ∧ decode cX6_isLetter 9 = .ok (.if_icmp .gt 7, 3) ∧ decode cX6_isLetter 12 = .ok (.iconst 1, 1) ∧ decode cX6_isLetter 13 = .ok (.goto 4, 3) ∧ decode cX6_isLetter 16 = .ok (.iconst 0, 1) ∧ decode cX6_isLetter 17 = .ok (.ireturn, 1) ∧ decode cX6_isSign 0 = .ok (.aload_n 0, 1) ∧ decode cX6_isSign 1 = .ok (.getfield 44, 3) := by decide +kernel
theorem eX6_isSign_4 : decode cX6_isSign 4 = .ok (.iconst 3, 1) ∧ decode cX6_isSign 5 = .ok (.if_icmp .ne 15, 3) ∧ decode cX6_isSign 8 = .ok (.aload_n 0, 1) ∧ decode cX6_isSign 9 = .ok (.getfield 108, 3) ∧ decode cX6_isSign 12 = .ok (.iload_n 1, 1) ∧ decode cX6_isSign 13 = .ok (.if_icmp .ne 7, 3) ∧ decode cX6_isSign 16 = .ok (.iconst 1, 1) ∧ decode cX6_isSign 17 = .ok (.goto 4, 3) := by decide +kernel
theorem eX6_isSign_20 : decode cX6_isSign 20 = .ok (.iconst 0, 1) ∧ decode cX6_isSign 21 = .ok (.ireturn, 1) ∧ decode cX6_opens 0 = .ok (.aload_n 0, 1) ∧ decode cX6_opens 1 = .ok (.getfield 85, 3) ∧ decode cX6_opens 4 = .ok (.bipush 6, 2) ∧ decode cX6_opens 6 = .ok (.if_icmp .lt 13, 3) ∧ decode cX6_opens 9 = .ok (.aload_n 0, 1) ∧ decode cX6_opens 10 = .ok (.iconst 4, 1) := by decide +kernel
theorem eX6_opens_11 : decode cX6_opens 11 = .ok (.aload_n 0, 1) ∧ decode cX6_opens 12 = .ok (.getfield 51, 3) ∧ decode cX6_opens 15 = .ok (.invokevirtual 54, 3) ∧ decode cX6_opens 18 = .ok (.ireturn, 1) ∧ decode cX6_opens 19 = .ok (.aload_n 0, 1) ∧ decode cX6_opens 20 = .ok (.dup, 1) ∧ decode cX6_opens 21 = .ok (.getfield 85, 3) ∧ decode cX6_opens 24 = .ok (.iconst 1, 1) := by decide +kernel
theorem eX6_opens_25 : decode cX6_opens 25 = .ok (.iadd, 1) ∧ decode cX6_opens 26 = .ok (.putfield 85, 3) ∧ decode cX6_opens 29 = .ok (.iconst 1, 1) ∧ decode cX6_opens 30 = .ok (.ireturn, 1) ∧ decode cX6_readChoice 0 = .ok (.aload_n 0, 1) ∧ decode cX6_readChoice 1 = .ok (.invokevirtual 75, 3) ∧ decode cX6_readChoice 4 = .ok (.aload_n 0, 1) ∧ decode cX6_readChoice 5 = .ok (.bipush 40, 2) := by decide +kernel
theorem eX6_readChoice_7 : decode cX6_readChoice 7 = .ok (.invokevirtual 124, 3) ∧ decode cX6_readChoice 10 = .ok (.ifCond .ne 16, 3) ∧ decode cX6_readChoice 13 = .ok (.aload_n 0, 1) ∧ decode cX6_readChoice 14 = .ok (.iconst 1, 1) ∧ decode cX6_readChoice 15 = .ok (.aload_n 0, 1) ∧ decode cX6_readChoice 16 = .ok (.getfield 51, 3) ∧ decode cX6_readChoice 19 = .ok (.invokevirtual 54, 3) ∧ decode cX6_readChoice 22 = .ok (.pop, 1) := by decide +kernel
theorem eX6_readChoice_23 : decode cX6_readChoice 23 = .ok (.goto 52, 3) ∧ decode cX6_readChoice 26 = .ok (.aload_n 0, 1) ∧ decode cX6_readChoice 27 = .ok (.invokevirtual 197, 3) ∧ decode cX6_readChoice 30 = .ok (.ifCond .eq 45, 3) ∧ decode cX6_readChoice 33 = .ok (.aload_n 0, 1) ∧ decode cX6_readChoice 34 = .ok (.invokevirtual 75, 3) ∧ decode cX6_readChoice 37 = .ok (.aload_n 0, 1) ∧ decode cX6_readChoice 38 = .ok (.invokevirtual 81, 3) := by decide +kernel
theorem eX6_readChoice_41 : decode cX6_readChoice 41 = .ok (.aload_n 0, 1) ∧ decode cX6_readChoice 42 = .ok (.bipush 44, 2) ∧ decode cX6_readChoice 44 = .ok (.invokevirtual 158, 3) ∧ decode cX6_readChoice 47 = .ok (.aload_n 0, 1) ∧ decode cX6_readChoice 48 = .ok (.invokevirtual 81, 3) ∧ decode cX6_readChoice 51 = .ok (.aload_n 0, 1) ∧ decode cX6_readChoice 52 = .ok (.bipush 41, 2) ∧ decode cX6_readChoice 54 = .ok (.invokevirtual 158, 3) := by decide +kernel
theorem eX6_readChoice_57 : decode cX6_readChoice 57 = .ok (.aload_n 0, 1) ∧ decode cX6_readChoice 58 = .ok (.dup, 1) ∧ decode cX6_readChoice 59 = .ok (.getfield 85, 3) ∧ decode cX6_readChoice 62 = .ok (.iconst 1, 1) ∧ decode cX6_readChoice 63 = .ok (.isub, 1) ∧ decode cX6_readChoice 64 = .ok (.putfield 85, 3) ∧ decode cX6_readChoice 67 = .ok (.aload_n 0, 1) ∧ decode cX6_readChoice 68 = .ok (.getfield 84, 3) := by decide +kernel
theorem eX6_readChoice_71 : decode cX6_readChoice 71 = .ok (.iload_n 1, 1) ∧ decode cX6_readChoice 72 = .ok (.invokevirtual 191, 3) ∧ decode cX6_readChoice 75 = .ok (.return_, 1) ∧ decode cX6_readOther 0 = .ok (.aload_n 0, 1) ∧ decode cX6_readOther 1 = .ok (.invokevirtual 197, 3) ∧ decode cX6_readOther 4 = .ok (.ifCond .eq 29, 3) ∧ decode cX6_readOther 7 = .ok (.aload_n 0, 1) ∧ decode cX6_readOther 8 = .ok (.invokevirtual 75, 3) := by decide +kernel
theorem eX6_readOther_11 : decode cX6_readOther 11 = .ok (.aload_n 0, 1) ∧ decode cX6_readOther 12 = .ok (.invokevirtual 206, 3) ∧ decode cX6_readOther 15 = .ok (.aload_n 0, 1) ∧ decode cX6_readOther 16 = .ok (.getfield 84, 3) ∧ decode cX6_readOther 19 = .ok (.iload_n 1, 1) ∧ decode cX6_readOther 20 = .ok (.invokevirtual 191, 3) ∧ decode cX6_readOther 23 = .ok (.aload_n 0, 1) ∧ decode cX6_readOther 24 = .ok (.dup, 1) := by decide +kernel
theorem eX6_readOther_25 : decode cX6_readOther 25 = .ok (.getfield 85, 3) ∧ decode cX6_readOther 28 = .ok (.iconst 1, 1) ∧ decode cX6_readOther 29 = .ok (.isub, 1) ∧ decode cX6_readOther 30 = .ok (.putfield 85, 3) ∧ decode cX6_readOther 33 = .ok (.return_, 1) ∧ decode cX6_wordNumber 0 = .ok (.iconst 0, 1) ∧ decode cX6_wordNumber 1 = .ok (.istore_n 1, 1) ∧ decode cX6_wordNumber 2 = .ok (.aload_n 0, 1) := by decide +kernel
theorem eX6_wordNumber_3 : decode cX6_wordNumber 3 = .ok (.getfield 51, 3) ∧ decode cX6_wordNumber 6 = .ok (.istore_n 2, 1) ∧ decode cX6_wordNumber 7 = .ok (.iconst 1, 1) ∧ decode cX6_wordNumber 8 = .ok (.istore_n 3, 1) ∧ decode cX6_wordNumber 9 = .ok (.iconst 0, 1) ∧ decode cX6_wordNumber 10 = .ok (.istore 4, 2) ∧ decode cX6_wordNumber 12 = .ok (.iload 4, 2) ∧ decode cX6_wordNumber 14 = .ok (.aload_n 0, 1) := by decide +kernel
theorem eX6_wordNumber_15 : decode cX6_wordNumber 15 = .ok (.getfield 23, 3) ∧ decode cX6_wordNumber 18 = .ok (.arraylength, 1) ∧ decode cX6_wordNumber 19 = .ok (.if_icmp .ge 88, 3) ∧ decode cX6_wordNumber 22 = .ok (.aload_n 0, 1) ∧ decode cX6_wordNumber 23 = .ok (.getfield 23, 3) ∧ decode cX6_wordNumber 26 = .ok (.iload 4, 2) ∧ decode cX6_wordNumber 28 = .ok (.caload, 1) ∧ decode cX6_wordNumber 29 = .ok (.bipush 32, 2) := by decide +kernel
theorem eX6_wordNumber_31 : decode cX6_wordNumber 31 = .ok (.if_icmp .eq 46, 3) ∧ decode cX6_wordNumber 34 = .ok (.iload_n 3, 1) ∧ decode cX6_wordNumber 35 = .ok (.ifCond .eq 34, 3) ∧ decode cX6_wordNumber 38 = .ok (.iload_n 2, 1) ∧ decode cX6_wordNumber 39 = .ok (.aload_n 0, 1) ∧ decode cX6_wordNumber 40 = .ok (.getfield 88, 3) ∧ decode cX6_wordNumber 43 = .ok (.if_icmp .ge 26, 3) ∧ decode cX6_wordNumber 46 = .ok (.aload_n 0, 1) := by decide +kernel
theorem eX6_wordNumber_47 : decode cX6_wordNumber 47 = .ok (.getfield 27, 3) ∧ decode cX6_wordNumber 50 = .ok (.getfield 96, 3) ∧ decode cX6_wordNumber 53 = .ok (.iload_n 2, 1) ∧ decode cX6_wordNumber 54 = .ok (.iaload, 1) ∧ decode cX6_wordNumber 55 = .ok (.aload_n 0, 1) ∧ decode cX6_wordNumber 56 = .ok (.getfield 23, 3) ∧ decode cX6_wordNumber 59 = .ok (.iload 4, 2) ∧ decode cX6_wordNumber 61 = .ok (.caload, 1) := by decide +kernel
theorem eX6_wordNumber_62 : decode cX6_wordNumber 62 = .ok (.if_icmp .ne 7, 3) ∧ decode cX6_wordNumber 65 = .ok (.iconst 1, 1) ∧ decode cX6_wordNumber 66 = .ok (.goto 4, 3) ∧ decode cX6_wordNumber 69 = .ok (.iconst 0, 1) ∧ decode cX6_wordNumber 70 = .ok (.istore_n 3, 1) ∧ decode cX6_wordNumber 71 = .ok (.iinc 2 1, 3) ∧ decode cX6_wordNumber 74 = .ok (.goto 27, 3) ∧ decode cX6_wordNumber 77 = .ok (.iload_n 3, 1) := by decide +kernel
theorem eX6_wordNumber_78 : decode cX6_wordNumber 78 = .ok (.ifCond .eq 13, 3) ∧ decode cX6_wordNumber 81 = .ok (.iload_n 2, 1) ∧ decode cX6_wordNumber 82 = .ok (.aload_n 0, 1) ∧ decode cX6_wordNumber 83 = .ok (.getfield 88, 3) ∧ decode cX6_wordNumber 86 = .ok (.if_icmp .ne 5, 3) ∧ decode cX6_wordNumber 89 = .ok (.iload_n 1, 1) ∧ decode cX6_wordNumber 90 = .ok (.ireturn, 1) ∧ decode cX6_wordNumber 91 = .ok (.iinc 1 1, 3) := by decide +kernel
theorem eX6_wordNumber_94 : decode cX6_wordNumber 94 = .ok (.aload_n 0, 1) ∧ decode cX6_wordNumber 95 = .ok (.getfield 51, 3) ∧ decode cX6_wordNumber 98 = .ok (.istore_n 2, 1) ∧ decode cX6_wordNumber 99 = .ok (.iconst 1, 1) ∧ decode cX6_wordNumber 100 = .ok (.istore_n 3, 1) ∧ decode cX6_wordNumber 101 = .ok (.iinc 4 1, 3) ∧ decode cX6_wordNumber 104 = .ok (.goto (-92), 3) ∧ decode cX6_wordNumber 107 = .ok (.iload_n 3, 1) := by decide +kernel
theorem eX6_wordNumber_108 : decode cX6_wordNumber 108 = .ok (.ifCond .eq 15, 3) ∧ decode cX6_wordNumber 111 = .ok (.iload_n 2, 1) ∧ decode cX6_wordNumber 112 = .ok (.aload_n 0, 1) ∧ decode cX6_wordNumber 113 = .ok (.getfield 88, 3) ∧ decode cX6_wordNumber 116 = .ok (.if_icmp .ne 7, 3) ∧ decode cX6_wordNumber 119 = .ok (.iload_n 1, 1) ∧ decode cX6_wordNumber 120 = .ok (.goto 4, 3) ∧ decode cX6_wordNumber 123 = .ok (.iconst (-1), 1) := by decide +kernel
theorem eX6_wordNumber_124 : decode cX6_wordNumber 124 = .ok (.ireturn, 1) ∧ decode cX9_at 0 = .ok (.iload_n 1, 1) ∧ decode cX9_at 1 = .ok (.ifCond .lt 20, 3) ∧ decode cX9_at 4 = .ok (.iload_n 1, 1) ∧ decode cX9_at 5 = .ok (.aload_n 0, 1) ∧ decode cX9_at 6 = .ok (.getfield 15, 3) ∧ decode cX9_at 9 = .ok (.if_icmp .ge 12, 3) ∧ decode cX9_at 12 = .ok (.aload_n 0, 1) := by decide +kernel
theorem eX9_at_13 : decode cX9_at 13 = .ok (.getfield 9, 3) ∧ decode cX9_at 16 = .ok (.iload_n 1, 1) ∧ decode cX9_at 17 = .ok (.iaload, 1) ∧ decode cX9_at 18 = .ok (.goto 4, 3) ∧ decode cX9_at 21 = .ok (.iconst (-1), 1) ∧ decode cX9_at 22 = .ok (.ireturn, 1) := by decide +kernel
set_option maxHeartbeats 4000000 in
set_option maxRecDepth 100000 in
theorem k_x6_fail (l : Launch) (D : va_G) (a : Nat → Nat) (p0 : Int) (p1 : Int) (sz : Nat) (s : MS) (o : (Int × MS)) (h : m_x6_fail p0 p1 s = some o) : yWi l yX6_fail cX6_fail 3 (some .boolean) { frames := 0, cells := 0, slots := 0, locals := 0 } D sz [.ref (a 5), .int (i2 p0), .int (i2 p1)] (CS D a s) (CS D a o.2) (i2 o.1) := by
  refine Met.ofW (cc := cX6_fail) (maxL := 3) (ret := (some .boolean)) (by decide) rfl ?_
  intro p e s₀ m args below meth c s₁ B hml hv
  obtain ⟨rfl, ⟨hsz, hP, hK, hD0⟩, hN⟩ := hv
  have hx := B.exec
  have hb := B.bytes
  have hr := B.returns
  have hts := atoms_spec (ws := wz yX6_fail cX6_fail 3 (some .boolean)) B.pre
  have ht : ∀ w ∈ lw_gd, w.before _ s₀ = true := fun w h => hts w (List.mem_cons_of_mem _ h)
  have hown : s₀.vm.findClass RX6 = some m.cls := findClass_of_methodNamed B.named
  have hlocks := B.notSynchronized
  subst hsz
  have hD := hD0.self (sz := s₀.heap.size)
  generalize hAe : va_A (CS D a s) s₀.heap.size = A at hD ⊢
  have hA : ∀ q : Nat, s₀.heap.size ≤ q → A q := fun q h => by rw [← hAe]; exact Or.inr h
  have hS : va_S A s₀.heap s₀.heap [] := va_S.rf
  have hDD : ∀ t : MS, va_D A (CS D a t) := fun t => CW_D t hD
  have hl := lv_entry ([.ref (a 5), .int (i2 p0), .int (i2 p1)]) (n := 3) (Nat.le_of_ble_eq_true rfl)
  rw [lg_entry_eq]
  generalize (lg_sl ([.ref (a 5), .int (i2 p0), .int (i2 p1)]) ++ List.replicate (3 - (lg_sl ([.ref (a 5), .int (i2 p0), .int (i2 p1)])).length) Slot.unset).toArray = ls at hl ⊢
  have hl : lv_has ls 3 [(0, .ref (a 5)), (1, .int (i2 p0)), (2, .int (i2 p1))] := hl
  unfold m_x6_fail at h
  refine y_head (pcJ := 22) (σ := MS) (fun u H locs ls => va_P D vwCl (CS D a u) H ∧ va_S A s₀.heap H locs ∧ lv_has ls 3 [] ∧ m_x6_fail_J22 u = some o) (fun u => []) (fun u H locs ls hI => ?_) (fun J22 => ?_)
  · obtain ⟨hP, hS, hl, h⟩ := hI
    obtain ⟨s1, rfl⟩ : ∃ z, z = u := ⟨u, rfl⟩
    have hP : va_P D vwCl (CS D a s1) H := hP
    have hl : lv_has ls 3 [] := hl
    have h : m_x6_fail_J22 s1 = some o := h
    unfold m_x6_fail_J22 at h
    refine lv_iconst (v := 0) hx hb eX6_fail_12.2.2.2.2.2.2.1 (by decide) ?_
    obtain rfl := Option.some.inj h
    exact W.zret (v := 0) hx hb hr (by decide) (fun t ht hW => ⟨⟨_, (), rfl, rfl, by rw [ht]; exact hP, va_K.moved hW.alike hK, hDD _⟩, hS.F ht⟩) hS.2.2 eX6_fail_12.2.2.2.2.2.2.2
  refine lv_aload_n hx hb eX6_expectSign_24.2.2.1 rfl (lv_at hl 0 rfl) ?_
  refine va_get (D := D) (ci := 6) (v := .int (i2 (gI s 100))) (C := RX6) (T := TX6) (N := 12) hx hb ht inX6 hown hK hP 5 CW_5 rfl 0 (by decide) (ht (.fieldLink RX6 61 "CloneVolumes$Reader" "fault" "I") fl_X6_61) (fun _ h9 => h9) rfl eX6_expectSign_24.2.2.2.1 ?_
  obtain ⟨hr2, h⟩ := rg_e h
  refine lv_if_ne (tgt := 22) hx hb eX6_expectSign_24.2.2.2.2.1 (by decide) (fun c3 => ?_) (fun c3 => ?_)
  · have h := if_f (mt (i2_eq (x := (gI s 100)) (y := 0) hr2 (by decide)).mpr c3) h
    exact J22 s _ _ _ ⟨hP, hS, lv_sub hl [] rfl, h⟩
  · have h := if_t ((i2_eq (x := (gI s 100)) (y := 0) hr2 (by decide)).mp c3) h
    refine lv_aload_n hx hb eX6_expectSign_24.2.2.2.2.2.1 rfl (lv_at hl 0 rfl) ?_
    refine lv_iload_n hx hb eX6_expectSign_24.2.2.2.2.2.2.1 rfl (lv_at hl 1 rfl) ?_
    refine ya_put (D := D) (ci := 6) (v := .int (i2 p0)) (ty := .int) (C := RX6) (T := TX6) (N := 12) hx hb ht inX6 tyX6 tyX6_ok nmX6 hown hK hP (hDD _) hS 5 CW_5 rfl 0 (by decide) (ht (.fieldLink RX6 61 "CloneVolumes$Reader" "fault" "I") fl_X6_61) (fun _ h9 => h9) rfl (by decide +kernel) rfl rfl (Nat.le_of_ble_eq_true rfl) eX6_expectSign_24.2.2.2.2.2.2.2 (CW_w5_0 p0) (fun H locs hP hS => ?_)
    obtain ⟨s4, hs4, h⟩ := st_e h
    rw [hs4] at hP
    refine lv_aload_n hx hb eX6_fail_12.1 rfl (lv_at hl 0 rfl) ?_
    refine lv_iload_n hx hb eX6_fail_12.2.1 rfl (lv_at hl 2 rfl) ?_
    refine ya_put (D := D) (ci := 6) (v := .int (i2 p1)) (ty := .int) (C := RX6) (T := TX6) (N := 12) hx hb ht inX6 tyX6 tyX6_ok nmX6 hown hK hP (hDD _) hS 5 CW_5 rfl 1 (by decide) (ht (.fieldLink RX6 9 "CloneVolumes$Reader" "place" "I") fl_X6_9) (fun _ h9 => h9) rfl (by decide +kernel) rfl rfl (Nat.le_of_ble_eq_true rfl) eX6_fail_12.2.2.1 (CW_w5_1 p1) (fun H locs hP hS => ?_)
    obtain ⟨s5, hs5, h⟩ := st_e h
    rw [hs5] at hP
    refine lv_aload_n hx hb eX6_fail_12.2.2.2.1 rfl (lv_at hl 0 rfl) ?_
    refine lv_iconst (v := 0) hx hb eX6_fail_12.2.2.2.2.1 (by decide) ?_
    refine ya_put (D := D) (ci := 6) (v := .int 0) (ty := .int) (C := RX6) (T := TX6) (N := 12) hx hb ht inX6 tyX6 tyX6_ok nmX6 hown hK hP (hDD _) hS 5 CW_5 rfl 7 (by decide) (ht (.fieldLink RX6 44 "CloneVolumes$Reader" "kind" "I") fl_X6_44) (fun _ h9 => h9) rfl (by decide +kernel) rfl rfl (Nat.le_of_ble_eq_true rfl) eX6_fail_12.2.2.2.2.2.1 (CW_w5_7 0) (fun H locs hP hS => ?_)
    obtain ⟨s6, hs6, h⟩ := st_e h
    rw [hs6] at hP
    exact J22 s6 _ _ _ ⟨hP, hS, lv_sub hl [] rfl, h⟩
set_option maxHeartbeats 4000000 in
set_option maxRecDepth 100000 in
theorem k_x6_opens (l : Launch) (D : va_G) (a : Nat → Nat) (sz : Nat) (s : MS) (o : (Int × MS)) (h : m_x6_opens s = some o) : yWi l yX6_opens cX6_opens 1 (some .boolean) { frames := 1, cells := 0, slots := 0, locals := 60 } D sz [.ref (a 5)] (CS D a s) (CS D a o.2) (i2 o.1) := by
  refine Met.ofW (cc := cX6_opens) (maxL := 1) (ret := (some .boolean)) (by decide) rfl ?_
  intro p e s₀ m args below meth c s₁ B hml hv
  obtain ⟨rfl, ⟨hsz, hP, hK, hD0⟩, hN⟩ := hv
  have hx := B.exec
  have hb := B.bytes
  have hr := B.returns
  have hts := atoms_spec (ws := wz yX6_opens cX6_opens 1 (some .boolean)) B.pre
  have ht : ∀ w ∈ lw_gd, w.before _ s₀ = true := fun w h => hts w (List.mem_cons_of_mem _ h)
  have hown : s₀.vm.findClass RX6 = some m.cls := findClass_of_methodNamed B.named
  have hlocks := B.notSynchronized
  subst hsz
  have hD := hD0.self (sz := s₀.heap.size)
  generalize hAe : va_A (CS D a s) s₀.heap.size = A at hD ⊢
  have hA : ∀ q : Nat, s₀.heap.size ≤ q → A q := fun q h => by rw [← hAe]; exact Or.inr h
  have hS : va_S A s₀.heap s₀.heap [] := va_S.rf
  have hDD : ∀ t : MS, va_D A (CS D a t) := fun t => CW_D t hD
  have hl := lv_entry ([.ref (a 5)]) (n := 1) (Nat.le_of_ble_eq_true rfl)
  rw [lg_entry_eq]
  generalize (lg_sl ([.ref (a 5)]) ++ List.replicate (1 - (lg_sl ([.ref (a 5)])).length) Slot.unset).toArray = ls at hl ⊢
  have hl : lv_has ls 1 [(0, .ref (a 5))] := hl
  unfold m_x6_opens at h
  refine lv_aload_n hx hb eX6_isSign_20.2.2.1 rfl (lv_at hl 0 rfl) ?_
  refine va_get (D := D) (ci := 6) (v := .int (i2 (gI s 106))) (C := RX6) (T := TX6) (N := 12) hx hb ht inX6 hown hK hP 5 CW_5 rfl 6 (by decide) (ht (.fieldLink RX6 85 "CloneVolumes$Reader" "open" "I") fl_X6_85) (fun _ h9 => h9) rfl eX6_isSign_20.2.2.2.1 ?_
  refine lv_bipush (v := 6) hx hb eX6_isSign_20.2.2.2.2.1 (by decide) ?_
  obtain ⟨hr1, h⟩ := rg_e h
  refine lv_icmp_lt (tgt := 19) hx hb eX6_isSign_20.2.2.2.2.2.1 (by decide) (fun c2 => ?_) (fun c2 => ?_)
  · have h := if_t ((i2_lt (x := (gI s 106)) (y := 6) hr1 (by decide)).mp c2) h
    refine lv_aload_n hx hb eX6_opens_11.2.2.2.2.1 rfl (lv_at hl 0 rfl) ?_
    refine lv_dup hx hb eX6_opens_11.2.2.2.2.2.1 rfl ?_
    refine va_get (D := D) (ci := 6) (v := .int (i2 (gI s 106))) (C := RX6) (T := TX6) (N := 12) hx hb ht inX6 hown hK hP 5 CW_5 rfl 6 (by decide) (ht (.fieldLink RX6 85 "CloneVolumes$Reader" "open" "I") fl_X6_85) (fun _ h9 => h9) rfl eX6_opens_11.2.2.2.2.2.2.1 ?_
    refine lv_iconst (v := 1) hx hb eX6_opens_11.2.2.2.2.2.2.2 (by decide) ?_
    refine lv_iadd hx hb eX6_opens_25.1 ?_
    refine z_topi (y := i2 ((gI s 106) + 1)) (i2_add (gI s 106) 1) ?_
    refine ya_put (D := D) (ci := 6) (v := .int (i2 ((gI s 106) + 1))) (ty := .int) (C := RX6) (T := TX6) (N := 12) hx hb ht inX6 tyX6 tyX6_ok nmX6 hown hK hP (hDD _) hS 5 CW_5 rfl 6 (by decide) (ht (.fieldLink RX6 85 "CloneVolumes$Reader" "open" "I") fl_X6_85) (fun _ h9 => h9) rfl (by decide +kernel) rfl rfl (Nat.le_of_ble_eq_true rfl) eX6_opens_25.2.1 (CW_w5_6 ((gI s 106) + 1)) (fun H locs hP hS => ?_)
    obtain ⟨s3, hs3, h⟩ := st_e h
    rw [hs3] at hP
    refine lv_iconst (v := 1) hx hb eX6_opens_25.2.2.1 (by decide) ?_
    obtain rfl := Option.some.inj h
    exact W.zret (v := 1) hx hb hr (by decide) (fun t ht hW => ⟨⟨_, (), rfl, rfl, by rw [ht]; exact hP, va_K.moved hW.alike hK, hDD _⟩, hS.F ht⟩) hS.2.2 eX6_opens_25.2.2.2.1
  · have h := if_f (mt (i2_lt (x := (gI s 106)) (y := 6) hr1 (by decide)).mpr c2) h
    refine lv_aload_n hx hb eX6_isSign_20.2.2.2.2.2.2.1 rfl (lv_at hl 0 rfl) ?_
    refine lv_iconst (v := 4) hx hb eX6_isSign_20.2.2.2.2.2.2.2 (by decide) ?_
    refine lv_aload_n hx hb eX6_opens_11.1 rfl (lv_at hl 0 rfl) ?_
    refine va_get (D := D) (ci := 6) (v := .int (i2 (gI s 108))) (C := RX6) (T := TX6) (N := 12) hx hb ht inX6 hown hK hP 5 CW_5 rfl 8 (by decide) (ht (.fieldLink RX6 51 "CloneVolumes$Reader" "start" "I") fl_X6_51) (fun _ h9 => h9) rfl eX6_opens_11.2.1 ?_
    obtain ⟨⟨r6, s5⟩, hc4, h⟩ := bn_e h
    refine ywV (r0 := i2 r6) (As := [.int 4, .int (i2 (gI s 108))]) (rest := []) (C := RX6) (n := 2) (ws' := CS D a s5) ⟨hx, hb, hml, hown, ht⟩ (k_x6_fail l D a 4 (gI s 108) _ _ _ hc4) (zgV ml_X6_54 im_X6_fail se_X6_fail in_X6 co_X6_fail) rfl rfl (by decide +kernel) ⟨Nat.le_of_ble_eq_true rfl, Nat.le_of_ble_eq_true rfl⟩ hN hK hP (hDD _) hS hA 5 CW_5 rfl rfl rfl hl.1 rfl (Nat.le_of_ble_eq_true rfl) eX6_opens_11.2.2.1 ⟨Nat.le_of_ble_eq_true rfl, Nat.le_of_ble_eq_true rfl⟩ (fun H locs hP hS => ?_)
    obtain ⟨hb7, h⟩ := bo_e h
    obtain rfl := Option.some.inj h
    exact W.zret (v := (i2 r6)) hx hb hr (bo_n hb7) (fun t ht hW => ⟨⟨_, (), rfl, rfl, by rw [ht]; exact hP, va_K.moved hW.alike hK, hDD _⟩, hS.F ht⟩) hS.2.2 eX6_opens_11.2.2.2.1
set_option maxHeartbeats 4000000 in
set_option maxRecDepth 100000 in
theorem k_x6_isLetter (l : Launch) (D : va_G) (a : Nat → Nat) (p0 : Int) (s : MS) (o : Int) (h : m_x6_isLetter p0 s = some o) : yRi l yX6_isLetter cX6_isLetter 1 (some .boolean) { frames := 0, cells := 0, slots := 0, locals := 0 } D [.int (i2 p0)] (CS D a s) (i2 o) := by
  refine Met.ofW (cc := cX6_isLetter) (maxL := 1) (ret := (some .boolean)) (by decide) rfl ?_
  intro p e s₀ m args below meth c s₁ B hml hv
  obtain ⟨rfl, ⟨hP, hK⟩, hN⟩ := hv
  have hx := B.exec
  have hb := B.bytes
  have hr := B.returns
  have hts := atoms_spec (ws := wz yX6_isLetter cX6_isLetter 1 (some .boolean)) B.pre
  have ht : ∀ w ∈ lw_gd, w.before _ s₀ = true := fun w h => hts w (List.mem_cons_of_mem _ h)
  have hown : s₀.vm.findClass RX6 = some m.cls := findClass_of_methodNamed B.named
  have hlocks := B.notSynchronized
  have hS : va_S (fun _ => False) s₀.heap s₀.heap [] := va_S.rf
  have hl := lv_entry ([.int (i2 p0)]) (n := 1) (Nat.le_of_ble_eq_true rfl)
  rw [lg_entry_eq]
  generalize (lg_sl ([.int (i2 p0)]) ++ List.replicate (1 - (lg_sl ([.int (i2 p0)])).length) Slot.unset).toArray = ls at hl ⊢
  have hl : lv_has ls 1 [(0, .int (i2 p0))] := hl
  unfold m_x6_isLetter at h
  refine y_head (pcJ := 17) (σ := Int) (fun u H locs ls => va_P D vwCl (CS D a s) H ∧ va_S (fun _ => False) s₀.heap H locs ∧ lv_has ls 1 [] ∧ m_x6_isLetter_J17 s u = some o) (fun u => [.int (i2 u)]) (fun u H locs ls hI => ?_) (fun J17 => ?_)
  · obtain ⟨hP, hS, hl, h⟩ := hI
    obtain ⟨x1, rfl⟩ : ∃ z, z = u := ⟨u, rfl⟩
    have hP : va_P D vwCl (CS D a s) H := hP
    have hl : lv_has ls 1 [] := hl
    have h : m_x6_isLetter_J17 s x1 = some o := h
    unfold m_x6_isLetter_J17 at h
    obtain ⟨hb2, h⟩ := bo_e h
    obtain rfl := Option.some.inj h
    exact W.zret (v := (i2 x1)) hx hb hr (bo_n hb2) (fun t ht hW => ⟨⟨_, (), rfl, rfl, trivial⟩, hS.F ht⟩) hS.2.2 eX6_isLetter_7.2.2.2.2.2.1
  refine y_head (pcJ := 16) (σ := Unit) (fun u H locs ls => va_P D vwCl (CS D a s) H ∧ va_S (fun _ => False) s₀.heap H locs ∧ lv_has ls 1 [] ∧ m_x6_isLetter_J16 s u = some o) (fun u => []) (fun u H locs ls hI => ?_) (fun J16 => ?_)
  · obtain ⟨hP, hS, hl, h⟩ := hI
    skip
    have hP : va_P D vwCl (CS D a s) H := hP
    have hl : lv_has ls 1 [] := hl
    have h : m_x6_isLetter_J16 s () = some o := h
    unfold m_x6_isLetter_J16 at h
    refine lv_iconst (v := 0) hx hb eX6_isLetter_7.2.2.2.2.1 (by decide) ?_
    exact J17 0 _ _ _ ⟨hP, hS, lv_sub hl [] rfl, h⟩
  refine lv_iload_n hx hb eX6_isDigit_12.2.2.2.2.1 rfl (lv_at hl 0 rfl) ?_
  refine lv_bipush (v := 97) hx hb eX6_isDigit_12.2.2.2.2.2.1 (by decide) ?_
  obtain ⟨hr3, h⟩ := rg_e h
  refine lv_icmp_lt (tgt := 16) hx hb eX6_isDigit_12.2.2.2.2.2.2.1 (by decide) (fun c4 => ?_) (fun c4 => ?_)
  · have h := if_t ((i2_lt (x := p0) (y := 97) hr3 (by decide)).mp c4) h
    exact J16 () _ _ _ ⟨hP, hS, lv_sub hl [] rfl, h⟩
  · have h := if_f (mt (i2_lt (x := p0) (y := 97) hr3 (by decide)).mpr c4) h
    refine lv_iload_n hx hb eX6_isDigit_12.2.2.2.2.2.2.2 rfl (lv_at hl 0 rfl) ?_
    refine lv_bipush (v := 122) hx hb eX6_isLetter_7.1 (by decide) ?_
    obtain ⟨hr5, h⟩ := rg_e h
    refine lv_icmp_gt (tgt := 16) hx hb eX6_isLetter_7.2.1 (by decide) (fun c6 => ?_) (fun c6 => ?_)
    · have h := if_t ((i2_lt (x := 122) (y := p0) (by decide) hr5).mp c6) h
      exact J16 () _ _ _ ⟨hP, hS, lv_sub hl [] rfl, h⟩
    · have h := if_f (mt (i2_lt (x := 122) (y := p0) (by decide) hr5).mpr c6) h
      refine lv_iconst (v := 1) hx hb eX6_isLetter_7.2.2.1 (by decide) ?_
      refine lv_goto (tgt := 17) hx hb eX6_isLetter_7.2.2.2.1 (by decide) ?_
      exact J17 1 _ _ _ ⟨hP, hS, lv_sub hl [] rfl, h⟩
set_option maxHeartbeats 4000000 in
set_option maxRecDepth 100000 in
theorem k_x6_isDigit (l : Launch) (D : va_G) (a : Nat → Nat) (p0 : Int) (s : MS) (o : Int) (h : m_x6_isDigit p0 s = some o) : yRi l yX6_isDigit cX6_isDigit 1 (some .boolean) { frames := 0, cells := 0, slots := 0, locals := 0 } D [.int (i2 p0)] (CS D a s) (i2 o) := by
  refine Met.ofW (cc := cX6_isDigit) (maxL := 1) (ret := (some .boolean)) (by decide) rfl ?_
  intro p e s₀ m args below meth c s₁ B hml hv
  obtain ⟨rfl, ⟨hP, hK⟩, hN⟩ := hv
  have hx := B.exec
  have hb := B.bytes
  have hr := B.returns
  have hts := atoms_spec (ws := wz yX6_isDigit cX6_isDigit 1 (some .boolean)) B.pre
  have ht : ∀ w ∈ lw_gd, w.before _ s₀ = true := fun w h => hts w (List.mem_cons_of_mem _ h)
  have hown : s₀.vm.findClass RX6 = some m.cls := findClass_of_methodNamed B.named
  have hlocks := B.notSynchronized
  have hS : va_S (fun _ => False) s₀.heap s₀.heap [] := va_S.rf
  have hl := lv_entry ([.int (i2 p0)]) (n := 1) (Nat.le_of_ble_eq_true rfl)
  rw [lg_entry_eq]
  generalize (lg_sl ([.int (i2 p0)]) ++ List.replicate (1 - (lg_sl ([.int (i2 p0)])).length) Slot.unset).toArray = ls at hl ⊢
  have hl : lv_has ls 1 [(0, .int (i2 p0))] := hl
  unfold m_x6_isDigit at h
  refine y_head (pcJ := 17) (σ := Int) (fun u H locs ls => va_P D vwCl (CS D a s) H ∧ va_S (fun _ => False) s₀.heap H locs ∧ lv_has ls 1 [] ∧ m_x6_isDigit_J17 s u = some o) (fun u => [.int (i2 u)]) (fun u H locs ls hI => ?_) (fun J17 => ?_)
  · obtain ⟨hP, hS, hl, h⟩ := hI
    obtain ⟨x1, rfl⟩ : ∃ z, z = u := ⟨u, rfl⟩
    have hP : va_P D vwCl (CS D a s) H := hP
    have hl : lv_has ls 1 [] := hl
    have h : m_x6_isDigit_J17 s x1 = some o := h
    unfold m_x6_isDigit_J17 at h
    obtain ⟨hb2, h⟩ := bo_e h
    obtain rfl := Option.some.inj h
    exact W.zret (v := (i2 x1)) hx hb hr (bo_n hb2) (fun t ht hW => ⟨⟨_, (), rfl, rfl, trivial⟩, hS.F ht⟩) hS.2.2 eX6_isDigit_12.2.2.2.1
  refine y_head (pcJ := 16) (σ := Unit) (fun u H locs ls => va_P D vwCl (CS D a s) H ∧ va_S (fun _ => False) s₀.heap H locs ∧ lv_has ls 1 [] ∧ m_x6_isDigit_J16 s u = some o) (fun u => []) (fun u H locs ls hI => ?_) (fun J16 => ?_)
  · obtain ⟨hP, hS, hl, h⟩ := hI
    skip
    have hP : va_P D vwCl (CS D a s) H := hP
    have hl : lv_has ls 1 [] := hl
    have h : m_x6_isDigit_J16 s () = some o := h
    unfold m_x6_isDigit_J16 at h
    refine lv_iconst (v := 0) hx hb eX6_isDigit_12.2.2.1 (by decide) ?_
    exact J17 0 _ _ _ ⟨hP, hS, lv_sub hl [] rfl, h⟩
  refine lv_iload_n hx hb eX6_isBlank_16.2.2.1 rfl (lv_at hl 0 rfl) ?_
  refine lv_bipush (v := 48) hx hb eX6_isBlank_16.2.2.2.1 (by decide) ?_
  obtain ⟨hr3, h⟩ := rg_e h
  refine lv_icmp_lt (tgt := 16) hx hb eX6_isBlank_16.2.2.2.2.1 (by decide) (fun c4 => ?_) (fun c4 => ?_)
  · have h := if_t ((i2_lt (x := p0) (y := 48) hr3 (by decide)).mp c4) h
    exact J16 () _ _ _ ⟨hP, hS, lv_sub hl [] rfl, h⟩
  · have h := if_f (mt (i2_lt (x := p0) (y := 48) hr3 (by decide)).mpr c4) h
    refine lv_iload_n hx hb eX6_isBlank_16.2.2.2.2.2.1 rfl (lv_at hl 0 rfl) ?_
    refine lv_bipush (v := 57) hx hb eX6_isBlank_16.2.2.2.2.2.2.1 (by decide) ?_
    obtain ⟨hr5, h⟩ := rg_e h
    refine lv_icmp_gt (tgt := 16) hx hb eX6_isBlank_16.2.2.2.2.2.2.2 (by decide) (fun c6 => ?_) (fun c6 => ?_)
    · have h := if_t ((i2_lt (x := 57) (y := p0) (by decide) hr5).mp c6) h
      exact J16 () _ _ _ ⟨hP, hS, lv_sub hl [] rfl, h⟩
    · have h := if_f (mt (i2_lt (x := 57) (y := p0) (by decide) hr5).mpr c6) h
      refine lv_iconst (v := 1) hx hb eX6_isDigit_12.1 (by decide) ?_
      refine lv_goto (tgt := 17) hx hb eX6_isDigit_12.2.1 (by decide) ?_
      exact J17 1 _ _ _ ⟨hP, hS, lv_sub hl [] rfl, h⟩
set_option maxHeartbeats 4000000 in
set_option maxRecDepth 100000 in
theorem k_x9_at (l : Launch) (D : va_G) (a : Nat → Nat) (p0 : Int) (s : MS) (o : Int) (h : m_x9_at p0 s = some o) : yRi l yX9_at cX9_at 2 (some .int) { frames := 0, cells := 0, slots := 0, locals := 0 } D [.ref (a 3), .int (i2 p0)] (CS D a s) (i2 o) := by
  refine Met.ofW (cc := cX9_at) (maxL := 2) (ret := (some .int)) (by decide) rfl ?_
  intro p e s₀ m args below meth c s₁ B hml hv
  obtain ⟨rfl, ⟨hP, hK⟩, hN⟩ := hv
  have hx := B.exec
  have hb := B.bytes
  have hr := B.returns
  have hts := atoms_spec (ws := wz yX9_at cX9_at 2 (some .int)) B.pre
  have ht : ∀ w ∈ lw_gd, w.before _ s₀ = true := fun w h => hts w (List.mem_cons_of_mem _ h)
  have hown : s₀.vm.findClass RX9 = some m.cls := findClass_of_methodNamed B.named
  have hlocks := B.notSynchronized
  have hS : va_S (fun _ => False) s₀.heap s₀.heap [] := va_S.rf
  have hl := lv_entry ([.ref (a 3), .int (i2 p0)]) (n := 2) (Nat.le_of_ble_eq_true rfl)
  rw [lg_entry_eq]
  generalize (lg_sl ([.ref (a 3), .int (i2 p0)]) ++ List.replicate (2 - (lg_sl ([.ref (a 3), .int (i2 p0)])).length) Slot.unset).toArray = ls at hl ⊢
  have hl : lv_has ls 2 [(0, .ref (a 3)), (1, .int (i2 p0))] := hl
  unfold m_x9_at at h
  refine y_head (pcJ := 22) (σ := Int) (fun u H locs ls => va_P D vwCl (CS D a s) H ∧ va_S (fun _ => False) s₀.heap H locs ∧ lv_has ls 2 [] ∧ m_x9_at_J22 s u = some o) (fun u => [.int (i2 u)]) (fun u H locs ls hI => ?_) (fun J22 => ?_)
  · obtain ⟨hP, hS, hl, h⟩ := hI
    obtain ⟨x1, rfl⟩ : ∃ z, z = u := ⟨u, rfl⟩
    have hP : va_P D vwCl (CS D a s) H := hP
    have hl : lv_has ls 2 [] := hl
    have h : m_x9_at_J22 s x1 = some o := h
    unfold m_x9_at_J22 at h
    obtain rfl := Option.some.inj h
    exact W.iret (v := (i2 x1)) hx hb hr (fun t ht hW => ⟨⟨_, (), rfl, rfl, trivial⟩, hS.F ht⟩) hS.2.2 eX9_at_13.2.2.2.2.2
  refine y_head (pcJ := 21) (σ := Unit) (fun u H locs ls => va_P D vwCl (CS D a s) H ∧ va_S (fun _ => False) s₀.heap H locs ∧ lv_has ls 2 [] ∧ m_x9_at_J21 s u = some o) (fun u => []) (fun u H locs ls hI => ?_) (fun J21 => ?_)
  · obtain ⟨hP, hS, hl, h⟩ := hI
    skip
    have hP : va_P D vwCl (CS D a s) H := hP
    have hl : lv_has ls 2 [] := hl
    have h : m_x9_at_J21 s () = some o := h
    unfold m_x9_at_J21 at h
    refine lv_iconst (v := (-1)) hx hb eX9_at_13.2.2.2.2.1 (by decide) ?_
    exact J22 (-1) _ _ _ ⟨hP, hS, lv_sub hl [] rfl, h⟩
  refine lv_iload_n hx hb eX6_wordNumber_124.2.1 rfl (lv_at hl 1 rfl) ?_
  obtain ⟨hr2, h⟩ := rg_e h
  refine lv_if_lt (tgt := 21) hx hb eX6_wordNumber_124.2.2.1 (by decide) (fun c3 => ?_) (fun c3 => ?_)
  · have h := if_t ((i2_lt (x := p0) (y := 0) hr2 (by decide)).mp c3) h
    exact J21 () _ _ _ ⟨hP, hS, lv_sub hl [] rfl, h⟩
  · have h := if_f (mt (i2_lt (x := p0) (y := 0) hr2 (by decide)).mpr c3) h
    refine lv_iload_n hx hb eX6_wordNumber_124.2.2.2.1 rfl (lv_at hl 1 rfl) ?_
    refine lv_aload_n hx hb eX6_wordNumber_124.2.2.2.2.1 rfl (lv_at hl 0 rfl) ?_
    refine va_get (D := D) (ci := 9) (v := .int (i2 (gI s 61))) (C := RX9) (T := TX9) (N := 2) hx hb ht inX9 hown hK hP 3 CW_3 rfl 1 (by decide) (ht (.fieldLink RX9 15 "CloneVolumes$Tape" "length" "I") fl_X9_15) (fun _ h9 => h9) rfl eX6_wordNumber_124.2.2.2.2.2.1 ?_
    obtain ⟨hr4, h⟩ := rg_e h
    obtain ⟨hr5, h⟩ := rg_e h
    refine lv_icmp_ge (tgt := 21) hx hb eX6_wordNumber_124.2.2.2.2.2.2.1 (by decide) (fun c6 => ?_) (fun c6 => ?_)
    · have h := if_t ((i2_le (x := (gI s 61)) (y := p0) hr5 hr4).mp c6) h
      exact J21 () _ _ _ ⟨hP, hS, lv_sub hl [] rfl, h⟩
    · have h := if_f (mt (i2_le (x := (gI s 61)) (y := p0) hr5 hr4).mpr c6) h
      refine lv_aload_n hx hb eX6_wordNumber_124.2.2.2.2.2.2.2 rfl (lv_at hl 0 rfl) ?_
      refine va_get (D := D) (ci := 9) (v := .ref (a 4)) (C := RX9) (T := TX9) (N := 2) hx hb ht inX9 hown hK hP 3 CW_3 rfl 0 (by decide) (ht (.fieldLink RX9 9 "CloneVolumes$Tape" "bytes" "[I") fl_X9_9) (fun _ h9 => h9) rfl eX9_at_13.1 ?_
      refine lv_iload_n hx hb eX9_at_13.2.1 rfl (lv_at hl 1 rfl) ?_
      obtain ⟨y7, ey7, iy7, h⟩ := rdI_e h
      refine ya_iald (i := p0) hx hb hK hP 4 0 CW_4 rfl (by decide) ey7 iy7 eX9_at_13.2.2.1 ?_
      refine lv_goto (tgt := 22) hx hb eX9_at_13.2.2.2.1 (by decide) ?_
      exact J22 y7 _ _ _ ⟨hP, hS, lv_sub hl [] rfl, h⟩
set_option maxHeartbeats 4000000 in
set_option maxRecDepth 100000 in
theorem k_x6_wordNumber (l : Launch) (D : va_G) (a : Nat → Nat) (s : MS) (o : Int) (h : m_x6_wordNumber s = some o) : yRi l yX6_wordNumber cX6_wordNumber 5 (some .int) { frames := 0, cells := 0, slots := 0, locals := 0 } D [.ref (a 5)] (CS D a s) (i2 o) := by
  refine Met.ofW (cc := cX6_wordNumber) (maxL := 5) (ret := (some .int)) (by decide) rfl ?_
  intro p e s₀ m args below meth c s₁ B hml hv
  obtain ⟨rfl, ⟨hP, hK⟩, hN⟩ := hv
  have hx := B.exec
  have hb := B.bytes
  have hr := B.returns
  have hts := atoms_spec (ws := wz yX6_wordNumber cX6_wordNumber 5 (some .int)) B.pre
  have ht : ∀ w ∈ lw_gd, w.before _ s₀ = true := fun w h => hts w (List.mem_cons_of_mem _ h)
  have hown : s₀.vm.findClass RX6 = some m.cls := findClass_of_methodNamed B.named
  have hlocks := B.notSynchronized
  have hS : va_S (fun _ => False) s₀.heap s₀.heap [] := va_S.rf
  have hl := lv_entry ([.ref (a 5)]) (n := 5) (Nat.le_of_ble_eq_true rfl)
  rw [lg_entry_eq]
  generalize (lg_sl ([.ref (a 5)]) ++ List.replicate (5 - (lg_sl ([.ref (a 5)])).length) Slot.unset).toArray = ls at hl ⊢
  have hl : lv_has ls 5 [(0, .ref (a 5))] := hl
  unfold m_x6_wordNumber at h
  refine y_head (pcJ := 124) (σ := Int) (fun u H locs ls => va_P D vwCl (CS D a s) H ∧ va_S (fun _ => False) s₀.heap H locs ∧ lv_has ls 5 [] ∧ m_x6_wordNumber_J124 s u = some o) (fun u => [.int (i2 u)]) (fun u H locs ls hI => ?_) (fun J124 => ?_)
  · obtain ⟨hP, hS, hl, h⟩ := hI
    obtain ⟨x1, rfl⟩ : ∃ z, z = u := ⟨u, rfl⟩
    have hP : va_P D vwCl (CS D a s) H := hP
    have hl : lv_has ls 5 [] := hl
    have h : m_x6_wordNumber_J124 s x1 = some o := h
    unfold m_x6_wordNumber_J124 at h
    obtain rfl := Option.some.inj h
    exact W.iret (v := (i2 x1)) hx hb hr (fun t ht hW => ⟨⟨_, (), rfl, rfl, trivial⟩, hS.F ht⟩) hS.2.2 eX6_wordNumber_124.1
  refine y_head (pcJ := 123) (σ := Unit) (fun u H locs ls => va_P D vwCl (CS D a s) H ∧ va_S (fun _ => False) s₀.heap H locs ∧ lv_has ls 5 [] ∧ m_x6_wordNumber_J123 s u = some o) (fun u => []) (fun u H locs ls hI => ?_) (fun J123 => ?_)
  · obtain ⟨hP, hS, hl, h⟩ := hI
    skip
    have hP : va_P D vwCl (CS D a s) H := hP
    have hl : lv_has ls 5 [] := hl
    have h : m_x6_wordNumber_J123 s () = some o := h
    unfold m_x6_wordNumber_J123 at h
    refine lv_iconst (v := (-1)) hx hb eX6_wordNumber_108.2.2.2.2.2.2.2 (by decide) ?_
    exact J124 (-1) _ _ _ ⟨hP, hS, lv_sub hl [] rfl, h⟩
  refine y_loop (pcJ := 12) (σ := Int × Int × Int × Int) (fun n u H locs ls => va_P D vwCl (CS D a s) H ∧ va_S (fun _ => False) s₀.heap H locs ∧ lv_has ls 5 [(0, .ref (a 5)), (1, .int (i2 u.1)), (2, .int (i2 u.2.1)), (3, .int (i2 u.2.2.1)), (4, .int (i2 u.2.2.2))] ∧ m_x6_wordNumber_L12 s n u.1 u.2.1 u.2.2.1 u.2.2.2 = some o) (fun u => []) (fun u H locs ls hI => by obtain ⟨_, _, _, h⟩ := hI; cases h) (fun n12 ih12 u H locs ls hI => ?_) (fun J12 => ?_)
  · obtain ⟨hP, hS, hl, h⟩ := hI
    obtain ⟨x2, x3, x4, x5⟩ := u
    have hP : va_P D vwCl (CS D a s) H := hP
    have hl : lv_has ls 5 [(0, .ref (a 5)), (1, .int (i2 x2)), (2, .int (i2 x3)), (3, .int (i2 x4)), (4, .int (i2 x5))] := hl
    have h : m_x6_wordNumber_b12 s (m_x6_wordNumber_L12 s n12) x2 x3 x4 x5 = some o := h
    unfold m_x6_wordNumber_b12 at h
    refine y_head (pcJ := 101) (σ := Int × Int × Int × Int) (fun u H locs ls => va_P D vwCl (CS D a s) H ∧ va_S (fun _ => False) s₀.heap H locs ∧ lv_has ls 5 [(0, .ref (a 5)), (1, .int (i2 u.1)), (2, .int (i2 u.2.1)), (3, .int (i2 u.2.2.1)), (4, .int (i2 u.2.2.2))] ∧ m_x6_wordNumber_J101 s (m_x6_wordNumber_L12 s n12) u.1 u.2.1 u.2.2.1 u.2.2.2 = some o) (fun u => []) (fun u H locs ls hI => ?_) (fun J101 => ?_)
    · obtain ⟨hP, hS, hl, h⟩ := hI
      obtain ⟨x6, x7, x8, x9⟩ := u
      have hP : va_P D vwCl (CS D a s) H := hP
      have hl : lv_has ls 5 [(0, .ref (a 5)), (1, .int (i2 x6)), (2, .int (i2 x7)), (3, .int (i2 x8)), (4, .int (i2 x9))] := hl
      have h : m_x6_wordNumber_J101 s (m_x6_wordNumber_L12 s n12) x6 x7 x8 x9 = some o := h
      unfold m_x6_wordNumber_J101 at h
      refine lv_iinc (v := i2 (x9 + 1)) (lv' := [(4, .int (i2 (x9 + 1))), (0, .ref (a 5)), (1, .int (i2 x6)), (2, .int (i2 x7)), (3, .int (i2 x8))]) hx hb eX6_wordNumber_94.2.2.2.2.2.1 hl (k := 4) rfl (i2_add x9 1) (by decide) rfl (fun ls hl => ?_)
      refine lv_goto (tgt := 12) hx hb eX6_wordNumber_94.2.2.2.2.2.2.1 (by decide) ?_
      exact ih12 (x6, x7, x8, x9 + 1) _ _ _ ⟨hP, hS, lv_sub hl [1, 2, 3, 4, 0] rfl, h⟩
    refine y_head (pcJ := 91) (σ := Int × Int) (fun u H locs ls => va_P D vwCl (CS D a s) H ∧ va_S (fun _ => False) s₀.heap H locs ∧ lv_has ls 5 [(0, .ref (a 5)), (1, .int (i2 u.1)), (4, .int (i2 u.2))] ∧ m_x6_wordNumber_J91 s (m_x6_wordNumber_L12 s n12) u.1 u.2 = some o) (fun u => []) (fun u H locs ls hI => ?_) (fun J91 => ?_)
    · obtain ⟨hP, hS, hl, h⟩ := hI
      obtain ⟨x10, x11⟩ := u
      have hP : va_P D vwCl (CS D a s) H := hP
      have hl : lv_has ls 5 [(0, .ref (a 5)), (1, .int (i2 x10)), (4, .int (i2 x11))] := hl
      have h : m_x6_wordNumber_J91 s (m_x6_wordNumber_L12 s n12) x10 x11 = some o := h
      unfold m_x6_wordNumber_J91 at h
      refine lv_iinc (v := i2 (x10 + 1)) (lv' := [(1, .int (i2 (x10 + 1))), (0, .ref (a 5)), (4, .int (i2 x11))]) hx hb eX6_wordNumber_78.2.2.2.2.2.2.2 hl (k := 1) rfl (i2_add x10 1) (by decide) rfl (fun ls hl => ?_)
      refine lv_aload_n hx hb eX6_wordNumber_94.1 rfl (lv_at hl 1 rfl) ?_
      refine va_get (D := D) (ci := 6) (v := .int (i2 (gI s 108))) (C := RX6) (T := TX6) (N := 12) hx hb ht inX6 hown hK hP 5 CW_5 rfl 8 (by decide) (ht (.fieldLink RX6 51 "CloneVolumes$Reader" "start" "I") fl_X6_51) (fun _ h9 => h9) rfl eX6_wordNumber_94.2.1 ?_
      refine lv_istore_n (lv' := [(2, .int (i2 (gI s 108))), (1, .int (i2 (x10 + 1))), (0, .ref (a 5)), (4, .int (i2 x11))]) hx hb eX6_wordNumber_94.2.2.1 rfl hl (by decide) rfl (fun ls hl => ?_)
      refine lv_iconst (v := 1) hx hb eX6_wordNumber_94.2.2.2.1 (by decide) ?_
      refine lv_istore_n (lv' := [(3, .int 1), (2, .int (i2 (gI s 108))), (1, .int (i2 (x10 + 1))), (0, .ref (a 5)), (4, .int (i2 x11))]) hx hb eX6_wordNumber_94.2.2.2.2.1 rfl hl (by decide) rfl (fun ls hl => ?_)
      exact J101 (x10 + 1, gI s 108, 1, x11) _ _ _ ⟨hP, hS, lv_sub hl [3, 2, 1, 0, 4] rfl, h⟩
    refine y_head (pcJ := 70) (σ := Int × Int × Int × Int) (fun u H locs ls => va_P D vwCl (CS D a s) H ∧ va_S (fun _ => False) s₀.heap H locs ∧ lv_has ls 5 [(0, .ref (a 5)), (1, .int (i2 u.1)), (2, .int (i2 u.2.1)), (4, .int (i2 u.2.2.1))] ∧ m_x6_wordNumber_J70 s (m_x6_wordNumber_L12 s n12) u.1 u.2.1 u.2.2.1 u.2.2.2 = some o) (fun u => [.int (i2 u.2.2.2)]) (fun u H locs ls hI => ?_) (fun J70 => ?_)
    · obtain ⟨hP, hS, hl, h⟩ := hI
      obtain ⟨x12, x13, x14, x15⟩ := u
      have hP : va_P D vwCl (CS D a s) H := hP
      have hl : lv_has ls 5 [(0, .ref (a 5)), (1, .int (i2 x12)), (2, .int (i2 x13)), (4, .int (i2 x14))] := hl
      have h : m_x6_wordNumber_J70 s (m_x6_wordNumber_L12 s n12) x12 x13 x14 x15 = some o := h
      unfold m_x6_wordNumber_J70 at h
      refine lv_istore_n (lv' := [(3, .int (i2 x15)), (0, .ref (a 5)), (1, .int (i2 x12)), (2, .int (i2 x13)), (4, .int (i2 x14))]) hx hb eX6_wordNumber_62.2.2.2.2.1 rfl hl (by decide) rfl (fun ls hl => ?_)
      refine lv_iinc (v := i2 (x13 + 1)) (lv' := [(2, .int (i2 (x13 + 1))), (3, .int (i2 x15)), (0, .ref (a 5)), (1, .int (i2 x12)), (4, .int (i2 x14))]) hx hb eX6_wordNumber_62.2.2.2.2.2.1 hl (k := 3) rfl (i2_add x13 1) (by decide) rfl (fun ls hl => ?_)
      refine lv_goto (tgt := 101) hx hb eX6_wordNumber_62.2.2.2.2.2.2.1 (by decide) ?_
      exact J101 (x12, x13 + 1, x15, x14) _ _ _ ⟨hP, hS, lv_sub hl [2, 3, 0, 1, 4] rfl, h⟩
    refine y_head (pcJ := 69) (σ := Int × Int × Int) (fun u H locs ls => va_P D vwCl (CS D a s) H ∧ va_S (fun _ => False) s₀.heap H locs ∧ lv_has ls 5 [(0, .ref (a 5)), (1, .int (i2 u.1)), (2, .int (i2 u.2.1)), (4, .int (i2 u.2.2))] ∧ m_x6_wordNumber_J69 s (m_x6_wordNumber_L12 s n12) u.1 u.2.1 u.2.2 = some o) (fun u => []) (fun u H locs ls hI => ?_) (fun J69 => ?_)
    · obtain ⟨hP, hS, hl, h⟩ := hI
      obtain ⟨x16, x17, x18⟩ := u
      have hP : va_P D vwCl (CS D a s) H := hP
      have hl : lv_has ls 5 [(0, .ref (a 5)), (1, .int (i2 x16)), (2, .int (i2 x17)), (4, .int (i2 x18))] := hl
      have h : m_x6_wordNumber_J69 s (m_x6_wordNumber_L12 s n12) x16 x17 x18 = some o := h
      unfold m_x6_wordNumber_J69 at h
      refine lv_iconst (v := 0) hx hb eX6_wordNumber_62.2.2.2.1 (by decide) ?_
      exact J70 (x16, x17, x18, 0) _ _ _ ⟨hP, hS, lv_sub hl [0, 1, 2, 3] rfl, h⟩
    refine lv_iload hx hb eX6_wordNumber_3.2.2.2.2.2.2.1 (lv_at hl 4 rfl) ?_
    refine lv_aload_n hx hb eX6_wordNumber_3.2.2.2.2.2.2.2 rfl (lv_at hl 0 rfl) ?_
    refine va_get (D := D) (ci := 6) (v := .ref (a 6)) (C := RX6) (T := TX6) (N := 12) hx hb ht inX6 hown hK hP 5 CW_5 rfl 3 (by decide) (ht (.fieldLink RX6 23 "CloneVolumes$Reader" "words" "[C") fl_X6_23) (fun _ h9 => h9) rfl eX6_wordNumber_15.1 ?_
    refine va_alen (v := 179) hx hb hK hP 6 1 CW_6 (ty := .char) rfl rfl eX6_wordNumber_15.2.1 ?_
    obtain ⟨hr19, h⟩ := rg_e h
    refine lv_icmp_ge (tgt := 107) hx hb eX6_wordNumber_15.2.2.1 (by decide) (fun c20 => ?_) (fun c20 => ?_)
    · have h := if_t ((i2_le (x := 179) (y := x5) (by decide) hr19).mp c20) h
      refine lv_iload_n hx hb eX6_wordNumber_94.2.2.2.2.2.2.2 rfl (lv_at hl 3 rfl) ?_
      obtain ⟨hr21, h⟩ := rg_e h
      refine lv_if_eq (tgt := 123) hx hb eX6_wordNumber_108.1 (by decide) (fun c22 => ?_) (fun c22 => ?_)
      · have h := if_t ((i2_eq (x := x4) (y := 0) hr21 (by decide)).mp c22) h
        exact J123 () _ _ _ ⟨hP, hS, lv_sub hl [] rfl, h⟩
      · have h := if_f (mt (i2_eq (x := x4) (y := 0) hr21 (by decide)).mpr c22) h
        refine lv_iload_n hx hb eX6_wordNumber_108.2.1 rfl (lv_at hl 2 rfl) ?_
        refine lv_aload_n hx hb eX6_wordNumber_108.2.2.1 rfl (lv_at hl 0 rfl) ?_
        refine va_get (D := D) (ci := 6) (v := .int (i2 (gI s 109))) (C := RX6) (T := TX6) (N := 12) hx hb ht inX6 hown hK hP 5 CW_5 rfl 9 (by decide) (ht (.fieldLink RX6 88 "CloneVolumes$Reader" "stop" "I") fl_X6_88) (fun _ h9 => h9) rfl eX6_wordNumber_108.2.2.2.1 ?_
        obtain ⟨hr23, h⟩ := rg_e h
        obtain ⟨hr24, h⟩ := rg_e h
        refine lv_icmp_ne (tgt := 123) hx hb eX6_wordNumber_108.2.2.2.2.1 (by decide) (fun c25 => ?_) (fun c25 => ?_)
        · have h := if_f (mt (i2_eq (x := x3) (y := (gI s 109)) hr23 hr24).mpr c25) h
          exact J123 () _ _ _ ⟨hP, hS, lv_sub hl [] rfl, h⟩
        · have h := if_t ((i2_eq (x := x3) (y := (gI s 109)) hr23 hr24).mp c25) h
          refine lv_iload_n hx hb eX6_wordNumber_108.2.2.2.2.2.1 rfl (lv_at hl 1 rfl) ?_
          refine lv_goto (tgt := 124) hx hb eX6_wordNumber_108.2.2.2.2.2.2.1 (by decide) ?_
          exact J124 x2 _ _ _ ⟨hP, hS, lv_sub hl [] rfl, h⟩
    · have h := if_f (mt (i2_le (x := 179) (y := x5) (by decide) hr19).mpr c20) h
      refine lv_aload_n hx hb eX6_wordNumber_15.2.2.2.1 rfl (lv_at hl 0 rfl) ?_
      refine va_get (D := D) (ci := 6) (v := .ref (a 6)) (C := RX6) (T := TX6) (N := 12) hx hb ht inX6 hown hK hP 5 CW_5 rfl 3 (by decide) (ht (.fieldLink RX6 23 "CloneVolumes$Reader" "words" "[C") fl_X6_23) (fun _ h9 => h9) rfl eX6_wordNumber_15.2.2.2.2.1 ?_
      refine lv_iload hx hb eX6_wordNumber_15.2.2.2.2.2.1 (lv_at hl 4 rfl) ?_
      obtain ⟨y26, ey26, iy26, h⟩ := rdI_e h
      refine ya_cald (i := x5) hx hb hK hP 6 1 CW_6 rfl (by decide) ey26 iy26 eX6_wordNumber_15.2.2.2.2.2.2.1 ?_
      refine lv_bipush (v := 32) hx hb eX6_wordNumber_15.2.2.2.2.2.2.2 (by decide) ?_
      obtain ⟨hr27, h⟩ := rg_e h
      refine lv_icmp_eq (tgt := 77) hx hb eX6_wordNumber_31.1 (by decide) (fun c28 => ?_) (fun c28 => ?_)
      · have h := if_t ((i2_eq (x := y26) (y := 32) hr27 (by decide)).mp c28) h
        refine lv_iload_n hx hb eX6_wordNumber_62.2.2.2.2.2.2.2 rfl (lv_at hl 3 rfl) ?_
        obtain ⟨hr29, h⟩ := rg_e h
        refine lv_if_eq (tgt := 91) hx hb eX6_wordNumber_78.1 (by decide) (fun c30 => ?_) (fun c30 => ?_)
        · have h := if_t ((i2_eq (x := x4) (y := 0) hr29 (by decide)).mp c30) h
          exact J91 (x2, x5) _ _ _ ⟨hP, hS, lv_sub hl [0, 1, 4] rfl, h⟩
        · have h := if_f (mt (i2_eq (x := x4) (y := 0) hr29 (by decide)).mpr c30) h
          refine lv_iload_n hx hb eX6_wordNumber_78.2.1 rfl (lv_at hl 2 rfl) ?_
          refine lv_aload_n hx hb eX6_wordNumber_78.2.2.1 rfl (lv_at hl 0 rfl) ?_
          refine va_get (D := D) (ci := 6) (v := .int (i2 (gI s 109))) (C := RX6) (T := TX6) (N := 12) hx hb ht inX6 hown hK hP 5 CW_5 rfl 9 (by decide) (ht (.fieldLink RX6 88 "CloneVolumes$Reader" "stop" "I") fl_X6_88) (fun _ h9 => h9) rfl eX6_wordNumber_78.2.2.2.1 ?_
          obtain ⟨hr31, h⟩ := rg_e h
          obtain ⟨hr32, h⟩ := rg_e h
          refine lv_icmp_ne (tgt := 91) hx hb eX6_wordNumber_78.2.2.2.2.1 (by decide) (fun c33 => ?_) (fun c33 => ?_)
          · have h := if_f (mt (i2_eq (x := x3) (y := (gI s 109)) hr31 hr32).mpr c33) h
            exact J91 (x2, x5) _ _ _ ⟨hP, hS, lv_sub hl [0, 1, 4] rfl, h⟩
          · have h := if_t ((i2_eq (x := x3) (y := (gI s 109)) hr31 hr32).mp c33) h
            refine lv_iload_n hx hb eX6_wordNumber_78.2.2.2.2.2.1 rfl (lv_at hl 1 rfl) ?_
            obtain rfl := Option.some.inj h
            exact W.iret (v := (i2 x2)) hx hb hr (fun t ht hW => ⟨⟨_, (), rfl, rfl, trivial⟩, hS.F ht⟩) hS.2.2 eX6_wordNumber_78.2.2.2.2.2.2.1
      · have h := if_f (mt (i2_eq (x := y26) (y := 32) hr27 (by decide)).mpr c28) h
        refine lv_iload_n hx hb eX6_wordNumber_31.2.1 rfl (lv_at hl 3 rfl) ?_
        obtain ⟨hr34, h⟩ := rg_e h
        refine lv_if_eq (tgt := 69) hx hb eX6_wordNumber_31.2.2.1 (by decide) (fun c35 => ?_) (fun c35 => ?_)
        · have h := if_t ((i2_eq (x := x4) (y := 0) hr34 (by decide)).mp c35) h
          exact J69 (x2, x3, x5) _ _ _ ⟨hP, hS, lv_sub hl [0, 1, 2, 4] rfl, h⟩
        · have h := if_f (mt (i2_eq (x := x4) (y := 0) hr34 (by decide)).mpr c35) h
          refine lv_iload_n hx hb eX6_wordNumber_31.2.2.2.1 rfl (lv_at hl 2 rfl) ?_
          refine lv_aload_n hx hb eX6_wordNumber_31.2.2.2.2.1 rfl (lv_at hl 0 rfl) ?_
          refine va_get (D := D) (ci := 6) (v := .int (i2 (gI s 109))) (C := RX6) (T := TX6) (N := 12) hx hb ht inX6 hown hK hP 5 CW_5 rfl 9 (by decide) (ht (.fieldLink RX6 88 "CloneVolumes$Reader" "stop" "I") fl_X6_88) (fun _ h9 => h9) rfl eX6_wordNumber_31.2.2.2.2.2.1 ?_
          obtain ⟨hr36, h⟩ := rg_e h
          obtain ⟨hr37, h⟩ := rg_e h
          refine lv_icmp_ge (tgt := 69) hx hb eX6_wordNumber_31.2.2.2.2.2.2.1 (by decide) (fun c38 => ?_) (fun c38 => ?_)
          · have h := if_t ((i2_le (x := (gI s 109)) (y := x3) hr37 hr36).mp c38) h
            exact J69 (x2, x3, x5) _ _ _ ⟨hP, hS, lv_sub hl [0, 1, 2, 4] rfl, h⟩
          · have h := if_f (mt (i2_le (x := (gI s 109)) (y := x3) hr37 hr36).mpr c38) h
            refine lv_aload_n hx hb eX6_wordNumber_31.2.2.2.2.2.2.2 rfl (lv_at hl 0 rfl) ?_
            refine va_get (D := D) (ci := 6) (v := .ref (a 3)) (C := RX6) (T := TX6) (N := 12) hx hb ht inX6 hown hK hP 5 CW_5 rfl 2 (by decide) (ht (.fieldLink RX6 27 "CloneVolumes$Reader" "tape" "LCloneVolumes$Tape;") fl_X6_27) (fun _ h9 => h9) rfl eX6_wordNumber_47.1 ?_
            refine va_get (D := D) (ci := 9) (v := .ref (a 4)) (C := RX9) (T := TX9) (N := 2) hx hb ht inX9 hown hK hP 3 CW_3 rfl 0 (by decide) (ht (.fieldLink RX6 96 "CloneVolumes$Tape" "bytes" "[I") fl_X6_96) (fun _ h9 => h9) rfl eX6_wordNumber_47.2.1 ?_
            refine lv_iload_n hx hb eX6_wordNumber_47.2.2.1 rfl (lv_at hl 2 rfl) ?_
            obtain ⟨y39, ey39, iy39, h⟩ := rdI_e h
            refine ya_iald (i := x3) hx hb hK hP 4 0 CW_4 rfl (by decide) ey39 iy39 eX6_wordNumber_47.2.2.2.1 ?_
            refine lv_aload_n hx hb eX6_wordNumber_47.2.2.2.2.1 rfl (lv_at hl 0 rfl) ?_
            refine va_get (D := D) (ci := 6) (v := .ref (a 6)) (C := RX6) (T := TX6) (N := 12) hx hb ht inX6 hown hK hP 5 CW_5 rfl 3 (by decide) (ht (.fieldLink RX6 23 "CloneVolumes$Reader" "words" "[C") fl_X6_23) (fun _ h9 => h9) rfl eX6_wordNumber_47.2.2.2.2.2.1 ?_
            refine lv_iload hx hb eX6_wordNumber_47.2.2.2.2.2.2.1 (lv_at hl 4 rfl) ?_
            obtain ⟨y40, ey40, iy40, h⟩ := rdI_e h
            refine ya_cald (i := x5) hx hb hK hP 6 1 CW_6 rfl (by decide) ey40 iy40 eX6_wordNumber_47.2.2.2.2.2.2.2 ?_
            obtain ⟨hr41, h⟩ := rg_e h
            obtain ⟨hr42, h⟩ := rg_e h
            refine lv_icmp_ne (tgt := 69) hx hb eX6_wordNumber_62.1 (by decide) (fun c43 => ?_) (fun c43 => ?_)
            · have h := if_f (mt (i2_eq (x := y39) (y := y40) hr41 hr42).mpr c43) h
              exact J69 (x2, x3, x5) _ _ _ ⟨hP, hS, lv_sub hl [0, 1, 2, 4] rfl, h⟩
            · have h := if_t ((i2_eq (x := y39) (y := y40) hr41 hr42).mp c43) h
              refine lv_iconst (v := 1) hx hb eX6_wordNumber_62.2.1 (by decide) ?_
              refine lv_goto (tgt := 70) hx hb eX6_wordNumber_62.2.2.1 (by decide) ?_
              exact J70 (x2, x3, x5, 1) _ _ _ ⟨hP, hS, lv_sub hl [0, 1, 2, 4] rfl, h⟩
  refine lv_iconst (v := 0) hx hb eX6_readOther_25.2.2.2.2.2.1 (by decide) ?_
  refine lv_istore_n (lv' := [(1, .int 0), (0, .ref (a 5))]) hx hb eX6_readOther_25.2.2.2.2.2.2.1 rfl hl (by decide) rfl (fun ls hl => ?_)
  refine lv_aload_n hx hb eX6_readOther_25.2.2.2.2.2.2.2 rfl (lv_at hl 1 rfl) ?_
  refine va_get (D := D) (ci := 6) (v := .int (i2 (gI s 108))) (C := RX6) (T := TX6) (N := 12) hx hb ht inX6 hown hK hP 5 CW_5 rfl 8 (by decide) (ht (.fieldLink RX6 51 "CloneVolumes$Reader" "start" "I") fl_X6_51) (fun _ h9 => h9) rfl eX6_wordNumber_3.1 ?_
  refine lv_istore_n (lv' := [(2, .int (i2 (gI s 108))), (1, .int 0), (0, .ref (a 5))]) hx hb eX6_wordNumber_3.2.1 rfl hl (by decide) rfl (fun ls hl => ?_)
  refine lv_iconst (v := 1) hx hb eX6_wordNumber_3.2.2.1 (by decide) ?_
  refine lv_istore_n (lv' := [(3, .int 1), (2, .int (i2 (gI s 108))), (1, .int 0), (0, .ref (a 5))]) hx hb eX6_wordNumber_3.2.2.2.1 rfl hl (by decide) rfl (fun ls hl => ?_)
  refine lv_iconst (v := 0) hx hb eX6_wordNumber_3.2.2.2.2.1 (by decide) ?_
  refine lv_istore (lv' := [(4, .int 0), (3, .int 1), (2, .int (i2 (gI s 108))), (1, .int 0), (0, .ref (a 5))]) hx hb eX6_wordNumber_3.2.2.2.2.2.1 hl (by decide) rfl (fun ls hl => ?_)
  exact J12 FU (0, gI s 108, 1, 0) _ _ _ ⟨hP, hS, lv_sub hl [4, 3, 2, 1, 0] rfl, h⟩
set_option maxHeartbeats 4000000 in
set_option maxRecDepth 100000 in
theorem k_x6_isBlank (l : Launch) (D : va_G) (a : Nat → Nat) (p0 : Int) (s : MS) (o : Int) (h : m_x6_isBlank p0 s = some o) : yRi l yX6_isBlank cX6_isBlank 1 (some .boolean) { frames := 0, cells := 0, slots := 0, locals := 0 } D [.int (i2 p0)] (CS D a s) (i2 o) := by
  refine Met.ofW (cc := cX6_isBlank) (maxL := 1) (ret := (some .boolean)) (by decide) rfl ?_
  intro p e s₀ m args below meth c s₁ B hml hv
  obtain ⟨rfl, ⟨hP, hK⟩, hN⟩ := hv
  have hx := B.exec
  have hb := B.bytes
  have hr := B.returns
  have hts := atoms_spec (ws := wz yX6_isBlank cX6_isBlank 1 (some .boolean)) B.pre
  have ht : ∀ w ∈ lw_gd, w.before _ s₀ = true := fun w h => hts w (List.mem_cons_of_mem _ h)
  have hown : s₀.vm.findClass RX6 = some m.cls := findClass_of_methodNamed B.named
  have hlocks := B.notSynchronized
  have hS : va_S (fun _ => False) s₀.heap s₀.heap [] := va_S.rf
  have hl := lv_entry ([.int (i2 p0)]) (n := 1) (Nat.le_of_ble_eq_true rfl)
  rw [lg_entry_eq]
  generalize (lg_sl ([.int (i2 p0)]) ++ List.replicate (1 - (lg_sl ([.int (i2 p0)])).length) Slot.unset).toArray = ls at hl ⊢
  have hl : lv_has ls 1 [(0, .int (i2 p0))] := hl
  unfold m_x6_isBlank at h
  refine y_head (pcJ := 17) (σ := Int) (fun u H locs ls => va_P D vwCl (CS D a s) H ∧ va_S (fun _ => False) s₀.heap H locs ∧ lv_has ls 1 [] ∧ m_x6_isBlank_J17 s u = some o) (fun u => [.int (i2 u)]) (fun u H locs ls hI => ?_) (fun J17 => ?_)
  · obtain ⟨hP, hS, hl, h⟩ := hI
    obtain ⟨x1, rfl⟩ : ∃ z, z = u := ⟨u, rfl⟩
    have hP : va_P D vwCl (CS D a s) H := hP
    have hl : lv_has ls 1 [] := hl
    have h : m_x6_isBlank_J17 s x1 = some o := h
    unfold m_x6_isBlank_J17 at h
    obtain ⟨hb2, h⟩ := bo_e h
    obtain rfl := Option.some.inj h
    exact W.zret (v := (i2 x1)) hx hb hr (bo_n hb2) (fun t ht hW => ⟨⟨_, (), rfl, rfl, trivial⟩, hS.F ht⟩) hS.2.2 eX6_isBlank_16.2.1
  refine y_head (pcJ := 12) (σ := Unit) (fun u H locs ls => va_P D vwCl (CS D a s) H ∧ va_S (fun _ => False) s₀.heap H locs ∧ lv_has ls 1 [] ∧ m_x6_isBlank_J12 s u = some o) (fun u => []) (fun u H locs ls hI => ?_) (fun J12 => ?_)
  · obtain ⟨hP, hS, hl, h⟩ := hI
    skip
    have hP : va_P D vwCl (CS D a s) H := hP
    have hl : lv_has ls 1 [] := hl
    have h : m_x6_isBlank_J12 s () = some o := h
    unfold m_x6_isBlank_J12 at h
    refine lv_iconst (v := 1) hx hb eX6_isBlank_0.2.2.2.2.2.2.1 (by decide) ?_
    refine lv_goto (tgt := 17) hx hb eX6_isBlank_0.2.2.2.2.2.2.2 (by decide) ?_
    exact J17 1 _ _ _ ⟨hP, hS, lv_sub hl [] rfl, h⟩
  refine lv_iload_n hx hb eX6_isBlank_0.1 rfl (lv_at hl 0 rfl) ?_
  refine lv_bipush (v := 10) hx hb eX6_isBlank_0.2.1 (by decide) ?_
  obtain ⟨hr3, h⟩ := rg_e h
  refine lv_icmp_eq (tgt := 12) hx hb eX6_isBlank_0.2.2.1 (by decide) (fun c4 => ?_) (fun c4 => ?_)
  · have h := if_t ((i2_eq (x := p0) (y := 10) hr3 (by decide)).mp c4) h
    exact J12 () _ _ _ ⟨hP, hS, lv_sub hl [] rfl, h⟩
  · have h := if_f (mt (i2_eq (x := p0) (y := 10) hr3 (by decide)).mpr c4) h
    refine lv_iload_n hx hb eX6_isBlank_0.2.2.2.1 rfl (lv_at hl 0 rfl) ?_
    refine lv_bipush (v := 32) hx hb eX6_isBlank_0.2.2.2.2.1 (by decide) ?_
    obtain ⟨hr5, h⟩ := rg_e h
    refine lv_icmp_ne (tgt := 16) hx hb eX6_isBlank_0.2.2.2.2.2.1 (by decide) (fun c6 => ?_) (fun c6 => ?_)
    · have h := if_f (mt (i2_eq (x := p0) (y := 32) hr5 (by decide)).mpr c6) h
      refine lv_iconst (v := 0) hx hb eX6_isBlank_16.1 (by decide) ?_
      exact J17 0 _ _ _ ⟨hP, hS, lv_sub hl [] rfl, h⟩
    · have h := if_t ((i2_eq (x := p0) (y := 32) hr5 (by decide)).mp c6) h
      exact J12 () _ _ _ ⟨hP, hS, lv_sub hl [] rfl, h⟩
set_option maxHeartbeats 4000000 in
set_option maxRecDepth 100000 in
theorem k_x6_advance (l : Launch) (D : va_G) (a : Nat → Nat) (sz : Nat) (s : MS) (o : MS) (h : m_x6_advance s = some o) : yWv l yX6_advance cX6_advance 2 none { frames := 1, cells := 0, slots := 0, locals := 60 } D sz [.ref (a 5)] (CS D a s) (CS D a o) := by
  refine Met.ofW (cc := cX6_advance) (maxL := 2) (ret := none) (by decide) rfl ?_
  intro p e s₀ m args below meth c s₁ B hml hv
  obtain ⟨rfl, ⟨hsz, hP, hK, hD0⟩, hN⟩ := hv
  have hx := B.exec
  have hb := B.bytes
  have hr := B.returns
  have hts := atoms_spec (ws := wz yX6_advance cX6_advance 2 none) B.pre
  have ht : ∀ w ∈ lw_gd, w.before _ s₀ = true := fun w h => hts w (List.mem_cons_of_mem _ h)
  have hown : s₀.vm.findClass RX6 = some m.cls := findClass_of_methodNamed B.named
  have hlocks := B.notSynchronized
  subst hsz
  have hD := hD0.self (sz := s₀.heap.size)
  generalize hAe : va_A (CS D a s) s₀.heap.size = A at hD ⊢
  have hA : ∀ q : Nat, s₀.heap.size ≤ q → A q := fun q h => by rw [← hAe]; exact Or.inr h
  have hS : va_S A s₀.heap s₀.heap [] := va_S.rf
  have hDD : ∀ t : MS, va_D A (CS D a t) := fun t => CW_D t hD
  have hl := lv_entry ([.ref (a 5)]) (n := 2) (Nat.le_of_ble_eq_true rfl)
  rw [lg_entry_eq]
  generalize (lg_sl ([.ref (a 5)]) ++ List.replicate (2 - (lg_sl ([.ref (a 5)])).length) Slot.unset).toArray = ls at hl ⊢
  have hl : lv_has ls 2 [(0, .ref (a 5))] := hl
  unfold m_x6_advance at h
  refine y_head (pcJ := 300) (σ := MS) (fun u H locs ls => va_P D vwCl (CS D a u) H ∧ va_S A s₀.heap H locs ∧ lv_has ls 2 [] ∧ m_x6_advance_J300 u = some o) (fun u => []) (fun u H locs ls hI => ?_) (fun J300 => ?_)
  · obtain ⟨hP, hS, hl, h⟩ := hI
    obtain ⟨s1, rfl⟩ : ∃ z, z = u := ⟨u, rfl⟩
    have hP : va_P D vwCl (CS D a s1) H := hP
    have hl : lv_has ls 2 [] := hl
    have h : m_x6_advance_J300 s1 = some o := h
    unfold m_x6_advance_J300 at h
    obtain rfl := Option.some.inj h
    exact W.vret hx hb hr (fun t ht hW => ⟨⟨(), rfl, trivial, by rw [ht]; exact hP, va_K.moved hW.alike hK, hDD _⟩, hS.F ht⟩) hS.2.2 eX6_advance_295.2.2.2.1
  refine y_head (pcJ := 295) (σ := MS) (fun u H locs ls => va_P D vwCl (CS D a u) H ∧ va_S A s₀.heap H locs ∧ lv_has ls 2 [(0, .ref (a 5))] ∧ m_x6_advance_J295 u = some o) (fun u => []) (fun u H locs ls hI => ?_) (fun J295 => ?_)
  · obtain ⟨hP, hS, hl, h⟩ := hI
    obtain ⟨s2, rfl⟩ : ∃ z, z = u := ⟨u, rfl⟩
    have hP : va_P D vwCl (CS D a s2) H := hP
    have hl : lv_has ls 2 [(0, .ref (a 5))] := hl
    have h : m_x6_advance_J295 s2 = some o := h
    unfold m_x6_advance_J295 at h
    refine lv_aload_n hx hb eX6_advance_295.1 rfl (lv_at hl 0 rfl) ?_
    refine lv_iconst (v := 4) hx hb eX6_advance_295.2.1 (by decide) ?_
    refine ya_put (D := D) (ci := 6) (v := .int 4) (ty := .int) (C := RX6) (T := TX6) (N := 12) hx hb ht inX6 tyX6 tyX6_ok nmX6 hown hK hP (hDD _) hS 5 CW_5 rfl 7 (by decide) (ht (.fieldLink RX6 44 "CloneVolumes$Reader" "kind" "I") fl_X6_44) (fun _ h9 => h9) rfl (by decide +kernel) rfl rfl (Nat.le_of_ble_eq_true rfl) eX6_advance_295.2.2.1 (CW_w5_7 4) (fun H locs hP hS => ?_)
    obtain ⟨s3, hs3, h⟩ := st_e h
    rw [hs3] at hP
    exact J300 s3 _ _ _ ⟨hP, hS, lv_sub hl [] rfl, h⟩
  refine y_head (pcJ := 281) (σ := Int × MS) (fun u H locs ls => va_P D vwCl (CS D a u.2) H ∧ va_S A s₀.heap H locs ∧ lv_has ls 2 [(0, .ref (a 5)), (1, .int (i2 u.1))] ∧ m_x6_advance_J281 u.1 u.2 = some o) (fun u => []) (fun u H locs ls hI => ?_) (fun J281 => ?_)
  · obtain ⟨hP, hS, hl, h⟩ := hI
    obtain ⟨x4, s5⟩ := u
    have hP : va_P D vwCl (CS D a s5) H := hP
    have hl : lv_has ls 2 [(0, .ref (a 5)), (1, .int (i2 x4))] := hl
    have h : m_x6_advance_J281 x4 s5 = some o := h
    unfold m_x6_advance_J281 at h
    refine lv_iload_n hx hb eX6_advance_277.2.2.1 rfl (lv_at hl 1 rfl) ?_
    obtain ⟨r7, hc6, h⟩ := bn_e h
    refine ycS (r0 := i2 r7) (As := [.int (i2 x4)]) (rest := []) (n := 1) ⟨hx, hb, hml, hown, ht⟩ (k_x6_isLetter l D a x4 _ _ hc6) (zgT ml_X6_111 st_X6_isLetter in_X6 co_X6_isLetter) rfl rfl (by decide +kernel) ⟨Nat.le_of_ble_eq_true rfl, Nat.le_of_ble_eq_true rfl⟩ hN hK hP hS rfl hl.1 rfl (Nat.le_of_ble_eq_true rfl) eX6_advance_277.2.2.2.1 ⟨Nat.le_of_ble_eq_true rfl, Nat.le_of_ble_eq_true rfl⟩ (fun H locs hP hS => ?_)
    obtain ⟨hr8, h⟩ := rg_e h
    refine lv_if_ne (tgt := 295) hx hb eX6_advance_277.2.2.2.2.1 (by decide) (fun c9 => ?_) (fun c9 => ?_)
    · have h := if_f (mt (i2_eq (x := r7) (y := 0) hr8 (by decide)).mpr c9) h
      exact J295 s5 _ _ _ ⟨hP, hS, lv_sub hl [0] rfl, h⟩
    · have h := if_t ((i2_eq (x := r7) (y := 0) hr8 (by decide)).mp c9) h
      refine lv_iload_n hx hb eX6_advance_277.2.2.2.2.2.1 rfl (lv_at hl 1 rfl) ?_
      obtain ⟨r11, hc10, h⟩ := bn_e h
      refine ycS (r0 := i2 r11) (As := [.int (i2 x4)]) (rest := []) (n := 1) ⟨hx, hb, hml, hown, ht⟩ (k_x6_isDigit l D a x4 _ _ hc10) (zgT ml_X6_118 st_X6_isDigit in_X6 co_X6_isDigit) rfl rfl (by decide +kernel) ⟨Nat.le_of_ble_eq_true rfl, Nat.le_of_ble_eq_true rfl⟩ hN hK hP hS rfl hl.1 rfl (Nat.le_of_ble_eq_true rfl) eX6_advance_277.2.2.2.2.2.2.1 ⟨Nat.le_of_ble_eq_true rfl, Nat.le_of_ble_eq_true rfl⟩ (fun H locs hP hS => ?_)
      obtain ⟨hr12, h⟩ := rg_e h
      refine lv_if_eq (tgt := 300) hx hb eX6_advance_277.2.2.2.2.2.2.2 (by decide) (fun c13 => ?_) (fun c13 => ?_)
      · have h := if_t ((i2_eq (x := r11) (y := 0) hr12 (by decide)).mp c13) h
        exact J300 s5 _ _ _ ⟨hP, hS, lv_sub hl [] rfl, h⟩
      · have h := if_f (mt (i2_eq (x := r11) (y := 0) hr12 (by decide)).mpr c13) h
        exact J295 s5 _ _ _ ⟨hP, hS, lv_sub hl [0] rfl, h⟩
  refine y_head (pcJ := 251) (σ := MS) (fun u H locs ls => va_P D vwCl (CS D a u) H ∧ va_S A s₀.heap H locs ∧ lv_has ls 2 [(0, .ref (a 5))] ∧ m_x6_advance_J251 u = some o) (fun u => []) (fun u H locs ls hI => ?_) (fun J251 => ?_)
  · obtain ⟨hP, hS, hl, h⟩ := hI
    obtain ⟨s14, rfl⟩ : ∃ z, z = u := ⟨u, rfl⟩
    have hP : va_P D vwCl (CS D a s14) H := hP
    have hl : lv_has ls 2 [(0, .ref (a 5))] := hl
    have h : m_x6_advance_J251 s14 = some o := h
    unfold m_x6_advance_J251 at h
    refine lv_aload_n hx hb eX6_advance_247.2.2.1 rfl (lv_at hl 0 rfl) ?_
    refine va_get (D := D) (ci := 6) (v := .ref (a 3)) (C := RX6) (T := TX6) (N := 12) hx hb ht inX6 hown hK hP 5 CW_5 rfl 2 (by decide) (ht (.fieldLink RX6 27 "CloneVolumes$Reader" "tape" "LCloneVolumes$Tape;") fl_X6_27) (fun _ h9 => h9) rfl eX6_advance_247.2.2.2.1 ?_
    refine lv_aload_n hx hb eX6_advance_247.2.2.2.2.1 rfl (lv_at hl 0 rfl) ?_
    refine va_get (D := D) (ci := 6) (v := .int (i2 (gI s14 108))) (C := RX6) (T := TX6) (N := 12) hx hb ht inX6 hown hK hP 5 CW_5 rfl 8 (by decide) (ht (.fieldLink RX6 51 "CloneVolumes$Reader" "start" "I") fl_X6_51) (fun _ h9 => h9) rfl eX6_advance_247.2.2.2.2.2.1 ?_
    refine lv_iconst (v := 1) hx hb eX6_advance_247.2.2.2.2.2.2.1 (by decide) ?_
    refine lv_isub hx hb eX6_advance_247.2.2.2.2.2.2.2 ?_
    refine z_topi (y := i2 ((gI s14 108) - 1)) (i2_sub (gI s14 108) 1) ?_
    obtain ⟨r16, hc15, h⟩ := bn_e h
    refine ycV (r0 := i2 r16) (As := [.int (i2 ((gI s14 108) - 1))]) (rest := []) (C := RX9) (n := 1) ⟨hx, hb, hml, hown, ht⟩ (k_x9_at l D a ((gI s14 108) - 1) _ _ hc15) (zgV ml_X6_104 im_X9_at se_X9_at in_X9 co_X9_at) rfl rfl (by decide +kernel) ⟨Nat.le_of_ble_eq_true rfl, Nat.le_of_ble_eq_true rfl⟩ hN hK hP hS 3 CW_3 rfl rfl rfl hl.1 rfl (Nat.le_of_ble_eq_true rfl) eX6_advance_261.1 ⟨Nat.le_of_ble_eq_true rfl, Nat.le_of_ble_eq_true rfl⟩ (fun H locs hP hS => ?_)
    refine lv_istore_n (lv' := [(1, .int (i2 r16)), (0, .ref (a 5))]) hx hb eX6_advance_261.2.1 rfl hl (by decide) rfl (fun ls hl => ?_)
    refine lv_aload_n hx hb eX6_advance_261.2.2.1 rfl (lv_at hl 1 rfl) ?_
    refine va_get (D := D) (ci := 6) (v := .int (i2 (gI s14 107))) (C := RX6) (T := TX6) (N := 12) hx hb ht inX6 hown hK hP 5 CW_5 rfl 7 (by decide) (ht (.fieldLink RX6 44 "CloneVolumes$Reader" "kind" "I") fl_X6_44) (fun _ h9 => h9) rfl eX6_advance_261.2.2.2.1 ?_
    refine lv_iconst (v := 1) hx hb eX6_advance_261.2.2.2.2.1 (by decide) ?_
    obtain ⟨hr17, h⟩ := rg_e h
    refine lv_icmp_eq (tgt := 281) hx hb eX6_advance_261.2.2.2.2.2.1 (by decide) (fun c18 => ?_) (fun c18 => ?_)
    · have h := if_t ((i2_eq (x := (gI s14 107)) (y := 1) hr17 (by decide)).mp c18) h
      exact J281 (r16, s14) _ _ _ ⟨hP, hS, lv_sub hl [1, 0] rfl, h⟩
    · have h := if_f (mt (i2_eq (x := (gI s14 107)) (y := 1) hr17 (by decide)).mpr c18) h
      refine lv_aload_n hx hb eX6_advance_261.2.2.2.2.2.2.1 rfl (lv_at hl 1 rfl) ?_
      refine va_get (D := D) (ci := 6) (v := .int (i2 (gI s14 107))) (C := RX6) (T := TX6) (N := 12) hx hb ht inX6 hown hK hP 5 CW_5 rfl 7 (by decide) (ht (.fieldLink RX6 44 "CloneVolumes$Reader" "kind" "I") fl_X6_44) (fun _ h9 => h9) rfl eX6_advance_261.2.2.2.2.2.2.2 ?_
      refine lv_iconst (v := 2) hx hb eX6_advance_277.1 (by decide) ?_
      obtain ⟨hr19, h⟩ := rg_e h
      refine lv_icmp_ne (tgt := 300) hx hb eX6_advance_277.2.1 (by decide) (fun c20 => ?_) (fun c20 => ?_)
      · have h := if_f (mt (i2_eq (x := (gI s14 107)) (y := 2) hr19 (by decide)).mpr c20) h
        exact J300 s14 _ _ _ ⟨hP, hS, lv_sub hl [] rfl, h⟩
      · have h := if_t ((i2_eq (x := (gI s14 107)) (y := 2) hr19 (by decide)).mp c20) h
        exact J281 (r16, s14) _ _ _ ⟨hP, hS, lv_sub hl [1, 0] rfl, h⟩
  refine y_loop (pcJ := 191) (σ := MS) (fun n u H locs ls => va_P D vwCl (CS D a u) H ∧ va_S A s₀.heap H locs ∧ lv_has ls 2 [(0, .ref (a 5))] ∧ m_x6_advance_L191 n u = some o) (fun u => []) (fun u H locs ls hI => by obtain ⟨_, _, _, h⟩ := hI; cases h) (fun n191 ih191 u H locs ls hI => ?_) (fun J191 => ?_)
  · obtain ⟨hP, hS, hl, h⟩ := hI
    obtain ⟨s21, rfl⟩ : ∃ z, z = u := ⟨u, rfl⟩
    have hP : va_P D vwCl (CS D a s21) H := hP
    have hl : lv_has ls 2 [(0, .ref (a 5))] := hl
    have h : m_x6_advance_b191 (m_x6_advance_L191 n191) s21 = some o := h
    unfold m_x6_advance_b191 at h
    refine lv_aload_n hx hb eX6_advance_183.2.2.2.2.1 rfl (lv_at hl 0 rfl) ?_
    refine va_get (D := D) (ci := 6) (v := .int (i2 (gI s21 109))) (C := RX6) (T := TX6) (N := 12) hx hb ht inX6 hown hK hP 5 CW_5 rfl 9 (by decide) (ht (.fieldLink RX6 88 "CloneVolumes$Reader" "stop" "I") fl_X6_88) (fun _ h9 => h9) rfl eX6_advance_183.2.2.2.2.2.1 ?_
    refine lv_aload_n hx hb eX6_advance_183.2.2.2.2.2.2.1 rfl (lv_at hl 0 rfl) ?_
    refine va_get (D := D) (ci := 6) (v := .ref (a 3)) (C := RX6) (T := TX6) (N := 12) hx hb ht inX6 hown hK hP 5 CW_5 rfl 2 (by decide) (ht (.fieldLink RX6 27 "CloneVolumes$Reader" "tape" "LCloneVolumes$Tape;") fl_X6_27) (fun _ h9 => h9) rfl eX6_advance_183.2.2.2.2.2.2.2 ?_
    refine va_get (D := D) (ci := 9) (v := .int (i2 (gI s21 61))) (C := RX9) (T := TX9) (N := 2) hx hb ht inX9 hown hK hP 3 CW_3 rfl 1 (by decide) (ht (.fieldLink RX6 91 "CloneVolumes$Tape" "length" "I") fl_X6_91) (fun _ h9 => h9) rfl eX6_advance_199.1 ?_
    obtain ⟨hr22, h⟩ := rg_e h
    obtain ⟨hr23, h⟩ := rg_e h
    refine lv_icmp_ge (tgt := 251) hx hb eX6_advance_199.2.1 (by decide) (fun c24 => ?_) (fun c24 => ?_)
    · have h := if_t ((i2_le (x := (gI s21 61)) (y := (gI s21 109)) hr23 hr22).mp c24) h
      exact J251 s21 _ _ _ ⟨hP, hS, lv_sub hl [0] rfl, h⟩
    · have h := if_f (mt (i2_le (x := (gI s21 61)) (y := (gI s21 109)) hr23 hr22).mpr c24) h
      refine lv_aload_n hx hb eX6_advance_199.2.2.1 rfl (lv_at hl 0 rfl) ?_
      refine va_get (D := D) (ci := 6) (v := .ref (a 3)) (C := RX6) (T := TX6) (N := 12) hx hb ht inX6 hown hK hP 5 CW_5 rfl 2 (by decide) (ht (.fieldLink RX6 27 "CloneVolumes$Reader" "tape" "LCloneVolumes$Tape;") fl_X6_27) (fun _ h9 => h9) rfl eX6_advance_199.2.2.2.1 ?_
      refine va_get (D := D) (ci := 9) (v := .ref (a 4)) (C := RX9) (T := TX9) (N := 2) hx hb ht inX9 hown hK hP 3 CW_3 rfl 0 (by decide) (ht (.fieldLink RX6 96 "CloneVolumes$Tape" "bytes" "[I") fl_X6_96) (fun _ h9 => h9) rfl eX6_advance_199.2.2.2.2.1 ?_
      refine lv_aload_n hx hb eX6_advance_199.2.2.2.2.2.1 rfl (lv_at hl 0 rfl) ?_
      refine va_get (D := D) (ci := 6) (v := .int (i2 (gI s21 109))) (C := RX6) (T := TX6) (N := 12) hx hb ht inX6 hown hK hP 5 CW_5 rfl 9 (by decide) (ht (.fieldLink RX6 88 "CloneVolumes$Reader" "stop" "I") fl_X6_88) (fun _ h9 => h9) rfl eX6_advance_199.2.2.2.2.2.2.1 ?_
      obtain ⟨y25, ey25, iy25, h⟩ := rdI_e h
      refine ya_iald (i := (gI s21 109)) hx hb hK hP 4 0 CW_4 rfl (by decide) ey25 iy25 eX6_advance_199.2.2.2.2.2.2.2 ?_
      obtain ⟨r27, hc26, h⟩ := bn_e h
      refine ycS (r0 := i2 r27) (As := [.int (i2 y25)]) (rest := []) (n := 1) ⟨hx, hb, hml, hown, ht⟩ (k_x6_isDigit l D a y25 _ _ hc26) (zgT ml_X6_118 st_X6_isDigit in_X6 co_X6_isDigit) rfl rfl (by decide +kernel) ⟨Nat.le_of_ble_eq_true rfl, Nat.le_of_ble_eq_true rfl⟩ hN hK hP hS rfl hl.1 rfl (Nat.le_of_ble_eq_true rfl) eX6_advance_217.1 ⟨Nat.le_of_ble_eq_true rfl, Nat.le_of_ble_eq_true rfl⟩ (fun H locs hP hS => ?_)
      obtain ⟨hr28, h⟩ := rg_e h
      refine lv_if_eq (tgt := 251) hx hb eX6_advance_217.2.1 (by decide) (fun c29 => ?_) (fun c29 => ?_)
      · have h := if_t ((i2_eq (x := r27) (y := 0) hr28 (by decide)).mp c29) h
        exact J251 s21 _ _ _ ⟨hP, hS, lv_sub hl [0] rfl, h⟩
      · have h := if_f (mt (i2_eq (x := r27) (y := 0) hr28 (by decide)).mpr c29) h
        refine lv_aload_n hx hb eX6_advance_217.2.2.1 rfl (lv_at hl 0 rfl) ?_
        refine lv_dup hx hb eX6_advance_217.2.2.2.1 rfl ?_
        refine va_get (D := D) (ci := 6) (v := .int (i2 (gI s21 109))) (C := RX6) (T := TX6) (N := 12) hx hb ht inX6 hown hK hP 5 CW_5 rfl 9 (by decide) (ht (.fieldLink RX6 88 "CloneVolumes$Reader" "stop" "I") fl_X6_88) (fun _ h9 => h9) rfl eX6_advance_217.2.2.2.2.1 ?_
        refine lv_iconst (v := 1) hx hb eX6_advance_217.2.2.2.2.2.1 (by decide) ?_
        refine lv_iadd hx hb eX6_advance_217.2.2.2.2.2.2.1 ?_
        refine z_topi (y := i2 ((gI s21 109) + 1)) (i2_add (gI s21 109) 1) ?_
        refine ya_put (D := D) (ci := 6) (v := .int (i2 ((gI s21 109) + 1))) (ty := .int) (C := RX6) (T := TX6) (N := 12) hx hb ht inX6 tyX6 tyX6_ok nmX6 hown hK hP (hDD _) hS 5 CW_5 rfl 9 (by decide) (ht (.fieldLink RX6 88 "CloneVolumes$Reader" "stop" "I") fl_X6_88) (fun _ h9 => h9) rfl (by decide +kernel) rfl rfl (Nat.le_of_ble_eq_true rfl) eX6_advance_217.2.2.2.2.2.2.2 (CW_w5_9 ((gI s21 109) + 1)) (fun H locs hP hS => ?_)
        obtain ⟨s30, hs30, h⟩ := st_e h
        rw [hs30] at hP
        refine lv_goto (tgt := 191) hx hb eX6_advance_233.1 (by decide) ?_
        exact ih191 s30 _ _ _ ⟨hP, hS, lv_sub hl [0] rfl, h⟩
  refine y_head (pcJ := 165) (σ := MS) (fun u H locs ls => va_P D vwCl (CS D a u) H ∧ va_S A s₀.heap H locs ∧ lv_has ls 2 [(0, .ref (a 5))] ∧ m_x6_advance_J165 u = some o) (fun u => []) (fun u H locs ls hI => ?_) (fun J165 => ?_)
  · obtain ⟨hP, hS, hl, h⟩ := hI
    obtain ⟨s31, rfl⟩ : ∃ z, z = u := ⟨u, rfl⟩
    have hP : va_P D vwCl (CS D a s31) H := hP
    have hl : lv_has ls 2 [(0, .ref (a 5))] := hl
    have h : m_x6_advance_J165 s31 = some o := h
    unfold m_x6_advance_J165 at h
    refine lv_aload_n hx hb eX6_advance_165.1 rfl (lv_at hl 0 rfl) ?_
    refine lv_aload_n hx hb eX6_advance_165.2.1 rfl (lv_at hl 0 rfl) ?_
    obtain ⟨r33, hc32, h⟩ := bn_e h
    refine ycV (r0 := i2 r33) (As := []) (rest := [.ref (a 5)]) (C := RX6) (n := 0) ⟨hx, hb, hml, hown, ht⟩ (k_x6_wordNumber l D a _ _ hc32) (zgV ml_X6_114 im_X6_wordNumber se_X6_wordNumber in_X6 co_X6_wordNumber) rfl rfl (by decide +kernel) ⟨Nat.le_of_ble_eq_true rfl, Nat.le_of_ble_eq_true rfl⟩ hN hK hP hS 5 CW_5 rfl rfl rfl hl.1 rfl (Nat.le_of_ble_eq_true rfl) eX6_advance_165.2.2.1 ⟨Nat.le_of_ble_eq_true rfl, Nat.le_of_ble_eq_true rfl⟩ (fun H locs hP hS => ?_)
    refine ya_put (D := D) (ci := 6) (v := .int (i2 r33)) (ty := .int) (C := RX6) (T := TX6) (N := 12) hx hb ht inX6 tyX6 tyX6_ok nmX6 hown hK hP (hDD _) hS 5 CW_5 rfl 10 (by decide) (ht (.fieldLink RX6 72 "CloneVolumes$Reader" "word" "I") fl_X6_72) (fun _ h9 => h9) rfl (by decide +kernel) rfl rfl (Nat.le_of_ble_eq_true rfl) eX6_advance_165.2.2.2.1 (CW_w5_10 r33) (fun H locs hP hS => ?_)
    obtain ⟨s34, hs34, h⟩ := st_e h
    rw [hs34] at hP
    refine lv_goto (tgt := 251) hx hb eX6_advance_165.2.2.2.2.1 (by decide) ?_
    exact J251 s34 _ _ _ ⟨hP, hS, lv_sub hl [0] rfl, h⟩
  refine y_loop (pcJ := 120) (σ := MS) (fun n u H locs ls => va_P D vwCl (CS D a u) H ∧ va_S A s₀.heap H locs ∧ lv_has ls 2 [(0, .ref (a 5))] ∧ m_x6_advance_L120 n u = some o) (fun u => []) (fun u H locs ls hI => by obtain ⟨_, _, _, h⟩ := hI; cases h) (fun n120 ih120 u H locs ls hI => ?_) (fun J120 => ?_)
  · obtain ⟨hP, hS, hl, h⟩ := hI
    obtain ⟨s35, rfl⟩ : ∃ z, z = u := ⟨u, rfl⟩
    have hP : va_P D vwCl (CS D a s35) H := hP
    have hl : lv_has ls 2 [(0, .ref (a 5))] := hl
    have h : m_x6_advance_b120 (m_x6_advance_L120 n120) s35 = some o := h
    unfold m_x6_advance_b120 at h
    refine lv_aload_n hx hb eX6_advance_115.2.2.2.1 rfl (lv_at hl 0 rfl) ?_
    refine va_get (D := D) (ci := 6) (v := .int (i2 (gI s35 109))) (C := RX6) (T := TX6) (N := 12) hx hb ht inX6 hown hK hP 5 CW_5 rfl 9 (by decide) (ht (.fieldLink RX6 88 "CloneVolumes$Reader" "stop" "I") fl_X6_88) (fun _ h9 => h9) rfl eX6_advance_115.2.2.2.2.1 ?_
    refine lv_aload_n hx hb eX6_advance_115.2.2.2.2.2.1 rfl (lv_at hl 0 rfl) ?_
    refine va_get (D := D) (ci := 6) (v := .ref (a 3)) (C := RX6) (T := TX6) (N := 12) hx hb ht inX6 hown hK hP 5 CW_5 rfl 2 (by decide) (ht (.fieldLink RX6 27 "CloneVolumes$Reader" "tape" "LCloneVolumes$Tape;") fl_X6_27) (fun _ h9 => h9) rfl eX6_advance_115.2.2.2.2.2.2.1 ?_
    refine va_get (D := D) (ci := 9) (v := .int (i2 (gI s35 61))) (C := RX9) (T := TX9) (N := 2) hx hb ht inX9 hown hK hP 3 CW_3 rfl 1 (by decide) (ht (.fieldLink RX6 91 "CloneVolumes$Tape" "length" "I") fl_X6_91) (fun _ h9 => h9) rfl eX6_advance_115.2.2.2.2.2.2.2 ?_
    obtain ⟨hr36, h⟩ := rg_e h
    obtain ⟨hr37, h⟩ := rg_e h
    refine lv_icmp_ge (tgt := 165) hx hb eX6_advance_131.1 (by decide) (fun c38 => ?_) (fun c38 => ?_)
    · have h := if_t ((i2_le (x := (gI s35 61)) (y := (gI s35 109)) hr37 hr36).mp c38) h
      exact J165 s35 _ _ _ ⟨hP, hS, lv_sub hl [0] rfl, h⟩
    · have h := if_f (mt (i2_le (x := (gI s35 61)) (y := (gI s35 109)) hr37 hr36).mpr c38) h
      refine lv_aload_n hx hb eX6_advance_131.2.1 rfl (lv_at hl 0 rfl) ?_
      refine va_get (D := D) (ci := 6) (v := .ref (a 3)) (C := RX6) (T := TX6) (N := 12) hx hb ht inX6 hown hK hP 5 CW_5 rfl 2 (by decide) (ht (.fieldLink RX6 27 "CloneVolumes$Reader" "tape" "LCloneVolumes$Tape;") fl_X6_27) (fun _ h9 => h9) rfl eX6_advance_131.2.2.1 ?_
      refine va_get (D := D) (ci := 9) (v := .ref (a 4)) (C := RX9) (T := TX9) (N := 2) hx hb ht inX9 hown hK hP 3 CW_3 rfl 0 (by decide) (ht (.fieldLink RX6 96 "CloneVolumes$Tape" "bytes" "[I") fl_X6_96) (fun _ h9 => h9) rfl eX6_advance_131.2.2.2.1 ?_
      refine lv_aload_n hx hb eX6_advance_131.2.2.2.2.1 rfl (lv_at hl 0 rfl) ?_
      refine va_get (D := D) (ci := 6) (v := .int (i2 (gI s35 109))) (C := RX6) (T := TX6) (N := 12) hx hb ht inX6 hown hK hP 5 CW_5 rfl 9 (by decide) (ht (.fieldLink RX6 88 "CloneVolumes$Reader" "stop" "I") fl_X6_88) (fun _ h9 => h9) rfl eX6_advance_131.2.2.2.2.2.1 ?_
      obtain ⟨y39, ey39, iy39, h⟩ := rdI_e h
      refine ya_iald (i := (gI s35 109)) hx hb hK hP 4 0 CW_4 rfl (by decide) ey39 iy39 eX6_advance_131.2.2.2.2.2.2.1 ?_
      obtain ⟨r41, hc40, h⟩ := bn_e h
      refine ycS (r0 := i2 r41) (As := [.int (i2 y39)]) (rest := []) (n := 1) ⟨hx, hb, hml, hown, ht⟩ (k_x6_isLetter l D a y39 _ _ hc40) (zgT ml_X6_111 st_X6_isLetter in_X6 co_X6_isLetter) rfl rfl (by decide +kernel) ⟨Nat.le_of_ble_eq_true rfl, Nat.le_of_ble_eq_true rfl⟩ hN hK hP hS rfl hl.1 rfl (Nat.le_of_ble_eq_true rfl) eX6_advance_131.2.2.2.2.2.2.2 ⟨Nat.le_of_ble_eq_true rfl, Nat.le_of_ble_eq_true rfl⟩ (fun H locs hP hS => ?_)
      obtain ⟨hr42, h⟩ := rg_e h
      refine lv_if_eq (tgt := 165) hx hb eX6_advance_149.1 (by decide) (fun c43 => ?_) (fun c43 => ?_)
      · have h := if_t ((i2_eq (x := r41) (y := 0) hr42 (by decide)).mp c43) h
        exact J165 s35 _ _ _ ⟨hP, hS, lv_sub hl [0] rfl, h⟩
      · have h := if_f (mt (i2_eq (x := r41) (y := 0) hr42 (by decide)).mpr c43) h
        refine lv_aload_n hx hb eX6_advance_149.2.1 rfl (lv_at hl 0 rfl) ?_
        refine lv_dup hx hb eX6_advance_149.2.2.1 rfl ?_
        refine va_get (D := D) (ci := 6) (v := .int (i2 (gI s35 109))) (C := RX6) (T := TX6) (N := 12) hx hb ht inX6 hown hK hP 5 CW_5 rfl 9 (by decide) (ht (.fieldLink RX6 88 "CloneVolumes$Reader" "stop" "I") fl_X6_88) (fun _ h9 => h9) rfl eX6_advance_149.2.2.2.1 ?_
        refine lv_iconst (v := 1) hx hb eX6_advance_149.2.2.2.2.1 (by decide) ?_
        refine lv_iadd hx hb eX6_advance_149.2.2.2.2.2.1 ?_
        refine z_topi (y := i2 ((gI s35 109) + 1)) (i2_add (gI s35 109) 1) ?_
        refine ya_put (D := D) (ci := 6) (v := .int (i2 ((gI s35 109) + 1))) (ty := .int) (C := RX6) (T := TX6) (N := 12) hx hb ht inX6 tyX6 tyX6_ok nmX6 hown hK hP (hDD _) hS 5 CW_5 rfl 9 (by decide) (ht (.fieldLink RX6 88 "CloneVolumes$Reader" "stop" "I") fl_X6_88) (fun _ h9 => h9) rfl (by decide +kernel) rfl rfl (Nat.le_of_ble_eq_true rfl) eX6_advance_149.2.2.2.2.2.2.1 (CW_w5_9 ((gI s35 109) + 1)) (fun H locs hP hS => ?_)
        obtain ⟨s44, hs44, h⟩ := st_e h
        rw [hs44] at hP
        refine lv_goto (tgt := 120) hx hb eX6_advance_149.2.2.2.2.2.2.2 (by decide) ?_
        exact ih120 s44 _ _ _ ⟨hP, hS, lv_sub hl [0] rfl, h⟩
  refine y_head (pcJ := 61) (σ := MS) (fun u H locs ls => va_P D vwCl (CS D a u) H ∧ va_S A s₀.heap H locs ∧ lv_has ls 2 [(0, .ref (a 5))] ∧ m_x6_advance_J61 u = some o) (fun u => []) (fun u H locs ls hI => ?_) (fun J61 => ?_)
  · obtain ⟨hP, hS, hl, h⟩ := hI
    obtain ⟨s45, rfl⟩ : ∃ z, z = u := ⟨u, rfl⟩
    have hP : va_P D vwCl (CS D a s45) H := hP
    have hl : lv_has ls 2 [(0, .ref (a 5))] := hl
    have h : m_x6_advance_J61 s45 = some o := h
    unfold m_x6_advance_J61 at h
    refine lv_aload_n hx hb eX6_advance_49.2.2.2.2.2.2.1 rfl (lv_at hl 0 rfl) ?_
    refine lv_aload_n hx hb eX6_advance_49.2.2.2.2.2.2.2 rfl (lv_at hl 0 rfl) ?_
    refine va_get (D := D) (ci := 6) (v := .int (i2 (gI s45 108))) (C := RX6) (T := TX6) (N := 12) hx hb ht inX6 hown hK hP 5 CW_5 rfl 8 (by decide) (ht (.fieldLink RX6 51 "CloneVolumes$Reader" "start" "I") fl_X6_51) (fun _ h9 => h9) rfl eX6_advance_63.1 ?_
    refine ya_put (D := D) (ci := 6) (v := .int (i2 (gI s45 108))) (ty := .int) (C := RX6) (T := TX6) (N := 12) hx hb ht inX6 tyX6 tyX6_ok nmX6 hown hK hP (hDD _) hS 5 CW_5 rfl 9 (by decide) (ht (.fieldLink RX6 88 "CloneVolumes$Reader" "stop" "I") fl_X6_88) (fun _ h9 => h9) rfl (by decide +kernel) rfl rfl (Nat.le_of_ble_eq_true rfl) eX6_advance_63.2.1 (CW_w5_9 (gI s45 108)) (fun H locs hP hS => ?_)
    obtain ⟨s46, hs46, h⟩ := st_e h
    rw [hs46] at hP
    refine lv_aload_n hx hb eX6_advance_63.2.2.1 rfl (lv_at hl 0 rfl) ?_
    refine lv_iconst (v := (-1)) hx hb eX6_advance_63.2.2.2.1 (by decide) ?_
    refine ya_put (D := D) (ci := 6) (v := .int (-1)) (ty := .int) (C := RX6) (T := TX6) (N := 12) hx hb ht inX6 tyX6 tyX6_ok nmX6 hown hK hP (hDD _) hS 5 CW_5 rfl 10 (by decide) (ht (.fieldLink RX6 72 "CloneVolumes$Reader" "word" "I") fl_X6_72) (fun _ h9 => h9) rfl (by decide +kernel) rfl rfl (Nat.le_of_ble_eq_true rfl) eX6_advance_63.2.2.2.2.1 (CW_w5_10 (-1)) (fun H locs hP hS => ?_)
    obtain ⟨s47, hs47, h⟩ := st_e h
    rw [hs47] at hP
    refine lv_aload_n hx hb eX6_advance_63.2.2.2.2.2.1 rfl (lv_at hl 0 rfl) ?_
    refine lv_aload_n hx hb eX6_advance_63.2.2.2.2.2.2.1 rfl (lv_at hl 0 rfl) ?_
    refine va_get (D := D) (ci := 6) (v := .ref (a 3)) (C := RX6) (T := TX6) (N := 12) hx hb ht inX6 hown hK hP 5 CW_5 rfl 2 (by decide) (ht (.fieldLink RX6 27 "CloneVolumes$Reader" "tape" "LCloneVolumes$Tape;") fl_X6_27) (fun _ h9 => h9) rfl eX6_advance_63.2.2.2.2.2.2.2 ?_
    refine lv_aload_n hx hb eX6_advance_79.1 rfl (lv_at hl 0 rfl) ?_
    refine va_get (D := D) (ci := 6) (v := .int (i2 (gI s47 108))) (C := RX6) (T := TX6) (N := 12) hx hb ht inX6 hown hK hP 5 CW_5 rfl 8 (by decide) (ht (.fieldLink RX6 51 "CloneVolumes$Reader" "start" "I") fl_X6_51) (fun _ h9 => h9) rfl eX6_advance_79.2.1 ?_
    obtain ⟨r49, hc48, h⟩ := bn_e h
    refine ycV (r0 := i2 r49) (As := [.int (i2 (gI s47 108))]) (rest := [.ref (a 5)]) (C := RX9) (n := 1) ⟨hx, hb, hml, hown, ht⟩ (k_x9_at l D a (gI s47 108) _ _ hc48) (zgV ml_X6_104 im_X9_at se_X9_at in_X9 co_X9_at) rfl rfl (by decide +kernel) ⟨Nat.le_of_ble_eq_true rfl, Nat.le_of_ble_eq_true rfl⟩ hN hK hP hS 3 CW_3 rfl rfl rfl hl.1 rfl (Nat.le_of_ble_eq_true rfl) eX6_advance_79.2.2.1 ⟨Nat.le_of_ble_eq_true rfl, Nat.le_of_ble_eq_true rfl⟩ (fun H locs hP hS => ?_)
    refine ya_put (D := D) (ci := 6) (v := .int (i2 r49)) (ty := .int) (C := RX6) (T := TX6) (N := 12) hx hb ht inX6 tyX6 tyX6_ok nmX6 hown hK hP (hDD _) hS 5 CW_5 rfl 11 (by decide) (ht (.fieldLink RX6 108 "CloneVolumes$Reader" "sign" "I") fl_X6_108) (fun _ h9 => h9) rfl (by decide +kernel) rfl rfl (Nat.le_of_ble_eq_true rfl) eX6_advance_79.2.2.2.1 (CW_w5_11 r49) (fun H locs hP hS => ?_)
    obtain ⟨s50, hs50, h⟩ := st_e h
    rw [hs50] at hP
    refine lv_aload_n hx hb eX6_advance_79.2.2.2.2.1 rfl (lv_at hl 0 rfl) ?_
    refine va_get (D := D) (ci := 6) (v := .int (i2 (gI s50 111))) (C := RX6) (T := TX6) (N := 12) hx hb ht inX6 hown hK hP 5 CW_5 rfl 11 (by decide) (ht (.fieldLink RX6 108 "CloneVolumes$Reader" "sign" "I") fl_X6_108) (fun _ h9 => h9) rfl eX6_advance_79.2.2.2.2.2.1 ?_
    refine lv_iconst (v := (-1)) hx hb eX6_advance_79.2.2.2.2.2.2.1 (by decide) ?_
    obtain ⟨hr51, h⟩ := rg_e h
    refine lv_icmp_ne (tgt := 105) hx hb eX6_advance_79.2.2.2.2.2.2.2 (by decide) (fun c52 => ?_) (fun c52 => ?_)
    · rw [show ((-1) : Int32) = i2 (-1) from by decide] at c52
      have h := if_f (mt (i2_eq (x := (gI s50 111)) (y := (-1)) hr51 (by decide)).mpr c52) h
      refine lv_aload_n hx hb eX6_advance_97.2.2.2.2.1 rfl (lv_at hl 0 rfl) ?_
      refine va_get (D := D) (ci := 6) (v := .int (i2 (gI s50 111))) (C := RX6) (T := TX6) (N := 12) hx hb ht inX6 hown hK hP 5 CW_5 rfl 11 (by decide) (ht (.fieldLink RX6 108 "CloneVolumes$Reader" "sign" "I") fl_X6_108) (fun _ h9 => h9) rfl eX6_advance_97.2.2.2.2.2.1 ?_
      obtain ⟨r54, hc53, h⟩ := bn_e h
      refine ycS (r0 := i2 r54) (As := [.int (i2 (gI s50 111))]) (rest := []) (n := 1) ⟨hx, hb, hml, hown, ht⟩ (k_x6_isLetter l D a (gI s50 111) _ _ hc53) (zgT ml_X6_111 st_X6_isLetter in_X6 co_X6_isLetter) rfl rfl (by decide +kernel) ⟨Nat.le_of_ble_eq_true rfl, Nat.le_of_ble_eq_true rfl⟩ hN hK hP hS rfl hl.1 rfl (Nat.le_of_ble_eq_true rfl) eX6_advance_97.2.2.2.2.2.2.1 ⟨Nat.le_of_ble_eq_true rfl, Nat.le_of_ble_eq_true rfl⟩ (fun H locs hP hS => ?_)
      obtain ⟨hr55, h⟩ := rg_e h
      refine lv_if_eq (tgt := 176) hx hb eX6_advance_97.2.2.2.2.2.2.2 (by decide) (fun c56 => ?_) (fun c56 => ?_)
      · have h := if_t ((i2_eq (x := r54) (y := 0) hr55 (by decide)).mp c56) h
        refine lv_aload_n hx hb eX6_advance_165.2.2.2.2.2.1 rfl (lv_at hl 0 rfl) ?_
        refine va_get (D := D) (ci := 6) (v := .int (i2 (gI s50 111))) (C := RX6) (T := TX6) (N := 12) hx hb ht inX6 hown hK hP 5 CW_5 rfl 11 (by decide) (ht (.fieldLink RX6 108 "CloneVolumes$Reader" "sign" "I") fl_X6_108) (fun _ h9 => h9) rfl eX6_advance_165.2.2.2.2.2.2.1 ?_
        obtain ⟨r58, hc57, h⟩ := bn_e h
        refine ycS (r0 := i2 r58) (As := [.int (i2 (gI s50 111))]) (rest := []) (n := 1) ⟨hx, hb, hml, hown, ht⟩ (k_x6_isDigit l D a (gI s50 111) _ _ hc57) (zgT ml_X6_118 st_X6_isDigit in_X6 co_X6_isDigit) rfl rfl (by decide +kernel) ⟨Nat.le_of_ble_eq_true rfl, Nat.le_of_ble_eq_true rfl⟩ hN hK hP hS rfl hl.1 rfl (Nat.le_of_ble_eq_true rfl) eX6_advance_165.2.2.2.2.2.2.2 ⟨Nat.le_of_ble_eq_true rfl, Nat.le_of_ble_eq_true rfl⟩ (fun H locs hP hS => ?_)
        obtain ⟨hr59, h⟩ := rg_e h
        refine lv_if_eq (tgt := 236) hx hb eX6_advance_183.1 (by decide) (fun c60 => ?_) (fun c60 => ?_)
        · have h := if_t ((i2_eq (x := r58) (y := 0) hr59 (by decide)).mp c60) h
          refine lv_aload_n hx hb eX6_advance_233.2.1 rfl (lv_at hl 0 rfl) ?_
          refine lv_iconst (v := 3) hx hb eX6_advance_233.2.2.1 (by decide) ?_
          refine ya_put (D := D) (ci := 6) (v := .int 3) (ty := .int) (C := RX6) (T := TX6) (N := 12) hx hb ht inX6 tyX6 tyX6_ok nmX6 hown hK hP (hDD _) hS 5 CW_5 rfl 7 (by decide) (ht (.fieldLink RX6 44 "CloneVolumes$Reader" "kind" "I") fl_X6_44) (fun _ h9 => h9) rfl (by decide +kernel) rfl rfl (Nat.le_of_ble_eq_true rfl) eX6_advance_233.2.2.2.1 (CW_w5_7 3) (fun H locs hP hS => ?_)
          obtain ⟨s61, hs61, h⟩ := st_e h
          rw [hs61] at hP
          refine lv_aload_n hx hb eX6_advance_233.2.2.2.2.1 rfl (lv_at hl 0 rfl) ?_
          refine lv_dup hx hb eX6_advance_233.2.2.2.2.2.1 rfl ?_
          refine va_get (D := D) (ci := 6) (v := .int (i2 (gI s61 109))) (C := RX6) (T := TX6) (N := 12) hx hb ht inX6 hown hK hP 5 CW_5 rfl 9 (by decide) (ht (.fieldLink RX6 88 "CloneVolumes$Reader" "stop" "I") fl_X6_88) (fun _ h9 => h9) rfl eX6_advance_233.2.2.2.2.2.2.1 ?_
          refine lv_iconst (v := 1) hx hb eX6_advance_233.2.2.2.2.2.2.2 (by decide) ?_
          refine lv_iadd hx hb eX6_advance_247.1 ?_
          refine z_topi (y := i2 ((gI s61 109) + 1)) (i2_add (gI s61 109) 1) ?_
          refine ya_put (D := D) (ci := 6) (v := .int (i2 ((gI s61 109) + 1))) (ty := .int) (C := RX6) (T := TX6) (N := 12) hx hb ht inX6 tyX6 tyX6_ok nmX6 hown hK hP (hDD _) hS 5 CW_5 rfl 9 (by decide) (ht (.fieldLink RX6 88 "CloneVolumes$Reader" "stop" "I") fl_X6_88) (fun _ h9 => h9) rfl (by decide +kernel) rfl rfl (Nat.le_of_ble_eq_true rfl) eX6_advance_247.2.1 (CW_w5_9 ((gI s61 109) + 1)) (fun H locs hP hS => ?_)
          obtain ⟨s62, hs62, h⟩ := st_e h
          rw [hs62] at hP
          exact J251 s62 _ _ _ ⟨hP, hS, lv_sub hl [0] rfl, h⟩
        · have h := if_f (mt (i2_eq (x := r58) (y := 0) hr59 (by decide)).mpr c60) h
          refine lv_aload_n hx hb eX6_advance_183.2.1 rfl (lv_at hl 0 rfl) ?_
          refine lv_iconst (v := 2) hx hb eX6_advance_183.2.2.1 (by decide) ?_
          refine ya_put (D := D) (ci := 6) (v := .int 2) (ty := .int) (C := RX6) (T := TX6) (N := 12) hx hb ht inX6 tyX6 tyX6_ok nmX6 hown hK hP (hDD _) hS 5 CW_5 rfl 7 (by decide) (ht (.fieldLink RX6 44 "CloneVolumes$Reader" "kind" "I") fl_X6_44) (fun _ h9 => h9) rfl (by decide +kernel) rfl rfl (Nat.le_of_ble_eq_true rfl) eX6_advance_183.2.2.2.1 (CW_w5_7 2) (fun H locs hP hS => ?_)
          obtain ⟨s63, hs63, h⟩ := st_e h
          rw [hs63] at hP
          exact J191 FU s63 _ _ _ ⟨hP, hS, lv_sub hl [0] rfl, h⟩
      · have h := if_f (mt (i2_eq (x := r54) (y := 0) hr55 (by decide)).mpr c56) h
        refine lv_aload_n hx hb eX6_advance_115.1 rfl (lv_at hl 0 rfl) ?_
        refine lv_iconst (v := 1) hx hb eX6_advance_115.2.1 (by decide) ?_
        refine ya_put (D := D) (ci := 6) (v := .int 1) (ty := .int) (C := RX6) (T := TX6) (N := 12) hx hb ht inX6 tyX6 tyX6_ok nmX6 hown hK hP (hDD _) hS 5 CW_5 rfl 7 (by decide) (ht (.fieldLink RX6 44 "CloneVolumes$Reader" "kind" "I") fl_X6_44) (fun _ h9 => h9) rfl (by decide +kernel) rfl rfl (Nat.le_of_ble_eq_true rfl) eX6_advance_115.2.2.1 (CW_w5_7 1) (fun H locs hP hS => ?_)
        obtain ⟨s64, hs64, h⟩ := st_e h
        rw [hs64] at hP
        exact J120 FU s64 _ _ _ ⟨hP, hS, lv_sub hl [0] rfl, h⟩
    · rw [show ((-1) : Int32) = i2 (-1) from by decide] at c52
      have h := if_t ((i2_eq (x := (gI s50 111)) (y := (-1)) hr51 (by decide)).mp c52) h
      refine lv_aload_n hx hb eX6_advance_97.1 rfl (lv_at hl 0 rfl) ?_
      refine lv_iconst (v := 0) hx hb eX6_advance_97.2.1 (by decide) ?_
      refine ya_put (D := D) (ci := 6) (v := .int 0) (ty := .int) (C := RX6) (T := TX6) (N := 12) hx hb ht inX6 tyX6 tyX6_ok nmX6 hown hK hP (hDD _) hS 5 CW_5 rfl 7 (by decide) (ht (.fieldLink RX6 44 "CloneVolumes$Reader" "kind" "I") fl_X6_44) (fun _ h9 => h9) rfl (by decide +kernel) rfl rfl (Nat.le_of_ble_eq_true rfl) eX6_advance_97.2.2.1 (CW_w5_7 0) (fun H locs hP hS => ?_)
      obtain ⟨s65, hs65, h⟩ := st_e h
      rw [hs65] at hP
      refine lv_goto (tgt := 251) hx hb eX6_advance_97.2.2.2.1 (by decide) ?_
      exact J251 s65 _ _ _ ⟨hP, hS, lv_sub hl [0] rfl, h⟩
  refine y_loop (pcJ := 16) (σ := MS) (fun n u H locs ls => va_P D vwCl (CS D a u) H ∧ va_S A s₀.heap H locs ∧ lv_has ls 2 [(0, .ref (a 5))] ∧ m_x6_advance_L16 n u = some o) (fun u => []) (fun u H locs ls hI => by obtain ⟨_, _, _, h⟩ := hI; cases h) (fun n16 ih16 u H locs ls hI => ?_) (fun J16 => ?_)
  · obtain ⟨hP, hS, hl, h⟩ := hI
    obtain ⟨s66, rfl⟩ : ∃ z, z = u := ⟨u, rfl⟩
    have hP : va_P D vwCl (CS D a s66) H := hP
    have hl : lv_has ls 2 [(0, .ref (a 5))] := hl
    have h : m_x6_advance_b16 (m_x6_advance_L16 n16) s66 = some o := h
    unfold m_x6_advance_b16 at h
    refine lv_aload_n hx hb eX6_advance_13.2.1 rfl (lv_at hl 0 rfl) ?_
    refine va_get (D := D) (ci := 6) (v := .int (i2 (gI s66 108))) (C := RX6) (T := TX6) (N := 12) hx hb ht inX6 hown hK hP 5 CW_5 rfl 8 (by decide) (ht (.fieldLink RX6 51 "CloneVolumes$Reader" "start" "I") fl_X6_51) (fun _ h9 => h9) rfl eX6_advance_13.2.2.1 ?_
    refine lv_aload_n hx hb eX6_advance_13.2.2.2.1 rfl (lv_at hl 0 rfl) ?_
    refine va_get (D := D) (ci := 6) (v := .ref (a 3)) (C := RX6) (T := TX6) (N := 12) hx hb ht inX6 hown hK hP 5 CW_5 rfl 2 (by decide) (ht (.fieldLink RX6 27 "CloneVolumes$Reader" "tape" "LCloneVolumes$Tape;") fl_X6_27) (fun _ h9 => h9) rfl eX6_advance_13.2.2.2.2.1 ?_
    refine va_get (D := D) (ci := 9) (v := .int (i2 (gI s66 61))) (C := RX9) (T := TX9) (N := 2) hx hb ht inX9 hown hK hP 3 CW_3 rfl 1 (by decide) (ht (.fieldLink RX6 91 "CloneVolumes$Tape" "length" "I") fl_X6_91) (fun _ h9 => h9) rfl eX6_advance_13.2.2.2.2.2.1 ?_
    obtain ⟨hr67, h⟩ := rg_e h
    obtain ⟨hr68, h⟩ := rg_e h
    refine lv_icmp_ge (tgt := 61) hx hb eX6_advance_13.2.2.2.2.2.2.1 (by decide) (fun c69 => ?_) (fun c69 => ?_)
    · have h := if_t ((i2_le (x := (gI s66 61)) (y := (gI s66 108)) hr68 hr67).mp c69) h
      exact J61 s66 _ _ _ ⟨hP, hS, lv_sub hl [0] rfl, h⟩
    · have h := if_f (mt (i2_le (x := (gI s66 61)) (y := (gI s66 108)) hr68 hr67).mpr c69) h
      refine lv_aload_n hx hb eX6_advance_13.2.2.2.2.2.2.2 rfl (lv_at hl 0 rfl) ?_
      refine va_get (D := D) (ci := 6) (v := .ref (a 3)) (C := RX6) (T := TX6) (N := 12) hx hb ht inX6 hown hK hP 5 CW_5 rfl 2 (by decide) (ht (.fieldLink RX6 27 "CloneVolumes$Reader" "tape" "LCloneVolumes$Tape;") fl_X6_27) (fun _ h9 => h9) rfl eX6_advance_31.1 ?_
      refine va_get (D := D) (ci := 9) (v := .ref (a 4)) (C := RX9) (T := TX9) (N := 2) hx hb ht inX9 hown hK hP 3 CW_3 rfl 0 (by decide) (ht (.fieldLink RX6 96 "CloneVolumes$Tape" "bytes" "[I") fl_X6_96) (fun _ h9 => h9) rfl eX6_advance_31.2.1 ?_
      refine lv_aload_n hx hb eX6_advance_31.2.2.1 rfl (lv_at hl 0 rfl) ?_
      refine va_get (D := D) (ci := 6) (v := .int (i2 (gI s66 108))) (C := RX6) (T := TX6) (N := 12) hx hb ht inX6 hown hK hP 5 CW_5 rfl 8 (by decide) (ht (.fieldLink RX6 51 "CloneVolumes$Reader" "start" "I") fl_X6_51) (fun _ h9 => h9) rfl eX6_advance_31.2.2.2.1 ?_
      obtain ⟨y70, ey70, iy70, h⟩ := rdI_e h
      refine ya_iald (i := (gI s66 108)) hx hb hK hP 4 0 CW_4 rfl (by decide) ey70 iy70 eX6_advance_31.2.2.2.2.1 ?_
      obtain ⟨r72, hc71, h⟩ := bn_e h
      refine ycS (r0 := i2 r72) (As := [.int (i2 y70)]) (rest := []) (n := 1) ⟨hx, hb, hml, hown, ht⟩ (k_x6_isBlank l D a y70 _ _ hc71) (zgT ml_X6_100 st_X6_isBlank in_X6 co_X6_isBlank) rfl rfl (by decide +kernel) ⟨Nat.le_of_ble_eq_true rfl, Nat.le_of_ble_eq_true rfl⟩ hN hK hP hS rfl hl.1 rfl (Nat.le_of_ble_eq_true rfl) eX6_advance_31.2.2.2.2.2.1 ⟨Nat.le_of_ble_eq_true rfl, Nat.le_of_ble_eq_true rfl⟩ (fun H locs hP hS => ?_)
      obtain ⟨hr73, h⟩ := rg_e h
      refine lv_if_eq (tgt := 61) hx hb eX6_advance_31.2.2.2.2.2.2.1 (by decide) (fun c74 => ?_) (fun c74 => ?_)
      · have h := if_t ((i2_eq (x := r72) (y := 0) hr73 (by decide)).mp c74) h
        exact J61 s66 _ _ _ ⟨hP, hS, lv_sub hl [0] rfl, h⟩
      · have h := if_f (mt (i2_eq (x := r72) (y := 0) hr73 (by decide)).mpr c74) h
        refine lv_aload_n hx hb eX6_advance_31.2.2.2.2.2.2.2 rfl (lv_at hl 0 rfl) ?_
        refine lv_dup hx hb eX6_advance_49.1 rfl ?_
        refine va_get (D := D) (ci := 6) (v := .int (i2 (gI s66 108))) (C := RX6) (T := TX6) (N := 12) hx hb ht inX6 hown hK hP 5 CW_5 rfl 8 (by decide) (ht (.fieldLink RX6 51 "CloneVolumes$Reader" "start" "I") fl_X6_51) (fun _ h9 => h9) rfl eX6_advance_49.2.1 ?_
        refine lv_iconst (v := 1) hx hb eX6_advance_49.2.2.1 (by decide) ?_
        refine lv_iadd hx hb eX6_advance_49.2.2.2.1 ?_
        refine z_topi (y := i2 ((gI s66 108) + 1)) (i2_add (gI s66 108) 1) ?_
        refine ya_put (D := D) (ci := 6) (v := .int (i2 ((gI s66 108) + 1))) (ty := .int) (C := RX6) (T := TX6) (N := 12) hx hb ht inX6 tyX6 tyX6_ok nmX6 hown hK hP (hDD _) hS 5 CW_5 rfl 8 (by decide) (ht (.fieldLink RX6 51 "CloneVolumes$Reader" "start" "I") fl_X6_51) (fun _ h9 => h9) rfl (by decide +kernel) rfl rfl (Nat.le_of_ble_eq_true rfl) eX6_advance_49.2.2.2.2.1 (CW_w5_8 ((gI s66 108) + 1)) (fun H locs hP hS => ?_)
        obtain ⟨s75, hs75, h⟩ := st_e h
        rw [hs75] at hP
        refine lv_goto (tgt := 16) hx hb eX6_advance_49.2.2.2.2.2.1 (by decide) ?_
        exact ih16 s75 _ _ _ ⟨hP, hS, lv_sub hl [0] rfl, h⟩
  refine lv_aload_n hx hb eX0_add_30.2.1 rfl (lv_at hl 0 rfl) ?_
  refine va_get (D := D) (ci := 6) (v := .int (i2 (gI s 100))) (C := RX6) (T := TX6) (N := 12) hx hb ht inX6 hown hK hP 5 CW_5 rfl 0 (by decide) (ht (.fieldLink RX6 61 "CloneVolumes$Reader" "fault" "I") fl_X6_61) (fun _ h9 => h9) rfl eX0_add_30.2.2.1 ?_
  obtain ⟨hr76, h⟩ := rg_e h
  refine lv_if_eq (tgt := 8) hx hb eX0_add_30.2.2.2.1 (by decide) (fun c77 => ?_) (fun c77 => ?_)
  · have h := if_t ((i2_eq (x := (gI s 100)) (y := 0) hr76 (by decide)).mp c77) h
    refine lv_aload_n hx hb eX0_add_30.2.2.2.2.2.1 rfl (lv_at hl 0 rfl) ?_
    refine lv_aload_n hx hb eX0_add_30.2.2.2.2.2.2.1 rfl (lv_at hl 0 rfl) ?_
    refine va_get (D := D) (ci := 6) (v := .int (i2 (gI s 109))) (C := RX6) (T := TX6) (N := 12) hx hb ht inX6 hown hK hP 5 CW_5 rfl 9 (by decide) (ht (.fieldLink RX6 88 "CloneVolumes$Reader" "stop" "I") fl_X6_88) (fun _ h9 => h9) rfl eX0_add_30.2.2.2.2.2.2.2 ?_
    refine ya_put (D := D) (ci := 6) (v := .int (i2 (gI s 109))) (ty := .int) (C := RX6) (T := TX6) (N := 12) hx hb ht inX6 tyX6 tyX6_ok nmX6 hown hK hP (hDD _) hS 5 CW_5 rfl 8 (by decide) (ht (.fieldLink RX6 51 "CloneVolumes$Reader" "start" "I") fl_X6_51) (fun _ h9 => h9) rfl (by decide +kernel) rfl rfl (Nat.le_of_ble_eq_true rfl) eX6_advance_13.1 (CW_w5_8 (gI s 109)) (fun H locs hP hS => ?_)
    obtain ⟨s78, hs78, h⟩ := st_e h
    rw [hs78] at hP
    exact J16 FU s78 _ _ _ ⟨hP, hS, lv_sub hl [0] rfl, h⟩
  · have h := if_f (mt (i2_eq (x := (gI s 100)) (y := 0) hr76 (by decide)).mpr c77) h
    obtain rfl := Option.some.inj h
    exact W.vret hx hb hr (fun t ht hW => ⟨⟨(), rfl, trivial, by rw [ht]; exact hP, va_K.moved hW.alike hK, hDD _⟩, hS.F ht⟩) hS.2.2 eX0_add_30.2.2.2.2.1
set_option maxHeartbeats 4000000 in
set_option maxRecDepth 100000 in
theorem k_x0_add (l : Launch) (D : va_G) (a : Nat → Nat) (p0 : Int) (sz : Nat) (s : MS) (o : MS) (h : m_x0_add p0 s = some o) : yWv l yX0_add cX0_add 2 none { frames := 0, cells := 0, slots := 0, locals := 0 } D sz [.ref (a 47), .int (i2 p0)] (CS D a s) (CS D a o) := by
  refine Met.ofW (cc := cX0_add) (maxL := 2) (ret := none) (by decide) rfl ?_
  intro p e s₀ m args below meth c s₁ B hml hv
  obtain ⟨rfl, ⟨hsz, hP, hK, hD0⟩, hN⟩ := hv
  have hx := B.exec
  have hb := B.bytes
  have hr := B.returns
  have hts := atoms_spec (ws := wz yX0_add cX0_add 2 none) B.pre
  have ht : ∀ w ∈ lw_gd, w.before _ s₀ = true := fun w h => hts w (List.mem_cons_of_mem _ h)
  have hown : s₀.vm.findClass RX0 = some m.cls := findClass_of_methodNamed B.named
  have hlocks := B.notSynchronized
  subst hsz
  have hD := hD0.self (sz := s₀.heap.size)
  generalize hAe : va_A (CS D a s) s₀.heap.size = A at hD ⊢
  have hA : ∀ q : Nat, s₀.heap.size ≤ q → A q := fun q h => by rw [← hAe]; exact Or.inr h
  have hS : va_S A s₀.heap s₀.heap [] := va_S.rf
  have hDD : ∀ t : MS, va_D A (CS D a t) := fun t => CW_D t hD
  have hl := lv_entry ([.ref (a 47), .int (i2 p0)]) (n := 2) (Nat.le_of_ble_eq_true rfl)
  rw [lg_entry_eq]
  generalize (lg_sl ([.ref (a 47), .int (i2 p0)]) ++ List.replicate (2 - (lg_sl ([.ref (a 47), .int (i2 p0)])).length) Slot.unset).toArray = ls at hl ⊢
  have hl : lv_has ls 2 [(0, .ref (a 47)), (1, .int (i2 p0))] := hl
  unfold m_x0_add at h
  refine y_head (pcJ := 30) (σ := MS) (fun u H locs ls => va_P D vwCl (CS D a u) H ∧ va_S A s₀.heap H locs ∧ lv_has ls 2 [] ∧ m_x0_add_J30 u = some o) (fun u => []) (fun u H locs ls hI => ?_) (fun J30 => ?_)
  · obtain ⟨hP, hS, hl, h⟩ := hI
    obtain ⟨s1, rfl⟩ : ∃ z, z = u := ⟨u, rfl⟩
    have hP : va_P D vwCl (CS D a s1) H := hP
    have hl : lv_has ls 2 [] := hl
    have h : m_x0_add_J30 s1 = some o := h
    unfold m_x0_add_J30 at h
    obtain rfl := Option.some.inj h
    exact W.vret hx hb hr (fun t ht hW => ⟨⟨(), rfl, trivial, by rw [ht]; exact hP, va_K.moved hW.alike hK, hDD _⟩, hS.F ht⟩) hS.2.2 eX0_add_30.1
  refine lv_aload_n hx hb eX0_add_0.1 rfl (lv_at hl 0 rfl) ?_
  refine va_get (D := D) (ci := 0) (v := .int (i2 (gI s 941))) (C := RX0) (T := TX0) (N := 2) hx hb ht inX0 hown hK hP 47 CW_47 rfl 1 (by decide) (ht (.fieldLink RX0 15 "CloneVolumes$Code" "size" "I") fl_X0_15) (fun _ h9 => h9) rfl eX0_add_0.2.1 ?_
  refine lv_sipush (v := 1600) hx hb eX0_add_0.2.2.1 (by decide) ?_
  obtain ⟨hr2, h⟩ := rg_e h
  refine lv_icmp_ge (tgt := 30) hx hb eX0_add_0.2.2.2.1 (by decide) (fun c3 => ?_) (fun c3 => ?_)
  · have h := if_t ((i2_le (x := 1600) (y := (gI s 941)) (by decide) hr2).mp c3) h
    exact J30 s _ _ _ ⟨hP, hS, lv_sub hl [] rfl, h⟩
  · have h := if_f (mt (i2_le (x := 1600) (y := (gI s 941)) (by decide) hr2).mpr c3) h
    refine lv_aload_n hx hb eX0_add_0.2.2.2.2.1 rfl (lv_at hl 0 rfl) ?_
    refine va_get (D := D) (ci := 0) (v := .ref (a 48)) (C := RX0) (T := TX0) (N := 2) hx hb ht inX0 hown hK hP 47 CW_47 rfl 0 (by decide) (ht (.fieldLink RX0 9 "CloneVolumes$Code" "steps" "[I") fl_X0_9) (fun _ h9 => h9) rfl eX0_add_0.2.2.2.2.2.1 ?_
    refine lv_aload_n hx hb eX0_add_0.2.2.2.2.2.2.1 rfl (lv_at hl 0 rfl) ?_
    refine va_get (D := D) (ci := 0) (v := .int (i2 (gI s 941))) (C := RX0) (T := TX0) (N := 2) hx hb ht inX0 hown hK hP 47 CW_47 rfl 1 (by decide) (ht (.fieldLink RX0 15 "CloneVolumes$Code" "size" "I") fl_X0_15) (fun _ h9 => h9) rfl eX0_add_0.2.2.2.2.2.2.2 ?_
    refine lv_iload_n hx hb eX0_add_18.1 rfl (lv_at hl 1 rfl) ?_
    obtain ⟨hi4, h⟩ := inb_e h
    refine ya_iast (i := (gI s 941)) (x := p0) hx hb hK hP (hDD _) hS 48 0 CW_48 rfl (by decide) hi4 eX0_add_18.2.1 (CW_w48 _) (fun H locs hP hS => ?_)
    obtain ⟨s5, hs5, h⟩ := st_e h
    rw [hs5] at hP
    refine lv_aload_n hx hb eX0_add_18.2.2.1 rfl (lv_at hl 0 rfl) ?_
    refine lv_dup hx hb eX0_add_18.2.2.2.1 rfl ?_
    refine va_get (D := D) (ci := 0) (v := .int (i2 (gI s5 941))) (C := RX0) (T := TX0) (N := 2) hx hb ht inX0 hown hK hP 47 CW_47 rfl 1 (by decide) (ht (.fieldLink RX0 15 "CloneVolumes$Code" "size" "I") fl_X0_15) (fun _ h9 => h9) rfl eX0_add_18.2.2.2.2.1 ?_
    refine lv_iconst (v := 1) hx hb eX0_add_18.2.2.2.2.2.1 (by decide) ?_
    refine lv_iadd hx hb eX0_add_18.2.2.2.2.2.2.1 ?_
    refine z_topi (y := i2 ((gI s5 941) + 1)) (i2_add (gI s5 941) 1) ?_
    refine ya_put (D := D) (ci := 0) (v := .int (i2 ((gI s5 941) + 1))) (ty := .int) (C := RX0) (T := TX0) (N := 2) hx hb ht inX0 tyX0 tyX0_ok nmX0 hown hK hP (hDD _) hS 47 CW_47 rfl 1 (by decide) (ht (.fieldLink RX0 15 "CloneVolumes$Code" "size" "I") fl_X0_15) (fun _ h9 => h9) rfl (by decide +kernel) rfl rfl (Nat.le_of_ble_eq_true rfl) eX0_add_18.2.2.2.2.2.2.2 (CW_w47_1 ((gI s5 941) + 1)) (fun H locs hP hS => ?_)
    obtain ⟨s6, hs6, h⟩ := st_e h
    rw [hs6] at hP
    exact J30 s6 _ _ _ ⟨hP, hS, lv_sub hl [] rfl, h⟩
set_option maxHeartbeats 4000000 in
set_option maxRecDepth 100000 in
theorem k_x6_readOther (l : Launch) (D : va_G) (a : Nat → Nat) (d : Nat) (rgs : (MS → Option MS) × (MS → Option MS)) (hRS : ∀ (sz : Nat) (s o : MS), rgs.1 s = some o → yWv l yX6_readSum cX6_readSum 3 none { frames := 8 * d + 16, cells := 0, slots := 0, locals := 60 * (8 * d + 16) } D sz [.ref (a 5)] (CS D a s) (CS D a o)) (hQ : ∀ (sz : Nat) (s o : MS), rgs.2 s = some o → yWv l yX6_readPart cX6_readPart 1 none { frames := 8 * d + 12, cells := 0, slots := 0, locals := 60 * (8 * d + 12) } D sz [.ref (a 5)] (CS D a s) (CS D a o)) (p0 : Int) (sz : Nat) (s : MS) (o : MS) (h : m_x6_readOther rgs p0 s = some o) : yWv l yX6_readOther cX6_readOther 2 none { frames := 8 * d + 13, cells := 0, slots := 0, locals := 60 * (8 * d + 13) } D sz [.ref (a 5), .int (i2 p0)] (CS D a s) (CS D a o) := by
  refine Met.ofW (cc := cX6_readOther) (maxL := 2) (ret := none) (by decide) rfl ?_
  intro p e s₀ m args below meth c s₁ B hml hv
  obtain ⟨rfl, ⟨hsz, hP, hK, hD0⟩, hN⟩ := hv
  have hx := B.exec
  have hb := B.bytes
  have hr := B.returns
  have hts := atoms_spec (ws := wz yX6_readOther cX6_readOther 2 none) B.pre
  have ht : ∀ w ∈ lw_gd, w.before _ s₀ = true := fun w h => hts w (List.mem_cons_of_mem _ h)
  have hown : s₀.vm.findClass RX6 = some m.cls := findClass_of_methodNamed B.named
  have hlocks := B.notSynchronized
  subst hsz
  have hD := hD0.self (sz := s₀.heap.size)
  generalize hAe : va_A (CS D a s) s₀.heap.size = A at hD ⊢
  have hA : ∀ q : Nat, s₀.heap.size ≤ q → A q := fun q h => by rw [← hAe]; exact Or.inr h
  have hS : va_S A s₀.heap s₀.heap [] := va_S.rf
  have hDD : ∀ t : MS, va_D A (CS D a t) := fun t => CW_D t hD
  have hl := lv_entry ([.ref (a 5), .int (i2 p0)]) (n := 2) (Nat.le_of_ble_eq_true rfl)
  rw [lg_entry_eq]
  generalize (lg_sl ([.ref (a 5), .int (i2 p0)]) ++ List.replicate (2 - (lg_sl ([.ref (a 5), .int (i2 p0)])).length) Slot.unset).toArray = ls at hl ⊢
  have hl : lv_has ls 2 [(0, .ref (a 5)), (1, .int (i2 p0))] := hl
  unfold m_x6_readOther at h
  refine y_head (pcJ := 33) (σ := MS) (fun u H locs ls => va_P D vwCl (CS D a u) H ∧ va_S A s₀.heap H locs ∧ lv_has ls 2 [] ∧ m_x6_readOther_J33 rgs u = some o) (fun u => []) (fun u H locs ls hI => ?_) (fun J33 => ?_)
  · obtain ⟨hP, hS, hl, h⟩ := hI
    obtain ⟨s1, rfl⟩ : ∃ z, z = u := ⟨u, rfl⟩
    have hP : va_P D vwCl (CS D a s1) H := hP
    have hl : lv_has ls 2 [] := hl
    have h : m_x6_readOther_J33 rgs s1 = some o := h
    unfold m_x6_readOther_J33 at h
    obtain rfl := Option.some.inj h
    exact W.vret hx hb hr (fun t ht hW => ⟨⟨(), rfl, trivial, by rw [ht]; exact hP, va_K.moved hW.alike hK, hDD _⟩, hS.F ht⟩) hS.2.2 eX6_readOther_25.2.2.2.2.1
  refine lv_aload_n hx hb eX6_readChoice_71.2.2.2.1 rfl (lv_at hl 0 rfl) ?_
  obtain ⟨⟨r4, s3⟩, hc2, h⟩ := bn_e h
  refine ywV (r0 := i2 r4) (As := []) (rest := []) (C := RX6) (n := 0) (ws' := CS D a s3) ⟨hx, hb, hml, hown, ht⟩ (k_x6_opens l D a _ _ _ hc2) (zgV ml_X6_197 im_X6_opens se_X6_opens in_X6 co_X6_opens) rfl rfl (by decide +kernel) ⟨by show 1 + 1 ≤ 8 * d + 13; omega, by show 8 + (1 + 11) + 60 ≤ 60 * (8 * d + 13); omega⟩ hN hK hP (hDD _) hS hA 5 CW_5 rfl rfl rfl hl.1 rfl (Nat.le_of_ble_eq_true rfl) eX6_readChoice_71.2.2.2.2.1 ⟨Nat.le_of_ble_eq_true rfl, Nat.le_of_ble_eq_true rfl⟩ (fun H locs hP hS => ?_)
  obtain ⟨hr5, h⟩ := rg_e h
  refine lv_if_eq (tgt := 33) hx hb eX6_readChoice_71.2.2.2.2.2.1 (by decide) (fun c6 => ?_) (fun c6 => ?_)
  · have h := if_t ((i2_eq (x := r4) (y := 0) hr5 (by decide)).mp c6) h
    exact J33 s3 _ _ _ ⟨hP, hS, lv_sub hl [] rfl, h⟩
  · have h := if_f (mt (i2_eq (x := r4) (y := 0) hr5 (by decide)).mpr c6) h
    refine lv_aload_n hx hb eX6_readChoice_71.2.2.2.2.2.2.1 rfl (lv_at hl 0 rfl) ?_
    obtain ⟨s8, hc7, h⟩ := bn_e h
    refine ywVv (As := []) (rest := []) (C := RX6) (n := 0) (ws' := CS D a s8) ⟨hx, hb, hml, hown, ht⟩ (k_x6_advance l D a _ _ _ hc7) (zgV ml_X6_75 im_X6_advance se_X6_advance in_X6 co_X6_advance) rfl rfl (by decide +kernel) ⟨by show 1 + 1 ≤ 8 * d + 13; omega, by show 8 + (2 + 11) + 60 ≤ 60 * (8 * d + 13); omega⟩ hN hK hP (hDD _) hS hA 5 CW_5 rfl rfl rfl hl.1 rfl (Nat.le_of_ble_eq_true rfl) eX6_readChoice_71.2.2.2.2.2.2.2 ⟨Nat.le_of_ble_eq_true rfl, Nat.le_of_ble_eq_true rfl⟩ (fun H locs hP hS => ?_)
    refine lv_aload_n hx hb eX6_readOther_11.1 rfl (lv_at hl 0 rfl) ?_
    obtain ⟨s10, hc9, h⟩ := bn_e h
    refine ywVv (As := []) (rest := []) (C := RX6) (n := 0) (ws' := CS D a s10) ⟨hx, hb, hml, hown, ht⟩ (hQ _ _ _ hc9) (zgV ml_X6_206 im_X6_readPart se_X6_readPart in_X6 co_X6_readPart) rfl rfl (by decide +kernel) ⟨by show (8 * d + 12) + 1 ≤ 8 * d + 13; omega, by show 8 + (1 + 11) + 60 * (8 * d + 12) ≤ 60 * (8 * d + 13); omega⟩ hN hK hP (hDD _) hS hA 5 CW_5 rfl rfl rfl hl.1 rfl (Nat.le_of_ble_eq_true rfl) eX6_readOther_11.2.1 ⟨Nat.le_of_ble_eq_true rfl, Nat.le_of_ble_eq_true rfl⟩ (fun H locs hP hS => ?_)
    refine lv_aload_n hx hb eX6_readOther_11.2.2.1 rfl (lv_at hl 0 rfl) ?_
    obtain ⟨he11, h⟩ := eqg_e h
    refine va_get (D := D) (ci := 6) (v := .ref (a 47)) (C := RX6) (T := TX6) (N := 12) hx hb ht inX6 hown hK hP 5 CW_5 rfl 4 (by decide) (ht (.fieldLink RX6 84 "CloneVolumes$Reader" "code" "LCloneVolumes$Code;") fl_X6_84) (fun _ h9 => h9) (congrArg some (rcv_2 he11)) eX6_readOther_11.2.2.2.1 ?_
    refine lv_iload_n hx hb eX6_readOther_11.2.2.2.2.1 rfl (lv_at hl 1 rfl) ?_
    obtain ⟨s13, hc12, h⟩ := bn_e h
    refine ywVv (As := [.int (i2 p0)]) (rest := []) (C := RX0) (n := 1) (ws' := CS D a s13) ⟨hx, hb, hml, hown, ht⟩ (k_x0_add l D a p0 _ _ _ hc12) (zgV ml_X6_191 im_X0_add se_X0_add in_X0 co_X0_add) rfl rfl (by decide +kernel) ⟨by show 0 + 1 ≤ 8 * d + 13; omega, by show 8 + (2 + 11) + 0 ≤ 60 * (8 * d + 13); omega⟩ hN hK hP (hDD _) hS hA 47 CW_47 rfl rfl rfl hl.1 rfl (Nat.le_of_ble_eq_true rfl) eX6_readOther_11.2.2.2.2.2.1 ⟨Nat.le_of_ble_eq_true rfl, Nat.le_of_ble_eq_true rfl⟩ (fun H locs hP hS => ?_)
    refine lv_aload_n hx hb eX6_readOther_11.2.2.2.2.2.2.1 rfl (lv_at hl 0 rfl) ?_
    refine lv_dup hx hb eX6_readOther_11.2.2.2.2.2.2.2 rfl ?_
    refine va_get (D := D) (ci := 6) (v := .int (i2 (gI s13 106))) (C := RX6) (T := TX6) (N := 12) hx hb ht inX6 hown hK hP 5 CW_5 rfl 6 (by decide) (ht (.fieldLink RX6 85 "CloneVolumes$Reader" "open" "I") fl_X6_85) (fun _ h9 => h9) rfl eX6_readOther_25.1 ?_
    refine lv_iconst (v := 1) hx hb eX6_readOther_25.2.1 (by decide) ?_
    refine lv_isub hx hb eX6_readOther_25.2.2.1 ?_
    refine z_topi (y := i2 ((gI s13 106) - 1)) (i2_sub (gI s13 106) 1) ?_
    refine ya_put (D := D) (ci := 6) (v := .int (i2 ((gI s13 106) - 1))) (ty := .int) (C := RX6) (T := TX6) (N := 12) hx hb ht inX6 tyX6 tyX6_ok nmX6 hown hK hP (hDD _) hS 5 CW_5 rfl 6 (by decide) (ht (.fieldLink RX6 85 "CloneVolumes$Reader" "open" "I") fl_X6_85) (fun _ h9 => h9) rfl (by decide +kernel) rfl rfl (Nat.le_of_ble_eq_true rfl) eX6_readOther_25.2.2.2.1 (CW_w5_6 ((gI s13 106) - 1)) (fun H locs hP hS => ?_)
    obtain ⟨s14, hs14, h⟩ := st_e h
    rw [hs14] at hP
    exact J33 s14 _ _ _ ⟨hP, hS, lv_sub hl [] rfl, h⟩
set_option maxHeartbeats 4000000 in
set_option maxRecDepth 100000 in
theorem k_x6_isSign (l : Launch) (D : va_G) (a : Nat → Nat) (p0 : Int) (s : MS) (o : Int) (h : m_x6_isSign p0 s = some o) : yRi l yX6_isSign cX6_isSign 2 (some .boolean) { frames := 0, cells := 0, slots := 0, locals := 0 } D [.ref (a 5), .int (i2 p0)] (CS D a s) (i2 o) := by
  refine Met.ofW (cc := cX6_isSign) (maxL := 2) (ret := (some .boolean)) (by decide) rfl ?_
  intro p e s₀ m args below meth c s₁ B hml hv
  obtain ⟨rfl, ⟨hP, hK⟩, hN⟩ := hv
  have hx := B.exec
  have hb := B.bytes
  have hr := B.returns
  have hts := atoms_spec (ws := wz yX6_isSign cX6_isSign 2 (some .boolean)) B.pre
  have ht : ∀ w ∈ lw_gd, w.before _ s₀ = true := fun w h => hts w (List.mem_cons_of_mem _ h)
  have hown : s₀.vm.findClass RX6 = some m.cls := findClass_of_methodNamed B.named
  have hlocks := B.notSynchronized
  have hS : va_S (fun _ => False) s₀.heap s₀.heap [] := va_S.rf
  have hl := lv_entry ([.ref (a 5), .int (i2 p0)]) (n := 2) (Nat.le_of_ble_eq_true rfl)
  rw [lg_entry_eq]
  generalize (lg_sl ([.ref (a 5), .int (i2 p0)]) ++ List.replicate (2 - (lg_sl ([.ref (a 5), .int (i2 p0)])).length) Slot.unset).toArray = ls at hl ⊢
  have hl : lv_has ls 2 [(0, .ref (a 5)), (1, .int (i2 p0))] := hl
  unfold m_x6_isSign at h
  refine y_head (pcJ := 21) (σ := Int) (fun u H locs ls => va_P D vwCl (CS D a s) H ∧ va_S (fun _ => False) s₀.heap H locs ∧ lv_has ls 2 [] ∧ m_x6_isSign_J21 s u = some o) (fun u => [.int (i2 u)]) (fun u H locs ls hI => ?_) (fun J21 => ?_)
  · obtain ⟨hP, hS, hl, h⟩ := hI
    obtain ⟨x1, rfl⟩ : ∃ z, z = u := ⟨u, rfl⟩
    have hP : va_P D vwCl (CS D a s) H := hP
    have hl : lv_has ls 2 [] := hl
    have h : m_x6_isSign_J21 s x1 = some o := h
    unfold m_x6_isSign_J21 at h
    obtain ⟨hb2, h⟩ := bo_e h
    obtain rfl := Option.some.inj h
    exact W.zret (v := (i2 x1)) hx hb hr (bo_n hb2) (fun t ht hW => ⟨⟨_, (), rfl, rfl, trivial⟩, hS.F ht⟩) hS.2.2 eX6_isSign_20.2.1
  refine y_head (pcJ := 20) (σ := Unit) (fun u H locs ls => va_P D vwCl (CS D a s) H ∧ va_S (fun _ => False) s₀.heap H locs ∧ lv_has ls 2 [] ∧ m_x6_isSign_J20 s u = some o) (fun u => []) (fun u H locs ls hI => ?_) (fun J20 => ?_)
  · obtain ⟨hP, hS, hl, h⟩ := hI
    skip
    have hP : va_P D vwCl (CS D a s) H := hP
    have hl : lv_has ls 2 [] := hl
    have h : m_x6_isSign_J20 s () = some o := h
    unfold m_x6_isSign_J20 at h
    refine lv_iconst (v := 0) hx hb eX6_isSign_20.1 (by decide) ?_
    exact J21 0 _ _ _ ⟨hP, hS, lv_sub hl [] rfl, h⟩
  refine lv_aload_n hx hb eX6_isLetter_7.2.2.2.2.2.2.1 rfl (lv_at hl 0 rfl) ?_
  refine va_get (D := D) (ci := 6) (v := .int (i2 (gI s 107))) (C := RX6) (T := TX6) (N := 12) hx hb ht inX6 hown hK hP 5 CW_5 rfl 7 (by decide) (ht (.fieldLink RX6 44 "CloneVolumes$Reader" "kind" "I") fl_X6_44) (fun _ h9 => h9) rfl eX6_isLetter_7.2.2.2.2.2.2.2 ?_
  refine lv_iconst (v := 3) hx hb eX6_isSign_4.1 (by decide) ?_
  obtain ⟨hr3, h⟩ := rg_e h
  refine lv_icmp_ne (tgt := 20) hx hb eX6_isSign_4.2.1 (by decide) (fun c4 => ?_) (fun c4 => ?_)
  · have h := if_f (mt (i2_eq (x := (gI s 107)) (y := 3) hr3 (by decide)).mpr c4) h
    exact J20 () _ _ _ ⟨hP, hS, lv_sub hl [] rfl, h⟩
  · have h := if_t ((i2_eq (x := (gI s 107)) (y := 3) hr3 (by decide)).mp c4) h
    refine lv_aload_n hx hb eX6_isSign_4.2.2.1 rfl (lv_at hl 0 rfl) ?_
    refine va_get (D := D) (ci := 6) (v := .int (i2 (gI s 111))) (C := RX6) (T := TX6) (N := 12) hx hb ht inX6 hown hK hP 5 CW_5 rfl 11 (by decide) (ht (.fieldLink RX6 108 "CloneVolumes$Reader" "sign" "I") fl_X6_108) (fun _ h9 => h9) rfl eX6_isSign_4.2.2.2.1 ?_
    refine lv_iload_n hx hb eX6_isSign_4.2.2.2.2.1 rfl (lv_at hl 1 rfl) ?_
    obtain ⟨hr5, h⟩ := rg_e h
    obtain ⟨hr6, h⟩ := rg_e h
    refine lv_icmp_ne (tgt := 20) hx hb eX6_isSign_4.2.2.2.2.2.1 (by decide) (fun c7 => ?_) (fun c7 => ?_)
    · have h := if_f (mt (i2_eq (x := (gI s 111)) (y := p0) hr5 hr6).mpr c7) h
      exact J20 () _ _ _ ⟨hP, hS, lv_sub hl [] rfl, h⟩
    · have h := if_t ((i2_eq (x := (gI s 111)) (y := p0) hr5 hr6).mp c7) h
      refine lv_iconst (v := 1) hx hb eX6_isSign_4.2.2.2.2.2.2.1 (by decide) ?_
      refine lv_goto (tgt := 21) hx hb eX6_isSign_4.2.2.2.2.2.2.2 (by decide) ?_
      exact J21 1 _ _ _ ⟨hP, hS, lv_sub hl [] rfl, h⟩
set_option maxHeartbeats 4000000 in
set_option maxRecDepth 100000 in
theorem k_x6_expectSign (l : Launch) (D : va_G) (a : Nat → Nat) (p0 : Int) (sz : Nat) (s : MS) (o : MS) (h : m_x6_expectSign p0 s = some o) : yWv l yX6_expectSign cX6_expectSign 2 none { frames := 2, cells := 0, slots := 0, locals := 120 } D sz [.ref (a 5), .int (i2 p0)] (CS D a s) (CS D a o) := by
  refine Met.ofW (cc := cX6_expectSign) (maxL := 2) (ret := none) (by decide) rfl ?_
  intro p e s₀ m args below meth c s₁ B hml hv
  obtain ⟨rfl, ⟨hsz, hP, hK, hD0⟩, hN⟩ := hv
  have hx := B.exec
  have hb := B.bytes
  have hr := B.returns
  have hts := atoms_spec (ws := wz yX6_expectSign cX6_expectSign 2 none) B.pre
  have ht : ∀ w ∈ lw_gd, w.before _ s₀ = true := fun w h => hts w (List.mem_cons_of_mem _ h)
  have hown : s₀.vm.findClass RX6 = some m.cls := findClass_of_methodNamed B.named
  have hlocks := B.notSynchronized
  subst hsz
  have hD := hD0.self (sz := s₀.heap.size)
  generalize hAe : va_A (CS D a s) s₀.heap.size = A at hD ⊢
  have hA : ∀ q : Nat, s₀.heap.size ≤ q → A q := fun q h => by rw [← hAe]; exact Or.inr h
  have hS : va_S A s₀.heap s₀.heap [] := va_S.rf
  have hDD : ∀ t : MS, va_D A (CS D a t) := fun t => CW_D t hD
  have hl := lv_entry ([.ref (a 5), .int (i2 p0)]) (n := 2) (Nat.le_of_ble_eq_true rfl)
  rw [lg_entry_eq]
  generalize (lg_sl ([.ref (a 5), .int (i2 p0)]) ++ List.replicate (2 - (lg_sl ([.ref (a 5), .int (i2 p0)])).length) Slot.unset).toArray = ls at hl ⊢
  have hl : lv_has ls 2 [(0, .ref (a 5)), (1, .int (i2 p0))] := hl
  unfold m_x6_expectSign at h
  refine y_head (pcJ := 25) (σ := MS) (fun u H locs ls => va_P D vwCl (CS D a u) H ∧ va_S A s₀.heap H locs ∧ lv_has ls 2 [] ∧ m_x6_expectSign_J25 u = some o) (fun u => []) (fun u H locs ls hI => ?_) (fun J25 => ?_)
  · obtain ⟨hP, hS, hl, h⟩ := hI
    obtain ⟨s1, rfl⟩ : ∃ z, z = u := ⟨u, rfl⟩
    have hP : va_P D vwCl (CS D a s1) H := hP
    have hl : lv_has ls 2 [] := hl
    have h : m_x6_expectSign_J25 s1 = some o := h
    unfold m_x6_expectSign_J25 at h
    obtain rfl := Option.some.inj h
    exact W.vret hx hb hr (fun t ht hW => ⟨⟨(), rfl, trivial, by rw [ht]; exact hP, va_K.moved hW.alike hK, hDD _⟩, hS.F ht⟩) hS.2.2 eX6_expectSign_24.2.1
  refine lv_aload_n hx hb eX6_advance_295.2.2.2.2.1 rfl (lv_at hl 0 rfl) ?_
  refine lv_iload_n hx hb eX6_advance_295.2.2.2.2.2.1 rfl (lv_at hl 1 rfl) ?_
  obtain ⟨r3, hc2, h⟩ := bn_e h
  refine ycV (r0 := i2 r3) (As := [.int (i2 p0)]) (rest := []) (C := RX6) (n := 1) ⟨hx, hb, hml, hown, ht⟩ (k_x6_isSign l D a p0 _ _ hc2) (zgV ml_X6_124 im_X6_isSign se_X6_isSign in_X6 co_X6_isSign) rfl rfl (by decide +kernel) ⟨Nat.le_of_ble_eq_true rfl, Nat.le_of_ble_eq_true rfl⟩ hN hK hP hS 5 CW_5 rfl rfl rfl hl.1 rfl (Nat.le_of_ble_eq_true rfl) eX6_advance_295.2.2.2.2.2.2.1 ⟨Nat.le_of_ble_eq_true rfl, Nat.le_of_ble_eq_true rfl⟩ (fun H locs hP hS => ?_)
  obtain ⟨hr4, h⟩ := rg_e h
  refine lv_if_eq (tgt := 15) hx hb eX6_advance_295.2.2.2.2.2.2.2 (by decide) (fun c5 => ?_) (fun c5 => ?_)
  · have h := if_t ((i2_eq (x := r3) (y := 0) hr4 (by decide)).mp c5) h
    refine lv_aload_n hx hb eX6_expectSign_8.2.2.2.1 rfl (lv_at hl 0 rfl) ?_
    refine lv_iconst (v := 1) hx hb eX6_expectSign_8.2.2.2.2.1 (by decide) ?_
    refine lv_aload_n hx hb eX6_expectSign_8.2.2.2.2.2.1 rfl (lv_at hl 0 rfl) ?_
    refine va_get (D := D) (ci := 6) (v := .int (i2 (gI s 108))) (C := RX6) (T := TX6) (N := 12) hx hb ht inX6 hown hK hP 5 CW_5 rfl 8 (by decide) (ht (.fieldLink RX6 51 "CloneVolumes$Reader" "start" "I") fl_X6_51) (fun _ h9 => h9) rfl eX6_expectSign_8.2.2.2.2.2.2.1 ?_
    obtain ⟨⟨r8, s7⟩, hc6, h⟩ := bn_e h
    refine ywV (r0 := i2 r8) (As := [.int 1, .int (i2 (gI s 108))]) (rest := []) (C := RX6) (n := 2) (ws' := CS D a s7) ⟨hx, hb, hml, hown, ht⟩ (k_x6_fail l D a 1 (gI s 108) _ _ _ hc6) (zgV ml_X6_54 im_X6_fail se_X6_fail in_X6 co_X6_fail) rfl rfl (by decide +kernel) ⟨Nat.le_of_ble_eq_true rfl, Nat.le_of_ble_eq_true rfl⟩ hN hK hP (hDD _) hS hA 5 CW_5 rfl rfl rfl hl.1 rfl (Nat.le_of_ble_eq_true rfl) eX6_expectSign_8.2.2.2.2.2.2.2 ⟨Nat.le_of_ble_eq_true rfl, Nat.le_of_ble_eq_true rfl⟩ (fun H locs hP hS => ?_)
    refine lv_pop hx hb eX6_expectSign_24.1 rfl ?_
    exact J25 s7 _ _ _ ⟨hP, hS, lv_sub hl [] rfl, h⟩
  · have h := if_f (mt (i2_eq (x := r3) (y := 0) hr4 (by decide)).mpr c5) h
    refine lv_aload_n hx hb eX6_expectSign_8.1 rfl (lv_at hl 0 rfl) ?_
    obtain ⟨s10, hc9, h⟩ := bn_e h
    refine ywVv (As := []) (rest := []) (C := RX6) (n := 0) (ws' := CS D a s10) ⟨hx, hb, hml, hown, ht⟩ (k_x6_advance l D a _ _ _ hc9) (zgV ml_X6_75 im_X6_advance se_X6_advance in_X6 co_X6_advance) rfl rfl (by decide +kernel) ⟨Nat.le_of_ble_eq_true rfl, Nat.le_of_ble_eq_true rfl⟩ hN hK hP (hDD _) hS hA 5 CW_5 rfl rfl rfl hl.1 rfl (Nat.le_of_ble_eq_true rfl) eX6_expectSign_8.2.1 ⟨Nat.le_of_ble_eq_true rfl, Nat.le_of_ble_eq_true rfl⟩ (fun H locs hP hS => ?_)
    refine lv_goto (tgt := 25) hx hb eX6_expectSign_8.2.2.1 (by decide) ?_
    exact J25 s10 _ _ _ ⟨hP, hS, lv_sub hl [] rfl, h⟩
set_option maxHeartbeats 4000000 in
set_option maxRecDepth 100000 in
theorem k_x6_readChoice (l : Launch) (D : va_G) (a : Nat → Nat) (d : Nat) (rgs : (MS → Option MS) × (MS → Option MS)) (hRS : ∀ (sz : Nat) (s o : MS), rgs.1 s = some o → yWv l yX6_readSum cX6_readSum 3 none { frames := 8 * d + 16, cells := 0, slots := 0, locals := 60 * (8 * d + 16) } D sz [.ref (a 5)] (CS D a s) (CS D a o)) (hQ : ∀ (sz : Nat) (s o : MS), rgs.2 s = some o → yWv l yX6_readPart cX6_readPart 1 none { frames := 8 * d + 12, cells := 0, slots := 0, locals := 60 * (8 * d + 12) } D sz [.ref (a 5)] (CS D a s) (CS D a o)) (p0 : Int) (sz : Nat) (s : MS) (o : MS) (h : m_x6_readChoice rgs p0 s = some o) : yWv l yX6_readChoice cX6_readChoice 2 none { frames := 8 * d + 17, cells := 0, slots := 0, locals := 60 * (8 * d + 17) } D sz [.ref (a 5), .int (i2 p0)] (CS D a s) (CS D a o) := by
  refine Met.ofW (cc := cX6_readChoice) (maxL := 2) (ret := none) (by decide) rfl ?_
  intro p e s₀ m args below meth c s₁ B hml hv
  obtain ⟨rfl, ⟨hsz, hP, hK, hD0⟩, hN⟩ := hv
  have hx := B.exec
  have hb := B.bytes
  have hr := B.returns
  have hts := atoms_spec (ws := wz yX6_readChoice cX6_readChoice 2 none) B.pre
  have ht : ∀ w ∈ lw_gd, w.before _ s₀ = true := fun w h => hts w (List.mem_cons_of_mem _ h)
  have hown : s₀.vm.findClass RX6 = some m.cls := findClass_of_methodNamed B.named
  have hlocks := B.notSynchronized
  subst hsz
  have hD := hD0.self (sz := s₀.heap.size)
  generalize hAe : va_A (CS D a s) s₀.heap.size = A at hD ⊢
  have hA : ∀ q : Nat, s₀.heap.size ≤ q → A q := fun q h => by rw [← hAe]; exact Or.inr h
  have hS : va_S A s₀.heap s₀.heap [] := va_S.rf
  have hDD : ∀ t : MS, va_D A (CS D a t) := fun t => CW_D t hD
  have hl := lv_entry ([.ref (a 5), .int (i2 p0)]) (n := 2) (Nat.le_of_ble_eq_true rfl)
  rw [lg_entry_eq]
  generalize (lg_sl ([.ref (a 5), .int (i2 p0)]) ++ List.replicate (2 - (lg_sl ([.ref (a 5), .int (i2 p0)])).length) Slot.unset).toArray = ls at hl ⊢
  have hl : lv_has ls 2 [(0, .ref (a 5)), (1, .int (i2 p0))] := hl
  unfold m_x6_readChoice at h
  refine y_head (pcJ := 75) (σ := MS) (fun u H locs ls => va_P D vwCl (CS D a u) H ∧ va_S A s₀.heap H locs ∧ lv_has ls 2 [] ∧ m_x6_readChoice_J75 rgs u = some o) (fun u => []) (fun u H locs ls hI => ?_) (fun J75 => ?_)
  · obtain ⟨hP, hS, hl, h⟩ := hI
    obtain ⟨s1, rfl⟩ : ∃ z, z = u := ⟨u, rfl⟩
    have hP : va_P D vwCl (CS D a s1) H := hP
    have hl : lv_has ls 2 [] := hl
    have h : m_x6_readChoice_J75 rgs s1 = some o := h
    unfold m_x6_readChoice_J75 at h
    obtain rfl := Option.some.inj h
    exact W.vret hx hb hr (fun t ht hW => ⟨⟨(), rfl, trivial, by rw [ht]; exact hP, va_K.moved hW.alike hK, hDD _⟩, hS.F ht⟩) hS.2.2 eX6_readChoice_71.2.2.1
  refine lv_aload_n hx hb eX6_opens_25.2.2.2.2.1 rfl (lv_at hl 0 rfl) ?_
  obtain ⟨s3, hc2, h⟩ := bn_e h
  refine ywVv (As := []) (rest := []) (C := RX6) (n := 0) (ws' := CS D a s3) ⟨hx, hb, hml, hown, ht⟩ (k_x6_advance l D a _ _ _ hc2) (zgV ml_X6_75 im_X6_advance se_X6_advance in_X6 co_X6_advance) rfl rfl (by decide +kernel) ⟨by show 1 + 1 ≤ 8 * d + 17; omega, by show 8 + (2 + 11) + 60 ≤ 60 * (8 * d + 17); omega⟩ hN hK hP (hDD _) hS hA 5 CW_5 rfl rfl rfl hl.1 rfl (Nat.le_of_ble_eq_true rfl) eX6_opens_25.2.2.2.2.2.1 ⟨Nat.le_of_ble_eq_true rfl, Nat.le_of_ble_eq_true rfl⟩ (fun H locs hP hS => ?_)
  refine lv_aload_n hx hb eX6_opens_25.2.2.2.2.2.2.1 rfl (lv_at hl 0 rfl) ?_
  refine lv_bipush (v := 40) hx hb eX6_opens_25.2.2.2.2.2.2.2 (by decide) ?_
  obtain ⟨r5, hc4, h⟩ := bn_e h
  refine ycV (r0 := i2 r5) (As := [.int 40]) (rest := []) (C := RX6) (n := 1) ⟨hx, hb, hml, hown, ht⟩ (k_x6_isSign l D a 40 _ _ hc4) (zgV ml_X6_124 im_X6_isSign se_X6_isSign in_X6 co_X6_isSign) rfl rfl (by decide +kernel) ⟨by show 0 + 1 ≤ 8 * d + 17; omega, by show 8 + (2 + 11) + 0 ≤ 60 * (8 * d + 17); omega⟩ hN hK hP hS 5 CW_5 rfl rfl rfl hl.1 rfl (Nat.le_of_ble_eq_true rfl) eX6_readChoice_7.1 ⟨Nat.le_of_ble_eq_true rfl, Nat.le_of_ble_eq_true rfl⟩ (fun H locs hP hS => ?_)
  obtain ⟨hr6, h⟩ := rg_e h
  refine lv_if_ne (tgt := 26) hx hb eX6_readChoice_7.2.1 (by decide) (fun c7 => ?_) (fun c7 => ?_)
  · have h := if_f (mt (i2_eq (x := r5) (y := 0) hr6 (by decide)).mpr c7) h
    refine lv_aload_n hx hb eX6_readChoice_23.2.1 rfl (lv_at hl 0 rfl) ?_
    obtain ⟨⟨r10, s9⟩, hc8, h⟩ := bn_e h
    refine ywV (r0 := i2 r10) (As := []) (rest := []) (C := RX6) (n := 0) (ws' := CS D a s9) ⟨hx, hb, hml, hown, ht⟩ (k_x6_opens l D a _ _ _ hc8) (zgV ml_X6_197 im_X6_opens se_X6_opens in_X6 co_X6_opens) rfl rfl (by decide +kernel) ⟨by show 1 + 1 ≤ 8 * d + 17; omega, by show 8 + (1 + 11) + 60 ≤ 60 * (8 * d + 17); omega⟩ hN hK hP (hDD _) hS hA 5 CW_5 rfl rfl rfl hl.1 rfl (Nat.le_of_ble_eq_true rfl) eX6_readChoice_23.2.2.1 ⟨Nat.le_of_ble_eq_true rfl, Nat.le_of_ble_eq_true rfl⟩ (fun H locs hP hS => ?_)
    obtain ⟨hr11, h⟩ := rg_e h
    refine lv_if_eq (tgt := 75) hx hb eX6_readChoice_23.2.2.2.1 (by decide) (fun c12 => ?_) (fun c12 => ?_)
    · have h := if_t ((i2_eq (x := r10) (y := 0) hr11 (by decide)).mp c12) h
      exact J75 s9 _ _ _ ⟨hP, hS, lv_sub hl [] rfl, h⟩
    · have h := if_f (mt (i2_eq (x := r10) (y := 0) hr11 (by decide)).mpr c12) h
      refine lv_aload_n hx hb eX6_readChoice_23.2.2.2.2.1 rfl (lv_at hl 0 rfl) ?_
      obtain ⟨s14, hc13, h⟩ := bn_e h
      refine ywVv (As := []) (rest := []) (C := RX6) (n := 0) (ws' := CS D a s14) ⟨hx, hb, hml, hown, ht⟩ (k_x6_advance l D a _ _ _ hc13) (zgV ml_X6_75 im_X6_advance se_X6_advance in_X6 co_X6_advance) rfl rfl (by decide +kernel) ⟨by show 1 + 1 ≤ 8 * d + 17; omega, by show 8 + (2 + 11) + 60 ≤ 60 * (8 * d + 17); omega⟩ hN hK hP (hDD _) hS hA 5 CW_5 rfl rfl rfl hl.1 rfl (Nat.le_of_ble_eq_true rfl) eX6_readChoice_23.2.2.2.2.2.1 ⟨Nat.le_of_ble_eq_true rfl, Nat.le_of_ble_eq_true rfl⟩ (fun H locs hP hS => ?_)
      refine lv_aload_n hx hb eX6_readChoice_23.2.2.2.2.2.2.1 rfl (lv_at hl 0 rfl) ?_
      obtain ⟨s16, hc15, h⟩ := bn_e h
      refine ywVv (As := []) (rest := []) (C := RX6) (n := 0) (ws' := CS D a s16) ⟨hx, hb, hml, hown, ht⟩ (hRS _ _ _ hc15) (zgV ml_X6_81 im_X6_readSum se_X6_readSum in_X6 co_X6_readSum) rfl rfl (by decide +kernel) ⟨by show (8 * d + 16) + 1 ≤ 8 * d + 17; omega, by show 8 + (3 + 11) + 60 * (8 * d + 16) ≤ 60 * (8 * d + 17); omega⟩ hN hK hP (hDD _) hS hA 5 CW_5 rfl rfl rfl hl.1 rfl (Nat.le_of_ble_eq_true rfl) eX6_readChoice_23.2.2.2.2.2.2.2 ⟨Nat.le_of_ble_eq_true rfl, Nat.le_of_ble_eq_true rfl⟩ (fun H locs hP hS => ?_)
      refine lv_aload_n hx hb eX6_readChoice_41.1 rfl (lv_at hl 0 rfl) ?_
      refine lv_bipush (v := 44) hx hb eX6_readChoice_41.2.1 (by decide) ?_
      obtain ⟨s18, hc17, h⟩ := bn_e h
      refine ywVv (As := [.int 44]) (rest := []) (C := RX6) (n := 1) (ws' := CS D a s18) ⟨hx, hb, hml, hown, ht⟩ (k_x6_expectSign l D a 44 _ _ _ hc17) (zgV ml_X6_158 im_X6_expectSign se_X6_expectSign in_X6 co_X6_expectSign) rfl rfl (by decide +kernel) ⟨by show 2 + 1 ≤ 8 * d + 17; omega, by show 8 + (2 + 11) + 120 ≤ 60 * (8 * d + 17); omega⟩ hN hK hP (hDD _) hS hA 5 CW_5 rfl rfl rfl hl.1 rfl (Nat.le_of_ble_eq_true rfl) eX6_readChoice_41.2.2.1 ⟨Nat.le_of_ble_eq_true rfl, Nat.le_of_ble_eq_true rfl⟩ (fun H locs hP hS => ?_)
      refine lv_aload_n hx hb eX6_readChoice_41.2.2.2.1 rfl (lv_at hl 0 rfl) ?_
      obtain ⟨s20, hc19, h⟩ := bn_e h
      refine ywVv (As := []) (rest := []) (C := RX6) (n := 0) (ws' := CS D a s20) ⟨hx, hb, hml, hown, ht⟩ (hRS _ _ _ hc19) (zgV ml_X6_81 im_X6_readSum se_X6_readSum in_X6 co_X6_readSum) rfl rfl (by decide +kernel) ⟨by show (8 * d + 16) + 1 ≤ 8 * d + 17; omega, by show 8 + (3 + 11) + 60 * (8 * d + 16) ≤ 60 * (8 * d + 17); omega⟩ hN hK hP (hDD _) hS hA 5 CW_5 rfl rfl rfl hl.1 rfl (Nat.le_of_ble_eq_true rfl) eX6_readChoice_41.2.2.2.2.1 ⟨Nat.le_of_ble_eq_true rfl, Nat.le_of_ble_eq_true rfl⟩ (fun H locs hP hS => ?_)
      refine lv_aload_n hx hb eX6_readChoice_41.2.2.2.2.2.1 rfl (lv_at hl 0 rfl) ?_
      refine lv_bipush (v := 41) hx hb eX6_readChoice_41.2.2.2.2.2.2.1 (by decide) ?_
      obtain ⟨s22, hc21, h⟩ := bn_e h
      refine ywVv (As := [.int 41]) (rest := []) (C := RX6) (n := 1) (ws' := CS D a s22) ⟨hx, hb, hml, hown, ht⟩ (k_x6_expectSign l D a 41 _ _ _ hc21) (zgV ml_X6_158 im_X6_expectSign se_X6_expectSign in_X6 co_X6_expectSign) rfl rfl (by decide +kernel) ⟨by show 2 + 1 ≤ 8 * d + 17; omega, by show 8 + (2 + 11) + 120 ≤ 60 * (8 * d + 17); omega⟩ hN hK hP (hDD _) hS hA 5 CW_5 rfl rfl rfl hl.1 rfl (Nat.le_of_ble_eq_true rfl) eX6_readChoice_41.2.2.2.2.2.2.2 ⟨Nat.le_of_ble_eq_true rfl, Nat.le_of_ble_eq_true rfl⟩ (fun H locs hP hS => ?_)
      refine lv_aload_n hx hb eX6_readChoice_57.1 rfl (lv_at hl 0 rfl) ?_
      refine lv_dup hx hb eX6_readChoice_57.2.1 rfl ?_
      refine va_get (D := D) (ci := 6) (v := .int (i2 (gI s22 106))) (C := RX6) (T := TX6) (N := 12) hx hb ht inX6 hown hK hP 5 CW_5 rfl 6 (by decide) (ht (.fieldLink RX6 85 "CloneVolumes$Reader" "open" "I") fl_X6_85) (fun _ h9 => h9) rfl eX6_readChoice_57.2.2.1 ?_
      refine lv_iconst (v := 1) hx hb eX6_readChoice_57.2.2.2.1 (by decide) ?_
      refine lv_isub hx hb eX6_readChoice_57.2.2.2.2.1 ?_
      refine z_topi (y := i2 ((gI s22 106) - 1)) (i2_sub (gI s22 106) 1) ?_
      refine ya_put (D := D) (ci := 6) (v := .int (i2 ((gI s22 106) - 1))) (ty := .int) (C := RX6) (T := TX6) (N := 12) hx hb ht inX6 tyX6 tyX6_ok nmX6 hown hK hP (hDD _) hS 5 CW_5 rfl 6 (by decide) (ht (.fieldLink RX6 85 "CloneVolumes$Reader" "open" "I") fl_X6_85) (fun _ h9 => h9) rfl (by decide +kernel) rfl rfl (Nat.le_of_ble_eq_true rfl) eX6_readChoice_57.2.2.2.2.2.1 (CW_w5_6 ((gI s22 106) - 1)) (fun H locs hP hS => ?_)
      obtain ⟨s23, hs23, h⟩ := st_e h
      rw [hs23] at hP
      refine lv_aload_n hx hb eX6_readChoice_57.2.2.2.2.2.2.1 rfl (lv_at hl 0 rfl) ?_
      obtain ⟨he24, h⟩ := eqg_e h
      refine va_get (D := D) (ci := 6) (v := .ref (a 47)) (C := RX6) (T := TX6) (N := 12) hx hb ht inX6 hown hK hP 5 CW_5 rfl 4 (by decide) (ht (.fieldLink RX6 84 "CloneVolumes$Reader" "code" "LCloneVolumes$Code;") fl_X6_84) (fun _ h9 => h9) (congrArg some (rcv_2 he24)) eX6_readChoice_57.2.2.2.2.2.2.2 ?_
      refine lv_iload_n hx hb eX6_readChoice_71.1 rfl (lv_at hl 1 rfl) ?_
      obtain ⟨s26, hc25, h⟩ := bn_e h
      refine ywVv (As := [.int (i2 p0)]) (rest := []) (C := RX0) (n := 1) (ws' := CS D a s26) ⟨hx, hb, hml, hown, ht⟩ (k_x0_add l D a p0 _ _ _ hc25) (zgV ml_X6_191 im_X0_add se_X0_add in_X0 co_X0_add) rfl rfl (by decide +kernel) ⟨by show 0 + 1 ≤ 8 * d + 17; omega, by show 8 + (2 + 11) + 0 ≤ 60 * (8 * d + 17); omega⟩ hN hK hP (hDD _) hS hA 47 CW_47 rfl rfl rfl hl.1 rfl (Nat.le_of_ble_eq_true rfl) eX6_readChoice_71.2.1 ⟨Nat.le_of_ble_eq_true rfl, Nat.le_of_ble_eq_true rfl⟩ (fun H locs hP hS => ?_)
      exact J75 s26 _ _ _ ⟨hP, hS, lv_sub hl [] rfl, h⟩
  · have h := if_t ((i2_eq (x := r5) (y := 0) hr6 (by decide)).mp c7) h
    refine lv_aload_n hx hb eX6_readChoice_7.2.2.1 rfl (lv_at hl 0 rfl) ?_
    refine lv_iconst (v := 1) hx hb eX6_readChoice_7.2.2.2.1 (by decide) ?_
    refine lv_aload_n hx hb eX6_readChoice_7.2.2.2.2.1 rfl (lv_at hl 0 rfl) ?_
    refine va_get (D := D) (ci := 6) (v := .int (i2 (gI s3 108))) (C := RX6) (T := TX6) (N := 12) hx hb ht inX6 hown hK hP 5 CW_5 rfl 8 (by decide) (ht (.fieldLink RX6 51 "CloneVolumes$Reader" "start" "I") fl_X6_51) (fun _ h9 => h9) rfl eX6_readChoice_7.2.2.2.2.2.1 ?_
    obtain ⟨⟨r29, s28⟩, hc27, h⟩ := bn_e h
    refine ywV (r0 := i2 r29) (As := [.int 1, .int (i2 (gI s3 108))]) (rest := []) (C := RX6) (n := 2) (ws' := CS D a s28) ⟨hx, hb, hml, hown, ht⟩ (k_x6_fail l D a 1 (gI s3 108) _ _ _ hc27) (zgV ml_X6_54 im_X6_fail se_X6_fail in_X6 co_X6_fail) rfl rfl (by decide +kernel) ⟨by show 0 + 1 ≤ 8 * d + 17; omega, by show 8 + (3 + 11) + 0 ≤ 60 * (8 * d + 17); omega⟩ hN hK hP (hDD _) hS hA 5 CW_5 rfl rfl rfl hl.1 rfl (Nat.le_of_ble_eq_true rfl) eX6_readChoice_7.2.2.2.2.2.2.1 ⟨Nat.le_of_ble_eq_true rfl, Nat.le_of_ble_eq_true rfl⟩ (fun H locs hP hS => ?_)
    refine lv_pop hx hb eX6_readChoice_7.2.2.2.2.2.2.2 rfl ?_
    refine lv_goto (tgt := 75) hx hb eX6_readChoice_23.1 (by decide) ?_
    exact J75 s28 _ _ _ ⟨hP, hS, lv_sub hl [] rfl, h⟩
