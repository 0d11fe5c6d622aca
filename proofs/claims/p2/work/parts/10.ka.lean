theorem co_X0_add : Cond.code yX0_add cX0_add 2 none ∈ lw_gd := zm (List.mem_of_getElem? (i := 870) (by decide +kernel)) rfl
theorem co_X6_advance : Cond.code yX6_advance cX6_advance 2 none ∈ lw_gd := zm (List.mem_of_getElem? (i := 776) (by decide +kernel)) rfl
theorem co_X6_expectSign : Cond.code yX6_expectSign cX6_expectSign 2 none ∈ lw_gd := zm (List.mem_of_getElem? (i := 882) (by decide +kernel)) rfl
theorem co_X6_fail : Cond.code yX6_fail cX6_fail 3 (some .boolean) ∈ lw_gd := zm (List.mem_of_getElem? (i := 801) (by decide +kernel)) rfl
theorem co_X6_isBlank : Cond.code yX6_isBlank cX6_isBlank 1 (some .boolean) ∈ lw_gd := zm (List.mem_of_getElem? (i := 779) (by decide +kernel)) rfl
theorem co_X6_isDigit : Cond.code yX6_isDigit cX6_isDigit 1 (some .boolean) ∈ lw_gd := zm (List.mem_of_getElem? (i := 793) (by decide +kernel)) rfl
theorem co_X6_isLetter : Cond.code yX6_isLetter cX6_isLetter 1 (some .boolean) ∈ lw_gd := zm (List.mem_of_getElem? (i := 786) (by decide +kernel)) rfl
theorem co_X6_isSign : Cond.code yX6_isSign cX6_isSign 2 (some .boolean) ∈ lw_gd := zm (List.mem_of_getElem? (i := 874) (by decide +kernel)) rfl
theorem co_X6_opens : Cond.code yX6_opens cX6_opens 1 (some .boolean) ∈ lw_gd := zm (List.mem_of_getElem? (i := 878) (by decide +kernel)) rfl
theorem co_X6_readPart : Cond.code yX6_readPart cX6_readPart 1 none ∈ lw_gd := zm (List.mem_of_getElem? (i := 865) (by decide +kernel)) rfl
theorem co_X6_readSum : Cond.code yX6_readSum cX6_readSum 3 none ∈ lw_gd := zm (List.mem_of_getElem? (i := 857) (by decide +kernel)) rfl
theorem co_X6_wordNumber : Cond.code yX6_wordNumber cX6_wordNumber 5 (some .int) ∈ lw_gd := zm (List.mem_of_getElem? (i := 790) (by decide +kernel)) rfl
theorem co_X9_at : Cond.code yX9_at cX9_at 2 (some .int) ∈ lw_gd := zm (List.mem_of_getElem? (i := 783) (by decide +kernel)) rfl
theorem fl_X0_15 : Cond.fieldLink RX0 15 "CloneVolumes$Code" "size" "I" ∈ lw_gd := zm (List.mem_of_getElem? (i := 456) (by decide +kernel)) rfl
theorem fl_X0_9 : Cond.fieldLink RX0 9 "CloneVolumes$Code" "steps" "[I" ∈ lw_gd := zm (List.mem_of_getElem? (i := 454) (by decide +kernel)) rfl
theorem fl_X6_108 : Cond.fieldLink RX6 108 "CloneVolumes$Reader" "sign" "I" ∈ lw_gd := zm (List.mem_of_getElem? (i := 311) (by decide +kernel)) rfl
theorem fl_X6_23 : Cond.fieldLink RX6 23 "CloneVolumes$Reader" "words" "[C" ∈ lw_gd := zm (List.mem_of_getElem? (i := 303) (by decide +kernel)) rfl
theorem fl_X6_27 : Cond.fieldLink RX6 27 "CloneVolumes$Reader" "tape" "LCloneVolumes$Tape;" ∈ lw_gd := zm (List.mem_of_getElem? (i := 302) (by decide +kernel)) rfl
theorem fl_X6_44 : Cond.fieldLink RX6 44 "CloneVolumes$Reader" "kind" "I" ∈ lw_gd := zm (List.mem_of_getElem? (i := 307) (by decide +kernel)) rfl
theorem fl_X6_51 : Cond.fieldLink RX6 51 "CloneVolumes$Reader" "start" "I" ∈ lw_gd := zm (List.mem_of_getElem? (i := 308) (by decide +kernel)) rfl
theorem fl_X6_61 : Cond.fieldLink RX6 61 "CloneVolumes$Reader" "fault" "I" ∈ lw_gd := zm (List.mem_of_getElem? (i := 298) (by decide +kernel)) rfl
theorem fl_X6_72 : Cond.fieldLink RX6 72 "CloneVolumes$Reader" "word" "I" ∈ lw_gd := zm (List.mem_of_getElem? (i := 310) (by decide +kernel)) rfl
theorem fl_X6_84 : Cond.fieldLink RX6 84 "CloneVolumes$Reader" "code" "LCloneVolumes$Code;" ∈ lw_gd := zm (List.mem_of_getElem? (i := 304) (by decide +kernel)) rfl
theorem fl_X6_85 : Cond.fieldLink RX6 85 "CloneVolumes$Reader" "open" "I" ∈ lw_gd := zm (List.mem_of_getElem? (i := 306) (by decide +kernel)) rfl
theorem fl_X6_88 : Cond.fieldLink RX6 88 "CloneVolumes$Reader" "stop" "I" ∈ lw_gd := zm (List.mem_of_getElem? (i := 309) (by decide +kernel)) rfl
theorem fl_X6_9 : Cond.fieldLink RX6 9 "CloneVolumes$Reader" "place" "I" ∈ lw_gd := zm (List.mem_of_getElem? (i := 300) (by decide +kernel)) rfl
theorem fl_X6_91 : Cond.fieldLink RX6 91 "CloneVolumes$Tape" "length" "I" ∈ lw_gd := zm (List.mem_of_getElem? (i := 238) (by decide +kernel)) rfl
theorem fl_X6_96 : Cond.fieldLink RX6 96 "CloneVolumes$Tape" "bytes" "[I" ∈ lw_gd := zm (List.mem_of_getElem? (i := 233) (by decide +kernel)) rfl
theorem fl_X9_15 : Cond.fieldLink RX9 15 "CloneVolumes$Tape" "length" "I" ∈ lw_gd := zm (List.mem_of_getElem? (i := 235) (by decide +kernel)) rfl
theorem fl_X9_9 : Cond.fieldLink RX9 9 "CloneVolumes$Tape" "bytes" "[I" ∈ lw_gd := zm (List.mem_of_getElem? (i := 232) (by decide +kernel)) rfl
theorem im_X0_add : Cond.instanceMethod yX0_add ∈ lw_gd := zm (List.mem_of_getElem? (i := 868) (by decide +kernel)) rfl
theorem im_X6_advance : Cond.instanceMethod yX6_advance ∈ lw_gd := zm (List.mem_of_getElem? (i := 775) (by decide +kernel)) rfl
theorem im_X6_expectSign : Cond.instanceMethod yX6_expectSign ∈ lw_gd := zm (List.mem_of_getElem? (i := 881) (by decide +kernel)) rfl
theorem im_X6_fail : Cond.instanceMethod yX6_fail ∈ lw_gd := zm (List.mem_of_getElem? (i := 800) (by decide +kernel)) rfl
theorem im_X6_isSign : Cond.instanceMethod yX6_isSign ∈ lw_gd := zm (List.mem_of_getElem? (i := 873) (by decide +kernel)) rfl
theorem im_X6_opens : Cond.instanceMethod yX6_opens ∈ lw_gd := zm (List.mem_of_getElem? (i := 877) (by decide +kernel)) rfl
theorem im_X6_readPart : Cond.instanceMethod yX6_readPart ∈ lw_gd := zm (List.mem_of_getElem? (i := 864) (by decide +kernel)) rfl
theorem im_X6_readSum : Cond.instanceMethod yX6_readSum ∈ lw_gd := zm (List.mem_of_getElem? (i := 856) (by decide +kernel)) rfl
theorem im_X6_wordNumber : Cond.instanceMethod yX6_wordNumber ∈ lw_gd := zm (List.mem_of_getElem? (i := 789) (by decide +kernel)) rfl
theorem im_X9_at : Cond.instanceMethod yX9_at ∈ lw_gd := zm (List.mem_of_getElem? (i := 781) (by decide +kernel)) rfl
theorem in_X0 : Cond.initialized RX0 ∈ lw_gd := zm (List.mem_of_getElem? (i := 210) (by decide +kernel)) rfl
theorem in_X6 : Cond.initialized RX6 ∈ lw_gd := zm (List.mem_of_getElem? (i := 200) (by decide +kernel)) rfl
theorem in_X9 : Cond.initialized RX9 ∈ lw_gd := zm (List.mem_of_getElem? (i := 199) (by decide +kernel)) rfl
theorem ml_X6_100 : Cond.methodLink RX6 100 yX6_isBlank ∈ lw_gd := zm (List.mem_of_getElem? (i := 777) (by decide +kernel)) rfl
theorem ml_X6_104 : Cond.methodLink RX6 104 yX9_at ∈ lw_gd := zm (List.mem_of_getElem? (i := 780) (by decide +kernel)) rfl
theorem ml_X6_111 : Cond.methodLink RX6 111 yX6_isLetter ∈ lw_gd := zm (List.mem_of_getElem? (i := 784) (by decide +kernel)) rfl
theorem ml_X6_114 : Cond.methodLink RX6 114 yX6_wordNumber ∈ lw_gd := zm (List.mem_of_getElem? (i := 787) (by decide +kernel)) rfl
theorem ml_X6_118 : Cond.methodLink RX6 118 yX6_isDigit ∈ lw_gd := zm (List.mem_of_getElem? (i := 791) (by decide +kernel)) rfl
theorem ml_X6_124 : Cond.methodLink RX6 124 yX6_isSign ∈ lw_gd := zm (List.mem_of_getElem? (i := 871) (by decide +kernel)) rfl
theorem ml_X6_158 : Cond.methodLink RX6 158 yX6_expectSign ∈ lw_gd := zm (List.mem_of_getElem? (i := 879) (by decide +kernel)) rfl
theorem ml_X6_191 : Cond.methodLink RX6 191 yX0_add ∈ lw_gd := zm (List.mem_of_getElem? (i := 867) (by decide +kernel)) rfl
theorem ml_X6_197 : Cond.methodLink RX6 197 yX6_opens ∈ lw_gd := zm (List.mem_of_getElem? (i := 875) (by decide +kernel)) rfl
theorem ml_X6_206 : Cond.methodLink RX6 206 yX6_readPart ∈ lw_gd := zm (List.mem_of_getElem? (i := 862) (by decide +kernel)) rfl
theorem ml_X6_54 : Cond.methodLink RX6 54 yX6_fail ∈ lw_gd := zm (List.mem_of_getElem? (i := 798) (by decide +kernel)) rfl
theorem ml_X6_75 : Cond.methodLink RX6 75 yX6_advance ∈ lw_gd := zm (List.mem_of_getElem? (i := 773) (by decide +kernel)) rfl
theorem ml_X6_81 : Cond.methodLink RX6 81 yX6_readSum ∈ lw_gd := zm (List.mem_of_getElem? (i := 854) (by decide +kernel)) rfl
theorem se_X0_add : Cond.selects RX0 yX0_add yX0_add ∈ lw_gd := zm (List.mem_of_getElem? (i := 869) (by decide +kernel)) rfl
theorem se_X6_advance : Cond.selects RX6 yX6_advance yX6_advance ∈ lw_gd := zm (List.mem_of_getElem? (i := 2) (by decide +kernel)) rfl
theorem se_X6_expectSign : Cond.selects RX6 yX6_expectSign yX6_expectSign ∈ lw_gd := zm (List.mem_of_getElem? (i := 20) (by decide +kernel)) rfl
theorem se_X6_fail : Cond.selects RX6 yX6_fail yX6_fail ∈ lw_gd := zm (List.mem_of_getElem? (i := 5) (by decide +kernel)) rfl
theorem se_X6_isSign : Cond.selects RX6 yX6_isSign yX6_isSign ∈ lw_gd := zm (List.mem_of_getElem? (i := 18) (by decide +kernel)) rfl
theorem se_X6_opens : Cond.selects RX6 yX6_opens yX6_opens ∈ lw_gd := zm (List.mem_of_getElem? (i := 19) (by decide +kernel)) rfl
theorem se_X6_readPart : Cond.selects RX6 yX6_readPart yX6_readPart ∈ lw_gd := zm (List.mem_of_getElem? (i := 17) (by decide +kernel)) rfl
theorem se_X6_readSum : Cond.selects RX6 yX6_readSum yX6_readSum ∈ lw_gd := zm (List.mem_of_getElem? (i := 15) (by decide +kernel)) rfl
theorem se_X6_wordNumber : Cond.selects RX6 yX6_wordNumber yX6_wordNumber ∈ lw_gd := zm (List.mem_of_getElem? (i := 3) (by decide +kernel)) rfl
theorem se_X9_at : Cond.selects RX9 yX9_at yX9_at ∈ lw_gd := zm (List.mem_of_getElem? (i := 782) (by decide +kernel)) rfl
theorem st_X6_isBlank : Cond.static yX6_isBlank ∈ lw_gd := zm (List.mem_of_getElem? (i := 778) (by decide +kernel)) rfl
theorem st_X6_isDigit : Cond.static yX6_isDigit ∈ lw_gd := zm (List.mem_of_getElem? (i := 792) (by decide +kernel)) rfl
theorem st_X6_isLetter : Cond.static yX6_isLetter ∈ lw_gd := zm (List.mem_of_getElem? (i := 785) (by decide +kernel)) rfl
theorem dX0_add_0 : decode cX0_add 0 = .ok (.aload_n 0, 1) := by decide +kernel
theorem dX0_add_1 : decode cX0_add 1 = .ok (.getfield 15, 3) := by decide +kernel
theorem dX0_add_4 : decode cX0_add 4 = .ok (.sipush 1600, 3) := by decide +kernel
theorem dX0_add_7 : decode cX0_add 7 = .ok (.if_icmp .ge 23, 3) := by decide +kernel
theorem dX0_add_10 : decode cX0_add 10 = .ok (.aload_n 0, 1) := by decide +kernel
theorem dX0_add_11 : decode cX0_add 11 = .ok (.getfield 9, 3) := by decide +kernel
theorem dX0_add_14 : decode cX0_add 14 = .ok (.aload_n 0, 1) := by decide +kernel
theorem dX0_add_15 : decode cX0_add 15 = .ok (.getfield 15, 3) := by decide +kernel
theorem dX0_add_18 : decode cX0_add 18 = .ok (.iload_n 1, 1) := by decide +kernel
theorem dX0_add_19 : decode cX0_add 19 = .ok (.iastore, 1) := by decide +kernel
theorem dX0_add_20 : decode cX0_add 20 = .ok (.aload_n 0, 1) := by decide +kernel
theorem dX0_add_21 : decode cX0_add 21 = .ok (.dup, 1) := by decide +kernel
theorem dX0_add_22 : decode cX0_add 22 = .ok (.getfield 15, 3) := by decide +kernel
theorem dX0_add_25 : decode cX0_add 25 = .ok (.iconst 1, 1) := by decide +kernel
theorem dX0_add_26 : decode cX0_add 26 = .ok (.iadd, 1) := by decide +kernel
theorem dX0_add_27 : decode cX0_add 27 = .ok (.putfield 15, 3) := by decide +kernel
theorem dX0_add_30 : decode cX0_add 30 = .ok (.return_, 1) := by decide +kernel
theorem dX6_advance_0 : decode cX6_advance 0 = .ok (.aload_n 0, 1) := by decide +kernel
theorem dX6_advance_1 : decode cX6_advance 1 = .ok (.getfield 61, 3) := by decide +kernel
theorem dX6_advance_4 : decode cX6_advance 4 = .ok (.ifCond .eq 4, 3) := by decide +kernel
theorem dX6_advance_7 : decode cX6_advance 7 = .ok (.return_, 1) := by decide +kernel
theorem dX6_advance_8 : decode cX6_advance 8 = .ok (.aload_n 0, 1) := by decide +kernel
theorem dX6_advance_9 : decode cX6_advance 9 = .ok (.aload_n 0, 1) := by decide +kernel
theorem dX6_advance_10 : decode cX6_advance 10 = .ok (.getfield 88, 3) := by decide +kernel
theorem dX6_advance_13 : decode cX6_advance 13 = .ok (.putfield 51, 3) := by decide +kernel
theorem dX6_advance_16 : decode cX6_advance 16 = .ok (.aload_n 0, 1) := by decide +kernel
theorem dX6_advance_17 : decode cX6_advance 17 = .ok (.getfield 51, 3) := by decide +kernel
theorem dX6_advance_20 : decode cX6_advance 20 = .ok (.aload_n 0, 1) := by decide +kernel
theorem dX6_advance_21 : decode cX6_advance 21 = .ok (.getfield 27, 3) := by decide +kernel
theorem dX6_advance_24 : decode cX6_advance 24 = .ok (.getfield 91, 3) := by decide +kernel
theorem dX6_advance_27 : decode cX6_advance 27 = .ok (.if_icmp .ge 34, 3) := by decide +kernel
theorem dX6_advance_30 : decode cX6_advance 30 = .ok (.aload_n 0, 1) := by decide +kernel
theorem dX6_advance_31 : decode cX6_advance 31 = .ok (.getfield 27, 3) := by decide +kernel
theorem dX6_advance_34 : decode cX6_advance 34 = .ok (.getfield 96, 3) := by decide +kernel
theorem dX6_advance_37 : decode cX6_advance 37 = .ok (.aload_n 0, 1) := by decide +kernel
theorem dX6_advance_38 : decode cX6_advance 38 = .ok (.getfield 51, 3) := by decide +kernel
theorem dX6_advance_41 : decode cX6_advance 41 = .ok (.iaload, 1) := by decide +kernel
theorem dX6_advance_42 : decode cX6_advance 42 = .ok (.invokestatic 100, 3) := by decide +kernel
theorem dX6_advance_45 : decode cX6_advance 45 = .ok (.ifCond .eq 16, 3) := by decide +kernel
theorem dX6_advance_48 : decode cX6_advance 48 = .ok (.aload_n 0, 1) := by decide +kernel
theorem dX6_advance_49 : decode cX6_advance 49 = .ok (.dup, 1) := by decide +kernel
theorem dX6_advance_50 : decode cX6_advance 50 = .ok (.getfield 51, 3) := by decide +kernel
theorem dX6_advance_53 : decode cX6_advance 53 = .ok (.iconst 1, 1) := by decide +kernel
theorem dX6_advance_54 : decode cX6_advance 54 = .ok (.iadd, 1) := by decide +kernel
theorem dX6_advance_55 : decode cX6_advance 55 = .ok (.putfield 51, 3) := by decide +kernel
theorem dX6_advance_58 : decode cX6_advance 58 = .ok (.goto (-42), 3) := by decide +kernel
theorem dX6_advance_61 : decode cX6_advance 61 = .ok (.aload_n 0, 1) := by decide +kernel
theorem dX6_advance_62 : decode cX6_advance 62 = .ok (.aload_n 0, 1) := by decide +kernel
theorem dX6_advance_63 : decode cX6_advance 63 = .ok (.getfield 51, 3) := by decide +kernel
theorem dX6_advance_66 : decode cX6_advance 66 = .ok (.putfield 88, 3) := by decide +kernel
theorem dX6_advance_69 : decode cX6_advance 69 = .ok (.aload_n 0, 1) := by decide +kernel
theorem dX6_advance_70 : decode cX6_advance 70 = .ok (.iconst (-1), 1) := by decide +kernel
theorem dX6_advance_71 : decode cX6_advance 71 = .ok (.putfield 72, 3) := by decide +kernel
theorem dX6_advance_74 : decode cX6_advance 74 = .ok (.aload_n 0, 1) := by decide +kernel
theorem dX6_advance_75 : decode cX6_advance 75 = .ok (.aload_n 0, 1) := by decide +kernel
theorem dX6_advance_76 : decode cX6_advance 76 = .ok (.getfield 27, 3) := by decide +kernel
theorem dX6_advance_79 : decode cX6_advance 79 = .ok (.aload_n 0, 1) := by decide +kernel
theorem dX6_advance_80 : decode cX6_advance 80 = .ok (.getfield 51, 3) := by decide +kernel
theorem dX6_advance_83 : decode cX6_advance 83 = .ok (.invokevirtual 104, 3) := by decide +kernel
theorem dX6_advance_86 : decode cX6_advance 86 = .ok (.putfield 108, 3) := by decide +kernel
theorem dX6_advance_89 : decode cX6_advance 89 = .ok (.aload_n 0, 1) := by decide +kernel
theorem dX6_advance_90 : decode cX6_advance 90 = .ok (.getfield 108, 3) := by decide +kernel
theorem dX6_advance_93 : decode cX6_advance 93 = .ok (.iconst (-1), 1) := by decide +kernel
theorem dX6_advance_94 : decode cX6_advance 94 = .ok (.if_icmp .ne 11, 3) := by decide +kernel
theorem dX6_advance_97 : decode cX6_advance 97 = .ok (.aload_n 0, 1) := by decide +kernel
theorem dX6_advance_98 : decode cX6_advance 98 = .ok (.iconst 0, 1) := by decide +kernel
theorem dX6_advance_99 : decode cX6_advance 99 = .ok (.putfield 44, 3) := by decide +kernel
theorem dX6_advance_102 : decode cX6_advance 102 = .ok (.goto 149, 3) := by decide +kernel
theorem dX6_advance_105 : decode cX6_advance 105 = .ok (.aload_n 0, 1) := by decide +kernel
theorem dX6_advance_106 : decode cX6_advance 106 = .ok (.getfield 108, 3) := by decide +kernel
theorem dX6_advance_109 : decode cX6_advance 109 = .ok (.invokestatic 111, 3) := by decide +kernel
theorem dX6_advance_112 : decode cX6_advance 112 = .ok (.ifCond .eq 64, 3) := by decide +kernel
theorem dX6_advance_115 : decode cX6_advance 115 = .ok (.aload_n 0, 1) := by decide +kernel
theorem dX6_advance_116 : decode cX6_advance 116 = .ok (.iconst 1, 1) := by decide +kernel
theorem dX6_advance_117 : decode cX6_advance 117 = .ok (.putfield 44, 3) := by decide +kernel
theorem dX6_advance_120 : decode cX6_advance 120 = .ok (.aload_n 0, 1) := by decide +kernel
theorem dX6_advance_121 : decode cX6_advance 121 = .ok (.getfield 88, 3) := by decide +kernel
theorem dX6_advance_124 : decode cX6_advance 124 = .ok (.aload_n 0, 1) := by decide +kernel
theorem dX6_advance_125 : decode cX6_advance 125 = .ok (.getfield 27, 3) := by decide +kernel
theorem dX6_advance_128 : decode cX6_advance 128 = .ok (.getfield 91, 3) := by decide +kernel
theorem dX6_advance_131 : decode cX6_advance 131 = .ok (.if_icmp .ge 34, 3) := by decide +kernel
theorem dX6_advance_134 : decode cX6_advance 134 = .ok (.aload_n 0, 1) := by decide +kernel
theorem dX6_advance_135 : decode cX6_advance 135 = .ok (.getfield 27, 3) := by decide +kernel
theorem dX6_advance_138 : decode cX6_advance 138 = .ok (.getfield 96, 3) := by decide +kernel
theorem dX6_advance_141 : decode cX6_advance 141 = .ok (.aload_n 0, 1) := by decide +kernel
theorem dX6_advance_142 : decode cX6_advance 142 = .ok (.getfield 88, 3) := by decide +kernel
theorem dX6_advance_145 : decode cX6_advance 145 = .ok (.iaload, 1) := by decide +kernel
theorem dX6_advance_146 : decode cX6_advance 146 = .ok (.invokestatic 111, 3) := by decide +kernel
theorem dX6_advance_149 : decode cX6_advance 149 = .ok (.ifCond .eq 16, 3) := by decide +kernel
theorem dX6_advance_152 : decode cX6_advance 152 = .ok (.aload_n 0, 1) := by decide +kernel
theorem dX6_advance_153 : decode cX6_advance 153 = .ok (.dup, 1) := by decide +kernel
theorem dX6_advance_154 : decode cX6_advance 154 = .ok (.getfield 88, 3) := by decide +kernel
theorem dX6_advance_157 : decode cX6_advance 157 = .ok (.iconst 1, 1) := by decide +kernel
theorem dX6_advance_158 : decode cX6_advance 158 = .ok (.iadd, 1) := by decide +kernel
theorem dX6_advance_159 : decode cX6_advance 159 = .ok (.putfield 88, 3) := by decide +kernel
theorem dX6_advance_162 : decode cX6_advance 162 = .ok (.goto (-42), 3) := by decide +kernel
theorem dX6_advance_165 : decode cX6_advance 165 = .ok (.aload_n 0, 1) := by decide +kernel
theorem dX6_advance_166 : decode cX6_advance 166 = .ok (.aload_n 0, 1) := by decide +kernel
theorem dX6_advance_167 : decode cX6_advance 167 = .ok (.invokevirtual 114, 3) := by decide +kernel
theorem dX6_advance_170 : decode cX6_advance 170 = .ok (.putfield 72, 3) := by decide +kernel
theorem dX6_advance_173 : decode cX6_advance 173 = .ok (.goto 78, 3) := by decide +kernel
theorem dX6_advance_176 : decode cX6_advance 176 = .ok (.aload_n 0, 1) := by decide +kernel
theorem dX6_advance_177 : decode cX6_advance 177 = .ok (.getfield 108, 3) := by decide +kernel
theorem dX6_advance_180 : decode cX6_advance 180 = .ok (.invokestatic 118, 3) := by decide +kernel
theorem dX6_advance_183 : decode cX6_advance 183 = .ok (.ifCond .eq 53, 3) := by decide +kernel
theorem dX6_advance_186 : decode cX6_advance 186 = .ok (.aload_n 0, 1) := by decide +kernel
theorem dX6_advance_187 : decode cX6_advance 187 = .ok (.iconst 2, 1) := by decide +kernel
theorem dX6_advance_188 : decode cX6_advance 188 = .ok (.putfield 44, 3) := by decide +kernel
theorem dX6_advance_191 : decode cX6_advance 191 = .ok (.aload_n 0, 1) := by decide +kernel
theorem dX6_advance_192 : decode cX6_advance 192 = .ok (.getfield 88, 3) := by decide +kernel
theorem dX6_advance_195 : decode cX6_advance 195 = .ok (.aload_n 0, 1) := by decide +kernel
theorem dX6_advance_196 : decode cX6_advance 196 = .ok (.getfield 27, 3) := by decide +kernel
theorem dX6_advance_199 : decode cX6_advance 199 = .ok (.getfield 91, 3) := by decide +kernel
theorem dX6_advance_202 : decode cX6_advance 202 = .ok (.if_icmp .ge 49, 3) := by decide +kernel
theorem dX6_advance_205 : decode cX6_advance 205 = .ok (.aload_n 0, 1) := by decide +kernel
theorem dX6_advance_206 : decode cX6_advance 206 = .ok (.getfield 27, 3) := by decide +kernel
theorem dX6_advance_209 : decode cX6_advance 209 = .ok (.getfield 96, 3) := by decide +kernel
theorem dX6_advance_212 : decode cX6_advance 212 = .ok (.aload_n 0, 1) := by decide +kernel
theorem dX6_advance_213 : decode cX6_advance 213 = .ok (.getfield 88, 3) := by decide +kernel
theorem dX6_advance_216 : decode cX6_advance 216 = .ok (.iaload, 1) := by decide +kernel
theorem dX6_advance_217 : decode cX6_advance 217 = .ok (.invokestatic 118, 3) := by decide +kernel
theorem dX6_advance_220 : decode cX6_advance 220 = .ok (.ifCond .eq 31, 3) := by decide +kernel
theorem dX6_advance_223 : decode cX6_advance 223 = .ok (.aload_n 0, 1) := by decide +kernel
theorem dX6_advance_224 : decode cX6_advance 224 = .ok (.dup, 1) := by decide +kernel
theorem dX6_advance_225 : decode cX6_advance 225 = .ok (.getfield 88, 3) := by decide +kernel
theorem dX6_advance_228 : decode cX6_advance 228 = .ok (.iconst 1, 1) := by decide +kernel
theorem dX6_advance_229 : decode cX6_advance 229 = .ok (.iadd, 1) := by decide +kernel
theorem dX6_advance_230 : decode cX6_advance 230 = .ok (.putfield 88, 3) := by decide +kernel
theorem dX6_advance_233 : decode cX6_advance 233 = .ok (.goto (-42), 3) := by decide +kernel
theorem dX6_advance_236 : decode cX6_advance 236 = .ok (.aload_n 0, 1) := by decide +kernel
theorem dX6_advance_237 : decode cX6_advance 237 = .ok (.iconst 3, 1) := by decide +kernel
theorem dX6_advance_238 : decode cX6_advance 238 = .ok (.putfield 44, 3) := by decide +kernel
theorem dX6_advance_241 : decode cX6_advance 241 = .ok (.aload_n 0, 1) := by decide +kernel
theorem dX6_advance_242 : decode cX6_advance 242 = .ok (.dup, 1) := by decide +kernel
theorem dX6_advance_243 : decode cX6_advance 243 = .ok (.getfield 88, 3) := by decide +kernel
theorem dX6_advance_246 : decode cX6_advance 246 = .ok (.iconst 1, 1) := by decide +kernel
theorem dX6_advance_247 : decode cX6_advance 247 = .ok (.iadd, 1) := by decide +kernel
theorem dX6_advance_248 : decode cX6_advance 248 = .ok (.putfield 88, 3) := by decide +kernel
theorem dX6_advance_251 : decode cX6_advance 251 = .ok (.aload_n 0, 1) := by decide +kernel
theorem dX6_advance_252 : decode cX6_advance 252 = .ok (.getfield 27, 3) := by decide +kernel
theorem dX6_advance_255 : decode cX6_advance 255 = .ok (.aload_n 0, 1) := by decide +kernel
theorem dX6_advance_256 : decode cX6_advance 256 = .ok (.getfield 51, 3) := by decide +kernel
theorem dX6_advance_259 : decode cX6_advance 259 = .ok (.iconst 1, 1) := by decide +kernel
theorem dX6_advance_260 : decode cX6_advance 260 = .ok (.isub, 1) := by decide +kernel
theorem dX6_advance_261 : decode cX6_advance 261 = .ok (.invokevirtual 104, 3) := by decide +kernel
theorem dX6_advance_264 : decode cX6_advance 264 = .ok (.istore_n 1, 1) := by decide +kernel
theorem dX6_advance_265 : decode cX6_advance 265 = .ok (.aload_n 0, 1) := by decide +kernel
theorem dX6_advance_266 : decode cX6_advance 266 = .ok (.getfield 44, 3) := by decide +kernel
theorem dX6_advance_269 : decode cX6_advance 269 = .ok (.iconst 1, 1) := by decide +kernel
theorem dX6_advance_270 : decode cX6_advance 270 = .ok (.if_icmp .eq 11, 3) := by decide +kernel
theorem dX6_advance_273 : decode cX6_advance 273 = .ok (.aload_n 0, 1) := by decide +kernel
theorem dX6_advance_274 : decode cX6_advance 274 = .ok (.getfield 44, 3) := by decide +kernel
theorem dX6_advance_277 : decode cX6_advance 277 = .ok (.iconst 2, 1) := by decide +kernel
theorem dX6_advance_278 : decode cX6_advance 278 = .ok (.if_icmp .ne 22, 3) := by decide +kernel
theorem dX6_advance_281 : decode cX6_advance 281 = .ok (.iload_n 1, 1) := by decide +kernel
theorem dX6_advance_282 : decode cX6_advance 282 = .ok (.invokestatic 111, 3) := by decide +kernel
theorem dX6_advance_285 : decode cX6_advance 285 = .ok (.ifCond .ne 10, 3) := by decide +kernel
theorem dX6_advance_288 : decode cX6_advance 288 = .ok (.iload_n 1, 1) := by decide +kernel
theorem dX6_advance_289 : decode cX6_advance 289 = .ok (.invokestatic 118, 3) := by decide +kernel
theorem dX6_advance_292 : decode cX6_advance 292 = .ok (.ifCond .eq 8, 3) := by decide +kernel
theorem dX6_advance_295 : decode cX6_advance 295 = .ok (.aload_n 0, 1) := by decide +kernel
theorem dX6_advance_296 : decode cX6_advance 296 = .ok (.iconst 4, 1) := by decide +kernel
theorem dX6_advance_297 : decode cX6_advance 297 = .ok (.putfield 44, 3) := by decide +kernel
theorem dX6_advance_300 : decode cX6_advance 300 = .ok (.return_, 1) := by decide +kernel
theorem dX6_expectSign_0 : decode cX6_expectSign 0 = .ok (.aload_n 0, 1) := by decide +kernel
theorem dX6_expectSign_1 : decode cX6_expectSign 1 = .ok (.iload_n 1, 1) := by decide +kernel
theorem dX6_expectSign_2 : decode cX6_expectSign 2 = .ok (.invokevirtual 124, 3) := by decide +kernel
theorem dX6_expectSign_5 : decode cX6_expectSign 5 = .ok (.ifCond .eq 10, 3) := by decide +kernel
theorem dX6_expectSign_8 : decode cX6_expectSign 8 = .ok (.aload_n 0, 1) := by decide +kernel
theorem dX6_expectSign_9 : decode cX6_expectSign 9 = .ok (.invokevirtual 75, 3) := by decide +kernel
theorem dX6_expectSign_12 : decode cX6_expectSign 12 = .ok (.goto 13, 3) := by decide +kernel
theorem dX6_expectSign_15 : decode cX6_expectSign 15 = .ok (.aload_n 0, 1) := by decide +kernel
theorem dX6_expectSign_16 : decode cX6_expectSign 16 = .ok (.iconst 1, 1) := by decide +kernel
theorem dX6_expectSign_17 : decode cX6_expectSign 17 = .ok (.aload_n 0, 1) := by decide +kernel
theorem dX6_expectSign_18 : decode cX6_expectSign 18 = .ok (.getfield 51, 3) := by decide +kernel
theorem dX6_expectSign_21 : decode cX6_expectSign 21 = .ok (.invokevirtual 54, 3) := by decide +kernel
theorem dX6_expectSign_24 : decode cX6_expectSign 24 = .ok (.pop, 1) := by decide +kernel
theorem dX6_expectSign_25 : decode cX6_expectSign 25 = .ok (.return_, 1) := by decide +kernel
theorem dX6_fail_0 : decode cX6_fail 0 = .ok (.aload_n 0, 1) := by decide +kernel
theorem dX6_fail_1 : decode cX6_fail 1 = .ok (.getfield 61, 3) := by decide +kernel
theorem dX6_fail_4 : decode cX6_fail 4 = .ok (.ifCond .ne 18, 3) := by decide +kernel
theorem dX6_fail_7 : decode cX6_fail 7 = .ok (.aload_n 0, 1) := by decide +kernel
theorem dX6_fail_8 : decode cX6_fail 8 = .ok (.iload_n 1, 1) := by decide +kernel
theorem dX6_fail_9 : decode cX6_fail 9 = .ok (.putfield 61, 3) := by decide +kernel
theorem dX6_fail_12 : decode cX6_fail 12 = .ok (.aload_n 0, 1) := by decide +kernel
theorem dX6_fail_13 : decode cX6_fail 13 = .ok (.iload_n 2, 1) := by decide +kernel
theorem dX6_fail_14 : decode cX6_fail 14 = .ok (.putfield 9, 3) := by decide +kernel
theorem dX6_fail_17 : decode cX6_fail 17 = .ok (.aload_n 0, 1) := by decide +kernel
theorem dX6_fail_18 : decode cX6_fail 18 = .ok (.iconst 0, 1) := by decide +kernel
theorem dX6_fail_19 : decode cX6_fail 19 = .ok (.putfield 44, 3) := by decide +kernel
theorem dX6_fail_22 : decode cX6_fail 22 = .ok (.iconst 0, 1) := by decide +kernel
theorem dX6_fail_23 : decode cX6_fail 23 = .ok (.ireturn, 1) := by decide +kernel
theorem dX6_isBlank_0 : decode cX6_isBlank 0 = .ok (.iload_n 0, 1) := by decide +kernel
theorem dX6_isBlank_1 : decode cX6_isBlank 1 = .ok (.bipush 10, 2) := by decide +kernel
theorem dX6_isBlank_3 : decode cX6_isBlank 3 = .ok (.if_icmp .eq 9, 3) := by decide +kernel
theorem dX6_isBlank_6 : decode cX6_isBlank 6 = .ok (.iload_n 0, 1) := by decide +kernel
theorem dX6_isBlank_7 : decode cX6_isBlank 7 = .ok (.bipush 32, 2) := by decide +kernel
theorem dX6_isBlank_9 : decode cX6_isBlank 9 = .ok (.if_icmp .ne 7, 3) := by decide +kernel
theorem dX6_isBlank_12 : decode cX6_isBlank 12 = .ok (.iconst 1, 1) := by decide +kernel
theorem dX6_isBlank_13 : decode cX6_isBlank 13 = .ok (.goto 4, 3) := by decide +kernel
theorem dX6_isBlank_16 : decode cX6_isBlank 16 = .ok (.iconst 0, 1) := by decide +kernel
theorem dX6_isBlank_17 : decode cX6_isBlank 17 = .ok (.ireturn, 1) := by decide +kernel
theorem dX6_isDigit_0 : decode cX6_isDigit 0 = .ok (.iload_n 0, 1) := by decide +kernel
theorem dX6_isDigit_1 : decode cX6_isDigit 1 = .ok (.bipush 48, 2) := by decide +kernel
theorem dX6_isDigit_3 : decode cX6_isDigit 3 = .ok (.if_icmp .lt 13, 3) := by decide +kernel
theorem dX6_isDigit_6 : decode cX6_isDigit 6 = .ok (.iload_n 0, 1) := by decide +kernel
theorem dX6_isDigit_7 : decode cX6_isDigit 7 = .ok (.bipush 57, 2) := by decide +kernel
theorem dX6_isDigit_9 : decode cX6_isDigit 9 = .ok (.if_icmp .gt 7, 3) := by decide +kernel
theorem dX6_isDigit_12 : decode cX6_isDigit 12 = .ok (.iconst 1, 1) := by decide +kernel
theorem dX6_isDigit_13 : decode cX6_isDigit 13 = .ok (.goto 4, 3) := by decide +kernel
theorem dX6_isDigit_16 : decode cX6_isDigit 16 = .ok (.iconst 0, 1) := by decide +kernel
theorem dX6_isDigit_17 : decode cX6_isDigit 17 = .ok (.ireturn, 1) := by decide +kernel
theorem dX6_isLetter_0 : decode cX6_isLetter 0 = .ok (.iload_n 0, 1) := by decide +kernel
theorem dX6_isLetter_1 : decode cX6_isLetter 1 = .ok (.bipush 97, 2) := by decide +kernel
theorem dX6_isLetter_3 : decode cX6_isLetter 3 = .ok (.if_icmp .lt 13, 3) := by decide +kernel
theorem dX6_isLetter_6 : decode cX6_isLetter 6 = .ok (.iload_n 0, 1) := by decide +kernel
theorem dX6_isLetter_7 : decode cX6_isLetter 7 = .ok (.bipush 122, 2) := by decide +kernel
theorem dX6_isLetter_9 : decode cX6_isLetter 9 = .ok (.if_icmp .gt 7, 3) := by decide +kernel
theorem dX6_isLetter_12 : decode cX6_isLetter 12 = .ok (.iconst 1, 1) := by decide +kernel
theorem dX6_isLetter_13 : decode cX6_isLetter 13 = .ok (.goto 4, 3) := by decide +kernel
theorem dX6_isLetter_16 : decode cX6_isLetter 16 = .ok (.iconst 0, 1) := by decide +kernel
theorem dX6_isLetter_17 : decode cX6_isLetter 17 = .ok (.ireturn, 1) := by decide +kernel
theorem dX6_isSign_0 : decode cX6_isSign 0 = .ok (.aload_n 0, 1) := by decide +kernel
theorem dX6_isSign_1 : decode cX6_isSign 1 = .ok (.getfield 44, 3) := by decide +kernel
theorem dX6_isSign_4 : decode cX6_isSign 4 = .ok (.iconst 3, 1) := by decide +kernel
theorem dX6_isSign_5 : decode cX6_isSign 5 = .ok (.if_icmp .ne 15, 3) := by decide +kernel
theorem dX6_isSign_8 : decode cX6_isSign 8 = .ok (.aload_n 0, 1) := by decide +kernel
theorem dX6_isSign_9 : decode cX6_isSign 9 = .ok (.getfield 108, 3) := by decide +kernel
theorem dX6_isSign_12 : decode cX6_isSign 12 = .ok (.iload_n 1, 1) := by decide +kernel
theorem dX6_isSign_13 : decode cX6_isSign 13 = .ok (.if_icmp .ne 7, 3) := by decide +kernel
theorem dX6_isSign_16 : decode cX6_isSign 16 = .ok (.iconst 1, 1) := by decide +kernel
theorem dX6_isSign_17 : decode cX6_isSign 17 = .ok (.goto 4, 3) := by decide +kernel
theorem dX6_isSign_20 : decode cX6_isSign 20 = .ok (.iconst 0, 1) := by decide +kernel
theorem dX6_isSign_21 : decode cX6_isSign 21 = .ok (.ireturn, 1) := by decide +kernel
theorem dX6_opens_0 : decode cX6_opens 0 = .ok (.aload_n 0, 1) := by decide +kernel
theorem dX6_opens_1 : decode cX6_opens 1 = .ok (.getfield 85, 3) := by decide +kernel
theorem dX6_opens_4 : decode cX6_opens 4 = .ok (.bipush 6, 2) := by decide +kernel
theorem dX6_opens_6 : decode cX6_opens 6 = .ok (.if_icmp .lt 13, 3) := by decide +kernel
theorem dX6_opens_9 : decode cX6_opens 9 = .ok (.aload_n 0, 1) := by decide +kernel
theorem dX6_opens_10 : decode cX6_opens 10 = .ok (.iconst 4, 1) := by decide +kernel
theorem dX6_opens_11 : decode cX6_opens 11 = .ok (.aload_n 0, 1) := by decide +kernel
theorem dX6_opens_12 : decode cX6_opens 12 = .ok (.getfield 51, 3) := by decide +kernel
theorem dX6_opens_15 : decode cX6_opens 15 = .ok (.invokevirtual 54, 3) := by decide +kernel
theorem dX6_opens_18 : decode cX6_opens 18 = .ok (.ireturn, 1) := by decide +kernel
theorem dX6_opens_19 : decode cX6_opens 19 = .ok (.aload_n 0, 1) := by decide +kernel
theorem dX6_opens_20 : decode cX6_opens 20 = .ok (.dup, 1) := by decide +kernel
theorem dX6_opens_21 : decode cX6_opens 21 = .ok (.getfield 85, 3) := by decide +kernel
theorem dX6_opens_24 : decode cX6_opens 24 = .ok (.iconst 1, 1) := by decide +kernel
theorem dX6_opens_25 : decode cX6_opens 25 = .ok (.iadd, 1) := by decide +kernel
theorem dX6_opens_26 : decode cX6_opens 26 = .ok (.putfield 85, 3) := by decide +kernel
theorem dX6_opens_29 : decode cX6_opens 29 = .ok (.iconst 1, 1) := by decide +kernel
theorem dX6_opens_30 : decode cX6_opens 30 = .ok (.ireturn, 1) := by decide +kernel
theorem dX6_readChoice_0 : decode cX6_readChoice 0 = .ok (.aload_n 0, 1) := by decide +kernel
theorem dX6_readChoice_1 : decode cX6_readChoice 1 = .ok (.invokevirtual 75, 3) := by decide +kernel
theorem dX6_readChoice_4 : decode cX6_readChoice 4 = .ok (.aload_n 0, 1) := by decide +kernel
theorem dX6_readChoice_5 : decode cX6_readChoice 5 = .ok (.bipush 40, 2) := by decide +kernel
theorem dX6_readChoice_7 : decode cX6_readChoice 7 = .ok (.invokevirtual 124, 3) := by decide +kernel
theorem dX6_readChoice_10 : decode cX6_readChoice 10 = .ok (.ifCond .ne 16, 3) := by decide +kernel
theorem dX6_readChoice_13 : decode cX6_readChoice 13 = .ok (.aload_n 0, 1) := by decide +kernel
theorem dX6_readChoice_14 : decode cX6_readChoice 14 = .ok (.iconst 1, 1) := by decide +kernel
theorem dX6_readChoice_15 : decode cX6_readChoice 15 = .ok (.aload_n 0, 1) := by decide +kernel
theorem dX6_readChoice_16 : decode cX6_readChoice 16 = .ok (.getfield 51, 3) := by decide +kernel
theorem dX6_readChoice_19 : decode cX6_readChoice 19 = .ok (.invokevirtual 54, 3) := by decide +kernel
theorem dX6_readChoice_22 : decode cX6_readChoice 22 = .ok (.pop, 1) := by decide +kernel
theorem dX6_readChoice_23 : decode cX6_readChoice 23 = .ok (.goto 52, 3) := by decide +kernel
theorem dX6_readChoice_26 : decode cX6_readChoice 26 = .ok (.aload_n 0, 1) := by decide +kernel
theorem dX6_readChoice_27 : decode cX6_readChoice 27 = .ok (.invokevirtual 197, 3) := by decide +kernel
theorem dX6_readChoice_30 : decode cX6_readChoice 30 = .ok (.ifCond .eq 45, 3) := by decide +kernel
theorem dX6_readChoice_33 : decode cX6_readChoice 33 = .ok (.aload_n 0, 1) := by decide +kernel
theorem dX6_readChoice_34 : decode cX6_readChoice 34 = .ok (.invokevirtual 75, 3) := by decide +kernel
theorem dX6_readChoice_37 : decode cX6_readChoice 37 = .ok (.aload_n 0, 1) := by decide +kernel
theorem dX6_readChoice_38 : decode cX6_readChoice 38 = .ok (.invokevirtual 81, 3) := by decide +kernel
theorem dX6_readChoice_41 : decode cX6_readChoice 41 = .ok (.aload_n 0, 1) := by decide +kernel
theorem dX6_readChoice_42 : decode cX6_readChoice 42 = .ok (.bipush 44, 2) := by decide +kernel
theorem dX6_readChoice_44 : decode cX6_readChoice 44 = .ok (.invokevirtual 158, 3) := by decide +kernel
theorem dX6_readChoice_47 : decode cX6_readChoice 47 = .ok (.aload_n 0, 1) := by decide +kernel
theorem dX6_readChoice_48 : decode cX6_readChoice 48 = .ok (.invokevirtual 81, 3) := by decide +kernel
theorem dX6_readChoice_51 : decode cX6_readChoice 51 = .ok (.aload_n 0, 1) := by decide +kernel
theorem dX6_readChoice_52 : decode cX6_readChoice 52 = .ok (.bipush 41, 2) := by decide +kernel
theorem dX6_readChoice_54 : decode cX6_readChoice 54 = .ok (.invokevirtual 158, 3) := by decide +kernel
theorem dX6_readChoice_57 : decode cX6_readChoice 57 = .ok (.aload_n 0, 1) := by decide +kernel
theorem dX6_readChoice_58 : decode cX6_readChoice 58 = .ok (.dup, 1) := by decide +kernel
theorem dX6_readChoice_59 : decode cX6_readChoice 59 = .ok (.getfield 85, 3) := by decide +kernel
theorem dX6_readChoice_62 : decode cX6_readChoice 62 = .ok (.iconst 1, 1) := by decide +kernel
theorem dX6_readChoice_63 : decode cX6_readChoice 63 = .ok (.isub, 1) := by decide +kernel
theorem dX6_readChoice_64 : decode cX6_readChoice 64 = .ok (.putfield 85, 3) := by decide +kernel
theorem dX6_readChoice_67 : decode cX6_readChoice 67 = .ok (.aload_n 0, 1) := by decide +kernel
theorem dX6_readChoice_68 : decode cX6_readChoice 68 = .ok (.getfield 84, 3) := by decide +kernel
theorem dX6_readChoice_71 : decode cX6_readChoice 71 = .ok (.iload_n 1, 1) := by decide +kernel
theorem dX6_readChoice_72 : decode cX6_readChoice 72 = .ok (.invokevirtual 191, 3) := by decide +kernel
theorem dX6_readChoice_75 : decode cX6_readChoice 75 = .ok (.return_, 1) := by decide +kernel
theorem dX6_readOther_0 : decode cX6_readOther 0 = .ok (.aload_n 0, 1) := by decide +kernel
theorem dX6_readOther_1 : decode cX6_readOther 1 = .ok (.invokevirtual 197, 3) := by decide +kernel
theorem dX6_readOther_4 : decode cX6_readOther 4 = .ok (.ifCond .eq 29, 3) := by decide +kernel
theorem dX6_readOther_7 : decode cX6_readOther 7 = .ok (.aload_n 0, 1) := by decide +kernel
theorem dX6_readOther_8 : decode cX6_readOther 8 = .ok (.invokevirtual 75, 3) := by decide +kernel
theorem dX6_readOther_11 : decode cX6_readOther 11 = .ok (.aload_n 0, 1) := by decide +kernel
theorem dX6_readOther_12 : decode cX6_readOther 12 = .ok (.invokevirtual 206, 3) := by decide +kernel
theorem dX6_readOther_15 : decode cX6_readOther 15 = .ok (.aload_n 0, 1) := by decide +kernel
theorem dX6_readOther_16 : decode cX6_readOther 16 = .ok (.getfield 84, 3) := by decide +kernel
theorem dX6_readOther_19 : decode cX6_readOther 19 = .ok (.iload_n 1, 1) := by decide +kernel
theorem dX6_readOther_20 : decode cX6_readOther 20 = .ok (.invokevirtual 191, 3) := by decide +kernel
theorem dX6_readOther_23 : decode cX6_readOther 23 = .ok (.aload_n 0, 1) := by decide +kernel
theorem dX6_readOther_24 : decode cX6_readOther 24 = .ok (.dup, 1) := by decide +kernel
theorem dX6_readOther_25 : decode cX6_readOther 25 = .ok (.getfield 85, 3) := by decide +kernel
theorem dX6_readOther_28 : decode cX6_readOther 28 = .ok (.iconst 1, 1) := by decide +kernel
theorem dX6_readOther_29 : decode cX6_readOther 29 = .ok (.isub, 1) := by decide +kernel
theorem dX6_readOther_30 : decode cX6_readOther 30 = .ok (.putfield 85, 3) := by decide +kernel
theorem dX6_readOther_33 : decode cX6_readOther 33 = .ok (.return_, 1) := by decide +kernel
theorem dX6_wordNumber_0 : decode cX6_wordNumber 0 = .ok (.iconst 0, 1) := by decide +kernel
theorem dX6_wordNumber_1 : decode cX6_wordNumber 1 = .ok (.istore_n 1, 1) := by decide +kernel
theorem dX6_wordNumber_2 : decode cX6_wordNumber 2 = .ok (.aload_n 0, 1) := by decide +kernel
theorem dX6_wordNumber_3 : decode cX6_wordNumber 3 = .ok (.getfield 51, 3) := by decide +kernel
theorem dX6_wordNumber_6 : decode cX6_wordNumber 6 = .ok (.istore_n 2, 1) := by decide +kernel
theorem dX6_wordNumber_7 : decode cX6_wordNumber 7 = .ok (.iconst 1, 1) := by decide +kernel
theorem dX6_wordNumber_8 : decode cX6_wordNumber 8 = .ok (.istore_n 3, 1) := by decide +kernel
theorem dX6_wordNumber_9 : decode cX6_wordNumber 9 = .ok (.iconst 0, 1) := by decide +kernel
theorem dX6_wordNumber_10 : decode cX6_wordNumber 10 = .ok (.istore 4, 2) := by decide +kernel
theorem dX6_wordNumber_12 : decode cX6_wordNumber 12 = .ok (.iload 4, 2) := by decide +kernel
theorem dX6_wordNumber_14 : decode cX6_wordNumber 14 = .ok (.aload_n 0, 1) := by decide +kernel
theorem dX6_wordNumber_15 : decode cX6_wordNumber 15 = .ok (.getfield 23, 3) := by decide +kernel
theorem dX6_wordNumber_18 : decode cX6_wordNumber 18 = .ok (.arraylength, 1) := by decide +kernel
theorem dX6_wordNumber_19 : decode cX6_wordNumber 19 = .ok (.if_icmp .ge 88, 3) := by decide +kernel
theorem dX6_wordNumber_22 : decode cX6_wordNumber 22 = .ok (.aload_n 0, 1) := by decide +kernel
theorem dX6_wordNumber_23 : decode cX6_wordNumber 23 = .ok (.getfield 23, 3) := by decide +kernel
theorem dX6_wordNumber_26 : decode cX6_wordNumber 26 = .ok (.iload 4, 2) := by decide +kernel
theorem dX6_wordNumber_28 : decode cX6_wordNumber 28 = .ok (.caload, 1) := by decide +kernel
theorem dX6_wordNumber_29 : decode cX6_wordNumber 29 = .ok (.bipush 32, 2) := by decide +kernel
theorem dX6_wordNumber_31 : decode cX6_wordNumber 31 = .ok (.if_icmp .eq 46, 3) := by decide +kernel
theorem dX6_wordNumber_34 : decode cX6_wordNumber 34 = .ok (.iload_n 3, 1) := by decide +kernel
theorem dX6_wordNumber_35 : decode cX6_wordNumber 35 = .ok (.ifCond .eq 34, 3) := by decide +kernel
theorem dX6_wordNumber_38 : decode cX6_wordNumber 38 = .ok (.iload_n 2, 1) := by decide +kernel
theorem dX6_wordNumber_39 : decode cX6_wordNumber 39 = .ok (.aload_n 0, 1) := by decide +kernel
theorem dX6_wordNumber_40 : decode cX6_wordNumber 40 = .ok (.getfield 88, 3) := by decide +kernel
theorem dX6_wordNumber_43 : decode cX6_wordNumber 43 = .ok (.if_icmp .ge 26, 3) := by decide +kernel
theorem dX6_wordNumber_46 : decode cX6_wordNumber 46 = .ok (.aload_n 0, 1) := by decide +kernel
theorem dX6_wordNumber_47 : decode cX6_wordNumber 47 = .ok (.getfield 27, 3) := by decide +kernel
theorem dX6_wordNumber_50 : decode cX6_wordNumber 50 = .ok (.getfield 96, 3) := by decide +kernel
theorem dX6_wordNumber_53 : decode cX6_wordNumber 53 = .ok (.iload_n 2, 1) := by decide +kernel
theorem dX6_wordNumber_54 : decode cX6_wordNumber 54 = .ok (.iaload, 1) := by decide +kernel
theorem dX6_wordNumber_55 : decode cX6_wordNumber 55 = .ok (.aload_n 0, 1) := by decide +kernel
theorem dX6_wordNumber_56 : decode cX6_wordNumber 56 = .ok (.getfield 23, 3) := by decide +kernel
theorem dX6_wordNumber_59 : decode cX6_wordNumber 59 = .ok (.iload 4, 2) := by decide +kernel
theorem dX6_wordNumber_61 : decode cX6_wordNumber 61 = .ok (.caload, 1) := by decide +kernel
theorem dX6_wordNumber_62 : decode cX6_wordNumber 62 = .ok (.if_icmp .ne 7, 3) := by decide +kernel
theorem dX6_wordNumber_65 : decode cX6_wordNumber 65 = .ok (.iconst 1, 1) := by decide +kernel
theorem dX6_wordNumber_66 : decode cX6_wordNumber 66 = .ok (.goto 4, 3) := by decide +kernel
theorem dX6_wordNumber_69 : decode cX6_wordNumber 69 = .ok (.iconst 0, 1) := by decide +kernel
theorem dX6_wordNumber_70 : decode cX6_wordNumber 70 = .ok (.istore_n 3, 1) := by decide +kernel
theorem dX6_wordNumber_71 : decode cX6_wordNumber 71 = .ok (.iinc 2 1, 3) := by decide +kernel
theorem dX6_wordNumber_74 : decode cX6_wordNumber 74 = .ok (.goto 27, 3) := by decide +kernel
theorem dX6_wordNumber_77 : decode cX6_wordNumber 77 = .ok (.iload_n 3, 1) := by decide +kernel
theorem dX6_wordNumber_78 : decode cX6_wordNumber 78 = .ok (.ifCond .eq 13, 3) := by decide +kernel
theorem dX6_wordNumber_81 : decode cX6_wordNumber 81 = .ok (.iload_n 2, 1) := by decide +kernel
theorem dX6_wordNumber_82 : decode cX6_wordNumber 82 = .ok (.aload_n 0, 1) := by decide +kernel
theorem dX6_wordNumber_83 : decode cX6_wordNumber 83 = .ok (.getfield 88, 3) := by decide +kernel
theorem dX6_wordNumber_86 : decode cX6_wordNumber 86 = .ok (.if_icmp .ne 5, 3) := by decide +kernel
theorem dX6_wordNumber_89 : decode cX6_wordNumber 89 = .ok (.iload_n 1, 1) := by decide +kernel
theorem dX6_wordNumber_90 : decode cX6_wordNumber 90 = .ok (.ireturn, 1) := by decide +kernel
theorem dX6_wordNumber_91 : decode cX6_wordNumber 91 = .ok (.iinc 1 1, 3) := by decide +kernel
theorem dX6_wordNumber_94 : decode cX6_wordNumber 94 = .ok (.aload_n 0, 1) := by decide +kernel
theorem dX6_wordNumber_95 : decode cX6_wordNumber 95 = .ok (.getfield 51, 3) := by decide +kernel
theorem dX6_wordNumber_98 : decode cX6_wordNumber 98 = .ok (.istore_n 2, 1) := by decide +kernel
theorem dX6_wordNumber_99 : decode cX6_wordNumber 99 = .ok (.iconst 1, 1) := by decide +kernel
theorem dX6_wordNumber_100 : decode cX6_wordNumber 100 = .ok (.istore_n 3, 1) := by decide +kernel
theorem dX6_wordNumber_101 : decode cX6_wordNumber 101 = .ok (.iinc 4 1, 3) := by decide +kernel
theorem dX6_wordNumber_104 : decode cX6_wordNumber 104 = .ok (.goto (-92), 3) := by decide +kernel
theorem dX6_wordNumber_107 : decode cX6_wordNumber 107 = .ok (.iload_n 3, 1) := by decide +kernel
theorem dX6_wordNumber_108 : decode cX6_wordNumber 108 = .ok (.ifCond .eq 15, 3) := by decide +kernel
theorem dX6_wordNumber_111 : decode cX6_wordNumber 111 = .ok (.iload_n 2, 1) := by decide +kernel
theorem dX6_wordNumber_112 : decode cX6_wordNumber 112 = .ok (.aload_n 0, 1) := by decide +kernel
theorem dX6_wordNumber_113 : decode cX6_wordNumber 113 = .ok (.getfield 88, 3) := by decide +kernel
theorem dX6_wordNumber_116 : decode cX6_wordNumber 116 = .ok (.if_icmp .ne 7, 3) := by decide +kernel
theorem dX6_wordNumber_119 : decode cX6_wordNumber 119 = .ok (.iload_n 1, 1) := by decide +kernel
theorem dX6_wordNumber_120 : decode cX6_wordNumber 120 = .ok (.goto 4, 3) := by decide +kernel
theorem dX6_wordNumber_123 : decode cX6_wordNumber 123 = .ok (.iconst (-1), 1) := by decide +kernel
theorem dX6_wordNumber_124 : decode cX6_wordNumber 124 = .ok (.ireturn, 1) := by decide +kernel
theorem dX9_at_0 : decode cX9_at 0 = .ok (.iload_n 1, 1) := by decide +kernel
theorem dX9_at_1 : decode cX9_at 1 = .ok (.ifCond .lt 20, 3) := by decide +kernel
theorem dX9_at_4 : decode cX9_at 4 = .ok (.iload_n 1, 1) := by decide +kernel
theorem dX9_at_5 : decode cX9_at 5 = .ok (.aload_n 0, 1) := by decide +kernel
theorem dX9_at_6 : decode cX9_at 6 = .ok (.getfield 15, 3) := by decide +kernel
theorem dX9_at_9 : decode cX9_at 9 = .ok (.if_icmp .ge 12, 3) := by decide +kernel
theorem dX9_at_12 : decode cX9_at 12 = .ok (.aload_n 0, 1) := by decide +kernel
theorem dX9_at_13 : decode cX9_at 13 = .ok (.getfield 9, 3) := by decide +kernel
theorem dX9_at_16 : decode cX9_at 16 = .ok (.iload_n 1, 1) := by decide +kernel
theorem dX9_at_17 : decode cX9_at 17 = .ok (.iaload, 1) := by decide +kernel
theorem dX9_at_18 : decode cX9_at 18 = .ok (.goto 4, 3) := by decide +kernel
theorem dX9_at_21 : decode cX9_at 21 = .ok (.iconst (-1), 1) := by decide +kernel
theorem dX9_at_22 : decode cX9_at 22 = .ok (.ireturn, 1) := by decide +kernel
def m_x6_fail_J22 (s1 : MS) : Option (Int32 × MS) :=
  some (0, s1)
def m_x6_fail (p0 : Int32) (p1 : Int32) (s : MS) : Option (Int32 × MS) :=
  if (gI s 100) = 0 then stn (sI s 100 p0) (fun s3 => stn (sI s3 101 p1) (fun s4 => stn (sI s4 107 0) (fun s5 => m_x6_fail_J22 s5))) else m_x6_fail_J22 s
set_option maxHeartbeats 4000000 in
set_option maxRecDepth 100000 in
theorem k_x6_fail (l : Launch) (D : va_G) (a : Nat → Nat) (p0 : Int32) (p1 : Int32) (sz : Nat) (s : MS) (o : (Int32 × MS)) (h : m_x6_fail p0 p1 s = some o) : yWi l yX6_fail cX6_fail 3 (some .boolean) { frames := 0, cells := 0, slots := 0, locals := 0 } D sz [.ref (a 5), .int p0, .int p1] (CS D a s) (CS D a o.2) o.1 := by
  refine Met.ofW (cc := cX6_fail) (maxL := 3) (ret := (some .boolean)) (by decide) rfl ?_
  intro p e s₀ m args below meth c s₁ B hml hv
  obtain ⟨rfl, ⟨hsz, hP, hK, hD0⟩, hN⟩ := hv
  have hx := B.exec
  have hb := B.bytes
  have hr := B.returns
  have hts := atoms_spec (ws := wz yX6_fail cX6_fail 3 (some .boolean)) B.pre
  have ht : ∀ w ∈ lw_gd, w.before _ s₀ = true := fun w h => hts w (List.mem_cons_of_mem _ h)
  have hown : s₀.vm.findClass RX6 = some m.cls := findClass_of_methodNamed B.named
  have hlocks := B.notSynchronized
  subst hsz
  have hD := hD0.self (sz := s₀.heap.size)
  generalize hAe : va_A (CS D a s) s₀.heap.size = A at hD ⊢
  have hA : ∀ q : Nat, s₀.heap.size ≤ q → A q := fun q h => by rw [← hAe]; exact Or.inr h
  have hS : va_S A s₀.heap s₀.heap [] := va_S.rf
  have hDD : ∀ t : MS, va_D A (CS D a t) := fun t => CW_D t hD
  have hl := lv_entry ([.ref (a 5), .int p0, .int p1]) (n := 3) (Nat.le_of_ble_eq_true rfl)
  rw [lg_entry_eq]
  generalize (lg_sl ([.ref (a 5), .int p0, .int p1]) ++ List.replicate (3 - (lg_sl ([.ref (a 5), .int p0, .int p1])).length) Slot.unset).toArray = ls at hl ⊢
  have hl : lv_has ls 3 [(0, .ref (a 5)), (1, .int p0), (2, .int p1)] := hl
  unfold m_x6_fail at h
  refine y_head (pcJ := 22) (σ := MS) (fun u H locs ls => va_P D vwCl (CS D a u) H ∧ va_S A s₀.heap H locs ∧ lv_has ls 3 [] ∧ m_x6_fail_J22 u = some o) (fun u => []) (fun u H locs ls hI => ?_) (fun J22 => ?_)
  · obtain ⟨hP, hS, hl, h⟩ := hI
    obtain ⟨s1, rfl⟩ : ∃ z, z = u := ⟨u, rfl⟩
    have hP : va_P D vwCl (CS D a s1) H := hP
    have hl : lv_has ls 3 [] := hl
    have h : m_x6_fail_J22 s1 = some o := h
    unfold m_x6_fail_J22 at h
    refine lv_iconst (v := 0) hx hb dX6_fail_22 (by decide) ?_
    obtain rfl := Option.some.inj h
    exact W.zret (v := 0) hx hb hr (by decide) (fun t ht hW => ⟨⟨_, (), rfl, rfl, by rw [ht]; exact hP, va_K.moved hW.alike hK, hDD _⟩, hS.F ht⟩) hS.2.2 dX6_fail_23
  refine lv_aload_n hx hb dX6_fail_0 rfl (lv_at hl 0 rfl) ?_
  refine va_get (D := D) (ci := 6) (v := .int (gI s 100)) (C := RX6) (T := TX6) (N := 12) hx hb ht inX6 hown hK hP 5 CW_5 rfl 0 (by decide) (ht (.fieldLink RX6 61 "CloneVolumes$Reader" "fault" "I") fl_X6_61) (fun _ h9 => h9) rfl dX6_fail_1 ?_
  refine lv_if_ne (tgt := 22) hx hb dX6_fail_4 (by decide) (fun c2 => ?_) (fun c2 => ?_)
  · have h := if_f c2 h
    exact J22 s _ _ _ ⟨hP, hS, lv_sub hl [] rfl, h⟩
  · have h := if_t c2 h
    refine lv_aload_n hx hb dX6_fail_7 rfl (lv_at hl 0 rfl) ?_
    refine lv_iload_n hx hb dX6_fail_8 rfl (lv_at hl 1 rfl) ?_
    refine ya_put (D := D) (ci := 6) (v := .int p0) (ty := .int) (C := RX6) (T := TX6) (N := 12) hx hb ht inX6 tyX6 tyX6_ok nmX6 hown hK hP (hDD _) hS 5 CW_5 rfl 0 (by decide) (ht (.fieldLink RX6 61 "CloneVolumes$Reader" "fault" "I") fl_X6_61) (fun _ h9 => h9) rfl (by decide +kernel) rfl rfl (Nat.le_of_ble_eq_true rfl) dX6_fail_9 (CW_w5_0 _) (fun H locs hP hS => ?_)
    obtain ⟨s3, hs3, h⟩ := st_e h
    rw [hs3] at hP
    refine lv_aload_n hx hb dX6_fail_12 rfl (lv_at hl 0 rfl) ?_
    refine lv_iload_n hx hb dX6_fail_13 rfl (lv_at hl 2 rfl) ?_
    refine ya_put (D := D) (ci := 6) (v := .int p1) (ty := .int) (C := RX6) (T := TX6) (N := 12) hx hb ht inX6 tyX6 tyX6_ok nmX6 hown hK hP (hDD _) hS 5 CW_5 rfl 1 (by decide) (ht (.fieldLink RX6 9 "CloneVolumes$Reader" "place" "I") fl_X6_9) (fun _ h9 => h9) rfl (by decide +kernel) rfl rfl (Nat.le_of_ble_eq_true rfl) dX6_fail_14 (CW_w5_1 _) (fun H locs hP hS => ?_)
    obtain ⟨s4, hs4, h⟩ := st_e h
    rw [hs4] at hP
    refine lv_aload_n hx hb dX6_fail_17 rfl (lv_at hl 0 rfl) ?_
    refine lv_iconst (v := 0) hx hb dX6_fail_18 (by decide) ?_
    refine ya_put (D := D) (ci := 6) (v := .int 0) (ty := .int) (C := RX6) (T := TX6) (N := 12) hx hb ht inX6 tyX6 tyX6_ok nmX6 hown hK hP (hDD _) hS 5 CW_5 rfl 7 (by decide) (ht (.fieldLink RX6 44 "CloneVolumes$Reader" "kind" "I") fl_X6_44) (fun _ h9 => h9) rfl (by decide +kernel) rfl rfl (Nat.le_of_ble_eq_true rfl) dX6_fail_19 (CW_w5_7 _) (fun H locs hP hS => ?_)
    obtain ⟨s5, hs5, h⟩ := st_e h
    rw [hs5] at hP
    exact J22 s5 _ _ _ ⟨hP, hS, lv_sub hl [] rfl, h⟩
def m_x6_opens (s : MS) : Option (Int32 × MS) :=
  if (gI s 106) < 6 then stn (sI s 106 ((gI s 106) + 1)) (fun s2 => some (1, s2)) else bn (m_x6_fail 4 (gI s 108) s) (fun qr5 => bo qr5.1 (some (qr5.1, qr5.2)))
set_option maxHeartbeats 4000000 in
set_option maxRecDepth 100000 in
theorem k_x6_opens (l : Launch) (D : va_G) (a : Nat → Nat) (sz : Nat) (s : MS) (o : (Int32 × MS)) (h : m_x6_opens s = some o) : yWi l yX6_opens cX6_opens 1 (some .boolean) { frames := 1, cells := 0, slots := 0, locals := 60 } D sz [.ref (a 5)] (CS D a s) (CS D a o.2) o.1 := by
  refine Met.ofW (cc := cX6_opens) (maxL := 1) (ret := (some .boolean)) (by decide) rfl ?_
  intro p e s₀ m args below meth c s₁ B hml hv
  obtain ⟨rfl, ⟨hsz, hP, hK, hD0⟩, hN⟩ := hv
  have hx := B.exec
  have hb := B.bytes
  have hr := B.returns
  have hts := atoms_spec (ws := wz yX6_opens cX6_opens 1 (some .boolean)) B.pre
  have ht : ∀ w ∈ lw_gd, w.before _ s₀ = true := fun w h => hts w (List.mem_cons_of_mem _ h)
  have hown : s₀.vm.findClass RX6 = some m.cls := findClass_of_methodNamed B.named
  have hlocks := B.notSynchronized
  subst hsz
  have hD := hD0.self (sz := s₀.heap.size)
  generalize hAe : va_A (CS D a s) s₀.heap.size = A at hD ⊢
  have hA : ∀ q : Nat, s₀.heap.size ≤ q → A q := fun q h => by rw [← hAe]; exact Or.inr h
  have hS : va_S A s₀.heap s₀.heap [] := va_S.rf
  have hDD : ∀ t : MS, va_D A (CS D a t) := fun t => CW_D t hD
  have hl := lv_entry ([.ref (a 5)]) (n := 1) (Nat.le_of_ble_eq_true rfl)
  rw [lg_entry_eq]
  generalize (lg_sl ([.ref (a 5)]) ++ List.replicate (1 - (lg_sl ([.ref (a 5)])).length) Slot.unset).toArray = ls at hl ⊢
  have hl : lv_has ls 1 [(0, .ref (a 5))] := hl
  unfold m_x6_opens at h
  refine lv_aload_n hx hb dX6_opens_0 rfl (lv_at hl 0 rfl) ?_
  refine va_get (D := D) (ci := 6) (v := .int (gI s 106)) (C := RX6) (T := TX6) (N := 12) hx hb ht inX6 hown hK hP 5 CW_5 rfl 6 (by decide) (ht (.fieldLink RX6 85 "CloneVolumes$Reader" "open" "I") fl_X6_85) (fun _ h9 => h9) rfl dX6_opens_1 ?_
  refine lv_bipush (v := 6) hx hb dX6_opens_4 (by decide) ?_
  refine lv_icmp_lt (tgt := 19) hx hb dX6_opens_6 (by decide) (fun c1 => ?_) (fun c1 => ?_)
  · have h := if_t c1 h
    refine lv_aload_n hx hb dX6_opens_19 rfl (lv_at hl 0 rfl) ?_
    refine lv_dup hx hb dX6_opens_20 rfl ?_
    refine va_get (D := D) (ci := 6) (v := .int (gI s 106)) (C := RX6) (T := TX6) (N := 12) hx hb ht inX6 hown hK hP 5 CW_5 rfl 6 (by decide) (ht (.fieldLink RX6 85 "CloneVolumes$Reader" "open" "I") fl_X6_85) (fun _ h9 => h9) rfl dX6_opens_21 ?_
    refine lv_iconst (v := 1) hx hb dX6_opens_24 (by decide) ?_
    refine lv_iadd hx hb dX6_opens_25 ?_
    refine ya_put (D := D) (ci := 6) (v := .int ((gI s 106) + 1)) (ty := .int) (C := RX6) (T := TX6) (N := 12) hx hb ht inX6 tyX6 tyX6_ok nmX6 hown hK hP (hDD _) hS 5 CW_5 rfl 6 (by decide) (ht (.fieldLink RX6 85 "CloneVolumes$Reader" "open" "I") fl_X6_85) (fun _ h9 => h9) rfl (by decide +kernel) rfl rfl (Nat.le_of_ble_eq_true rfl) dX6_opens_26 (CW_w5_6 _) (fun H locs hP hS => ?_)
    obtain ⟨s2, hs2, h⟩ := st_e h
    rw [hs2] at hP
    refine lv_iconst (v := 1) hx hb dX6_opens_29 (by decide) ?_
    obtain rfl := Option.some.inj h
    exact W.zret (v := 1) hx hb hr (by decide) (fun t ht hW => ⟨⟨_, (), rfl, rfl, by rw [ht]; exact hP, va_K.moved hW.alike hK, hDD _⟩, hS.F ht⟩) hS.2.2 dX6_opens_30
  · have h := if_f c1 h
    refine lv_aload_n hx hb dX6_opens_9 rfl (lv_at hl 0 rfl) ?_
    refine lv_iconst (v := 4) hx hb dX6_opens_10 (by decide) ?_
    refine lv_aload_n hx hb dX6_opens_11 rfl (lv_at hl 0 rfl) ?_
    refine va_get (D := D) (ci := 6) (v := .int (gI s 108)) (C := RX6) (T := TX6) (N := 12) hx hb ht inX6 hown hK hP 5 CW_5 rfl 8 (by decide) (ht (.fieldLink RX6 51 "CloneVolumes$Reader" "start" "I") fl_X6_51) (fun _ h9 => h9) rfl dX6_opens_12 ?_
    obtain ⟨⟨r5, s4⟩, hc3, h⟩ := bn_e h
    refine ywV (r0 := r5) (As := [.int 4, .int (gI s 108)]) (rest := []) (C := RX6) (n := 2) (ws' := CS D a s4) ⟨hx, hb, hml, hown, ht⟩ (k_x6_fail l D a 4 (gI s 108) _ _ _ hc3) (zgV ml_X6_54 im_X6_fail se_X6_fail in_X6 co_X6_fail) rfl rfl (by decide +kernel) ⟨Nat.le_of_ble_eq_true rfl, Nat.le_of_ble_eq_true rfl⟩ hN hK hP (hDD _) hS hA 5 CW_5 rfl rfl rfl hl.1 rfl (Nat.le_of_ble_eq_true rfl) dX6_opens_15 ⟨Nat.le_of_ble_eq_true rfl, Nat.le_of_ble_eq_true rfl⟩ (fun H locs hP hS => ?_)
    obtain ⟨hb6, h⟩ := bo_e h
    obtain rfl := Option.some.inj h
    exact W.zret (v := r5) hx hb hr (bo_n hb6) (fun t ht hW => ⟨⟨_, (), rfl, rfl, by rw [ht]; exact hP, va_K.moved hW.alike hK, hDD _⟩, hS.F ht⟩) hS.2.2 dX6_opens_18
def m_x6_isLetter_J17 (s : MS) (x1 : Int32) : Option Int32 :=
  bo x1 (some x1)
def m_x6_isLetter_J16 (s : MS) (_u : Unit) : Option Int32 :=
  m_x6_isLetter_J17 s 0
def m_x6_isLetter (p0 : Int32) (s : MS) : Option Int32 :=
  if p0 < 97 then m_x6_isLetter_J16 s () else if 122 < p0 then m_x6_isLetter_J16 s () else m_x6_isLetter_J17 s 1
set_option maxHeartbeats 4000000 in
set_option maxRecDepth 100000 in
theorem k_x6_isLetter (l : Launch) (D : va_G) (a : Nat → Nat) (p0 : Int32) (s : MS) (o : Int32) (h : m_x6_isLetter p0 s = some o) : yRi l yX6_isLetter cX6_isLetter 1 (some .boolean) { frames := 0, cells := 0, slots := 0, locals := 0 } D [.int p0] (CS D a s) o := by
  refine Met.ofW (cc := cX6_isLetter) (maxL := 1) (ret := (some .boolean)) (by decide) rfl ?_
  intro p e s₀ m args below meth c s₁ B hml hv
  obtain ⟨rfl, ⟨hP, hK⟩, hN⟩ := hv
  have hx := B.exec
  have hb := B.bytes
  have hr := B.returns
  have hts := atoms_spec (ws := wz yX6_isLetter cX6_isLetter 1 (some .boolean)) B.pre
  have ht : ∀ w ∈ lw_gd, w.before _ s₀ = true := fun w h => hts w (List.mem_cons_of_mem _ h)
  have hown : s₀.vm.findClass RX6 = some m.cls := findClass_of_methodNamed B.named
  have hlocks := B.notSynchronized
  have hS : va_S (fun _ => False) s₀.heap s₀.heap [] := va_S.rf
  have hl := lv_entry ([.int p0]) (n := 1) (Nat.le_of_ble_eq_true rfl)
  rw [lg_entry_eq]
  generalize (lg_sl ([.int p0]) ++ List.replicate (1 - (lg_sl ([.int p0])).length) Slot.unset).toArray = ls at hl ⊢
  have hl : lv_has ls 1 [(0, .int p0)] := hl
  unfold m_x6_isLetter at h
  refine y_head (pcJ := 17) (σ := Int32) (fun u H locs ls => va_P D vwCl (CS D a s) H ∧ va_S (fun _ => False) s₀.heap H locs ∧ lv_has ls 1 [] ∧ m_x6_isLetter_J17 s u = some o) (fun u => [.int u]) (fun u H locs ls hI => ?_) (fun J17 => ?_)
  · obtain ⟨hP, hS, hl, h⟩ := hI
    obtain ⟨x1, rfl⟩ : ∃ z, z = u := ⟨u, rfl⟩
    have hP : va_P D vwCl (CS D a s) H := hP
    have hl : lv_has ls 1 [] := hl
    have h : m_x6_isLetter_J17 s x1 = some o := h
    unfold m_x6_isLetter_J17 at h
    obtain ⟨hb2, h⟩ := bo_e h
    obtain rfl := Option.some.inj h
    exact W.zret (v := x1) hx hb hr (bo_n hb2) (fun t ht hW => ⟨⟨_, (), rfl, rfl, trivial⟩, hS.F ht⟩) hS.2.2 dX6_isLetter_17
  refine y_head (pcJ := 16) (σ := Unit) (fun u H locs ls => va_P D vwCl (CS D a s) H ∧ va_S (fun _ => False) s₀.heap H locs ∧ lv_has ls 1 [] ∧ m_x6_isLetter_J16 s u = some o) (fun u => []) (fun u H locs ls hI => ?_) (fun J16 => ?_)
  · obtain ⟨hP, hS, hl, h⟩ := hI
    skip
    have hP : va_P D vwCl (CS D a s) H := hP
    have hl : lv_has ls 1 [] := hl
    have h : m_x6_isLetter_J16 s () = some o := h
    unfold m_x6_isLetter_J16 at h
    refine lv_iconst (v := 0) hx hb dX6_isLetter_16 (by decide) ?_
    exact J17 0 _ _ _ ⟨hP, hS, lv_sub hl [] rfl, h⟩
  refine lv_iload_n hx hb dX6_isLetter_0 rfl (lv_at hl 0 rfl) ?_
  refine lv_bipush (v := 97) hx hb dX6_isLetter_1 (by decide) ?_
  refine lv_icmp_lt (tgt := 16) hx hb dX6_isLetter_3 (by decide) (fun c3 => ?_) (fun c3 => ?_)
  · have h := if_t c3 h
    exact J16 () _ _ _ ⟨hP, hS, lv_sub hl [] rfl, h⟩
  · have h := if_f c3 h
    refine lv_iload_n hx hb dX6_isLetter_6 rfl (lv_at hl 0 rfl) ?_
    refine lv_bipush (v := 122) hx hb dX6_isLetter_7 (by decide) ?_
    refine lv_icmp_gt (tgt := 16) hx hb dX6_isLetter_9 (by decide) (fun c4 => ?_) (fun c4 => ?_)
    · have h := if_t c4 h
      exact J16 () _ _ _ ⟨hP, hS, lv_sub hl [] rfl, h⟩
    · have h := if_f c4 h
      refine lv_iconst (v := 1) hx hb dX6_isLetter_12 (by decide) ?_
      refine lv_goto (tgt := 17) hx hb dX6_isLetter_13 (by decide) ?_
      exact J17 1 _ _ _ ⟨hP, hS, lv_sub hl [] rfl, h⟩
def m_x6_isDigit_J17 (s : MS) (x1 : Int32) : Option Int32 :=
  bo x1 (some x1)
def m_x6_isDigit_J16 (s : MS) (_u : Unit) : Option Int32 :=
  m_x6_isDigit_J17 s 0
def m_x6_isDigit (p0 : Int32) (s : MS) : Option Int32 :=
  if p0 < 48 then m_x6_isDigit_J16 s () else if 57 < p0 then m_x6_isDigit_J16 s () else m_x6_isDigit_J17 s 1
set_option maxHeartbeats 4000000 in
set_option maxRecDepth 100000 in
theorem k_x6_isDigit (l : Launch) (D : va_G) (a : Nat → Nat) (p0 : Int32) (s : MS) (o : Int32) (h : m_x6_isDigit p0 s = some o) : yRi l yX6_isDigit cX6_isDigit 1 (some .boolean) { frames := 0, cells := 0, slots := 0, locals := 0 } D [.int p0] (CS D a s) o := by
  refine Met.ofW (cc := cX6_isDigit) (maxL := 1) (ret := (some .boolean)) (by decide) rfl ?_
  intro p e s₀ m args below meth c s₁ B hml hv
  obtain ⟨rfl, ⟨hP, hK⟩, hN⟩ := hv
  have hx := B.exec
  have hb := B.bytes
  have hr := B.returns
  have hts := atoms_spec (ws := wz yX6_isDigit cX6_isDigit 1 (some .boolean)) B.pre
  have ht : ∀ w ∈ lw_gd, w.before _ s₀ = true := fun w h => hts w (List.mem_cons_of_mem _ h)
  have hown : s₀.vm.findClass RX6 = some m.cls := findClass_of_methodNamed B.named
  have hlocks := B.notSynchronized
  have hS : va_S (fun _ => False) s₀.heap s₀.heap [] := va_S.rf
  have hl := lv_entry ([.int p0]) (n := 1) (Nat.le_of_ble_eq_true rfl)
  rw [lg_entry_eq]
  generalize (lg_sl ([.int p0]) ++ List.replicate (1 - (lg_sl ([.int p0])).length) Slot.unset).toArray = ls at hl ⊢
  have hl : lv_has ls 1 [(0, .int p0)] := hl
  unfold m_x6_isDigit at h
  refine y_head (pcJ := 17) (σ := Int32) (fun u H locs ls => va_P D vwCl (CS D a s) H ∧ va_S (fun _ => False) s₀.heap H locs ∧ lv_has ls 1 [] ∧ m_x6_isDigit_J17 s u = some o) (fun u => [.int u]) (fun u H locs ls hI => ?_) (fun J17 => ?_)
  · obtain ⟨hP, hS, hl, h⟩ := hI
    obtain ⟨x1, rfl⟩ : ∃ z, z = u := ⟨u, rfl⟩
    have hP : va_P D vwCl (CS D a s) H := hP
    have hl : lv_has ls 1 [] := hl
    have h : m_x6_isDigit_J17 s x1 = some o := h
    unfold m_x6_isDigit_J17 at h
    obtain ⟨hb2, h⟩ := bo_e h
    obtain rfl := Option.some.inj h
    exact W.zret (v := x1) hx hb hr (bo_n hb2) (fun t ht hW => ⟨⟨_, (), rfl, rfl, trivial⟩, hS.F ht⟩) hS.2.2 dX6_isDigit_17
  refine y_head (pcJ := 16) (σ := Unit) (fun u H locs ls => va_P D vwCl (CS D a s) H ∧ va_S (fun _ => False) s₀.heap H locs ∧ lv_has ls 1 [] ∧ m_x6_isDigit_J16 s u = some o) (fun u => []) (fun u H locs ls hI => ?_) (fun J16 => ?_)
  · obtain ⟨hP, hS, hl, h⟩ := hI
    skip
    have hP : va_P D vwCl (CS D a s) H := hP
    have hl : lv_has ls 1 [] := hl
    have h : m_x6_isDigit_J16 s () = some o := h
    unfold m_x6_isDigit_J16 at h
    refine lv_iconst (v := 0) hx hb dX6_isDigit_16 (by decide) ?_
    exact J17 0 _ _ _ ⟨hP, hS, lv_sub hl [] rfl, h⟩
  refine lv_iload_n hx hb dX6_isDigit_0 rfl (lv_at hl 0 rfl) ?_
  refine lv_bipush (v := 48) hx hb dX6_isDigit_1 (by decide) ?_
  refine lv_icmp_lt (tgt := 16) hx hb dX6_isDigit_3 (by decide) (fun c3 => ?_) (fun c3 => ?_)
  · have h := if_t c3 h
    exact J16 () _ _ _ ⟨hP, hS, lv_sub hl [] rfl, h⟩
  · have h := if_f c3 h
    refine lv_iload_n hx hb dX6_isDigit_6 rfl (lv_at hl 0 rfl) ?_
    refine lv_bipush (v := 57) hx hb dX6_isDigit_7 (by decide) ?_
    refine lv_icmp_gt (tgt := 16) hx hb dX6_isDigit_9 (by decide) (fun c4 => ?_) (fun c4 => ?_)
    · have h := if_t c4 h
      exact J16 () _ _ _ ⟨hP, hS, lv_sub hl [] rfl, h⟩
    · have h := if_f c4 h
      refine lv_iconst (v := 1) hx hb dX6_isDigit_12 (by decide) ?_
      refine lv_goto (tgt := 17) hx hb dX6_isDigit_13 (by decide) ?_
      exact J17 1 _ _ _ ⟨hP, hS, lv_sub hl [] rfl, h⟩
def m_x9_at_J22 (s : MS) (x1 : Int32) : Option Int32 :=
  some x1
def m_x9_at_J21 (s : MS) (_u : Unit) : Option Int32 :=
  m_x9_at_J22 s (-1)
def m_x9_at (p0 : Int32) (s : MS) : Option Int32 :=
  if p0 < 0 then m_x9_at_J21 s () else if (gI s 61) ≤ p0 then m_x9_at_J21 s () else rdI (gA s 4) 1600 p0 (fun y4 => m_x9_at_J22 s y4)
set_option maxHeartbeats 4000000 in
set_option maxRecDepth 100000 in
theorem k_x9_at (l : Launch) (D : va_G) (a : Nat → Nat) (p0 : Int32) (s : MS) (o : Int32) (h : m_x9_at p0 s = some o) : yRi l yX9_at cX9_at 2 (some .int) { frames := 0, cells := 0, slots := 0, locals := 0 } D [.ref (a 3), .int p0] (CS D a s) o := by
  refine Met.ofW (cc := cX9_at) (maxL := 2) (ret := (some .int)) (by decide) rfl ?_
  intro p e s₀ m args below meth c s₁ B hml hv
  obtain ⟨rfl, ⟨hP, hK⟩, hN⟩ := hv
  have hx := B.exec
  have hb := B.bytes
  have hr := B.returns
  have hts := atoms_spec (ws := wz yX9_at cX9_at 2 (some .int)) B.pre
  have ht : ∀ w ∈ lw_gd, w.before _ s₀ = true := fun w h => hts w (List.mem_cons_of_mem _ h)
  have hown : s₀.vm.findClass RX9 = some m.cls := findClass_of_methodNamed B.named
  have hlocks := B.notSynchronized
  have hS : va_S (fun _ => False) s₀.heap s₀.heap [] := va_S.rf
  have hl := lv_entry ([.ref (a 3), .int p0]) (n := 2) (Nat.le_of_ble_eq_true rfl)
  rw [lg_entry_eq]
  generalize (lg_sl ([.ref (a 3), .int p0]) ++ List.replicate (2 - (lg_sl ([.ref (a 3), .int p0])).length) Slot.unset).toArray = ls at hl ⊢
  have hl : lv_has ls 2 [(0, .ref (a 3)), (1, .int p0)] := hl
  unfold m_x9_at at h
  refine y_head (pcJ := 22) (σ := Int32) (fun u H locs ls => va_P D vwCl (CS D a s) H ∧ va_S (fun _ => False) s₀.heap H locs ∧ lv_has ls 2 [] ∧ m_x9_at_J22 s u = some o) (fun u => [.int u]) (fun u H locs ls hI => ?_) (fun J22 => ?_)
  · obtain ⟨hP, hS, hl, h⟩ := hI
    obtain ⟨x1, rfl⟩ : ∃ z, z = u := ⟨u, rfl⟩
    have hP : va_P D vwCl (CS D a s) H := hP
    have hl : lv_has ls 2 [] := hl
    have h : m_x9_at_J22 s x1 = some o := h
    unfold m_x9_at_J22 at h
    obtain rfl := Option.some.inj h
    exact W.iret (v := x1) hx hb hr (fun t ht hW => ⟨⟨_, (), rfl, rfl, trivial⟩, hS.F ht⟩) hS.2.2 dX9_at_22
  refine y_head (pcJ := 21) (σ := Unit) (fun u H locs ls => va_P D vwCl (CS D a s) H ∧ va_S (fun _ => False) s₀.heap H locs ∧ lv_has ls 2 [] ∧ m_x9_at_J21 s u = some o) (fun u => []) (fun u H locs ls hI => ?_) (fun J21 => ?_)
  · obtain ⟨hP, hS, hl, h⟩ := hI
    skip
    have hP : va_P D vwCl (CS D a s) H := hP
    have hl : lv_has ls 2 [] := hl
    have h : m_x9_at_J21 s () = some o := h
    unfold m_x9_at_J21 at h
    refine lv_iconst (v := (-1)) hx hb dX9_at_21 (by decide) ?_
    exact J22 (-1) _ _ _ ⟨hP, hS, lv_sub hl [] rfl, h⟩
  refine lv_iload_n hx hb dX9_at_0 rfl (lv_at hl 1 rfl) ?_
  refine lv_if_lt (tgt := 21) hx hb dX9_at_1 (by decide) (fun c2 => ?_) (fun c2 => ?_)
  · have h := if_t c2 h
    exact J21 () _ _ _ ⟨hP, hS, lv_sub hl [] rfl, h⟩
  · have h := if_f c2 h
    refine lv_iload_n hx hb dX9_at_4 rfl (lv_at hl 1 rfl) ?_
    refine lv_aload_n hx hb dX9_at_5 rfl (lv_at hl 0 rfl) ?_
    refine va_get (D := D) (ci := 9) (v := .int (gI s 61)) (C := RX9) (T := TX9) (N := 2) hx hb ht inX9 hown hK hP 3 CW_3 rfl 1 (by decide) (ht (.fieldLink RX9 15 "CloneVolumes$Tape" "length" "I") fl_X9_15) (fun _ h9 => h9) rfl dX9_at_6 ?_
    refine lv_icmp_ge (tgt := 21) hx hb dX9_at_9 (by decide) (fun c3 => ?_) (fun c3 => ?_)
    · have h := if_t c3 h
      exact J21 () _ _ _ ⟨hP, hS, lv_sub hl [] rfl, h⟩
    · have h := if_f c3 h
      refine lv_aload_n hx hb dX9_at_12 rfl (lv_at hl 0 rfl) ?_
      refine va_get (D := D) (ci := 9) (v := .ref (a 4)) (C := RX9) (T := TX9) (N := 2) hx hb ht inX9 hown hK hP 3 CW_3 rfl 0 (by decide) (ht (.fieldLink RX9 9 "CloneVolumes$Tape" "bytes" "[I") fl_X9_9) (fun _ h9 => h9) rfl dX9_at_13 ?_
      refine lv_iload_n hx hb dX9_at_16 rfl (lv_at hl 1 rfl) ?_
      obtain ⟨y4, ey4, iy4, h⟩ := rdI_e h
      refine ya_iald hx hb hK hP 4 0 CW_4 rfl ey4 iy4 dX9_at_17 ?_
      refine lv_goto (tgt := 22) hx hb dX9_at_18 (by decide) ?_
      exact J22 y4 _ _ _ ⟨hP, hS, lv_sub hl [] rfl, h⟩
def m_x6_wordNumber_J124 (s : MS) (x1 : Int32) : Option Int32 :=
  some x1
def m_x6_wordNumber_J123 (s : MS) (_u : Unit) : Option Int32 :=
  m_x6_wordNumber_J124 s (-1)
def m_x6_wordNumber_J101 (s : MS) (lr12 : Int32 → Int32 → Int32 → Int32 → Option Int32) (x6 : Int32) (x7 : Int32) (x8 : Int32) (x9 : Int32) : Option Int32 :=
  lr12 x6 x7 x8 (x9 + 1)
def m_x6_wordNumber_J91 (s : MS) (lr12 : Int32 → Int32 → Int32 → Int32 → Option Int32) (x10 : Int32) (x11 : Int32) : Option Int32 :=
  m_x6_wordNumber_J101 s lr12 (x10 + 1) (gI s 108) 1 x11
def m_x6_wordNumber_J70 (s : MS) (lr12 : Int32 → Int32 → Int32 → Int32 → Option Int32) (x12 : Int32) (x13 : Int32) (x14 : Int32) (x15 : Int32) : Option Int32 :=
  m_x6_wordNumber_J101 s lr12 x12 (x13 + 1) x15 x14
def m_x6_wordNumber_J69 (s : MS) (lr12 : Int32 → Int32 → Int32 → Int32 → Option Int32) (x16 : Int32) (x17 : Int32) (x18 : Int32) : Option Int32 :=
  m_x6_wordNumber_J70 s lr12 x16 x17 x18 0
def m_x6_wordNumber_b12 (s : MS) (lr12 : Int32 → Int32 → Int32 → Int32 → Option Int32) (x2 : Int32) (x3 : Int32) (x4 : Int32) (x5 : Int32) : Option Int32 :=
  if 179 ≤ x5 then if x4 = 0 then m_x6_wordNumber_J123 s () else if x3 = (gI s 109) then m_x6_wordNumber_J124 s x2 else m_x6_wordNumber_J123 s () else rdI (gA s 6) 179 x5 (fun y22 => if y22 = 32 then if x4 = 0 then m_x6_wordNumber_J91 s lr12 x2 x5 else if x3 = (gI s 109) then some x2 else m_x6_wordNumber_J91 s lr12 x2 x5 else if x4 = 0 then m_x6_wordNumber_J69 s lr12 x2 x3 x5 else if (gI s 109) ≤ x3 then m_x6_wordNumber_J69 s lr12 x2 x3 x5 else rdI (gA s 4) 1600 x3 (fun y28 => rdI (gA s 6) 179 x5 (fun y29 => if y28 = y29 then m_x6_wordNumber_J70 s lr12 x2 x3 x5 1 else m_x6_wordNumber_J69 s lr12 x2 x3 x5)))
def m_x6_wordNumber_L12 (s : MS) (n : Nat) : Int32 → Int32 → Int32 → Int32 → Option Int32 := lp (fun _ _ _ _ => none) (m_x6_wordNumber_b12 s) n
def m_x6_wordNumber (s : MS) : Option Int32 :=
  m_x6_wordNumber_L12 s FU 0 (gI s 108) 1 0
set_option maxHeartbeats 4000000 in
set_option maxRecDepth 100000 in
theorem k_x6_wordNumber (l : Launch) (D : va_G) (a : Nat → Nat) (s : MS) (o : Int32) (h : m_x6_wordNumber s = some o) : yRi l yX6_wordNumber cX6_wordNumber 5 (some .int) { frames := 0, cells := 0, slots := 0, locals := 0 } D [.ref (a 5)] (CS D a s) o := by
  refine Met.ofW (cc := cX6_wordNumber) (maxL := 5) (ret := (some .int)) (by decide) rfl ?_
  intro p e s₀ m args below meth c s₁ B hml hv
  obtain ⟨rfl, ⟨hP, hK⟩, hN⟩ := hv
  have hx := B.exec
  have hb := B.bytes
  have hr := B.returns
  have hts := atoms_spec (ws := wz yX6_wordNumber cX6_wordNumber 5 (some .int)) B.pre
  have ht : ∀ w ∈ lw_gd, w.before _ s₀ = true := fun w h => hts w (List.mem_cons_of_mem _ h)
  have hown : s₀.vm.findClass RX6 = some m.cls := findClass_of_methodNamed B.named
  have hlocks := B.notSynchronized
  have hS : va_S (fun _ => False) s₀.heap s₀.heap [] := va_S.rf
  have hl := lv_entry ([.ref (a 5)]) (n := 5) (Nat.le_of_ble_eq_true rfl)
  rw [lg_entry_eq]
  generalize (lg_sl ([.ref (a 5)]) ++ List.replicate (5 - (lg_sl ([.ref (a 5)])).length) Slot.unset).toArray = ls at hl ⊢
  have hl : lv_has ls 5 [(0, .ref (a 5))] := hl
  unfold m_x6_wordNumber at h
  refine y_head (pcJ := 124) (σ := Int32) (fun u H locs ls => va_P D vwCl (CS D a s) H ∧ va_S (fun _ => False) s₀.heap H locs ∧ lv_has ls 5 [] ∧ m_x6_wordNumber_J124 s u = some o) (fun u => [.int u]) (fun u H locs ls hI => ?_) (fun J124 => ?_)
  · obtain ⟨hP, hS, hl, h⟩ := hI
    obtain ⟨x1, rfl⟩ : ∃ z, z = u := ⟨u, rfl⟩
    have hP : va_P D vwCl (CS D a s) H := hP
    have hl : lv_has ls 5 [] := hl
    have h : m_x6_wordNumber_J124 s x1 = some o := h
    unfold m_x6_wordNumber_J124 at h
    obtain rfl := Option.some.inj h
    exact W.iret (v := x1) hx hb hr (fun t ht hW => ⟨⟨_, (), rfl, rfl, trivial⟩, hS.F ht⟩) hS.2.2 dX6_wordNumber_124
  refine y_head (pcJ := 123) (σ := Unit) (fun u H locs ls => va_P D vwCl (CS D a s) H ∧ va_S (fun _ => False) s₀.heap H locs ∧ lv_has ls 5 [] ∧ m_x6_wordNumber_J123 s u = some o) (fun u => []) (fun u H locs ls hI => ?_) (fun J123 => ?_)
  · obtain ⟨hP, hS, hl, h⟩ := hI
    skip
    have hP : va_P D vwCl (CS D a s) H := hP
    have hl : lv_has ls 5 [] := hl
    have h : m_x6_wordNumber_J123 s () = some o := h
    unfold m_x6_wordNumber_J123 at h
    refine lv_iconst (v := (-1)) hx hb dX6_wordNumber_123 (by decide) ?_
    exact J124 (-1) _ _ _ ⟨hP, hS, lv_sub hl [] rfl, h⟩
  refine y_loop (pcJ := 12) (σ := Int32 × Int32 × Int32 × Int32) (fun n u H locs ls => va_P D vwCl (CS D a s) H ∧ va_S (fun _ => False) s₀.heap H locs ∧ lv_has ls 5 [(0, .ref (a 5)), (1, .int u.1), (2, .int u.2.1), (3, .int u.2.2.1), (4, .int u.2.2.2)] ∧ m_x6_wordNumber_L12 s n u.1 u.2.1 u.2.2.1 u.2.2.2 = some o) (fun u => []) (fun u H locs ls hI => by obtain ⟨_, _, _, h⟩ := hI; cases h) (fun n12 ih12 u H locs ls hI => ?_) (fun J12 => ?_)
  · obtain ⟨hP, hS, hl, h⟩ := hI
    obtain ⟨x2, x3, x4, x5⟩ := u
    have hP : va_P D vwCl (CS D a s) H := hP
    have hl : lv_has ls 5 [(0, .ref (a 5)), (1, .int x2), (2, .int x3), (3, .int x4), (4, .int x5)] := hl
    have h : m_x6_wordNumber_b12 s (m_x6_wordNumber_L12 s n12) x2 x3 x4 x5 = some o := h
    unfold m_x6_wordNumber_b12 at h
    refine y_head (pcJ := 101) (σ := Int32 × Int32 × Int32 × Int32) (fun u H locs ls => va_P D vwCl (CS D a s) H ∧ va_S (fun _ => False) s₀.heap H locs ∧ lv_has ls 5 [(0, .ref (a 5)), (1, .int u.1), (2, .int u.2.1), (3, .int u.2.2.1), (4, .int u.2.2.2)] ∧ m_x6_wordNumber_J101 s (m_x6_wordNumber_L12 s n12) u.1 u.2.1 u.2.2.1 u.2.2.2 = some o) (fun u => []) (fun u H locs ls hI => ?_) (fun J101 => ?_)
    · obtain ⟨hP, hS, hl, h⟩ := hI
      obtain ⟨x6, x7, x8, x9⟩ := u
      have hP : va_P D vwCl (CS D a s) H := hP
      have hl : lv_has ls 5 [(0, .ref (a 5)), (1, .int x6), (2, .int x7), (3, .int x8), (4, .int x9)] := hl
      have h : m_x6_wordNumber_J101 s (m_x6_wordNumber_L12 s n12) x6 x7 x8 x9 = some o := h
      unfold m_x6_wordNumber_J101 at h
      refine lv_iinc (v := x9 + 1) (lv' := [(4, .int (x9 + 1)), (0, .ref (a 5)), (1, .int x6), (2, .int x7), (3, .int x8)]) hx hb dX6_wordNumber_101 hl (k := 4) rfl rfl (by decide) rfl (fun ls hl => ?_)
      refine lv_goto (tgt := 12) hx hb dX6_wordNumber_104 (by decide) ?_
      exact ih12 (x6, x7, x8, x9 + 1) _ _ _ ⟨hP, hS, lv_sub hl [1, 2, 3, 4, 0] rfl, h⟩
    refine y_head (pcJ := 91) (σ := Int32 × Int32) (fun u H locs ls => va_P D vwCl (CS D a s) H ∧ va_S (fun _ => False) s₀.heap H locs ∧ lv_has ls 5 [(0, .ref (a 5)), (1, .int u.1), (4, .int u.2)] ∧ m_x6_wordNumber_J91 s (m_x6_wordNumber_L12 s n12) u.1 u.2 = some o) (fun u => []) (fun u H locs ls hI => ?_) (fun J91 => ?_)
    · obtain ⟨hP, hS, hl, h⟩ := hI
      obtain ⟨x10, x11⟩ := u
      have hP : va_P D vwCl (CS D a s) H := hP
      have hl : lv_has ls 5 [(0, .ref (a 5)), (1, .int x10), (4, .int x11)] := hl
      have h : m_x6_wordNumber_J91 s (m_x6_wordNumber_L12 s n12) x10 x11 = some o := h
      unfold m_x6_wordNumber_J91 at h
      refine lv_iinc (v := x10 + 1) (lv' := [(1, .int (x10 + 1)), (0, .ref (a 5)), (4, .int x11)]) hx hb dX6_wordNumber_91 hl (k := 1) rfl rfl (by decide) rfl (fun ls hl => ?_)
      refine lv_aload_n hx hb dX6_wordNumber_94 rfl (lv_at hl 1 rfl) ?_
      refine va_get (D := D) (ci := 6) (v := .int (gI s 108)) (C := RX6) (T := TX6) (N := 12) hx hb ht inX6 hown hK hP 5 CW_5 rfl 8 (by decide) (ht (.fieldLink RX6 51 "CloneVolumes$Reader" "start" "I") fl_X6_51) (fun _ h9 => h9) rfl dX6_wordNumber_95 ?_
      refine lv_istore_n (lv' := [(2, .int (gI s 108)), (1, .int (x10 + 1)), (0, .ref (a 5)), (4, .int x11)]) hx hb dX6_wordNumber_98 rfl hl (by decide) rfl (fun ls hl => ?_)
      refine lv_iconst (v := 1) hx hb dX6_wordNumber_99 (by decide) ?_
      refine lv_istore_n (lv' := [(3, .int 1), (2, .int (gI s 108)), (1, .int (x10 + 1)), (0, .ref (a 5)), (4, .int x11)]) hx hb dX6_wordNumber_100 rfl hl (by decide) rfl (fun ls hl => ?_)
      exact J101 (x10 + 1, gI s 108, 1, x11) _ _ _ ⟨hP, hS, lv_sub hl [3, 2, 1, 0, 4] rfl, h⟩
    refine y_head (pcJ := 70) (σ := Int32 × Int32 × Int32 × Int32) (fun u H locs ls => va_P D vwCl (CS D a s) H ∧ va_S (fun _ => False) s₀.heap H locs ∧ lv_has ls 5 [(0, .ref (a 5)), (1, .int u.1), (2, .int u.2.1), (4, .int u.2.2.1)] ∧ m_x6_wordNumber_J70 s (m_x6_wordNumber_L12 s n12) u.1 u.2.1 u.2.2.1 u.2.2.2 = some o) (fun u => [.int u.2.2.2]) (fun u H locs ls hI => ?_) (fun J70 => ?_)
    · obtain ⟨hP, hS, hl, h⟩ := hI
      obtain ⟨x12, x13, x14, x15⟩ := u
      have hP : va_P D vwCl (CS D a s) H := hP
      have hl : lv_has ls 5 [(0, .ref (a 5)), (1, .int x12), (2, .int x13), (4, .int x14)] := hl
      have h : m_x6_wordNumber_J70 s (m_x6_wordNumber_L12 s n12) x12 x13 x14 x15 = some o := h
      unfold m_x6_wordNumber_J70 at h
      refine lv_istore_n (lv' := [(3, .int x15), (0, .ref (a 5)), (1, .int x12), (2, .int x13), (4, .int x14)]) hx hb dX6_wordNumber_70 rfl hl (by decide) rfl (fun ls hl => ?_)
      refine lv_iinc (v := x13 + 1) (lv' := [(2, .int (x13 + 1)), (3, .int x15), (0, .ref (a 5)), (1, .int x12), (4, .int x14)]) hx hb dX6_wordNumber_71 hl (k := 3) rfl rfl (by decide) rfl (fun ls hl => ?_)
      refine lv_goto (tgt := 101) hx hb dX6_wordNumber_74 (by decide) ?_
      exact J101 (x12, x13 + 1, x15, x14) _ _ _ ⟨hP, hS, lv_sub hl [2, 3, 0, 1, 4] rfl, h⟩
    refine y_head (pcJ := 69) (σ := Int32 × Int32 × Int32) (fun u H locs ls => va_P D vwCl (CS D a s) H ∧ va_S (fun _ => False) s₀.heap H locs ∧ lv_has ls 5 [(0, .ref (a 5)), (1, .int u.1), (2, .int u.2.1), (4, .int u.2.2)] ∧ m_x6_wordNumber_J69 s (m_x6_wordNumber_L12 s n12) u.1 u.2.1 u.2.2 = some o) (fun u => []) (fun u H locs ls hI => ?_) (fun J69 => ?_)
    · obtain ⟨hP, hS, hl, h⟩ := hI
      obtain ⟨x16, x17, x18⟩ := u
      have hP : va_P D vwCl (CS D a s) H := hP
      have hl : lv_has ls 5 [(0, .ref (a 5)), (1, .int x16), (2, .int x17), (4, .int x18)] := hl
      have h : m_x6_wordNumber_J69 s (m_x6_wordNumber_L12 s n12) x16 x17 x18 = some o := h
      unfold m_x6_wordNumber_J69 at h
      refine lv_iconst (v := 0) hx hb dX6_wordNumber_69 (by decide) ?_
      exact J70 (x16, x17, x18, 0) _ _ _ ⟨hP, hS, lv_sub hl [0, 1, 2, 3] rfl, h⟩
    refine lv_iload hx hb dX6_wordNumber_12 (lv_at hl 4 rfl) ?_
    refine lv_aload_n hx hb dX6_wordNumber_14 rfl (lv_at hl 0 rfl) ?_
    refine va_get (D := D) (ci := 6) (v := .ref (a 6)) (C := RX6) (T := TX6) (N := 12) hx hb ht inX6 hown hK hP 5 CW_5 rfl 3 (by decide) (ht (.fieldLink RX6 23 "CloneVolumes$Reader" "words" "[C") fl_X6_23) (fun _ h9 => h9) rfl dX6_wordNumber_15 ?_
    refine va_alen (v := 179) hx hb hK hP 6 1 CW_6 (ty := .char) rfl rfl dX6_wordNumber_18 ?_
    refine lv_icmp_ge (tgt := 107) hx hb dX6_wordNumber_19 (by decide) (fun c19 => ?_) (fun c19 => ?_)
    · have h := if_t c19 h
      refine lv_iload_n hx hb dX6_wordNumber_107 rfl (lv_at hl 3 rfl) ?_
      refine lv_if_eq (tgt := 123) hx hb dX6_wordNumber_108 (by decide) (fun c20 => ?_) (fun c20 => ?_)
      · have h := if_t c20 h
        exact J123 () _ _ _ ⟨hP, hS, lv_sub hl [] rfl, h⟩
      · have h := if_f c20 h
        refine lv_iload_n hx hb dX6_wordNumber_111 rfl (lv_at hl 2 rfl) ?_
        refine lv_aload_n hx hb dX6_wordNumber_112 rfl (lv_at hl 0 rfl) ?_
        refine va_get (D := D) (ci := 6) (v := .int (gI s 109)) (C := RX6) (T := TX6) (N := 12) hx hb ht inX6 hown hK hP 5 CW_5 rfl 9 (by decide) (ht (.fieldLink RX6 88 "CloneVolumes$Reader" "stop" "I") fl_X6_88) (fun _ h9 => h9) rfl dX6_wordNumber_113 ?_
        refine lv_icmp_ne (tgt := 123) hx hb dX6_wordNumber_116 (by decide) (fun c21 => ?_) (fun c21 => ?_)
        · have h := if_f c21 h
          exact J123 () _ _ _ ⟨hP, hS, lv_sub hl [] rfl, h⟩
        · have h := if_t c21 h
          refine lv_iload_n hx hb dX6_wordNumber_119 rfl (lv_at hl 1 rfl) ?_
          refine lv_goto (tgt := 124) hx hb dX6_wordNumber_120 (by decide) ?_
          exact J124 x2 _ _ _ ⟨hP, hS, lv_sub hl [] rfl, h⟩
    · have h := if_f c19 h
      refine lv_aload_n hx hb dX6_wordNumber_22 rfl (lv_at hl 0 rfl) ?_
      refine va_get (D := D) (ci := 6) (v := .ref (a 6)) (C := RX6) (T := TX6) (N := 12) hx hb ht inX6 hown hK hP 5 CW_5 rfl 3 (by decide) (ht (.fieldLink RX6 23 "CloneVolumes$Reader" "words" "[C") fl_X6_23) (fun _ h9 => h9) rfl dX6_wordNumber_23 ?_
      refine lv_iload hx hb dX6_wordNumber_26 (lv_at hl 4 rfl) ?_
      obtain ⟨y22, ey22, iy22, h⟩ := rdI_e h
      refine ya_cald hx hb hK hP 6 1 CW_6 rfl ey22 iy22 dX6_wordNumber_28 ?_
      refine lv_bipush (v := 32) hx hb dX6_wordNumber_29 (by decide) ?_
      refine lv_icmp_eq (tgt := 77) hx hb dX6_wordNumber_31 (by decide) (fun c23 => ?_) (fun c23 => ?_)
      · have h := if_t c23 h
        refine lv_iload_n hx hb dX6_wordNumber_77 rfl (lv_at hl 3 rfl) ?_
        refine lv_if_eq (tgt := 91) hx hb dX6_wordNumber_78 (by decide) (fun c24 => ?_) (fun c24 => ?_)
        · have h := if_t c24 h
          exact J91 (x2, x5) _ _ _ ⟨hP, hS, lv_sub hl [0, 1, 4] rfl, h⟩
        · have h := if_f c24 h
          refine lv_iload_n hx hb dX6_wordNumber_81 rfl (lv_at hl 2 rfl) ?_
          refine lv_aload_n hx hb dX6_wordNumber_82 rfl (lv_at hl 0 rfl) ?_
          refine va_get (D := D) (ci := 6) (v := .int (gI s 109)) (C := RX6) (T := TX6) (N := 12) hx hb ht inX6 hown hK hP 5 CW_5 rfl 9 (by decide) (ht (.fieldLink RX6 88 "CloneVolumes$Reader" "stop" "I") fl_X6_88) (fun _ h9 => h9) rfl dX6_wordNumber_83 ?_
          refine lv_icmp_ne (tgt := 91) hx hb dX6_wordNumber_86 (by decide) (fun c25 => ?_) (fun c25 => ?_)
          · have h := if_f c25 h
            exact J91 (x2, x5) _ _ _ ⟨hP, hS, lv_sub hl [0, 1, 4] rfl, h⟩
          · have h := if_t c25 h
            refine lv_iload_n hx hb dX6_wordNumber_89 rfl (lv_at hl 1 rfl) ?_
            obtain rfl := Option.some.inj h
            exact W.iret (v := x2) hx hb hr (fun t ht hW => ⟨⟨_, (), rfl, rfl, trivial⟩, hS.F ht⟩) hS.2.2 dX6_wordNumber_90
      · have h := if_f c23 h
        refine lv_iload_n hx hb dX6_wordNumber_34 rfl (lv_at hl 3 rfl) ?_
        refine lv_if_eq (tgt := 69) hx hb dX6_wordNumber_35 (by decide) (fun c26 => ?_) (fun c26 => ?_)
        · have h := if_t c26 h
          exact J69 (x2, x3, x5) _ _ _ ⟨hP, hS, lv_sub hl [0, 1, 2, 4] rfl, h⟩
        · have h := if_f c26 h
          refine lv_iload_n hx hb dX6_wordNumber_38 rfl (lv_at hl 2 rfl) ?_
          refine lv_aload_n hx hb dX6_wordNumber_39 rfl (lv_at hl 0 rfl) ?_
          refine va_get (D := D) (ci := 6) (v := .int (gI s 109)) (C := RX6) (T := TX6) (N := 12) hx hb ht inX6 hown hK hP 5 CW_5 rfl 9 (by decide) (ht (.fieldLink RX6 88 "CloneVolumes$Reader" "stop" "I") fl_X6_88) (fun _ h9 => h9) rfl dX6_wordNumber_40 ?_
          refine lv_icmp_ge (tgt := 69) hx hb dX6_wordNumber_43 (by decide) (fun c27 => ?_) (fun c27 => ?_)
          · have h := if_t c27 h
            exact J69 (x2, x3, x5) _ _ _ ⟨hP, hS, lv_sub hl [0, 1, 2, 4] rfl, h⟩
          · have h := if_f c27 h
            refine lv_aload_n hx hb dX6_wordNumber_46 rfl (lv_at hl 0 rfl) ?_
            refine va_get (D := D) (ci := 6) (v := .ref (a 3)) (C := RX6) (T := TX6) (N := 12) hx hb ht inX6 hown hK hP 5 CW_5 rfl 2 (by decide) (ht (.fieldLink RX6 27 "CloneVolumes$Reader" "tape" "LCloneVolumes$Tape;") fl_X6_27) (fun _ h9 => h9) rfl dX6_wordNumber_47 ?_
            refine va_get (D := D) (ci := 9) (v := .ref (a 4)) (C := RX9) (T := TX9) (N := 2) hx hb ht inX9 hown hK hP 3 CW_3 rfl 0 (by decide) (ht (.fieldLink RX6 96 "CloneVolumes$Tape" "bytes" "[I") fl_X6_96) (fun _ h9 => h9) rfl dX6_wordNumber_50 ?_
            refine lv_iload_n hx hb dX6_wordNumber_53 rfl (lv_at hl 2 rfl) ?_
            obtain ⟨y28, ey28, iy28, h⟩ := rdI_e h
            refine ya_iald hx hb hK hP 4 0 CW_4 rfl ey28 iy28 dX6_wordNumber_54 ?_
            refine lv_aload_n hx hb dX6_wordNumber_55 rfl (lv_at hl 0 rfl) ?_
            refine va_get (D := D) (ci := 6) (v := .ref (a 6)) (C := RX6) (T := TX6) (N := 12) hx hb ht inX6 hown hK hP 5 CW_5 rfl 3 (by decide) (ht (.fieldLink RX6 23 "CloneVolumes$Reader" "words" "[C") fl_X6_23) (fun _ h9 => h9) rfl dX6_wordNumber_56 ?_
            refine lv_iload hx hb dX6_wordNumber_59 (lv_at hl 4 rfl) ?_
            obtain ⟨y29, ey29, iy29, h⟩ := rdI_e h
            refine ya_cald hx hb hK hP 6 1 CW_6 rfl ey29 iy29 dX6_wordNumber_61 ?_
            refine lv_icmp_ne (tgt := 69) hx hb dX6_wordNumber_62 (by decide) (fun c30 => ?_) (fun c30 => ?_)
            · have h := if_f c30 h
              exact J69 (x2, x3, x5) _ _ _ ⟨hP, hS, lv_sub hl [0, 1, 2, 4] rfl, h⟩
            · have h := if_t c30 h
              refine lv_iconst (v := 1) hx hb dX6_wordNumber_65 (by decide) ?_
              refine lv_goto (tgt := 70) hx hb dX6_wordNumber_66 (by decide) ?_
              exact J70 (x2, x3, x5, 1) _ _ _ ⟨hP, hS, lv_sub hl [0, 1, 2, 4] rfl, h⟩
  refine lv_iconst (v := 0) hx hb dX6_wordNumber_0 (by decide) ?_
  refine lv_istore_n (lv' := [(1, .int 0), (0, .ref (a 5))]) hx hb dX6_wordNumber_1 rfl hl (by decide) rfl (fun ls hl => ?_)
  refine lv_aload_n hx hb dX6_wordNumber_2 rfl (lv_at hl 1 rfl) ?_
  refine va_get (D := D) (ci := 6) (v := .int (gI s 108)) (C := RX6) (T := TX6) (N := 12) hx hb ht inX6 hown hK hP 5 CW_5 rfl 8 (by decide) (ht (.fieldLink RX6 51 "CloneVolumes$Reader" "start" "I") fl_X6_51) (fun _ h9 => h9) rfl dX6_wordNumber_3 ?_
  refine lv_istore_n (lv' := [(2, .int (gI s 108)), (1, .int 0), (0, .ref (a 5))]) hx hb dX6_wordNumber_6 rfl hl (by decide) rfl (fun ls hl => ?_)
  refine lv_iconst (v := 1) hx hb dX6_wordNumber_7 (by decide) ?_
  refine lv_istore_n (lv' := [(3, .int 1), (2, .int (gI s 108)), (1, .int 0), (0, .ref (a 5))]) hx hb dX6_wordNumber_8 rfl hl (by decide) rfl (fun ls hl => ?_)
  refine lv_iconst (v := 0) hx hb dX6_wordNumber_9 (by decide) ?_
  refine lv_istore (lv' := [(4, .int 0), (3, .int 1), (2, .int (gI s 108)), (1, .int 0), (0, .ref (a 5))]) hx hb dX6_wordNumber_10 hl (by decide) rfl (fun ls hl => ?_)
  exact J12 FU (0, gI s 108, 1, 0) _ _ _ ⟨hP, hS, lv_sub hl [4, 3, 2, 1, 0] rfl, h⟩
def m_x6_isBlank_J17 (s : MS) (x1 : Int32) : Option Int32 :=
  bo x1 (some x1)
def m_x6_isBlank_J12 (s : MS) (_u : Unit) : Option Int32 :=
  m_x6_isBlank_J17 s 1
def m_x6_isBlank (p0 : Int32) (s : MS) : Option Int32 :=
  if p0 = 10 then m_x6_isBlank_J12 s () else if p0 = 32 then m_x6_isBlank_J12 s () else m_x6_isBlank_J17 s 0
set_option maxHeartbeats 4000000 in
set_option maxRecDepth 100000 in
theorem k_x6_isBlank (l : Launch) (D : va_G) (a : Nat → Nat) (p0 : Int32) (s : MS) (o : Int32) (h : m_x6_isBlank p0 s = some o) : yRi l yX6_isBlank cX6_isBlank 1 (some .boolean) { frames := 0, cells := 0, slots := 0, locals := 0 } D [.int p0] (CS D a s) o := by
  refine Met.ofW (cc := cX6_isBlank) (maxL := 1) (ret := (some .boolean)) (by decide) rfl ?_
  intro p e s₀ m args below meth c s₁ B hml hv
  obtain ⟨rfl, ⟨hP, hK⟩, hN⟩ := hv
  have hx := B.exec
  have hb := B.bytes
  have hr := B.returns
  have hts := atoms_spec (ws := wz yX6_isBlank cX6_isBlank 1 (some .boolean)) B.pre
  have ht : ∀ w ∈ lw_gd, w.before _ s₀ = true := fun w h => hts w (List.mem_cons_of_mem _ h)
  have hown : s₀.vm.findClass RX6 = some m.cls := findClass_of_methodNamed B.named
  have hlocks := B.notSynchronized
  have hS : va_S (fun _ => False) s₀.heap s₀.heap [] := va_S.rf
  have hl := lv_entry ([.int p0]) (n := 1) (Nat.le_of_ble_eq_true rfl)
  rw [lg_entry_eq]
  generalize (lg_sl ([.int p0]) ++ List.replicate (1 - (lg_sl ([.int p0])).length) Slot.unset).toArray = ls at hl ⊢
  have hl : lv_has ls 1 [(0, .int p0)] := hl
  unfold m_x6_isBlank at h
  refine y_head (pcJ := 17) (σ := Int32) (fun u H locs ls => va_P D vwCl (CS D a s) H ∧ va_S (fun _ => False) s₀.heap H locs ∧ lv_has ls 1 [] ∧ m_x6_isBlank_J17 s u = some o) (fun u => [.int u]) (fun u H locs ls hI => ?_) (fun J17 => ?_)
  · obtain ⟨hP, hS, hl, h⟩ := hI
    obtain ⟨x1, rfl⟩ : ∃ z, z = u := ⟨u, rfl⟩
    have hP : va_P D vwCl (CS D a s) H := hP
    have hl : lv_has ls 1 [] := hl
    have h : m_x6_isBlank_J17 s x1 = some o := h
    unfold m_x6_isBlank_J17 at h
    obtain ⟨hb2, h⟩ := bo_e h
    obtain rfl := Option.some.inj h
    exact W.zret (v := x1) hx hb hr (bo_n hb2) (fun t ht hW => ⟨⟨_, (), rfl, rfl, trivial⟩, hS.F ht⟩) hS.2.2 dX6_isBlank_17
  refine y_head (pcJ := 12) (σ := Unit) (fun u H locs ls => va_P D vwCl (CS D a s) H ∧ va_S (fun _ => False) s₀.heap H locs ∧ lv_has ls 1 [] ∧ m_x6_isBlank_J12 s u = some o) (fun u => []) (fun u H locs ls hI => ?_) (fun J12 => ?_)
  · obtain ⟨hP, hS, hl, h⟩ := hI
    skip
    have hP : va_P D vwCl (CS D a s) H := hP
    have hl : lv_has ls 1 [] := hl
    have h : m_x6_isBlank_J12 s () = some o := h
    unfold m_x6_isBlank_J12 at h
    refine lv_iconst (v := 1) hx hb dX6_isBlank_12 (by decide) ?_
    refine lv_goto (tgt := 17) hx hb dX6_isBlank_13 (by decide) ?_
    exact J17 1 _ _ _ ⟨hP, hS, lv_sub hl [] rfl, h⟩
  refine lv_iload_n hx hb dX6_isBlank_0 rfl (lv_at hl 0 rfl) ?_
  refine lv_bipush (v := 10) hx hb dX6_isBlank_1 (by decide) ?_
  refine lv_icmp_eq (tgt := 12) hx hb dX6_isBlank_3 (by decide) (fun c3 => ?_) (fun c3 => ?_)
  · have h := if_t c3 h
    exact J12 () _ _ _ ⟨hP, hS, lv_sub hl [] rfl, h⟩
  · have h := if_f c3 h
    refine lv_iload_n hx hb dX6_isBlank_6 rfl (lv_at hl 0 rfl) ?_
    refine lv_bipush (v := 32) hx hb dX6_isBlank_7 (by decide) ?_
    refine lv_icmp_ne (tgt := 16) hx hb dX6_isBlank_9 (by decide) (fun c4 => ?_) (fun c4 => ?_)
    · have h := if_f c4 h
      refine lv_iconst (v := 0) hx hb dX6_isBlank_16 (by decide) ?_
      exact J17 0 _ _ _ ⟨hP, hS, lv_sub hl [] rfl, h⟩
    · have h := if_t c4 h
      exact J12 () _ _ _ ⟨hP, hS, lv_sub hl [] rfl, h⟩
def m_x6_advance_J300 (s1 : MS) : Option MS :=
  some s1
def m_x6_advance_J295 (s2 : MS) : Option MS :=
  stn (sI s2 107 4) (fun s3 => m_x6_advance_J300 s3)
def m_x6_advance_J281 (x4 : Int32) (s5 : MS) : Option MS :=
  bn (m_x6_isLetter x4 s5) (fun r7 => if r7 = 0 then bn (m_x6_isDigit x4 s5) (fun r10 => if r10 = 0 then m_x6_advance_J300 s5 else m_x6_advance_J295 s5) else m_x6_advance_J295 s5)
def m_x6_advance_J251 (s12 : MS) : Option MS :=
  bn (m_x9_at ((gI s12 108) - 1) s12) (fun r14 => if (gI s12 107) = 1 then m_x6_advance_J281 r14 s12 else if (gI s12 107) = 2 then m_x6_advance_J281 r14 s12 else m_x6_advance_J300 s12)
def m_x6_advance_b191 (lr191 : MS → Option MS) (s17 : MS) : Option MS :=
  if (gI s17 61) ≤ (gI s17 109) then m_x6_advance_J251 s17 else rdI (gA s17 4) 1600 (gI s17 109) (fun y19 => bn (m_x6_isDigit y19 s17) (fun r21 => if r21 = 0 then m_x6_advance_J251 s17 else stn (sI s17 109 ((gI s17 109) + 1)) (fun s23 => lr191 s23)))
def m_x6_advance_L191 (n : Nat) : MS → Option MS := lp (fun _ => none) (m_x6_advance_b191) n
def m_x6_advance_J165 (s24 : MS) : Option MS :=
  bn (m_x6_wordNumber s24) (fun r26 => stn (sI s24 110 r26) (fun s27 => m_x6_advance_J251 s27))
def m_x6_advance_b120 (lr120 : MS → Option MS) (s28 : MS) : Option MS :=
  if (gI s28 61) ≤ (gI s28 109) then m_x6_advance_J165 s28 else rdI (gA s28 4) 1600 (gI s28 109) (fun y30 => bn (m_x6_isLetter y30 s28) (fun r32 => if r32 = 0 then m_x6_advance_J165 s28 else stn (sI s28 109 ((gI s28 109) + 1)) (fun s34 => lr120 s34)))
def m_x6_advance_L120 (n : Nat) : MS → Option MS := lp (fun _ => none) (m_x6_advance_b120) n
def m_x6_advance_J61 (s35 : MS) : Option MS :=
  stn (sI s35 109 (gI s35 108)) (fun s36 => stn (sI s36 110 (-1)) (fun s37 => bn (m_x9_at (gI s37 108) s37) (fun r39 => stn (sI s37 111 r39) (fun s40 => if (gI s40 111) = (-1) then stn (sI s40 107 0) (fun s52 => m_x6_advance_J251 s52) else bn (m_x6_isLetter (gI s40 111) s40) (fun r43 => if r43 = 0 then bn (m_x6_isDigit (gI s40 111) s40) (fun r46 => if r46 = 0 then stn (sI s40 107 3) (fun s48 => stn (sI s48 109 ((gI s48 109) + 1)) (fun s49 => m_x6_advance_J251 s49)) else stn (sI s40 107 2) (fun s50 => m_x6_advance_L191 FU s50)) else stn (sI s40 107 1) (fun s51 => m_x6_advance_L120 FU s51))))))
def m_x6_advance_b16 (lr16 : MS → Option MS) (s53 : MS) : Option MS :=
  if (gI s53 61) ≤ (gI s53 108) then m_x6_advance_J61 s53 else rdI (gA s53 4) 1600 (gI s53 108) (fun y55 => bn (m_x6_isBlank y55 s53) (fun r57 => if r57 = 0 then m_x6_advance_J61 s53 else stn (sI s53 108 ((gI s53 108) + 1)) (fun s59 => lr16 s59)))
def m_x6_advance_L16 (n : Nat) : MS → Option MS := lp (fun _ => none) (m_x6_advance_b16) n
def m_x6_advance (s : MS) : Option MS :=
  if (gI s 100) = 0 then stn (sI s 108 (gI s 109)) (fun s61 => m_x6_advance_L16 FU s61) else some s
set_option maxHeartbeats 4000000 in
set_option maxRecDepth 100000 in
theorem k_x6_advance (l : Launch) (D : va_G) (a : Nat → Nat) (sz : Nat) (s : MS) (o : MS) (h : m_x6_advance s = some o) : yWv l yX6_advance cX6_advance 2 none { frames := 1, cells := 0, slots := 0, locals := 60 } D sz [.ref (a 5)] (CS D a s) (CS D a o) := by
  refine Met.ofW (cc := cX6_advance) (maxL := 2) (ret := none) (by decide) rfl ?_
  intro p e s₀ m args below meth c s₁ B hml hv
  obtain ⟨rfl, ⟨hsz, hP, hK, hD0⟩, hN⟩ := hv
  have hx := B.exec
  have hb := B.bytes
  have hr := B.returns
  have hts := atoms_spec (ws := wz yX6_advance cX6_advance 2 none) B.pre
  have ht : ∀ w ∈ lw_gd, w.before _ s₀ = true := fun w h => hts w (List.mem_cons_of_mem _ h)
  have hown : s₀.vm.findClass RX6 = some m.cls := findClass_of_methodNamed B.named
  have hlocks := B.notSynchronized
  subst hsz
  have hD := hD0.self (sz := s₀.heap.size)
  generalize hAe : va_A (CS D a s) s₀.heap.size = A at hD ⊢
  have hA : ∀ q : Nat, s₀.heap.size ≤ q → A q := fun q h => by rw [← hAe]; exact Or.inr h
  have hS : va_S A s₀.heap s₀.heap [] := va_S.rf
  have hDD : ∀ t : MS, va_D A (CS D a t) := fun t => CW_D t hD
  have hl := lv_entry ([.ref (a 5)]) (n := 2) (Nat.le_of_ble_eq_true rfl)
  rw [lg_entry_eq]
  generalize (lg_sl ([.ref (a 5)]) ++ List.replicate (2 - (lg_sl ([.ref (a 5)])).length) Slot.unset).toArray = ls at hl ⊢
  have hl : lv_has ls 2 [(0, .ref (a 5))] := hl
  unfold m_x6_advance at h
  refine y_head (pcJ := 300) (σ := MS) (fun u H locs ls => va_P D vwCl (CS D a u) H ∧ va_S A s₀.heap H locs ∧ lv_has ls 2 [] ∧ m_x6_advance_J300 u = some o) (fun u => []) (fun u H locs ls hI => ?_) (fun J300 => ?_)
  · obtain ⟨hP, hS, hl, h⟩ := hI
    obtain ⟨s1, rfl⟩ : ∃ z, z = u := ⟨u, rfl⟩
    have hP : va_P D vwCl (CS D a s1) H := hP
    have hl : lv_has ls 2 [] := hl
    have h : m_x6_advance_J300 s1 = some o := h
    unfold m_x6_advance_J300 at h
    obtain rfl := Option.some.inj h
    exact W.vret hx hb hr (fun t ht hW => ⟨⟨(), rfl, trivial, by rw [ht]; exact hP, va_K.moved hW.alike hK, hDD _⟩, hS.F ht⟩) hS.2.2 dX6_advance_300
  refine y_head (pcJ := 295) (σ := MS) (fun u H locs ls => va_P D vwCl (CS D a u) H ∧ va_S A s₀.heap H locs ∧ lv_has ls 2 [(0, .ref (a 5))] ∧ m_x6_advance_J295 u = some o) (fun u => []) (fun u H locs ls hI => ?_) (fun J295 => ?_)
  · obtain ⟨hP, hS, hl, h⟩ := hI
    obtain ⟨s2, rfl⟩ : ∃ z, z = u := ⟨u, rfl⟩
    have hP : va_P D vwCl (CS D a s2) H := hP
    have hl : lv_has ls 2 [(0, .ref (a 5))] := hl
    have h : m_x6_advance_J295 s2 = some o := h
    unfold m_x6_advance_J295 at h
    refine lv_aload_n hx hb dX6_advance_295 rfl (lv_at hl 0 rfl) ?_
    refine lv_iconst (v := 4) hx hb dX6_advance_296 (by decide) ?_
    refine ya_put (D := D) (ci := 6) (v := .int 4) (ty := .int) (C := RX6) (T := TX6) (N := 12) hx hb ht inX6 tyX6 tyX6_ok nmX6 hown hK hP (hDD _) hS 5 CW_5 rfl 7 (by decide) (ht (.fieldLink RX6 44 "CloneVolumes$Reader" "kind" "I") fl_X6_44) (fun _ h9 => h9) rfl (by decide +kernel) rfl rfl (Nat.le_of_ble_eq_true rfl) dX6_advance_297 (CW_w5_7 _) (fun H locs hP hS => ?_)
    obtain ⟨s3, hs3, h⟩ := st_e h
    rw [hs3] at hP
    exact J300 s3 _ _ _ ⟨hP, hS, lv_sub hl [] rfl, h⟩
  refine y_head (pcJ := 281) (σ := Int32 × MS) (fun u H locs ls => va_P D vwCl (CS D a u.2) H ∧ va_S A s₀.heap H locs ∧ lv_has ls 2 [(0, .ref (a 5)), (1, .int u.1)] ∧ m_x6_advance_J281 u.1 u.2 = some o) (fun u => []) (fun u H locs ls hI => ?_) (fun J281 => ?_)
  · obtain ⟨hP, hS, hl, h⟩ := hI
    obtain ⟨x4, s5⟩ := u
    have hP : va_P D vwCl (CS D a s5) H := hP
    have hl : lv_has ls 2 [(0, .ref (a 5)), (1, .int x4)] := hl
    have h : m_x6_advance_J281 x4 s5 = some o := h
    unfold m_x6_advance_J281 at h
    refine lv_iload_n hx hb dX6_advance_281 rfl (lv_at hl 1 rfl) ?_
    obtain ⟨r7, hc6, h⟩ := bn_e h
    refine ycS (As := [.int x4]) (rest := []) (n := 1) ⟨hx, hb, hml, hown, ht⟩ (k_x6_isLetter l D a x4 _ _ hc6) (zgT ml_X6_111 st_X6_isLetter in_X6 co_X6_isLetter) rfl rfl (by decide +kernel) ⟨Nat.le_of_ble_eq_true rfl, Nat.le_of_ble_eq_true rfl⟩ hN hK hP hS rfl hl.1 rfl (Nat.le_of_ble_eq_true rfl) dX6_advance_282 ⟨Nat.le_of_ble_eq_true rfl, Nat.le_of_ble_eq_true rfl⟩ (fun H locs hP hS => ?_)
    refine lv_if_ne (tgt := 295) hx hb dX6_advance_285 (by decide) (fun c8 => ?_) (fun c8 => ?_)
    · have h := if_f c8 h
      exact J295 s5 _ _ _ ⟨hP, hS, lv_sub hl [0] rfl, h⟩
    · have h := if_t c8 h
      refine lv_iload_n hx hb dX6_advance_288 rfl (lv_at hl 1 rfl) ?_
      obtain ⟨r10, hc9, h⟩ := bn_e h
      refine ycS (As := [.int x4]) (rest := []) (n := 1) ⟨hx, hb, hml, hown, ht⟩ (k_x6_isDigit l D a x4 _ _ hc9) (zgT ml_X6_118 st_X6_isDigit in_X6 co_X6_isDigit) rfl rfl (by decide +kernel) ⟨Nat.le_of_ble_eq_true rfl, Nat.le_of_ble_eq_true rfl⟩ hN hK hP hS rfl hl.1 rfl (Nat.le_of_ble_eq_true rfl) dX6_advance_289 ⟨Nat.le_of_ble_eq_true rfl, Nat.le_of_ble_eq_true rfl⟩ (fun H locs hP hS => ?_)
      refine lv_if_eq (tgt := 300) hx hb dX6_advance_292 (by decide) (fun c11 => ?_) (fun c11 => ?_)
      · have h := if_t c11 h
        exact J300 s5 _ _ _ ⟨hP, hS, lv_sub hl [] rfl, h⟩
      · have h := if_f c11 h
        exact J295 s5 _ _ _ ⟨hP, hS, lv_sub hl [0] rfl, h⟩
  refine y_head (pcJ := 251) (σ := MS) (fun u H locs ls => va_P D vwCl (CS D a u) H ∧ va_S A s₀.heap H locs ∧ lv_has ls 2 [(0, .ref (a 5))] ∧ m_x6_advance_J251 u = some o) (fun u => []) (fun u H locs ls hI => ?_) (fun J251 => ?_)
  · obtain ⟨hP, hS, hl, h⟩ := hI
    obtain ⟨s12, rfl⟩ : ∃ z, z = u := ⟨u, rfl⟩
    have hP : va_P D vwCl (CS D a s12) H := hP
    have hl : lv_has ls 2 [(0, .ref (a 5))] := hl
    have h : m_x6_advance_J251 s12 = some o := h
    unfold m_x6_advance_J251 at h
    refine lv_aload_n hx hb dX6_advance_251 rfl (lv_at hl 0 rfl) ?_
    refine va_get (D := D) (ci := 6) (v := .ref (a 3)) (C := RX6) (T := TX6) (N := 12) hx hb ht inX6 hown hK hP 5 CW_5 rfl 2 (by decide) (ht (.fieldLink RX6 27 "CloneVolumes$Reader" "tape" "LCloneVolumes$Tape;") fl_X6_27) (fun _ h9 => h9) rfl dX6_advance_252 ?_
    refine lv_aload_n hx hb dX6_advance_255 rfl (lv_at hl 0 rfl) ?_
    refine va_get (D := D) (ci := 6) (v := .int (gI s12 108)) (C := RX6) (T := TX6) (N := 12) hx hb ht inX6 hown hK hP 5 CW_5 rfl 8 (by decide) (ht (.fieldLink RX6 51 "CloneVolumes$Reader" "start" "I") fl_X6_51) (fun _ h9 => h9) rfl dX6_advance_256 ?_
    refine lv_iconst (v := 1) hx hb dX6_advance_259 (by decide) ?_
    refine lv_isub hx hb dX6_advance_260 ?_
    obtain ⟨r14, hc13, h⟩ := bn_e h
    refine ycV (As := [.int ((gI s12 108) - 1)]) (rest := []) (C := RX9) (n := 1) ⟨hx, hb, hml, hown, ht⟩ (k_x9_at l D a ((gI s12 108) - 1) _ _ hc13) (zgV ml_X6_104 im_X9_at se_X9_at in_X9 co_X9_at) rfl rfl (by decide +kernel) ⟨Nat.le_of_ble_eq_true rfl, Nat.le_of_ble_eq_true rfl⟩ hN hK hP hS 3 CW_3 rfl rfl rfl hl.1 rfl (Nat.le_of_ble_eq_true rfl) dX6_advance_261 ⟨Nat.le_of_ble_eq_true rfl, Nat.le_of_ble_eq_true rfl⟩ (fun H locs hP hS => ?_)
    refine lv_istore_n (lv' := [(1, .int r14), (0, .ref (a 5))]) hx hb dX6_advance_264 rfl hl (by decide) rfl (fun ls hl => ?_)
    refine lv_aload_n hx hb dX6_advance_265 rfl (lv_at hl 1 rfl) ?_
    refine va_get (D := D) (ci := 6) (v := .int (gI s12 107)) (C := RX6) (T := TX6) (N := 12) hx hb ht inX6 hown hK hP 5 CW_5 rfl 7 (by decide) (ht (.fieldLink RX6 44 "CloneVolumes$Reader" "kind" "I") fl_X6_44) (fun _ h9 => h9) rfl dX6_advance_266 ?_
    refine lv_iconst (v := 1) hx hb dX6_advance_269 (by decide) ?_
    refine lv_icmp_eq (tgt := 281) hx hb dX6_advance_270 (by decide) (fun c15 => ?_) (fun c15 => ?_)
    · have h := if_t c15 h
      exact J281 (r14, s12) _ _ _ ⟨hP, hS, lv_sub hl [1, 0] rfl, h⟩
    · have h := if_f c15 h
      refine lv_aload_n hx hb dX6_advance_273 rfl (lv_at hl 1 rfl) ?_
      refine va_get (D := D) (ci := 6) (v := .int (gI s12 107)) (C := RX6) (T := TX6) (N := 12) hx hb ht inX6 hown hK hP 5 CW_5 rfl 7 (by decide) (ht (.fieldLink RX6 44 "CloneVolumes$Reader" "kind" "I") fl_X6_44) (fun _ h9 => h9) rfl dX6_advance_274 ?_
      refine lv_iconst (v := 2) hx hb dX6_advance_277 (by decide) ?_
      refine lv_icmp_ne (tgt := 300) hx hb dX6_advance_278 (by decide) (fun c16 => ?_) (fun c16 => ?_)
      · have h := if_f c16 h
        exact J300 s12 _ _ _ ⟨hP, hS, lv_sub hl [] rfl, h⟩
      · have h := if_t c16 h
        exact J281 (r14, s12) _ _ _ ⟨hP, hS, lv_sub hl [1, 0] rfl, h⟩
  refine y_loop (pcJ := 191) (σ := MS) (fun n u H locs ls => va_P D vwCl (CS D a u) H ∧ va_S A s₀.heap H locs ∧ lv_has ls 2 [(0, .ref (a 5))] ∧ m_x6_advance_L191 n u = some o) (fun u => []) (fun u H locs ls hI => by obtain ⟨_, _, _, h⟩ := hI; cases h) (fun n191 ih191 u H locs ls hI => ?_) (fun J191 => ?_)
  · obtain ⟨hP, hS, hl, h⟩ := hI
    obtain ⟨s17, rfl⟩ : ∃ z, z = u := ⟨u, rfl⟩
    have hP : va_P D vwCl (CS D a s17) H := hP
    have hl : lv_has ls 2 [(0, .ref (a 5))] := hl
    have h : m_x6_advance_b191 (m_x6_advance_L191 n191) s17 = some o := h
    unfold m_x6_advance_b191 at h
    refine lv_aload_n hx hb dX6_advance_191 rfl (lv_at hl 0 rfl) ?_
    refine va_get (D := D) (ci := 6) (v := .int (gI s17 109)) (C := RX6) (T := TX6) (N := 12) hx hb ht inX6 hown hK hP 5 CW_5 rfl 9 (by decide) (ht (.fieldLink RX6 88 "CloneVolumes$Reader" "stop" "I") fl_X6_88) (fun _ h9 => h9) rfl dX6_advance_192 ?_
    refine lv_aload_n hx hb dX6_advance_195 rfl (lv_at hl 0 rfl) ?_
    refine va_get (D := D) (ci := 6) (v := .ref (a 3)) (C := RX6) (T := TX6) (N := 12) hx hb ht inX6 hown hK hP 5 CW_5 rfl 2 (by decide) (ht (.fieldLink RX6 27 "CloneVolumes$Reader" "tape" "LCloneVolumes$Tape;") fl_X6_27) (fun _ h9 => h9) rfl dX6_advance_196 ?_
    refine va_get (D := D) (ci := 9) (v := .int (gI s17 61)) (C := RX9) (T := TX9) (N := 2) hx hb ht inX9 hown hK hP 3 CW_3 rfl 1 (by decide) (ht (.fieldLink RX6 91 "CloneVolumes$Tape" "length" "I") fl_X6_91) (fun _ h9 => h9) rfl dX6_advance_199 ?_
    refine lv_icmp_ge (tgt := 251) hx hb dX6_advance_202 (by decide) (fun c18 => ?_) (fun c18 => ?_)
    · have h := if_t c18 h
      exact J251 s17 _ _ _ ⟨hP, hS, lv_sub hl [0] rfl, h⟩
    · have h := if_f c18 h
      refine lv_aload_n hx hb dX6_advance_205 rfl (lv_at hl 0 rfl) ?_
      refine va_get (D := D) (ci := 6) (v := .ref (a 3)) (C := RX6) (T := TX6) (N := 12) hx hb ht inX6 hown hK hP 5 CW_5 rfl 2 (by decide) (ht (.fieldLink RX6 27 "CloneVolumes$Reader" "tape" "LCloneVolumes$Tape;") fl_X6_27) (fun _ h9 => h9) rfl dX6_advance_206 ?_
      refine va_get (D := D) (ci := 9) (v := .ref (a 4)) (C := RX9) (T := TX9) (N := 2) hx hb ht inX9 hown hK hP 3 CW_3 rfl 0 (by decide) (ht (.fieldLink RX6 96 "CloneVolumes$Tape" "bytes" "[I") fl_X6_96) (fun _ h9 => h9) rfl dX6_advance_209 ?_
      refine lv_aload_n hx hb dX6_advance_212 rfl (lv_at hl 0 rfl) ?_
      refine va_get (D := D) (ci := 6) (v := .int (gI s17 109)) (C := RX6) (T := TX6) (N := 12) hx hb ht inX6 hown hK hP 5 CW_5 rfl 9 (by decide) (ht (.fieldLink RX6 88 "CloneVolumes$Reader" "stop" "I") fl_X6_88) (fun _ h9 => h9) rfl dX6_advance_213 ?_
      obtain ⟨y19, ey19, iy19, h⟩ := rdI_e h
      refine ya_iald hx hb hK hP 4 0 CW_4 rfl ey19 iy19 dX6_advance_216 ?_
      obtain ⟨r21, hc20, h⟩ := bn_e h
      refine ycS (As := [.int y19]) (rest := []) (n := 1) ⟨hx, hb, hml, hown, ht⟩ (k_x6_isDigit l D a y19 _ _ hc20) (zgT ml_X6_118 st_X6_isDigit in_X6 co_X6_isDigit) rfl rfl (by decide +kernel) ⟨Nat.le_of_ble_eq_true rfl, Nat.le_of_ble_eq_true rfl⟩ hN hK hP hS rfl hl.1 rfl (Nat.le_of_ble_eq_true rfl) dX6_advance_217 ⟨Nat.le_of_ble_eq_true rfl, Nat.le_of_ble_eq_true rfl⟩ (fun H locs hP hS => ?_)
      refine lv_if_eq (tgt := 251) hx hb dX6_advance_220 (by decide) (fun c22 => ?_) (fun c22 => ?_)
      · have h := if_t c22 h
        exact J251 s17 _ _ _ ⟨hP, hS, lv_sub hl [0] rfl, h⟩
      · have h := if_f c22 h
        refine lv_aload_n hx hb dX6_advance_223 rfl (lv_at hl 0 rfl) ?_
        refine lv_dup hx hb dX6_advance_224 rfl ?_
        refine va_get (D := D) (ci := 6) (v := .int (gI s17 109)) (C := RX6) (T := TX6) (N := 12) hx hb ht inX6 hown hK hP 5 CW_5 rfl 9 (by decide) (ht (.fieldLink RX6 88 "CloneVolumes$Reader" "stop" "I") fl_X6_88) (fun _ h9 => h9) rfl dX6_advance_225 ?_
        refine lv_iconst (v := 1) hx hb dX6_advance_228 (by decide) ?_
        refine lv_iadd hx hb dX6_advance_229 ?_
        refine ya_put (D := D) (ci := 6) (v := .int ((gI s17 109) + 1)) (ty := .int) (C := RX6) (T := TX6) (N := 12) hx hb ht inX6 tyX6 tyX6_ok nmX6 hown hK hP (hDD _) hS 5 CW_5 rfl 9 (by decide) (ht (.fieldLink RX6 88 "CloneVolumes$Reader" "stop" "I") fl_X6_88) (fun _ h9 => h9) rfl (by decide +kernel) rfl rfl (Nat.le_of_ble_eq_true rfl) dX6_advance_230 (CW_w5_9 _) (fun H locs hP hS => ?_)
        obtain ⟨s23, hs23, h⟩ := st_e h
        rw [hs23] at hP
        refine lv_goto (tgt := 191) hx hb dX6_advance_233 (by decide) ?_
        exact ih191 s23 _ _ _ ⟨hP, hS, lv_sub hl [0] rfl, h⟩
  refine y_head (pcJ := 165) (σ := MS) (fun u H locs ls => va_P D vwCl (CS D a u) H ∧ va_S A s₀.heap H locs ∧ lv_has ls 2 [(0, .ref (a 5))] ∧ m_x6_advance_J165 u = some o) (fun u => []) (fun u H locs ls hI => ?_) (fun J165 => ?_)
  · obtain ⟨hP, hS, hl, h⟩ := hI
    obtain ⟨s24, rfl⟩ : ∃ z, z = u := ⟨u, rfl⟩
    have hP : va_P D vwCl (CS D a s24) H := hP
    have hl : lv_has ls 2 [(0, .ref (a 5))] := hl
    have h : m_x6_advance_J165 s24 = some o := h
    unfold m_x6_advance_J165 at h
    refine lv_aload_n hx hb dX6_advance_165 rfl (lv_at hl 0 rfl) ?_
    refine lv_aload_n hx hb dX6_advance_166 rfl (lv_at hl 0 rfl) ?_
    obtain ⟨r26, hc25, h⟩ := bn_e h
    refine ycV (As := []) (rest := [.ref (a 5)]) (C := RX6) (n := 0) ⟨hx, hb, hml, hown, ht⟩ (k_x6_wordNumber l D a _ _ hc25) (zgV ml_X6_114 im_X6_wordNumber se_X6_wordNumber in_X6 co_X6_wordNumber) rfl rfl (by decide +kernel) ⟨Nat.le_of_ble_eq_true rfl, Nat.le_of_ble_eq_true rfl⟩ hN hK hP hS 5 CW_5 rfl rfl rfl hl.1 rfl (Nat.le_of_ble_eq_true rfl) dX6_advance_167 ⟨Nat.le_of_ble_eq_true rfl, Nat.le_of_ble_eq_true rfl⟩ (fun H locs hP hS => ?_)
    refine ya_put (D := D) (ci := 6) (v := .int r26) (ty := .int) (C := RX6) (T := TX6) (N := 12) hx hb ht inX6 tyX6 tyX6_ok nmX6 hown hK hP (hDD _) hS 5 CW_5 rfl 10 (by decide) (ht (.fieldLink RX6 72 "CloneVolumes$Reader" "word" "I") fl_X6_72) (fun _ h9 => h9) rfl (by decide +kernel) rfl rfl (Nat.le_of_ble_eq_true rfl) dX6_advance_170 (CW_w5_10 _) (fun H locs hP hS => ?_)
    obtain ⟨s27, hs27, h⟩ := st_e h
    rw [hs27] at hP
    refine lv_goto (tgt := 251) hx hb dX6_advance_173 (by decide) ?_
    exact J251 s27 _ _ _ ⟨hP, hS, lv_sub hl [0] rfl, h⟩
  refine y_loop (pcJ := 120) (σ := MS) (fun n u H locs ls => va_P D vwCl (CS D a u) H ∧ va_S A s₀.heap H locs ∧ lv_has ls 2 [(0, .ref (a 5))] ∧ m_x6_advance_L120 n u = some o) (fun u => []) (fun u H locs ls hI => by obtain ⟨_, _, _, h⟩ := hI; cases h) (fun n120 ih120 u H locs ls hI => ?_) (fun J120 => ?_)
  · obtain ⟨hP, hS, hl, h⟩ := hI
    obtain ⟨s28, rfl⟩ : ∃ z, z = u := ⟨u, rfl⟩
    have hP : va_P D vwCl (CS D a s28) H := hP
    have hl : lv_has ls 2 [(0, .ref (a 5))] := hl
    have h : m_x6_advance_b120 (m_x6_advance_L120 n120) s28 = some o := h
    unfold m_x6_advance_b120 at h
    refine lv_aload_n hx hb dX6_advance_120 rfl (lv_at hl 0 rfl) ?_
    refine va_get (D := D) (ci := 6) (v := .int (gI s28 109)) (C := RX6) (T := TX6) (N := 12) hx hb ht inX6 hown hK hP 5 CW_5 rfl 9 (by decide) (ht (.fieldLink RX6 88 "CloneVolumes$Reader" "stop" "I") fl_X6_88) (fun _ h9 => h9) rfl dX6_advance_121 ?_
    refine lv_aload_n hx hb dX6_advance_124 rfl (lv_at hl 0 rfl) ?_
    refine va_get (D := D) (ci := 6) (v := .ref (a 3)) (C := RX6) (T := TX6) (N := 12) hx hb ht inX6 hown hK hP 5 CW_5 rfl 2 (by decide) (ht (.fieldLink RX6 27 "CloneVolumes$Reader" "tape" "LCloneVolumes$Tape;") fl_X6_27) (fun _ h9 => h9) rfl dX6_advance_125 ?_
    refine va_get (D := D) (ci := 9) (v := .int (gI s28 61)) (C := RX9) (T := TX9) (N := 2) hx hb ht inX9 hown hK hP 3 CW_3 rfl 1 (by decide) (ht (.fieldLink RX6 91 "CloneVolumes$Tape" "length" "I") fl_X6_91) (fun _ h9 => h9) rfl dX6_advance_128 ?_
    refine lv_icmp_ge (tgt := 165) hx hb dX6_advance_131 (by decide) (fun c29 => ?_) (fun c29 => ?_)
    · have h := if_t c29 h
      exact J165 s28 _ _ _ ⟨hP, hS, lv_sub hl [0] rfl, h⟩
    · have h := if_f c29 h
      refine lv_aload_n hx hb dX6_advance_134 rfl (lv_at hl 0 rfl) ?_
      refine va_get (D := D) (ci := 6) (v := .ref (a 3)) (C := RX6) (T := TX6) (N := 12) hx hb ht inX6 hown hK hP 5 CW_5 rfl 2 (by decide) (ht (.fieldLink RX6 27 "CloneVolumes$Reader" "tape" "LCloneVolumes$Tape;") fl_X6_27) (fun _ h9 => h9) rfl dX6_advance_135 ?_
      refine va_get (D := D) (ci := 9) (v := .ref (a 4)) (C := RX9) (T := TX9) (N := 2) hx hb ht inX9 hown hK hP 3 CW_3 rfl 0 (by decide) (ht (.fieldLink RX6 96 "CloneVolumes$Tape" "bytes" "[I") fl_X6_96) (fun _ h9 => h9) rfl dX6_advance_138 ?_
      refine lv_aload_n hx hb dX6_advance_141 rfl (lv_at hl 0 rfl) ?_
      refine va_get (D := D) (ci := 6) (v := .int (gI s28 109)) (C := RX6) (T := TX6) (N := 12) hx hb ht inX6 hown hK hP 5 CW_5 rfl 9 (by decide) (ht (.fieldLink RX6 88 "CloneVolumes$Reader" "stop" "I") fl_X6_88) (fun _ h9 => h9) rfl dX6_advance_142 ?_
      obtain ⟨y30, ey30, iy30, h⟩ := rdI_e h
      refine ya_iald hx hb hK hP 4 0 CW_4 rfl ey30 iy30 dX6_advance_145 ?_
      obtain ⟨r32, hc31, h⟩ := bn_e h
      refine ycS (As := [.int y30]) (rest := []) (n := 1) ⟨hx, hb, hml, hown, ht⟩ (k_x6_isLetter l D a y30 _ _ hc31) (zgT ml_X6_111 st_X6_isLetter in_X6 co_X6_isLetter) rfl rfl (by decide +kernel) ⟨Nat.le_of_ble_eq_true rfl, Nat.le_of_ble_eq_true rfl⟩ hN hK hP hS rfl hl.1 rfl (Nat.le_of_ble_eq_true rfl) dX6_advance_146 ⟨Nat.le_of_ble_eq_true rfl, Nat.le_of_ble_eq_true rfl⟩ (fun H locs hP hS => ?_)
      refine lv_if_eq (tgt := 165) hx hb dX6_advance_149 (by decide) (fun c33 => ?_) (fun c33 => ?_)
      · have h := if_t c33 h
        exact J165 s28 _ _ _ ⟨hP, hS, lv_sub hl [0] rfl, h⟩
      · have h := if_f c33 h
        refine lv_aload_n hx hb dX6_advance_152 rfl (lv_at hl 0 rfl) ?_
        refine lv_dup hx hb dX6_advance_153 rfl ?_
        refine va_get (D := D) (ci := 6) (v := .int (gI s28 109)) (C := RX6) (T := TX6) (N := 12) hx hb ht inX6 hown hK hP 5 CW_5 rfl 9 (by decide) (ht (.fieldLink RX6 88 "CloneVolumes$Reader" "stop" "I") fl_X6_88) (fun _ h9 => h9) rfl dX6_advance_154 ?_
        refine lv_iconst (v := 1) hx hb dX6_advance_157 (by decide) ?_
        refine lv_iadd hx hb dX6_advance_158 ?_
        refine ya_put (D := D) (ci := 6) (v := .int ((gI s28 109) + 1)) (ty := .int) (C := RX6) (T := TX6) (N := 12) hx hb ht inX6 tyX6 tyX6_ok nmX6 hown hK hP (hDD _) hS 5 CW_5 rfl 9 (by decide) (ht (.fieldLink RX6 88 "CloneVolumes$Reader" "stop" "I") fl_X6_88) (fun _ h9 => h9) rfl (by decide +kernel) rfl rfl (Nat.le_of_ble_eq_true rfl) dX6_advance_159 (CW_w5_9 _) (fun H locs hP hS => ?_)
        obtain ⟨s34, hs34, h⟩ := st_e h
        rw [hs34] at hP
        refine lv_goto (tgt := 120) hx hb dX6_advance_162 (by decide) ?_
        exact ih120 s34 _ _ _ ⟨hP, hS, lv_sub hl [0] rfl, h⟩
  refine y_head (pcJ := 61) (σ := MS) (fun u H locs ls => va_P D vwCl (CS D a u) H ∧ va_S A s₀.heap H locs ∧ lv_has ls 2 [(0, .ref (a 5))] ∧ m_x6_advance_J61 u = some o) (fun u => []) (fun u H locs ls hI => ?_) (fun J61 => ?_)
  · obtain ⟨hP, hS, hl, h⟩ := hI
    obtain ⟨s35, rfl⟩ : ∃ z, z = u := ⟨u, rfl⟩
    have hP : va_P D vwCl (CS D a s35) H := hP
    have hl : lv_has ls 2 [(0, .ref (a 5))] := hl
    have h : m_x6_advance_J61 s35 = some o := h
    unfold m_x6_advance_J61 at h
    refine lv_aload_n hx hb dX6_advance_61 rfl (lv_at hl 0 rfl) ?_
    refine lv_aload_n hx hb dX6_advance_62 rfl (lv_at hl 0 rfl) ?_
    refine va_get (D := D) (ci := 6) (v := .int (gI s35 108)) (C := RX6) (T := TX6) (N := 12) hx hb ht inX6 hown hK hP 5 CW_5 rfl 8 (by decide) (ht (.fieldLink RX6 51 "CloneVolumes$Reader" "start" "I") fl_X6_51) (fun _ h9 => h9) rfl dX6_advance_63 ?_
    refine ya_put (D := D) (ci := 6) (v := .int (gI s35 108)) (ty := .int) (C := RX6) (T := TX6) (N := 12) hx hb ht inX6 tyX6 tyX6_ok nmX6 hown hK hP (hDD _) hS 5 CW_5 rfl 9 (by decide) (ht (.fieldLink RX6 88 "CloneVolumes$Reader" "stop" "I") fl_X6_88) (fun _ h9 => h9) rfl (by decide +kernel) rfl rfl (Nat.le_of_ble_eq_true rfl) dX6_advance_66 (CW_w5_9 _) (fun H locs hP hS => ?_)
    obtain ⟨s36, hs36, h⟩ := st_e h
    rw [hs36] at hP
    refine lv_aload_n hx hb dX6_advance_69 rfl (lv_at hl 0 rfl) ?_
    refine lv_iconst (v := (-1)) hx hb dX6_advance_70 (by decide) ?_
    refine ya_put (D := D) (ci := 6) (v := .int (-1)) (ty := .int) (C := RX6) (T := TX6) (N := 12) hx hb ht inX6 tyX6 tyX6_ok nmX6 hown hK hP (hDD _) hS 5 CW_5 rfl 10 (by decide) (ht (.fieldLink RX6 72 "CloneVolumes$Reader" "word" "I") fl_X6_72) (fun _ h9 => h9) rfl (by decide +kernel) rfl rfl (Nat.le_of_ble_eq_true rfl) dX6_advance_71 (CW_w5_10 _) (fun H locs hP hS => ?_)
    obtain ⟨s37, hs37, h⟩ := st_e h
    rw [hs37] at hP
    refine lv_aload_n hx hb dX6_advance_74 rfl (lv_at hl 0 rfl) ?_
    refine lv_aload_n hx hb dX6_advance_75 rfl (lv_at hl 0 rfl) ?_
    refine va_get (D := D) (ci := 6) (v := .ref (a 3)) (C := RX6) (T := TX6) (N := 12) hx hb ht inX6 hown hK hP 5 CW_5 rfl 2 (by decide) (ht (.fieldLink RX6 27 "CloneVolumes$Reader" "tape" "LCloneVolumes$Tape;") fl_X6_27) (fun _ h9 => h9) rfl dX6_advance_76 ?_
    refine lv_aload_n hx hb dX6_advance_79 rfl (lv_at hl 0 rfl) ?_
    refine va_get (D := D) (ci := 6) (v := .int (gI s37 108)) (C := RX6) (T := TX6) (N := 12) hx hb ht inX6 hown hK hP 5 CW_5 rfl 8 (by decide) (ht (.fieldLink RX6 51 "CloneVolumes$Reader" "start" "I") fl_X6_51) (fun _ h9 => h9) rfl dX6_advance_80 ?_
    obtain ⟨r39, hc38, h⟩ := bn_e h
    refine ycV (As := [.int (gI s37 108)]) (rest := [.ref (a 5)]) (C := RX9) (n := 1) ⟨hx, hb, hml, hown, ht⟩ (k_x9_at l D a (gI s37 108) _ _ hc38) (zgV ml_X6_104 im_X9_at se_X9_at in_X9 co_X9_at) rfl rfl (by decide +kernel) ⟨Nat.le_of_ble_eq_true rfl, Nat.le_of_ble_eq_true rfl⟩ hN hK hP hS 3 CW_3 rfl rfl rfl hl.1 rfl (Nat.le_of_ble_eq_true rfl) dX6_advance_83 ⟨Nat.le_of_ble_eq_true rfl, Nat.le_of_ble_eq_true rfl⟩ (fun H locs hP hS => ?_)
    refine ya_put (D := D) (ci := 6) (v := .int r39) (ty := .int) (C := RX6) (T := TX6) (N := 12) hx hb ht inX6 tyX6 tyX6_ok nmX6 hown hK hP (hDD _) hS 5 CW_5 rfl 11 (by decide) (ht (.fieldLink RX6 108 "CloneVolumes$Reader" "sign" "I") fl_X6_108) (fun _ h9 => h9) rfl (by decide +kernel) rfl rfl (Nat.le_of_ble_eq_true rfl) dX6_advance_86 (CW_w5_11 _) (fun H locs hP hS => ?_)
    obtain ⟨s40, hs40, h⟩ := st_e h
    rw [hs40] at hP
    refine lv_aload_n hx hb dX6_advance_89 rfl (lv_at hl 0 rfl) ?_
    refine va_get (D := D) (ci := 6) (v := .int (gI s40 111)) (C := RX6) (T := TX6) (N := 12) hx hb ht inX6 hown hK hP 5 CW_5 rfl 11 (by decide) (ht (.fieldLink RX6 108 "CloneVolumes$Reader" "sign" "I") fl_X6_108) (fun _ h9 => h9) rfl dX6_advance_90 ?_
    refine lv_iconst (v := (-1)) hx hb dX6_advance_93 (by decide) ?_
    refine lv_icmp_ne (tgt := 105) hx hb dX6_advance_94 (by decide) (fun c41 => ?_) (fun c41 => ?_)
    · have h := if_f c41 h
      refine lv_aload_n hx hb dX6_advance_105 rfl (lv_at hl 0 rfl) ?_
      refine va_get (D := D) (ci := 6) (v := .int (gI s40 111)) (C := RX6) (T := TX6) (N := 12) hx hb ht inX6 hown hK hP 5 CW_5 rfl 11 (by decide) (ht (.fieldLink RX6 108 "CloneVolumes$Reader" "sign" "I") fl_X6_108) (fun _ h9 => h9) rfl dX6_advance_106 ?_
      obtain ⟨r43, hc42, h⟩ := bn_e h
      refine ycS (As := [.int (gI s40 111)]) (rest := []) (n := 1) ⟨hx, hb, hml, hown, ht⟩ (k_x6_isLetter l D a (gI s40 111) _ _ hc42) (zgT ml_X6_111 st_X6_isLetter in_X6 co_X6_isLetter) rfl rfl (by decide +kernel) ⟨Nat.le_of_ble_eq_true rfl, Nat.le_of_ble_eq_true rfl⟩ hN hK hP hS rfl hl.1 rfl (Nat.le_of_ble_eq_true rfl) dX6_advance_109 ⟨Nat.le_of_ble_eq_true rfl, Nat.le_of_ble_eq_true rfl⟩ (fun H locs hP hS => ?_)
      refine lv_if_eq (tgt := 176) hx hb dX6_advance_112 (by decide) (fun c44 => ?_) (fun c44 => ?_)
      · have h := if_t c44 h
        refine lv_aload_n hx hb dX6_advance_176 rfl (lv_at hl 0 rfl) ?_
        refine va_get (D := D) (ci := 6) (v := .int (gI s40 111)) (C := RX6) (T := TX6) (N := 12) hx hb ht inX6 hown hK hP 5 CW_5 rfl 11 (by decide) (ht (.fieldLink RX6 108 "CloneVolumes$Reader" "sign" "I") fl_X6_108) (fun _ h9 => h9) rfl dX6_advance_177 ?_
        obtain ⟨r46, hc45, h⟩ := bn_e h
        refine ycS (As := [.int (gI s40 111)]) (rest := []) (n := 1) ⟨hx, hb, hml, hown, ht⟩ (k_x6_isDigit l D a (gI s40 111) _ _ hc45) (zgT ml_X6_118 st_X6_isDigit in_X6 co_X6_isDigit) rfl rfl (by decide +kernel) ⟨Nat.le_of_ble_eq_true rfl, Nat.le_of_ble_eq_true rfl⟩ hN hK hP hS rfl hl.1 rfl (Nat.le_of_ble_eq_true rfl) dX6_advance_180 ⟨Nat.le_of_ble_eq_true rfl, Nat.le_of_ble_eq_true rfl⟩ (fun H locs hP hS => ?_)
        refine lv_if_eq (tgt := 236) hx hb dX6_advance_183 (by decide) (fun c47 => ?_) (fun c47 => ?_)
        · have h := if_t c47 h
          refine lv_aload_n hx hb dX6_advance_236 rfl (lv_at hl 0 rfl) ?_
          refine lv_iconst (v := 3) hx hb dX6_advance_237 (by decide) ?_
          refine ya_put (D := D) (ci := 6) (v := .int 3) (ty := .int) (C := RX6) (T := TX6) (N := 12) hx hb ht inX6 tyX6 tyX6_ok nmX6 hown hK hP (hDD _) hS 5 CW_5 rfl 7 (by decide) (ht (.fieldLink RX6 44 "CloneVolumes$Reader" "kind" "I") fl_X6_44) (fun _ h9 => h9) rfl (by decide +kernel) rfl rfl (Nat.le_of_ble_eq_true rfl) dX6_advance_238 (CW_w5_7 _) (fun H locs hP hS => ?_)
          obtain ⟨s48, hs48, h⟩ := st_e h
          rw [hs48] at hP
          refine lv_aload_n hx hb dX6_advance_241 rfl (lv_at hl 0 rfl) ?_
          refine lv_dup hx hb dX6_advance_242 rfl ?_
          refine va_get (D := D) (ci := 6) (v := .int (gI s48 109)) (C := RX6) (T := TX6) (N := 12) hx hb ht inX6 hown hK hP 5 CW_5 rfl 9 (by decide) (ht (.fieldLink RX6 88 "CloneVolumes$Reader" "stop" "I") fl_X6_88) (fun _ h9 => h9) rfl dX6_advance_243 ?_
          refine lv_iconst (v := 1) hx hb dX6_advance_246 (by decide) ?_
          refine lv_iadd hx hb dX6_advance_247 ?_
          refine ya_put (D := D) (ci := 6) (v := .int ((gI s48 109) + 1)) (ty := .int) (C := RX6) (T := TX6) (N := 12) hx hb ht inX6 tyX6 tyX6_ok nmX6 hown hK hP (hDD _) hS 5 CW_5 rfl 9 (by decide) (ht (.fieldLink RX6 88 "CloneVolumes$Reader" "stop" "I") fl_X6_88) (fun _ h9 => h9) rfl (by decide +kernel) rfl rfl (Nat.le_of_ble_eq_true rfl) dX6_advance_248 (CW_w5_9 _) (fun H locs hP hS => ?_)
          obtain ⟨s49, hs49, h⟩ := st_e h
          rw [hs49] at hP
          exact J251 s49 _ _ _ ⟨hP, hS, lv_sub hl [0] rfl, h⟩
        · have h := if_f c47 h
          refine lv_aload_n hx hb dX6_advance_186 rfl (lv_at hl 0 rfl) ?_
          refine lv_iconst (v := 2) hx hb dX6_advance_187 (by decide) ?_
          refine ya_put (D := D) (ci := 6) (v := .int 2) (ty := .int) (C := RX6) (T := TX6) (N := 12) hx hb ht inX6 tyX6 tyX6_ok nmX6 hown hK hP (hDD _) hS 5 CW_5 rfl 7 (by decide) (ht (.fieldLink RX6 44 "CloneVolumes$Reader" "kind" "I") fl_X6_44) (fun _ h9 => h9) rfl (by decide +kernel) rfl rfl (Nat.le_of_ble_eq_true rfl) dX6_advance_188 (CW_w5_7 _) (fun H locs hP hS => ?_)
          obtain ⟨s50, hs50, h⟩ := st_e h
          rw [hs50] at hP
          exact J191 FU s50 _ _ _ ⟨hP, hS, lv_sub hl [0] rfl, h⟩
      · have h := if_f c44 h
        refine lv_aload_n hx hb dX6_advance_115 rfl (lv_at hl 0 rfl) ?_
        refine lv_iconst (v := 1) hx hb dX6_advance_116 (by decide) ?_
        refine ya_put (D := D) (ci := 6) (v := .int 1) (ty := .int) (C := RX6) (T := TX6) (N := 12) hx hb ht inX6 tyX6 tyX6_ok nmX6 hown hK hP (hDD _) hS 5 CW_5 rfl 7 (by decide) (ht (.fieldLink RX6 44 "CloneVolumes$Reader" "kind" "I") fl_X6_44) (fun _ h9 => h9) rfl (by decide +kernel) rfl rfl (Nat.le_of_ble_eq_true rfl) dX6_advance_117 (CW_w5_7 _) (fun H locs hP hS => ?_)
        obtain ⟨s51, hs51, h⟩ := st_e h
        rw [hs51] at hP
        exact J120 FU s51 _ _ _ ⟨hP, hS, lv_sub hl [0] rfl, h⟩
    · have h := if_t c41 h
      refine lv_aload_n hx hb dX6_advance_97 rfl (lv_at hl 0 rfl) ?_
      refine lv_iconst (v := 0) hx hb dX6_advance_98 (by decide) ?_
      refine ya_put (D := D) (ci := 6) (v := .int 0) (ty := .int) (C := RX6) (T := TX6) (N := 12) hx hb ht inX6 tyX6 tyX6_ok nmX6 hown hK hP (hDD _) hS 5 CW_5 rfl 7 (by decide) (ht (.fieldLink RX6 44 "CloneVolumes$Reader" "kind" "I") fl_X6_44) (fun _ h9 => h9) rfl (by decide +kernel) rfl rfl (Nat.le_of_ble_eq_true rfl) dX6_advance_99 (CW_w5_7 _) (fun H locs hP hS => ?_)
      obtain ⟨s52, hs52, h⟩ := st_e h
      rw [hs52] at hP
      refine lv_goto (tgt := 251) hx hb dX6_advance_102 (by decide) ?_
      exact J251 s52 _ _ _ ⟨hP, hS, lv_sub hl [0] rfl, h⟩
  refine y_loop (pcJ := 16) (σ := MS) (fun n u H locs ls => va_P D vwCl (CS D a u) H ∧ va_S A s₀.heap H locs ∧ lv_has ls 2 [(0, .ref (a 5))] ∧ m_x6_advance_L16 n u = some o) (fun u => []) (fun u H locs ls hI => by obtain ⟨_, _, _, h⟩ := hI; cases h) (fun n16 ih16 u H locs ls hI => ?_) (fun J16 => ?_)
  · obtain ⟨hP, hS, hl, h⟩ := hI
    obtain ⟨s53, rfl⟩ : ∃ z, z = u := ⟨u, rfl⟩
    have hP : va_P D vwCl (CS D a s53) H := hP
    have hl : lv_has ls 2 [(0, .ref (a 5))] := hl
    have h : m_x6_advance_b16 (m_x6_advance_L16 n16) s53 = some o := h
    unfold m_x6_advance_b16 at h
    refine lv_aload_n hx hb dX6_advance_16 rfl (lv_at hl 0 rfl) ?_
    refine va_get (D := D) (ci := 6) (v := .int (gI s53 108)) (C := RX6) (T := TX6) (N := 12) hx hb ht inX6 hown hK hP 5 CW_5 rfl 8 (by decide) (ht (.fieldLink RX6 51 "CloneVolumes$Reader" "start" "I") fl_X6_51) (fun _ h9 => h9) rfl dX6_advance_17 ?_
    refine lv_aload_n hx hb dX6_advance_20 rfl (lv_at hl 0 rfl) ?_
    refine va_get (D := D) (ci := 6) (v := .ref (a 3)) (C := RX6) (T := TX6) (N := 12) hx hb ht inX6 hown hK hP 5 CW_5 rfl 2 (by decide) (ht (.fieldLink RX6 27 "CloneVolumes$Reader" "tape" "LCloneVolumes$Tape;") fl_X6_27) (fun _ h9 => h9) rfl dX6_advance_21 ?_
    refine va_get (D := D) (ci := 9) (v := .int (gI s53 61)) (C := RX9) (T := TX9) (N := 2) hx hb ht inX9 hown hK hP 3 CW_3 rfl 1 (by decide) (ht (.fieldLink RX6 91 "CloneVolumes$Tape" "length" "I") fl_X6_91) (fun _ h9 => h9) rfl dX6_advance_24 ?_
    refine lv_icmp_ge (tgt := 61) hx hb dX6_advance_27 (by decide) (fun c54 => ?_) (fun c54 => ?_)
    · have h := if_t c54 h
      exact J61 s53 _ _ _ ⟨hP, hS, lv_sub hl [0] rfl, h⟩
    · have h := if_f c54 h
      refine lv_aload_n hx hb dX6_advance_30 rfl (lv_at hl 0 rfl) ?_
      refine va_get (D := D) (ci := 6) (v := .ref (a 3)) (C := RX6) (T := TX6) (N := 12) hx hb ht inX6 hown hK hP 5 CW_5 rfl 2 (by decide) (ht (.fieldLink RX6 27 "CloneVolumes$Reader" "tape" "LCloneVolumes$Tape;") fl_X6_27) (fun _ h9 => h9) rfl dX6_advance_31 ?_
      refine va_get (D := D) (ci := 9) (v := .ref (a 4)) (C := RX9) (T := TX9) (N := 2) hx hb ht inX9 hown hK hP 3 CW_3 rfl 0 (by decide) (ht (.fieldLink RX6 96 "CloneVolumes$Tape" "bytes" "[I") fl_X6_96) (fun _ h9 => h9) rfl dX6_advance_34 ?_
      refine lv_aload_n hx hb dX6_advance_37 rfl (lv_at hl 0 rfl) ?_
      refine va_get (D := D) (ci := 6) (v := .int (gI s53 108)) (C := RX6) (T := TX6) (N := 12) hx hb ht inX6 hown hK hP 5 CW_5 rfl 8 (by decide) (ht (.fieldLink RX6 51 "CloneVolumes$Reader" "start" "I") fl_X6_51) (fun _ h9 => h9) rfl dX6_advance_38 ?_
      obtain ⟨y55, ey55, iy55, h⟩ := rdI_e h
      refine ya_iald hx hb hK hP 4 0 CW_4 rfl ey55 iy55 dX6_advance_41 ?_
      obtain ⟨r57, hc56, h⟩ := bn_e h
      refine ycS (As := [.int y55]) (rest := []) (n := 1) ⟨hx, hb, hml, hown, ht⟩ (k_x6_isBlank l D a y55 _ _ hc56) (zgT ml_X6_100 st_X6_isBlank in_X6 co_X6_isBlank) rfl rfl (by decide +kernel) ⟨Nat.le_of_ble_eq_true rfl, Nat.le_of_ble_eq_true rfl⟩ hN hK hP hS rfl hl.1 rfl (Nat.le_of_ble_eq_true rfl) dX6_advance_42 ⟨Nat.le_of_ble_eq_true rfl, Nat.le_of_ble_eq_true rfl⟩ (fun H locs hP hS => ?_)
      refine lv_if_eq (tgt := 61) hx hb dX6_advance_45 (by decide) (fun c58 => ?_) (fun c58 => ?_)
      · have h := if_t c58 h
        exact J61 s53 _ _ _ ⟨hP, hS, lv_sub hl [0] rfl, h⟩
      · have h := if_f c58 h
        refine lv_aload_n hx hb dX6_advance_48 rfl (lv_at hl 0 rfl) ?_
        refine lv_dup hx hb dX6_advance_49 rfl ?_
        refine va_get (D := D) (ci := 6) (v := .int (gI s53 108)) (C := RX6) (T := TX6) (N := 12) hx hb ht inX6 hown hK hP 5 CW_5 rfl 8 (by decide) (ht (.fieldLink RX6 51 "CloneVolumes$Reader" "start" "I") fl_X6_51) (fun _ h9 => h9) rfl dX6_advance_50 ?_
        refine lv_iconst (v := 1) hx hb dX6_advance_53 (by decide) ?_
        refine lv_iadd hx hb dX6_advance_54 ?_
        refine ya_put (D := D) (ci := 6) (v := .int ((gI s53 108) + 1)) (ty := .int) (C := RX6) (T := TX6) (N := 12) hx hb ht inX6 tyX6 tyX6_ok nmX6 hown hK hP (hDD _) hS 5 CW_5 rfl 8 (by decide) (ht (.fieldLink RX6 51 "CloneVolumes$Reader" "start" "I") fl_X6_51) (fun _ h9 => h9) rfl (by decide +kernel) rfl rfl (Nat.le_of_ble_eq_true rfl) dX6_advance_55 (CW_w5_8 _) (fun H locs hP hS => ?_)
        obtain ⟨s59, hs59, h⟩ := st_e h
        rw [hs59] at hP
        refine lv_goto (tgt := 16) hx hb dX6_advance_58 (by decide) ?_
        exact ih16 s59 _ _ _ ⟨hP, hS, lv_sub hl [0] rfl, h⟩
  refine lv_aload_n hx hb dX6_advance_0 rfl (lv_at hl 0 rfl) ?_
  refine va_get (D := D) (ci := 6) (v := .int (gI s 100)) (C := RX6) (T := TX6) (N := 12) hx hb ht inX6 hown hK hP 5 CW_5 rfl 0 (by decide) (ht (.fieldLink RX6 61 "CloneVolumes$Reader" "fault" "I") fl_X6_61) (fun _ h9 => h9) rfl dX6_advance_1 ?_
  refine lv_if_eq (tgt := 8) hx hb dX6_advance_4 (by decide) (fun c60 => ?_) (fun c60 => ?_)
  · have h := if_t c60 h
    refine lv_aload_n hx hb dX6_advance_8 rfl (lv_at hl 0 rfl) ?_
    refine lv_aload_n hx hb dX6_advance_9 rfl (lv_at hl 0 rfl) ?_
    refine va_get (D := D) (ci := 6) (v := .int (gI s 109)) (C := RX6) (T := TX6) (N := 12) hx hb ht inX6 hown hK hP 5 CW_5 rfl 9 (by decide) (ht (.fieldLink RX6 88 "CloneVolumes$Reader" "stop" "I") fl_X6_88) (fun _ h9 => h9) rfl dX6_advance_10 ?_
    refine ya_put (D := D) (ci := 6) (v := .int (gI s 109)) (ty := .int) (C := RX6) (T := TX6) (N := 12) hx hb ht inX6 tyX6 tyX6_ok nmX6 hown hK hP (hDD _) hS 5 CW_5 rfl 8 (by decide) (ht (.fieldLink RX6 51 "CloneVolumes$Reader" "start" "I") fl_X6_51) (fun _ h9 => h9) rfl (by decide +kernel) rfl rfl (Nat.le_of_ble_eq_true rfl) dX6_advance_13 (CW_w5_8 _) (fun H locs hP hS => ?_)
    obtain ⟨s61, hs61, h⟩ := st_e h
    rw [hs61] at hP
    exact J16 FU s61 _ _ _ ⟨hP, hS, lv_sub hl [0] rfl, h⟩
  · have h := if_f c60 h
    obtain rfl := Option.some.inj h
    exact W.vret hx hb hr (fun t ht hW => ⟨⟨(), rfl, trivial, by rw [ht]; exact hP, va_K.moved hW.alike hK, hDD _⟩, hS.F ht⟩) hS.2.2 dX6_advance_7
def m_x0_add_J30 (s1 : MS) : Option MS :=
  some s1
def m_x0_add (p0 : Int32) (s : MS) : Option MS :=
  if 1600 ≤ (gI s 941) then m_x0_add_J30 s else inb 1600 (gI s 941) (stn (sA s 48 (upd (gA s 48) (Int32.toNatClampNeg (gI s 941)) p0)) (fun s4 => stn (sI s4 941 ((gI s4 941) + 1)) (fun s5 => m_x0_add_J30 s5)))
set_option maxHeartbeats 4000000 in
set_option maxRecDepth 100000 in
theorem k_x0_add (l : Launch) (D : va_G) (a : Nat → Nat) (p0 : Int32) (sz : Nat) (s : MS) (o : MS) (h : m_x0_add p0 s = some o) : yWv l yX0_add cX0_add 2 none { frames := 0, cells := 0, slots := 0, locals := 0 } D sz [.ref (a 47), .int p0] (CS D a s) (CS D a o) := by
  refine Met.ofW (cc := cX0_add) (maxL := 2) (ret := none) (by decide) rfl ?_
  intro p e s₀ m args below meth c s₁ B hml hv
  obtain ⟨rfl, ⟨hsz, hP, hK, hD0⟩, hN⟩ := hv
  have hx := B.exec
  have hb := B.bytes
  have hr := B.returns
  have hts := atoms_spec (ws := wz yX0_add cX0_add 2 none) B.pre
  have ht : ∀ w ∈ lw_gd, w.before _ s₀ = true := fun w h => hts w (List.mem_cons_of_mem _ h)
  have hown : s₀.vm.findClass RX0 = some m.cls := findClass_of_methodNamed B.named
  have hlocks := B.notSynchronized
  subst hsz
  have hD := hD0.self (sz := s₀.heap.size)
  generalize hAe : va_A (CS D a s) s₀.heap.size = A at hD ⊢
  have hA : ∀ q : Nat, s₀.heap.size ≤ q → A q := fun q h => by rw [← hAe]; exact Or.inr h
  have hS : va_S A s₀.heap s₀.heap [] := va_S.rf
  have hDD : ∀ t : MS, va_D A (CS D a t) := fun t => CW_D t hD
  have hl := lv_entry ([.ref (a 47), .int p0]) (n := 2) (Nat.le_of_ble_eq_true rfl)
  rw [lg_entry_eq]
  generalize (lg_sl ([.ref (a 47), .int p0]) ++ List.replicate (2 - (lg_sl ([.ref (a 47), .int p0])).length) Slot.unset).toArray = ls at hl ⊢
  have hl : lv_has ls 2 [(0, .ref (a 47)), (1, .int p0)] := hl
  unfold m_x0_add at h
  refine y_head (pcJ := 30) (σ := MS) (fun u H locs ls => va_P D vwCl (CS D a u) H ∧ va_S A s₀.heap H locs ∧ lv_has ls 2 [] ∧ m_x0_add_J30 u = some o) (fun u => []) (fun u H locs ls hI => ?_) (fun J30 => ?_)
  · obtain ⟨hP, hS, hl, h⟩ := hI
    obtain ⟨s1, rfl⟩ : ∃ z, z = u := ⟨u, rfl⟩
    have hP : va_P D vwCl (CS D a s1) H := hP
    have hl : lv_has ls 2 [] := hl
    have h : m_x0_add_J30 s1 = some o := h
    unfold m_x0_add_J30 at h
    obtain rfl := Option.some.inj h
    exact W.vret hx hb hr (fun t ht hW => ⟨⟨(), rfl, trivial, by rw [ht]; exact hP, va_K.moved hW.alike hK, hDD _⟩, hS.F ht⟩) hS.2.2 dX0_add_30
  refine lv_aload_n hx hb dX0_add_0 rfl (lv_at hl 0 rfl) ?_
  refine va_get (D := D) (ci := 0) (v := .int (gI s 941)) (C := RX0) (T := TX0) (N := 2) hx hb ht inX0 hown hK hP 47 CW_47 rfl 1 (by decide) (ht (.fieldLink RX0 15 "CloneVolumes$Code" "size" "I") fl_X0_15) (fun _ h9 => h9) rfl dX0_add_1 ?_
  refine lv_sipush (v := 1600) hx hb dX0_add_4 (by decide) ?_
  refine lv_icmp_ge (tgt := 30) hx hb dX0_add_7 (by decide) (fun c2 => ?_) (fun c2 => ?_)
  · have h := if_t c2 h
    exact J30 s _ _ _ ⟨hP, hS, lv_sub hl [] rfl, h⟩
  · have h := if_f c2 h
    refine lv_aload_n hx hb dX0_add_10 rfl (lv_at hl 0 rfl) ?_
    refine va_get (D := D) (ci := 0) (v := .ref (a 48)) (C := RX0) (T := TX0) (N := 2) hx hb ht inX0 hown hK hP 47 CW_47 rfl 0 (by decide) (ht (.fieldLink RX0 9 "CloneVolumes$Code" "steps" "[I") fl_X0_9) (fun _ h9 => h9) rfl dX0_add_11 ?_
    refine lv_aload_n hx hb dX0_add_14 rfl (lv_at hl 0 rfl) ?_
    refine va_get (D := D) (ci := 0) (v := .int (gI s 941)) (C := RX0) (T := TX0) (N := 2) hx hb ht inX0 hown hK hP 47 CW_47 rfl 1 (by decide) (ht (.fieldLink RX0 15 "CloneVolumes$Code" "size" "I") fl_X0_15) (fun _ h9 => h9) rfl dX0_add_15 ?_
    refine lv_iload_n hx hb dX0_add_18 rfl (lv_at hl 1 rfl) ?_
    obtain ⟨hi3, h⟩ := inb_e h
    refine ya_iast hx hb hK hP (hDD _) hS 48 0 CW_48 rfl hi3 dX0_add_19 (CW_w48 _) (fun H locs hP hS => ?_)
    obtain ⟨s4, hs4, h⟩ := st_e h
    rw [hs4] at hP
    refine lv_aload_n hx hb dX0_add_20 rfl (lv_at hl 0 rfl) ?_
    refine lv_dup hx hb dX0_add_21 rfl ?_
    refine va_get (D := D) (ci := 0) (v := .int (gI s4 941)) (C := RX0) (T := TX0) (N := 2) hx hb ht inX0 hown hK hP 47 CW_47 rfl 1 (by decide) (ht (.fieldLink RX0 15 "CloneVolumes$Code" "size" "I") fl_X0_15) (fun _ h9 => h9) rfl dX0_add_22 ?_
    refine lv_iconst (v := 1) hx hb dX0_add_25 (by decide) ?_
    refine lv_iadd hx hb dX0_add_26 ?_
    refine ya_put (D := D) (ci := 0) (v := .int ((gI s4 941) + 1)) (ty := .int) (C := RX0) (T := TX0) (N := 2) hx hb ht inX0 tyX0 tyX0_ok nmX0 hown hK hP (hDD _) hS 47 CW_47 rfl 1 (by decide) (ht (.fieldLink RX0 15 "CloneVolumes$Code" "size" "I") fl_X0_15) (fun _ h9 => h9) rfl (by decide +kernel) rfl rfl (Nat.le_of_ble_eq_true rfl) dX0_add_27 (CW_w47_1 _) (fun H locs hP hS => ?_)
    obtain ⟨s5, hs5, h⟩ := st_e h
    rw [hs5] at hP
    exact J30 s5 _ _ _ ⟨hP, hS, lv_sub hl [] rfl, h⟩
def m_x6_readOther_J33 (rg : (MS → Option MS) × (MS → Option MS)) (s1 : MS) : Option MS :=
  some s1
def m_x6_readOther (rg : (MS → Option MS) × (MS → Option MS)) (p0 : Int32) (s : MS) : Option MS :=
  bn (m_x6_opens s) (fun qr4 => if qr4.1 = 0 then m_x6_readOther_J33 rg qr4.2 else bn (m_x6_advance qr4.2) (fun s7 => bn (rg.2 s7) (fun s9 => eqg (gI s9 9999) 2 (bn (m_x0_add p0 s9) (fun s12 => stn (sI s12 106 ((gI s12 106) - 1)) (fun s13 => m_x6_readOther_J33 rg s13))))))
set_option maxHeartbeats 4000000 in
set_option maxRecDepth 100000 in
theorem k_x6_readOther (l : Launch) (D : va_G) (a : Nat → Nat) (d : Nat) (rg : (MS → Option MS) × (MS → Option MS)) (hRS : ∀ (sz : Nat) (s o : MS), rg.1 s = some o → yWv l yX6_readSum cX6_readSum 3 none { frames := 8 * d + 16, cells := 0, slots := 0, locals := 60 * (8 * d + 16) } D sz [.ref (a 5)] (CS D a s) (CS D a o)) (hQ : ∀ (sz : Nat) (s o : MS), rg.2 s = some o → yWv l yX6_readPart cX6_readPart 1 none { frames := 8 * d + 12, cells := 0, slots := 0, locals := 60 * (8 * d + 12) } D sz [.ref (a 5)] (CS D a s) (CS D a o)) (p0 : Int32) (sz : Nat) (s : MS) (o : MS) (h : m_x6_readOther rg p0 s = some o) : yWv l yX6_readOther cX6_readOther 2 none { frames := 8 * d + 13, cells := 0, slots := 0, locals := 60 * (8 * d + 13) } D sz [.ref (a 5), .int p0] (CS D a s) (CS D a o) := by
  refine Met.ofW (cc := cX6_readOther) (maxL := 2) (ret := none) (by decide) rfl ?_
  intro p e s₀ m args below meth c s₁ B hml hv
  obtain ⟨rfl, ⟨hsz, hP, hK, hD0⟩, hN⟩ := hv
  have hx := B.exec
  have hb := B.bytes
  have hr := B.returns
  have hts := atoms_spec (ws := wz yX6_readOther cX6_readOther 2 none) B.pre
  have ht : ∀ w ∈ lw_gd, w.before _ s₀ = true := fun w h => hts w (List.mem_cons_of_mem _ h)
  have hown : s₀.vm.findClass RX6 = some m.cls := findClass_of_methodNamed B.named
  have hlocks := B.notSynchronized
  subst hsz
  have hD := hD0.self (sz := s₀.heap.size)
  generalize hAe : va_A (CS D a s) s₀.heap.size = A at hD ⊢
  have hA : ∀ q : Nat, s₀.heap.size ≤ q → A q := fun q h => by rw [← hAe]; exact Or.inr h
  have hS : va_S A s₀.heap s₀.heap [] := va_S.rf
  have hDD : ∀ t : MS, va_D A (CS D a t) := fun t => CW_D t hD
  have hl := lv_entry ([.ref (a 5), .int p0]) (n := 2) (Nat.le_of_ble_eq_true rfl)
  rw [lg_entry_eq]
  generalize (lg_sl ([.ref (a 5), .int p0]) ++ List.replicate (2 - (lg_sl ([.ref (a 5), .int p0])).length) Slot.unset).toArray = ls at hl ⊢
  have hl : lv_has ls 2 [(0, .ref (a 5)), (1, .int p0)] := hl
  unfold m_x6_readOther at h
  refine y_head (pcJ := 33) (σ := MS) (fun u H locs ls => va_P D vwCl (CS D a u) H ∧ va_S A s₀.heap H locs ∧ lv_has ls 2 [] ∧ m_x6_readOther_J33 rg u = some o) (fun u => []) (fun u H locs ls hI => ?_) (fun J33 => ?_)
  · obtain ⟨hP, hS, hl, h⟩ := hI
    obtain ⟨s1, rfl⟩ : ∃ z, z = u := ⟨u, rfl⟩
    have hP : va_P D vwCl (CS D a s1) H := hP
    have hl : lv_has ls 2 [] := hl
    have h : m_x6_readOther_J33 rg s1 = some o := h
    unfold m_x6_readOther_J33 at h
    obtain rfl := Option.some.inj h
    exact W.vret hx hb hr (fun t ht hW => ⟨⟨(), rfl, trivial, by rw [ht]; exact hP, va_K.moved hW.alike hK, hDD _⟩, hS.F ht⟩) hS.2.2 dX6_readOther_33
  refine lv_aload_n hx hb dX6_readOther_0 rfl (lv_at hl 0 rfl) ?_
  obtain ⟨⟨r4, s3⟩, hc2, h⟩ := bn_e h
  refine ywV (r0 := r4) (As := []) (rest := []) (C := RX6) (n := 0) (ws' := CS D a s3) ⟨hx, hb, hml, hown, ht⟩ (k_x6_opens l D a _ _ _ hc2) (zgV ml_X6_197 im_X6_opens se_X6_opens in_X6 co_X6_opens) rfl rfl (by decide +kernel) ⟨by show 1 + 1 ≤ 8 * d + 13; omega, by show 8 + (1 + 11) + 60 ≤ 60 * (8 * d + 13); omega⟩ hN hK hP (hDD _) hS hA 5 CW_5 rfl rfl rfl hl.1 rfl (Nat.le_of_ble_eq_true rfl) dX6_readOther_1 ⟨Nat.le_of_ble_eq_true rfl, Nat.le_of_ble_eq_true rfl⟩ (fun H locs hP hS => ?_)
  refine lv_if_eq (tgt := 33) hx hb dX6_readOther_4 (by decide) (fun c5 => ?_) (fun c5 => ?_)
  · have h := if_t c5 h
    exact J33 s3 _ _ _ ⟨hP, hS, lv_sub hl [] rfl, h⟩
  · have h := if_f c5 h
    refine lv_aload_n hx hb dX6_readOther_7 rfl (lv_at hl 0 rfl) ?_
    obtain ⟨s7, hc6, h⟩ := bn_e h
    refine ywVv (As := []) (rest := []) (C := RX6) (n := 0) (ws' := CS D a s7) ⟨hx, hb, hml, hown, ht⟩ (k_x6_advance l D a _ _ _ hc6) (zgV ml_X6_75 im_X6_advance se_X6_advance in_X6 co_X6_advance) rfl rfl (by decide +kernel) ⟨by show 1 + 1 ≤ 8 * d + 13; omega, by show 8 + (2 + 11) + 60 ≤ 60 * (8 * d + 13); omega⟩ hN hK hP (hDD _) hS hA 5 CW_5 rfl rfl rfl hl.1 rfl (Nat.le_of_ble_eq_true rfl) dX6_readOther_8 ⟨Nat.le_of_ble_eq_true rfl, Nat.le_of_ble_eq_true rfl⟩ (fun H locs hP hS => ?_)
    refine lv_aload_n hx hb dX6_readOther_11 rfl (lv_at hl 0 rfl) ?_
    obtain ⟨s9, hc8, h⟩ := bn_e h
    refine ywVv (As := []) (rest := []) (C := RX6) (n := 0) (ws' := CS D a s9) ⟨hx, hb, hml, hown, ht⟩ (hQ _ _ _ hc8) (zgV ml_X6_206 im_X6_readPart se_X6_readPart in_X6 co_X6_readPart) rfl rfl (by decide +kernel) ⟨by show (8 * d + 12) + 1 ≤ 8 * d + 13; omega, by show 8 + (1 + 11) + 60 * (8 * d + 12) ≤ 60 * (8 * d + 13); omega⟩ hN hK hP (hDD _) hS hA 5 CW_5 rfl rfl rfl hl.1 rfl (Nat.le_of_ble_eq_true rfl) dX6_readOther_12 ⟨Nat.le_of_ble_eq_true rfl, Nat.le_of_ble_eq_true rfl⟩ (fun H locs hP hS => ?_)
    refine lv_aload_n hx hb dX6_readOther_15 rfl (lv_at hl 0 rfl) ?_
    obtain ⟨he10, h⟩ := eqg_e h
    refine va_get (D := D) (ci := 6) (v := .ref (a 47)) (C := RX6) (T := TX6) (N := 12) hx hb ht inX6 hown hK hP 5 CW_5 rfl 4 (by decide) (ht (.fieldLink RX6 84 "CloneVolumes$Reader" "code" "LCloneVolumes$Code;") fl_X6_84) (fun _ h9 => h9) (congrArg some (rcv_2 he10)) dX6_readOther_16 ?_
    refine lv_iload_n hx hb dX6_readOther_19 rfl (lv_at hl 1 rfl) ?_
    obtain ⟨s12, hc11, h⟩ := bn_e h
    refine ywVv (As := [.int p0]) (rest := []) (C := RX0) (n := 1) (ws' := CS D a s12) ⟨hx, hb, hml, hown, ht⟩ (k_x0_add l D a p0 _ _ _ hc11) (zgV ml_X6_191 im_X0_add se_X0_add in_X0 co_X0_add) rfl rfl (by decide +kernel) ⟨by show 0 + 1 ≤ 8 * d + 13; omega, by show 8 + (2 + 11) + 0 ≤ 60 * (8 * d + 13); omega⟩ hN hK hP (hDD _) hS hA 47 CW_47 rfl rfl rfl hl.1 rfl (Nat.le_of_ble_eq_true rfl) dX6_readOther_20 ⟨Nat.le_of_ble_eq_true rfl, Nat.le_of_ble_eq_true rfl⟩ (fun H locs hP hS => ?_)
    refine lv_aload_n hx hb dX6_readOther_23 rfl (lv_at hl 0 rfl) ?_
    refine lv_dup hx hb dX6_readOther_24 rfl ?_
    refine va_get (D := D) (ci := 6) (v := .int (gI s12 106)) (C := RX6) (T := TX6) (N := 12) hx hb ht inX6 hown hK hP 5 CW_5 rfl 6 (by decide) (ht (.fieldLink RX6 85 "CloneVolumes$Reader" "open" "I") fl_X6_85) (fun _ h9 => h9) rfl dX6_readOther_25 ?_
    refine lv_iconst (v := 1) hx hb dX6_readOther_28 (by decide) ?_
    refine lv_isub hx hb dX6_readOther_29 ?_
    refine ya_put (D := D) (ci := 6) (v := .int ((gI s12 106) - 1)) (ty := .int) (C := RX6) (T := TX6) (N := 12) hx hb ht inX6 tyX6 tyX6_ok nmX6 hown hK hP (hDD _) hS 5 CW_5 rfl 6 (by decide) (ht (.fieldLink RX6 85 "CloneVolumes$Reader" "open" "I") fl_X6_85) (fun _ h9 => h9) rfl (by decide +kernel) rfl rfl (Nat.le_of_ble_eq_true rfl) dX6_readOther_30 (CW_w5_6 _) (fun H locs hP hS => ?_)
    obtain ⟨s13, hs13, h⟩ := st_e h
    rw [hs13] at hP
    exact J33 s13 _ _ _ ⟨hP, hS, lv_sub hl [] rfl, h⟩
def m_x6_isSign_J21 (s : MS) (x1 : Int32) : Option Int32 :=
  bo x1 (some x1)
def m_x6_isSign_J20 (s : MS) (_u : Unit) : Option Int32 :=
  m_x6_isSign_J21 s 0
def m_x6_isSign (p0 : Int32) (s : MS) : Option Int32 :=
  if (gI s 107) = 3 then if (gI s 111) = p0 then m_x6_isSign_J21 s 1 else m_x6_isSign_J20 s () else m_x6_isSign_J20 s ()
set_option maxHeartbeats 4000000 in
set_option maxRecDepth 100000 in
theorem k_x6_isSign (l : Launch) (D : va_G) (a : Nat → Nat) (p0 : Int32) (s : MS) (o : Int32) (h : m_x6_isSign p0 s = some o) : yRi l yX6_isSign cX6_isSign 2 (some .boolean) { frames := 0, cells := 0, slots := 0, locals := 0 } D [.ref (a 5), .int p0] (CS D a s) o := by
  refine Met.ofW (cc := cX6_isSign) (maxL := 2) (ret := (some .boolean)) (by decide) rfl ?_
  intro p e s₀ m args below meth c s₁ B hml hv
  obtain ⟨rfl, ⟨hP, hK⟩, hN⟩ := hv
  have hx := B.exec
  have hb := B.bytes
  have hr := B.returns
  have hts := atoms_spec (ws := wz yX6_isSign cX6_isSign 2 (some .boolean)) B.pre
  have ht : ∀ w ∈ lw_gd, w.before _ s₀ = true := fun w h => hts w (List.mem_cons_of_mem _ h)
  have hown : s₀.vm.findClass RX6 = some m.cls := findClass_of_methodNamed B.named
  have hlocks := B.notSynchronized
  have hS : va_S (fun _ => False) s₀.heap s₀.heap [] := va_S.rf
  have hl := lv_entry ([.ref (a 5), .int p0]) (n := 2) (Nat.le_of_ble_eq_true rfl)
  rw [lg_entry_eq]
  generalize (lg_sl ([.ref (a 5), .int p0]) ++ List.replicate (2 - (lg_sl ([.ref (a 5), .int p0])).length) Slot.unset).toArray = ls at hl ⊢
  have hl : lv_has ls 2 [(0, .ref (a 5)), (1, .int p0)] := hl
  unfold m_x6_isSign at h
  refine y_head (pcJ := 21) (σ := Int32) (fun u H locs ls => va_P D vwCl (CS D a s) H ∧ va_S (fun _ => False) s₀.heap H locs ∧ lv_has ls 2 [] ∧ m_x6_isSign_J21 s u = some o) (fun u => [.int u]) (fun u H locs ls hI => ?_) (fun J21 => ?_)
  · obtain ⟨hP, hS, hl, h⟩ := hI
    obtain ⟨x1, rfl⟩ : ∃ z, z = u := ⟨u, rfl⟩
    have hP : va_P D vwCl (CS D a s) H := hP
    have hl : lv_has ls 2 [] := hl
    have h : m_x6_isSign_J21 s x1 = some o := h
    unfold m_x6_isSign_J21 at h
    obtain ⟨hb2, h⟩ := bo_e h
    obtain rfl := Option.some.inj h
    exact W.zret (v := x1) hx hb hr (bo_n hb2) (fun t ht hW => ⟨⟨_, (), rfl, rfl, trivial⟩, hS.F ht⟩) hS.2.2 dX6_isSign_21
  refine y_head (pcJ := 20) (σ := Unit) (fun u H locs ls => va_P D vwCl (CS D a s) H ∧ va_S (fun _ => False) s₀.heap H locs ∧ lv_has ls 2 [] ∧ m_x6_isSign_J20 s u = some o) (fun u => []) (fun u H locs ls hI => ?_) (fun J20 => ?_)
  · obtain ⟨hP, hS, hl, h⟩ := hI
    skip
    have hP : va_P D vwCl (CS D a s) H := hP
    have hl : lv_has ls 2 [] := hl
    have h : m_x6_isSign_J20 s () = some o := h
    unfold m_x6_isSign_J20 at h
    refine lv_iconst (v := 0) hx hb dX6_isSign_20 (by decide) ?_
    exact J21 0 _ _ _ ⟨hP, hS, lv_sub hl [] rfl, h⟩
  refine lv_aload_n hx hb dX6_isSign_0 rfl (lv_at hl 0 rfl) ?_
  refine va_get (D := D) (ci := 6) (v := .int (gI s 107)) (C := RX6) (T := TX6) (N := 12) hx hb ht inX6 hown hK hP 5 CW_5 rfl 7 (by decide) (ht (.fieldLink RX6 44 "CloneVolumes$Reader" "kind" "I") fl_X6_44) (fun _ h9 => h9) rfl dX6_isSign_1 ?_
  refine lv_iconst (v := 3) hx hb dX6_isSign_4 (by decide) ?_
  refine lv_icmp_ne (tgt := 20) hx hb dX6_isSign_5 (by decide) (fun c3 => ?_) (fun c3 => ?_)
  · have h := if_f c3 h
    exact J20 () _ _ _ ⟨hP, hS, lv_sub hl [] rfl, h⟩
  · have h := if_t c3 h
    refine lv_aload_n hx hb dX6_isSign_8 rfl (lv_at hl 0 rfl) ?_
    refine va_get (D := D) (ci := 6) (v := .int (gI s 111)) (C := RX6) (T := TX6) (N := 12) hx hb ht inX6 hown hK hP 5 CW_5 rfl 11 (by decide) (ht (.fieldLink RX6 108 "CloneVolumes$Reader" "sign" "I") fl_X6_108) (fun _ h9 => h9) rfl dX6_isSign_9 ?_
    refine lv_iload_n hx hb dX6_isSign_12 rfl (lv_at hl 1 rfl) ?_
    refine lv_icmp_ne (tgt := 20) hx hb dX6_isSign_13 (by decide) (fun c4 => ?_) (fun c4 => ?_)
    · have h := if_f c4 h
      exact J20 () _ _ _ ⟨hP, hS, lv_sub hl [] rfl, h⟩
    · have h := if_t c4 h
      refine lv_iconst (v := 1) hx hb dX6_isSign_16 (by decide) ?_
      refine lv_goto (tgt := 21) hx hb dX6_isSign_17 (by decide) ?_
      exact J21 1 _ _ _ ⟨hP, hS, lv_sub hl [] rfl, h⟩
def m_x6_expectSign_J25 (s1 : MS) : Option MS :=
  some s1
def m_x6_expectSign (p0 : Int32) (s : MS) : Option MS :=
  bn (m_x6_isSign p0 s) (fun r3 => if r3 = 0 then bn (m_x6_fail 1 (gI s 108) s) (fun qr7 => m_x6_expectSign_J25 qr7.2) else bn (m_x6_advance s) (fun s9 => m_x6_expectSign_J25 s9))
set_option maxHeartbeats 4000000 in
set_option maxRecDepth 100000 in
theorem k_x6_expectSign (l : Launch) (D : va_G) (a : Nat → Nat) (p0 : Int32) (sz : Nat) (s : MS) (o : MS) (h : m_x6_expectSign p0 s = some o) : yWv l yX6_expectSign cX6_expectSign 2 none { frames := 2, cells := 0, slots := 0, locals := 120 } D sz [.ref (a 5), .int p0] (CS D a s) (CS D a o) := by
  refine Met.ofW (cc := cX6_expectSign) (maxL := 2) (ret := none) (by decide) rfl ?_
  intro p e s₀ m args below meth c s₁ B hml hv
  obtain ⟨rfl, ⟨hsz, hP, hK, hD0⟩, hN⟩ := hv
  have hx := B.exec
  have hb := B.bytes
  have hr := B.returns
  have hts := atoms_spec (ws := wz yX6_expectSign cX6_expectSign 2 none) B.pre
  have ht : ∀ w ∈ lw_gd, w.before _ s₀ = true := fun w h => hts w (List.mem_cons_of_mem _ h)
  have hown : s₀.vm.findClass RX6 = some m.cls := findClass_of_methodNamed B.named
  have hlocks := B.notSynchronized
  subst hsz
  have hD := hD0.self (sz := s₀.heap.size)
  generalize hAe : va_A (CS D a s) s₀.heap.size = A at hD ⊢
  have hA : ∀ q : Nat, s₀.heap.size ≤ q → A q := fun q h => by rw [← hAe]; exact Or.inr h
  have hS : va_S A s₀.heap s₀.heap [] := va_S.rf
  have hDD : ∀ t : MS, va_D A (CS D a t) := fun t => CW_D t hD
  have hl := lv_entry ([.ref (a 5), .int p0]) (n := 2) (Nat.le_of_ble_eq_true rfl)
  rw [lg_entry_eq]
  generalize (lg_sl ([.ref (a 5), .int p0]) ++ List.replicate (2 - (lg_sl ([.ref (a 5), .int p0])).length) Slot.unset).toArray = ls at hl ⊢
  have hl : lv_has ls 2 [(0, .ref (a 5)), (1, .int p0)] := hl
  unfold m_x6_expectSign at h
  refine y_head (pcJ := 25) (σ := MS) (fun u H locs ls => va_P D vwCl (CS D a u) H ∧ va_S A s₀.heap H locs ∧ lv_has ls 2 [] ∧ m_x6_expectSign_J25 u = some o) (fun u => []) (fun u H locs ls hI => ?_) (fun J25 => ?_)
  · obtain ⟨hP, hS, hl, h⟩ := hI
    obtain ⟨s1, rfl⟩ : ∃ z, z = u := ⟨u, rfl⟩
    have hP : va_P D vwCl (CS D a s1) H := hP
    have hl : lv_has ls 2 [] := hl
    have h : m_x6_expectSign_J25 s1 = some o := h
    unfold m_x6_expectSign_J25 at h
    obtain rfl := Option.some.inj h
    exact W.vret hx hb hr (fun t ht hW => ⟨⟨(), rfl, trivial, by rw [ht]; exact hP, va_K.moved hW.alike hK, hDD _⟩, hS.F ht⟩) hS.2.2 dX6_expectSign_25
  refine lv_aload_n hx hb dX6_expectSign_0 rfl (lv_at hl 0 rfl) ?_
  refine lv_iload_n hx hb dX6_expectSign_1 rfl (lv_at hl 1 rfl) ?_
  obtain ⟨r3, hc2, h⟩ := bn_e h
  refine ycV (As := [.int p0]) (rest := []) (C := RX6) (n := 1) ⟨hx, hb, hml, hown, ht⟩ (k_x6_isSign l D a p0 _ _ hc2) (zgV ml_X6_124 im_X6_isSign se_X6_isSign in_X6 co_X6_isSign) rfl rfl (by decide +kernel) ⟨Nat.le_of_ble_eq_true rfl, Nat.le_of_ble_eq_true rfl⟩ hN hK hP hS 5 CW_5 rfl rfl rfl hl.1 rfl (Nat.le_of_ble_eq_true rfl) dX6_expectSign_2 ⟨Nat.le_of_ble_eq_true rfl, Nat.le_of_ble_eq_true rfl⟩ (fun H locs hP hS => ?_)
  refine lv_if_eq (tgt := 15) hx hb dX6_expectSign_5 (by decide) (fun c4 => ?_) (fun c4 => ?_)
  · have h := if_t c4 h
    refine lv_aload_n hx hb dX6_expectSign_15 rfl (lv_at hl 0 rfl) ?_
    refine lv_iconst (v := 1) hx hb dX6_expectSign_16 (by decide) ?_
    refine lv_aload_n hx hb dX6_expectSign_17 rfl (lv_at hl 0 rfl) ?_
    refine va_get (D := D) (ci := 6) (v := .int (gI s 108)) (C := RX6) (T := TX6) (N := 12) hx hb ht inX6 hown hK hP 5 CW_5 rfl 8 (by decide) (ht (.fieldLink RX6 51 "CloneVolumes$Reader" "start" "I") fl_X6_51) (fun _ h9 => h9) rfl dX6_expectSign_18 ?_
    obtain ⟨⟨r7, s6⟩, hc5, h⟩ := bn_e h
    refine ywV (r0 := r7) (As := [.int 1, .int (gI s 108)]) (rest := []) (C := RX6) (n := 2) (ws' := CS D a s6) ⟨hx, hb, hml, hown, ht⟩ (k_x6_fail l D a 1 (gI s 108) _ _ _ hc5) (zgV ml_X6_54 im_X6_fail se_X6_fail in_X6 co_X6_fail) rfl rfl (by decide +kernel) ⟨Nat.le_of_ble_eq_true rfl, Nat.le_of_ble_eq_true rfl⟩ hN hK hP (hDD _) hS hA 5 CW_5 rfl rfl rfl hl.1 rfl (Nat.le_of_ble_eq_true rfl) dX6_expectSign_21 ⟨Nat.le_of_ble_eq_true rfl, Nat.le_of_ble_eq_true rfl⟩ (fun H locs hP hS => ?_)
    refine lv_pop hx hb dX6_expectSign_24 rfl ?_
    exact J25 s6 _ _ _ ⟨hP, hS, lv_sub hl [] rfl, h⟩
  · have h := if_f c4 h
    refine lv_aload_n hx hb dX6_expectSign_8 rfl (lv_at hl 0 rfl) ?_
    obtain ⟨s9, hc8, h⟩ := bn_e h
    refine ywVv (As := []) (rest := []) (C := RX6) (n := 0) (ws' := CS D a s9) ⟨hx, hb, hml, hown, ht⟩ (k_x6_advance l D a _ _ _ hc8) (zgV ml_X6_75 im_X6_advance se_X6_advance in_X6 co_X6_advance) rfl rfl (by decide +kernel) ⟨Nat.le_of_ble_eq_true rfl, Nat.le_of_ble_eq_true rfl⟩ hN hK hP (hDD _) hS hA 5 CW_5 rfl rfl rfl hl.1 rfl (Nat.le_of_ble_eq_true rfl) dX6_expectSign_9 ⟨Nat.le_of_ble_eq_true rfl, Nat.le_of_ble_eq_true rfl⟩ (fun H locs hP hS => ?_)
    refine lv_goto (tgt := 25) hx hb dX6_expectSign_12 (by decide) ?_
    exact J25 s9 _ _ _ ⟨hP, hS, lv_sub hl [] rfl, h⟩
def m_x6_readChoice_J75 (rg : (MS → Option MS) × (MS → Option MS)) (s1 : MS) : Option MS :=
  some s1
def m_x6_readChoice (rg : (MS → Option MS) × (MS → Option MS)) (p0 : Int32) (s : MS) : Option MS :=
  bn (m_x6_advance s) (fun s3 => bn (m_x6_isSign 40 s3) (fun r5 => if r5 = 0 then bn (m_x6_fail 1 (gI s3 108) s3) (fun qr27 => m_x6_readChoice_J75 rg qr27.2) else bn (m_x6_opens s3) (fun qr9 => if qr9.1 = 0 then m_x6_readChoice_J75 rg qr9.2 else bn (m_x6_advance qr9.2) (fun s12 => bn (rg.1 s12) (fun s14 => bn (m_x6_expectSign 44 s14) (fun s16 => bn (rg.1 s16) (fun s18 => bn (m_x6_expectSign 41 s18) (fun s20 => stn (sI s20 106 ((gI s20 106) - 1)) (fun s21 => eqg (gI s21 9999) 2 (bn (m_x0_add p0 s21) (fun s24 => m_x6_readChoice_J75 rg s24)))))))))))
set_option maxHeartbeats 4000000 in
set_option maxRecDepth 100000 in
theorem k_x6_readChoice (l : Launch) (D : va_G) (a : Nat → Nat) (d : Nat) (rg : (MS → Option MS) × (MS → Option MS)) (hRS : ∀ (sz : Nat) (s o : MS), rg.1 s = some o → yWv l yX6_readSum cX6_readSum 3 none { frames := 8 * d + 16, cells := 0, slots := 0, locals := 60 * (8 * d + 16) } D sz [.ref (a 5)] (CS D a s) (CS D a o)) (hQ : ∀ (sz : Nat) (s o : MS), rg.2 s = some o → yWv l yX6_readPart cX6_readPart 1 none { frames := 8 * d + 12, cells := 0, slots := 0, locals := 60 * (8 * d + 12) } D sz [.ref (a 5)] (CS D a s) (CS D a o)) (p0 : Int32) (sz : Nat) (s : MS) (o : MS) (h : m_x6_readChoice rg p0 s = some o) : yWv l yX6_readChoice cX6_readChoice 2 none { frames := 8 * d + 17, cells := 0, slots := 0, locals := 60 * (8 * d + 17) } D sz [.ref (a 5), .int p0] (CS D a s) (CS D a o) := by
  refine Met.ofW (cc := cX6_readChoice) (maxL := 2) (ret := none) (by decide) rfl ?_
  intro p e s₀ m args below meth c s₁ B hml hv
  obtain ⟨rfl, ⟨hsz, hP, hK, hD0⟩, hN⟩ := hv
  have hx := B.exec
  have hb := B.bytes
  have hr := B.returns
  have hts := atoms_spec (ws := wz yX6_readChoice cX6_readChoice 2 none) B.pre
  have ht : ∀ w ∈ lw_gd, w.before _ s₀ = true := fun w h => hts w (List.mem_cons_of_mem _ h)
  have hown : s₀.vm.findClass RX6 = some m.cls := findClass_of_methodNamed B.named
  have hlocks := B.notSynchronized
  subst hsz
  have hD := hD0.self (sz := s₀.heap.size)
  generalize hAe : va_A (CS D a s) s₀.heap.size = A at hD ⊢
  have hA : ∀ q : Nat, s₀.heap.size ≤ q → A q := fun q h => by rw [← hAe]; exact Or.inr h
  have hS : va_S A s₀.heap s₀.heap [] := va_S.rf
  have hDD : ∀ t : MS, va_D A (CS D a t) := fun t => CW_D t hD
  have hl := lv_entry ([.ref (a 5), .int p0]) (n := 2) (Nat.le_of_ble_eq_true rfl)
  rw [lg_entry_eq]
  generalize (lg_sl ([.ref (a 5), .int p0]) ++ List.replicate (2 - (lg_sl ([.ref (a 5), .int p0])).length) Slot.unset).toArray = ls at hl ⊢
  have hl : lv_has ls 2 [(0, .ref (a 5)), (1, .int p0)] := hl
  unfold m_x6_readChoice at h
  refine y_head (pcJ := 75) (σ := MS) (fun u H locs ls => va_P D vwCl (CS D a u) H ∧ va_S A s₀.heap H locs ∧ lv_has ls 2 [] ∧ m_x6_readChoice_J75 rg u = some o) (fun u => []) (fun u H locs ls hI => ?_) (fun J75 => ?_)
  · obtain ⟨hP, hS, hl, h⟩ := hI
    obtain ⟨s1, rfl⟩ : ∃ z, z = u := ⟨u, rfl⟩
    have hP : va_P D vwCl (CS D a s1) H := hP
    have hl : lv_has ls 2 [] := hl
    have h : m_x6_readChoice_J75 rg s1 = some o := h
    unfold m_x6_readChoice_J75 at h
    obtain rfl := Option.some.inj h
    exact W.vret hx hb hr (fun t ht hW => ⟨⟨(), rfl, trivial, by rw [ht]; exact hP, va_K.moved hW.alike hK, hDD _⟩, hS.F ht⟩) hS.2.2 dX6_readChoice_75
  refine lv_aload_n hx hb dX6_readChoice_0 rfl (lv_at hl 0 rfl) ?_
  obtain ⟨s3, hc2, h⟩ := bn_e h
  refine ywVv (As := []) (rest := []) (C := RX6) (n := 0) (ws' := CS D a s3) ⟨hx, hb, hml, hown, ht⟩ (k_x6_advance l D a _ _ _ hc2) (zgV ml_X6_75 im_X6_advance se_X6_advance in_X6 co_X6_advance) rfl rfl (by decide +kernel) ⟨by show 1 + 1 ≤ 8 * d + 17; omega, by show 8 + (2 + 11) + 60 ≤ 60 * (8 * d + 17); omega⟩ hN hK hP (hDD _) hS hA 5 CW_5 rfl rfl rfl hl.1 rfl (Nat.le_of_ble_eq_true rfl) dX6_readChoice_1 ⟨Nat.le_of_ble_eq_true rfl, Nat.le_of_ble_eq_true rfl⟩ (fun H locs hP hS => ?_)
  refine lv_aload_n hx hb dX6_readChoice_4 rfl (lv_at hl 0 rfl) ?_
  refine lv_bipush (v := 40) hx hb dX6_readChoice_5 (by decide) ?_
  obtain ⟨r5, hc4, h⟩ := bn_e h
  refine ycV (As := [.int 40]) (rest := []) (C := RX6) (n := 1) ⟨hx, hb, hml, hown, ht⟩ (k_x6_isSign l D a 40 _ _ hc4) (zgV ml_X6_124 im_X6_isSign se_X6_isSign in_X6 co_X6_isSign) rfl rfl (by decide +kernel) ⟨by show 0 + 1 ≤ 8 * d + 17; omega, by show 8 + (2 + 11) + 0 ≤ 60 * (8 * d + 17); omega⟩ hN hK hP hS 5 CW_5 rfl rfl rfl hl.1 rfl (Nat.le_of_ble_eq_true rfl) dX6_readChoice_7 ⟨Nat.le_of_ble_eq_true rfl, Nat.le_of_ble_eq_true rfl⟩ (fun H locs hP hS => ?_)
  refine lv_if_ne (tgt := 26) hx hb dX6_readChoice_10 (by decide) (fun c6 => ?_) (fun c6 => ?_)
  · have h := if_f c6 h
    refine lv_aload_n hx hb dX6_readChoice_26 rfl (lv_at hl 0 rfl) ?_
    obtain ⟨⟨r9, s8⟩, hc7, h⟩ := bn_e h
    refine ywV (r0 := r9) (As := []) (rest := []) (C := RX6) (n := 0) (ws' := CS D a s8) ⟨hx, hb, hml, hown, ht⟩ (k_x6_opens l D a _ _ _ hc7) (zgV ml_X6_197 im_X6_opens se_X6_opens in_X6 co_X6_opens) rfl rfl (by decide +kernel) ⟨by show 1 + 1 ≤ 8 * d + 17; omega, by show 8 + (1 + 11) + 60 ≤ 60 * (8 * d + 17); omega⟩ hN hK hP (hDD _) hS hA 5 CW_5 rfl rfl rfl hl.1 rfl (Nat.le_of_ble_eq_true rfl) dX6_readChoice_27 ⟨Nat.le_of_ble_eq_true rfl, Nat.le_of_ble_eq_true rfl⟩ (fun H locs hP hS => ?_)
    refine lv_if_eq (tgt := 75) hx hb dX6_readChoice_30 (by decide) (fun c10 => ?_) (fun c10 => ?_)
    · have h := if_t c10 h
      exact J75 s8 _ _ _ ⟨hP, hS, lv_sub hl [] rfl, h⟩
    · have h := if_f c10 h
      refine lv_aload_n hx hb dX6_readChoice_33 rfl (lv_at hl 0 rfl) ?_
      obtain ⟨s12, hc11, h⟩ := bn_e h
      refine ywVv (As := []) (rest := []) (C := RX6) (n := 0) (ws' := CS D a s12) ⟨hx, hb, hml, hown, ht⟩ (k_x6_advance l D a _ _ _ hc11) (zgV ml_X6_75 im_X6_advance se_X6_advance in_X6 co_X6_advance) rfl rfl (by decide +kernel) ⟨by show 1 + 1 ≤ 8 * d + 17; omega, by show 8 + (2 + 11) + 60 ≤ 60 * (8 * d + 17); omega⟩ hN hK hP (hDD _) hS hA 5 CW_5 rfl rfl rfl hl.1 rfl (Nat.le_of_ble_eq_true rfl) dX6_readChoice_34 ⟨Nat.le_of_ble_eq_true rfl, Nat.le_of_ble_eq_true rfl⟩ (fun H locs hP hS => ?_)
      refine lv_aload_n hx hb dX6_readChoice_37 rfl (lv_at hl 0 rfl) ?_
      obtain ⟨s14, hc13, h⟩ := bn_e h
      refine ywVv (As := []) (rest := []) (C := RX6) (n := 0) (ws' := CS D a s14) ⟨hx, hb, hml, hown, ht⟩ (hRS _ _ _ hc13) (zgV ml_X6_81 im_X6_readSum se_X6_readSum in_X6 co_X6_readSum) rfl rfl (by decide +kernel) ⟨by show (8 * d + 16) + 1 ≤ 8 * d + 17; omega, by show 8 + (3 + 11) + 60 * (8 * d + 16) ≤ 60 * (8 * d + 17); omega⟩ hN hK hP (hDD _) hS hA 5 CW_5 rfl rfl rfl hl.1 rfl (Nat.le_of_ble_eq_true rfl) dX6_readChoice_38 ⟨Nat.le_of_ble_eq_true rfl, Nat.le_of_ble_eq_true rfl⟩ (fun H locs hP hS => ?_)
      refine lv_aload_n hx hb dX6_readChoice_41 rfl (lv_at hl 0 rfl) ?_
      refine lv_bipush (v := 44) hx hb dX6_readChoice_42 (by decide) ?_
      obtain ⟨s16, hc15, h⟩ := bn_e h
      refine ywVv (As := [.int 44]) (rest := []) (C := RX6) (n := 1) (ws' := CS D a s16) ⟨hx, hb, hml, hown, ht⟩ (k_x6_expectSign l D a 44 _ _ _ hc15) (zgV ml_X6_158 im_X6_expectSign se_X6_expectSign in_X6 co_X6_expectSign) rfl rfl (by decide +kernel) ⟨by show 2 + 1 ≤ 8 * d + 17; omega, by show 8 + (2 + 11) + 120 ≤ 60 * (8 * d + 17); omega⟩ hN hK hP (hDD _) hS hA 5 CW_5 rfl rfl rfl hl.1 rfl (Nat.le_of_ble_eq_true rfl) dX6_readChoice_44 ⟨Nat.le_of_ble_eq_true rfl, Nat.le_of_ble_eq_true rfl⟩ (fun H locs hP hS => ?_)
      refine lv_aload_n hx hb dX6_readChoice_47 rfl (lv_at hl 0 rfl) ?_
      obtain ⟨s18, hc17, h⟩ := bn_e h
      refine ywVv (As := []) (rest := []) (C := RX6) (n := 0) (ws' := CS D a s18) ⟨hx, hb, hml, hown, ht⟩ (hRS _ _ _ hc17) (zgV ml_X6_81 im_X6_readSum se_X6_readSum in_X6 co_X6_readSum) rfl rfl (by decide +kernel) ⟨by show (8 * d + 16) + 1 ≤ 8 * d + 17; omega, by show 8 + (3 + 11) + 60 * (8 * d + 16) ≤ 60 * (8 * d + 17); omega⟩ hN hK hP (hDD _) hS hA 5 CW_5 rfl rfl rfl hl.1 rfl (Nat.le_of_ble_eq_true rfl) dX6_readChoice_48 ⟨Nat.le_of_ble_eq_true rfl, Nat.le_of_ble_eq_true rfl⟩ (fun H locs hP hS => ?_)
      refine lv_aload_n hx hb dX6_readChoice_51 rfl (lv_at hl 0 rfl) ?_
      refine lv_bipush (v := 41) hx hb dX6_readChoice_52 (by decide) ?_
      obtain ⟨s20, hc19, h⟩ := bn_e h
      refine ywVv (As := [.int 41]) (rest := []) (C := RX6) (n := 1) (ws' := CS D a s20) ⟨hx, hb, hml, hown, ht⟩ (k_x6_expectSign l D a 41 _ _ _ hc19) (zgV ml_X6_158 im_X6_expectSign se_X6_expectSign in_X6 co_X6_expectSign) rfl rfl (by decide +kernel) ⟨by show 2 + 1 ≤ 8 * d + 17; omega, by show 8 + (2 + 11) + 120 ≤ 60 * (8 * d + 17); omega⟩ hN hK hP (hDD _) hS hA 5 CW_5 rfl rfl rfl hl.1 rfl (Nat.le_of_ble_eq_true rfl) dX6_readChoice_54 ⟨Nat.le_of_ble_eq_true rfl, Nat.le_of_ble_eq_true rfl⟩ (fun H locs hP hS => ?_)
      refine lv_aload_n hx hb dX6_readChoice_57 rfl (lv_at hl 0 rfl) ?_
      refine lv_dup hx hb dX6_readChoice_58 rfl ?_
      refine va_get (D := D) (ci := 6) (v := .int (gI s20 106)) (C := RX6) (T := TX6) (N := 12) hx hb ht inX6 hown hK hP 5 CW_5 rfl 6 (by decide) (ht (.fieldLink RX6 85 "CloneVolumes$Reader" "open" "I") fl_X6_85) (fun _ h9 => h9) rfl dX6_readChoice_59 ?_
      refine lv_iconst (v := 1) hx hb dX6_readChoice_62 (by decide) ?_
      refine lv_isub hx hb dX6_readChoice_63 ?_
      refine ya_put (D := D) (ci := 6) (v := .int ((gI s20 106) - 1)) (ty := .int) (C := RX6) (T := TX6) (N := 12) hx hb ht inX6 tyX6 tyX6_ok nmX6 hown hK hP (hDD _) hS 5 CW_5 rfl 6 (by decide) (ht (.fieldLink RX6 85 "CloneVolumes$Reader" "open" "I") fl_X6_85) (fun _ h9 => h9) rfl (by decide +kernel) rfl rfl (Nat.le_of_ble_eq_true rfl) dX6_readChoice_64 (CW_w5_6 _) (fun H locs hP hS => ?_)
      obtain ⟨s21, hs21, h⟩ := st_e h
      rw [hs21] at hP
      refine lv_aload_n hx hb dX6_readChoice_67 rfl (lv_at hl 0 rfl) ?_
      obtain ⟨he22, h⟩ := eqg_e h
      refine va_get (D := D) (ci := 6) (v := .ref (a 47)) (C := RX6) (T := TX6) (N := 12) hx hb ht inX6 hown hK hP 5 CW_5 rfl 4 (by decide) (ht (.fieldLink RX6 84 "CloneVolumes$Reader" "code" "LCloneVolumes$Code;") fl_X6_84) (fun _ h9 => h9) (congrArg some (rcv_2 he22)) dX6_readChoice_68 ?_
      refine lv_iload_n hx hb dX6_readChoice_71 rfl (lv_at hl 1 rfl) ?_
      obtain ⟨s24, hc23, h⟩ := bn_e h
      refine ywVv (As := [.int p0]) (rest := []) (C := RX0) (n := 1) (ws' := CS D a s24) ⟨hx, hb, hml, hown, ht⟩ (k_x0_add l D a p0 _ _ _ hc23) (zgV ml_X6_191 im_X0_add se_X0_add in_X0 co_X0_add) rfl rfl (by decide +kernel) ⟨by show 0 + 1 ≤ 8 * d + 17; omega, by show 8 + (2 + 11) + 0 ≤ 60 * (8 * d + 17); omega⟩ hN hK hP (hDD _) hS hA 47 CW_47 rfl rfl rfl hl.1 rfl (Nat.le_of_ble_eq_true rfl) dX6_readChoice_72 ⟨Nat.le_of_ble_eq_true rfl, Nat.le_of_ble_eq_true rfl⟩ (fun H locs hP hS => ?_)
      exact J75 s24 _ _ _ ⟨hP, hS, lv_sub hl [] rfl, h⟩
  · have h := if_t c6 h
    refine lv_aload_n hx hb dX6_readChoice_13 rfl (lv_at hl 0 rfl) ?_
    refine lv_iconst (v := 1) hx hb dX6_readChoice_14 (by decide) ?_
    refine lv_aload_n hx hb dX6_readChoice_15 rfl (lv_at hl 0 rfl) ?_
    refine va_get (D := D) (ci := 6) (v := .int (gI s3 108)) (C := RX6) (T := TX6) (N := 12) hx hb ht inX6 hown hK hP 5 CW_5 rfl 8 (by decide) (ht (.fieldLink RX6 51 "CloneVolumes$Reader" "start" "I") fl_X6_51) (fun _ h9 => h9) rfl dX6_readChoice_16 ?_
    obtain ⟨⟨r27, s26⟩, hc25, h⟩ := bn_e h
    refine ywV (r0 := r27) (As := [.int 1, .int (gI s3 108)]) (rest := []) (C := RX6) (n := 2) (ws' := CS D a s26) ⟨hx, hb, hml, hown, ht⟩ (k_x6_fail l D a 1 (gI s3 108) _ _ _ hc25) (zgV ml_X6_54 im_X6_fail se_X6_fail in_X6 co_X6_fail) rfl rfl (by decide +kernel) ⟨by show 0 + 1 ≤ 8 * d + 17; omega, by show 8 + (3 + 11) + 0 ≤ 60 * (8 * d + 17); omega⟩ hN hK hP (hDD _) hS hA 5 CW_5 rfl rfl rfl hl.1 rfl (Nat.le_of_ble_eq_true rfl) dX6_readChoice_19 ⟨Nat.le_of_ble_eq_true rfl, Nat.le_of_ble_eq_true rfl⟩ (fun H locs hP hS => ?_)
    refine lv_pop hx hb dX6_readChoice_22 rfl ?_
    refine lv_goto (tgt := 75) hx hb dX6_readChoice_23 (by decide) ?_
    exact J75 s26 _ _ _ ⟨hP, hS, lv_sub hl [] rfl, h⟩
