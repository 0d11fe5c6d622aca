theorem cl_X12_261 : Cond.constantLong RX12 261 99 ∈ lw_gd := zm (lw_g_10 (List.mem_of_getElem? (i := 16) (by decide +kernel))) rfl
theorem co_X12_fail : Cond.code yX12_fail cX12_fail 3 none ∈ lw_gd := zm (lw_g_8 (List.mem_of_getElem? (i := 49) (by decide +kernel))) rfl
theorem co_X12_isDigit : Cond.code yX12_isDigit cX12_isDigit 1 (some .boolean) ∈ lw_gd := zm (lw_g_8 (List.mem_of_getElem? (i := 56) (by decide +kernel))) rfl
theorem co_X12_isHere : Cond.code yX12_isHere cX12_isHere 4 (some .boolean) ∈ lw_gd := zm (lw_g_8 (List.mem_of_getElem? (i := 38) (by decide +kernel))) rfl
theorem co_X12_isIn : Cond.code yX12_isIn cX12_isIn 6 (some .boolean) ∈ lw_gd := zm (lw_g_8 (List.mem_of_getElem? (i := 59) (by decide +kernel))) rfl
theorem co_X12_isLetter : Cond.code yX12_isLetter cX12_isLetter 1 (some .boolean) ∈ lw_gd := zm (lw_g_8 (List.mem_of_getElem? (i := 45) (by decide +kernel))) rfl
theorem co_X12_look : Cond.code yX12_look cX12_look 1 (some .int) ∈ lw_gd := zm (lw_g_8 (List.mem_of_getElem? (i := 42) (by decide +kernel))) rfl
theorem co_X12_takes : Cond.code yX12_takes cX12_takes 2 (some .boolean) ∈ lw_gd := zm (lw_g_8 (List.mem_of_getElem? (i := 34) (by decide +kernel))) rfl
theorem co_X12_takesSign : Cond.code yX12_takesSign cX12_takesSign 2 (some .boolean) ∈ lw_gd := zm (lw_g_8 (List.mem_of_getElem? (i := 67) (by decide +kernel))) rfl
theorem fl_X12_263 : Cond.fieldLink RX12 263 "CloneVolumesModel" "taped" "I" ∈ lw_gd := zm (lw_g_6 (List.mem_of_getElem? (i := 142) (by decide +kernel))) rfl
theorem fl_X12_266 : Cond.fieldLink RX12 266 "CloneVolumesModel" "bad" "I" ∈ lw_gd := zm (lw_g_6 (List.mem_of_getElem? (i := 146) (by decide +kernel))) rfl
theorem fl_X12_269 : Cond.fieldLink RX12 269 "CloneVolumesModel" "badPlace" "I" ∈ lw_gd := zm (lw_g_6 (List.mem_of_getElem? (i := 147) (by decide +kernel))) rfl
theorem fl_X12_272 : Cond.fieldLink RX12 272 "CloneVolumesModel" "at" "I" ∈ lw_gd := zm (lw_g_6 (List.mem_of_getElem? (i := 143) (by decide +kernel))) rfl
theorem fl_X12_275 : Cond.fieldLink RX12 275 "CloneVolumesModel" "end" "I" ∈ lw_gd := zm (lw_g_6 (List.mem_of_getElem? (i := 144) (by decide +kernel))) rfl
theorem fl_X12_286 : Cond.fieldLink RX12 286 "CloneVolumesModel" "ended" "I" ∈ lw_gd := zm (lw_g_6 (List.mem_of_getElem? (i := 145) (by decide +kernel))) rfl
theorem fl_X12_306 : Cond.fieldLink RX12 306 "CloneVolumesModel" "numberPlace" "I" ∈ lw_gd := zm (lw_g_6 (List.mem_of_getElem? (i := 151) (by decide +kernel))) rfl
theorem im_X12_fail : Cond.instanceMethod yX12_fail ∈ lw_gd := zm (lw_g_8 (List.mem_of_getElem? (i := 48) (by decide +kernel))) rfl
theorem im_X12_isHere : Cond.instanceMethod yX12_isHere ∈ lw_gd := zm (lw_g_8 (List.mem_of_getElem? (i := 37) (by decide +kernel))) rfl
theorem im_X12_look : Cond.instanceMethod yX12_look ∈ lw_gd := zm (lw_g_8 (List.mem_of_getElem? (i := 41) (by decide +kernel))) rfl
theorem im_X12_takes : Cond.instanceMethod yX12_takes ∈ lw_gd := zm (lw_g_8 (List.mem_of_getElem? (i := 33) (by decide +kernel))) rfl
theorem im_X12_takesSign : Cond.instanceMethod yX12_takesSign ∈ lw_gd := zm (lw_g_8 (List.mem_of_getElem? (i := 66) (by decide +kernel))) rfl
theorem in_X12 : Cond.initialized RX12 ∈ lw_gd := zm (lw_g_1 (List.mem_of_getElem? (i := 17) (by decide +kernel))) rfl
theorem ml_X12_278 : Cond.methodLink RX12 278 yX12_look ∈ lw_gd := zm (lw_g_8 (List.mem_of_getElem? (i := 39) (by decide +kernel))) rfl
theorem ml_X12_282 : Cond.methodLink RX12 282 yX12_isLetter ∈ lw_gd := zm (lw_g_8 (List.mem_of_getElem? (i := 43) (by decide +kernel))) rfl
theorem ml_X12_289 : Cond.methodLink RX12 289 yX12_isHere ∈ lw_gd := zm (lw_g_8 (List.mem_of_getElem? (i := 35) (by decide +kernel))) rfl
theorem ml_X12_293 : Cond.methodLink RX12 293 yX12_takes ∈ lw_gd := zm (lw_g_8 (List.mem_of_getElem? (i := 31) (by decide +kernel))) rfl
theorem ml_X12_296 : Cond.methodLink RX12 296 yX12_fail ∈ lw_gd := zm (lw_g_8 (List.mem_of_getElem? (i := 46) (by decide +kernel))) rfl
theorem ml_X12_300 : Cond.methodLink RX12 300 yX12_takesSign ∈ lw_gd := zm (lw_g_8 (List.mem_of_getElem? (i := 64) (by decide +kernel))) rfl
theorem ml_X12_303 : Cond.methodLink RX12 303 yX12_isDigit ∈ lw_gd := zm (lw_g_8 (List.mem_of_getElem? (i := 54) (by decide +kernel))) rfl
theorem ml_X12_309 : Cond.methodLink RX12 309 yX12_isIn ∈ lw_gd := zm (lw_g_8 (List.mem_of_getElem? (i := 57) (by decide +kernel))) rfl
theorem se_X12_fail : Cond.selects RX12 yX12_fail yX12_fail ∈ lw_gd := zm (List.mem_of_getElem? (i := 74) (by decide +kernel)) rfl
theorem se_X12_isHere : Cond.selects RX12 yX12_isHere yX12_isHere ∈ lw_gd := zm (List.mem_of_getElem? (i := 72) (by decide +kernel)) rfl
theorem se_X12_look : Cond.selects RX12 yX12_look yX12_look ∈ lw_gd := zm (List.mem_of_getElem? (i := 73) (by decide +kernel)) rfl
theorem se_X12_takes : Cond.selects RX12 yX12_takes yX12_takes ∈ lw_gd := zm (List.mem_of_getElem? (i := 71) (by decide +kernel)) rfl
theorem se_X12_takesSign : Cond.selects RX12 yX12_takesSign yX12_takesSign ∈ lw_gd := zm (List.mem_of_getElem? (i := 77) (by decide +kernel)) rfl
theorem st_X12_isDigit : Cond.static yX12_isDigit ∈ lw_gd := zm (lw_g_8 (List.mem_of_getElem? (i := 55) (by decide +kernel))) rfl
theorem st_X12_isIn : Cond.static yX12_isIn ∈ lw_gd := zm (lw_g_8 (List.mem_of_getElem? (i := 58) (by decide +kernel))) rfl
theorem st_X12_isLetter : Cond.static yX12_isLetter ∈ lw_gd := zm (lw_g_8 (List.mem_of_getElem? (i := 44) (by decide +kernel))) rfl
theorem eX12_asks_0 : decode cX12_asks 0 = .ok (.aload_n 0, 1) ∧ decode cX12_asks 1 = .ok (.getfield 266, 3) ∧ decode cX12_asks 4 = .ok (.ifCond .ne 20, 3) ∧ decode cX12_asks 7 = .ok (.aload_n 0, 1) ∧ decode cX12_asks 8 = .ok (.aload_n 1, 1) ∧ decode cX12_asks 9 = .ok (.invokevirtual 293, 3) ∧ decode cX12_asks 12 = .ok (.ifCond .ne 12, 3) ∧ decode cX12_asks 15 = .ok (.aload_n 0, 1) := by decide +kernel
theorem eX12_asks_16 : decode cX12_asks 16 = .ok (.iconst 1, 1) ∧ decode cX12_asks 17 = .ok (.aload_n 0, 1) ∧ decode cX12_asks 18 = .ok (.getfield 272, 3) ∧ decode cX12_asks 21 = .ok (.invokevirtual 296, 3) ∧ decode cX12_asks 24 = .ok (.return_, 1) ∧ decode cX12_asksSign 0 = .ok (.aload_n 0, 1) ∧ decode cX12_asksSign 1 = .ok (.getfield 266, 3) ∧ decode cX12_asksSign 4 = .ok (.ifCond .ne 20, 3) := by decide +kernel
theorem eX12_asksSign_7 : decode cX12_asksSign 7 = .ok (.aload_n 0, 1) ∧ decode cX12_asksSign 8 = .ok (.iload_n 1, 1) ∧ decode cX12_asksSign 9 = .ok (.invokevirtual 300, 3) ∧ decode cX12_asksSign 12 = .ok (.ifCond .ne 12, 3) ∧ decode cX12_asksSign 15 = .ok (.aload_n 0, 1) ∧ decode cX12_asksSign 16 = .ok (.iconst 1, 1) ∧ decode cX12_asksSign 17 = .ok (.aload_n 0, 1) ∧ decode cX12_asksSign 18 = .ok (.getfield 272, 3) := by decide +kernel
theorem eX12_asksSign_21 : decode cX12_asksSign 21 = .ok (.invokevirtual 296, 3) ∧ decode cX12_asksSign 24 = .ok (.return_, 1) ∧ decode cX12_clamp 0 = .ok (.lload_n 0, 1) ∧ decode cX12_clamp 1 = .ok (.lconst 0, 1) ∧ decode cX12_clamp 2 = .ok (.lcmp, 1) ∧ decode cX12_clamp 3 = .ok (.ifCond .ge 7, 3) ∧ decode cX12_clamp 6 = .ok (.iconst 0, 1) ∧ decode cX12_clamp 7 = .ok (.goto 18, 3) := by decide +kernel
theorem eX12_clamp_10 : decode cX12_clamp 10 = .ok (.lload_n 0, 1) ∧ decode cX12_clamp 11 = .ok (.ldc2_w 261, 3) ∧ decode cX12_clamp 14 = .ok (.lcmp, 1) ∧ decode cX12_clamp 15 = .ok (.ifCond .le 8, 3) ∧ decode cX12_clamp 18 = .ok (.bipush 99, 2) ∧ decode cX12_clamp 20 = .ok (.goto 5, 3) ∧ decode cX12_clamp 23 = .ok (.lload_n 0, 1) ∧ decode cX12_clamp 24 = .ok (.l2i, 1) := by decide +kernel
theorem eX12_clamp_25 : decode cX12_clamp 25 = .ok (.ireturn, 1) ∧ decode cX12_end 0 = .ok (.iload_n 1, 1) ∧ decode cX12_end 1 = .ok (.ifCond .lt 11, 3) ∧ decode cX12_end 4 = .ok (.iload_n 1, 1) ∧ decode cX12_end 5 = .ok (.aload_n 0, 1) ∧ decode cX12_end 6 = .ok (.getfield 263, 3) ∧ decode cX12_end 9 = .ok (.if_icmp .le 15, 3) ∧ decode cX12_end 12 = .ok (.aload_n 0, 1) := by decide +kernel
theorem eX12_end_13 : decode cX12_end 13 = .ok (.getfield 17, 3) ∧ decode cX12_end 16 = .ok (.iconst 0, 1) ∧ decode cX12_end 17 = .ok (.dup2, 1) ∧ decode cX12_end 18 = .ok (.iaload, 1) ∧ decode cX12_end 19 = .ok (.iconst 1, 1) ∧ decode cX12_end 20 = .ok (.iadd, 1) ∧ decode cX12_end 21 = .ok (.iastore, 1) ∧ decode cX12_end 22 = .ok (.iconst 0, 1) := by decide +kernel
theorem eX12_end_23 : decode cX12_end 23 = .ok (.ireturn, 1) ∧ decode cX12_end 24 = .ok (.aload_n 0, 1) ∧ decode cX12_end 25 = .ok (.iload_n 1, 1) ∧ decode cX12_end 26 = .ok (.putfield 263, 3) ∧ decode cX12_end 29 = .ok (.iconst 1, 1) ∧ decode cX12_end 30 = .ok (.ireturn, 1) ∧ decode cX12_fail 0 = .ok (.aload_n 0, 1) ∧ decode cX12_fail 1 = .ok (.getfield 266, 3) := by decide +kernel
theorem eX12_fail_4 : decode cX12_fail 4 = .ok (.ifCond .eq 4, 3) ∧ decode cX12_fail 7 = .ok (.return_, 1) ∧ decode cX12_fail 8 = .ok (.aload_n 0, 1) ∧ decode cX12_fail 9 = .ok (.iload_n 1, 1) ∧ decode cX12_fail 10 = .ok (.putfield 266, 3) ∧ decode cX12_fail 13 = .ok (.aload_n 0, 1) ∧ decode cX12_fail 14 = .ok (.iload_n 2, 1) ∧ decode cX12_fail 15 = .ok (.putfield 269, 3) := by decide +kernel
theorem eX12_fail_18 : decode cX12_fail 18 = .ok (.return_, 1) ∧ decode cX12_feed 0 = .ok (.aload_n 0, 1) ∧ decode cX12_feed 1 = .ok (.getfield 263, 3) ∧ decode cX12_feed 4 = .ok (.bipush 20, 2) ∧ decode cX12_feed 6 = .ok (.iadd, 1) ∧ decode cX12_feed 7 = .ok (.sipush 1600, 3) ∧ decode cX12_feed 10 = .ok (.if_icmp .le 15, 3) ∧ decode cX12_feed 13 = .ok (.aload_n 0, 1) := by decide +kernel
theorem eX12_feed_14 : decode cX12_feed 14 = .ok (.getfield 17, 3) ∧ decode cX12_feed 17 = .ok (.iconst 0, 1) ∧ decode cX12_feed 18 = .ok (.dup2, 1) ∧ decode cX12_feed 19 = .ok (.iaload, 1) ∧ decode cX12_feed 20 = .ok (.iconst 1, 1) ∧ decode cX12_feed 21 = .ok (.iadd, 1) ∧ decode cX12_feed 22 = .ok (.iastore, 1) ∧ decode cX12_feed 23 = .ok (.iconst (-1), 1) := by decide +kernel
theorem eX12_feed_24 : decode cX12_feed 24 = .ok (.ireturn, 1) ∧ decode cX12_feed 25 = .ok (.iconst 0, 1) ∧ decode cX12_feed 26 = .ok (.istore 6, 2) ∧ decode cX12_feed 28 = .ok (.iload 6, 2) ∧ decode cX12_feed 30 = .ok (.bipush 20, 2) ∧ decode cX12_feed 32 = .ok (.if_icmp .ge 92, 3) ∧ decode cX12_feed 35 = .ok (.iload 6, 2) ∧ decode cX12_feed 37 = .ok (.iconst 4, 1) := by decide +kernel
theorem eX12_feed_38 : decode cX12_feed 38 = .ok (.if_icmp .ge 7, 3) ∧ decode cX12_feed 41 = .ok (.iload_n 1, 1) ∧ decode cX12_feed 42 = .ok (.goto 39, 3) ∧ decode cX12_feed 45 = .ok (.iload 6, 2) ∧ decode cX12_feed 47 = .ok (.bipush 8, 2) ∧ decode cX12_feed 49 = .ok (.if_icmp .ge 7, 3) ∧ decode cX12_feed 52 = .ok (.iload_n 2, 1) ∧ decode cX12_feed 53 = .ok (.goto 28, 3) := by decide +kernel
theorem eX12_feed_56 : decode cX12_feed 56 = .ok (.iload 6, 2) ∧ decode cX12_feed 58 = .ok (.bipush 12, 2) ∧ decode cX12_feed 60 = .ok (.if_icmp .ge 7, 3) ∧ decode cX12_feed 63 = .ok (.iload_n 3, 1) ∧ decode cX12_feed 64 = .ok (.goto 17, 3) ∧ decode cX12_feed 67 = .ok (.iload 6, 2) ∧ decode cX12_feed 69 = .ok (.bipush 16, 2) ∧ decode cX12_feed 71 = .ok (.if_icmp .ge 8, 3) := by decide +kernel
theorem eX12_feed_74 : decode cX12_feed 74 = .ok (.iload 4, 2) ∧ decode cX12_feed 76 = .ok (.goto 5, 3) ∧ decode cX12_feed 79 = .ok (.iload 5, 2) ∧ decode cX12_feed 81 = .ok (.istore 7, 2) ∧ decode cX12_feed 83 = .ok (.aload_n 0, 1) ∧ decode cX12_feed 84 = .ok (.getfield 7, 3) ∧ decode cX12_feed 87 = .ok (.aload_n 0, 1) ∧ decode cX12_feed 88 = .ok (.getfield 263, 3) := by decide +kernel
theorem eX12_feed_91 : decode cX12_feed 91 = .ok (.iload 7, 2) ∧ decode cX12_feed 93 = .ok (.bipush 8, 2) ∧ decode cX12_feed 95 = .ok (.iconst 3, 1) ∧ decode cX12_feed 96 = .ok (.iload 6, 2) ∧ decode cX12_feed 98 = .ok (.iconst 4, 1) ∧ decode cX12_feed 99 = .ok (.irem, 1) ∧ decode cX12_feed 100 = .ok (.isub, 1) ∧ decode cX12_feed 101 = .ok (.imul, 1) := by decide +kernel
theorem eX12_feed_102 : decode cX12_feed 102 = .ok (.ishr, 1) ∧ decode cX12_feed 103 = .ok (.sipush 255, 3) ∧ decode cX12_feed 106 = .ok (.iand, 1) ∧ decode cX12_feed 107 = .ok (.iastore, 1) ∧ decode cX12_feed 108 = .ok (.aload_n 0, 1) ∧ decode cX12_feed 109 = .ok (.dup, 1) ∧ decode cX12_feed 110 = .ok (.getfield 263, 3) ∧ decode cX12_feed 113 = .ok (.iconst 1, 1) := by decide +kernel
theorem eX12_feed_114 : decode cX12_feed 114 = .ok (.iadd, 1) ∧ decode cX12_feed 115 = .ok (.putfield 263, 3) ∧ decode cX12_feed 118 = .ok (.iinc 6 1, 3) ∧ decode cX12_feed 121 = .ok (.goto (-93), 3) ∧ decode cX12_feed 124 = .ok (.aload_n 0, 1) ∧ decode cX12_feed 125 = .ok (.getfield 263, 3) ∧ decode cX12_feed 128 = .ok (.ireturn, 1) ∧ decode cX12_isDigit 0 = .ok (.iload_n 0, 1) := by decide +kernel
theorem eX12_isDigit_1 : decode cX12_isDigit 1 = .ok (.bipush 48, 2) ∧ decode cX12_isDigit 3 = .ok (.if_icmp .lt 13, 3) ∧ decode cX12_isDigit 6 = .ok (.iload_n 0, 1) ∧ decode cX12_isDigit 7 = .ok (.bipush 57, 2) ∧ decode cX12_isDigit 9 = .ok (.if_icmp .gt 7, 3) ∧ decode cX12_isDigit 12 = .ok (.iconst 1, 1) ∧ decode cX12_isDigit 13 = .ok (.goto 4, 3) ∧ decode cX12_isDigit 16 = .ok (.iconst 0, 1) := by decide +kernel
theorem eX12_isDigit_17 : decode cX12_isDigit 17 = .ok (.ireturn, 1) ∧ decode cX12_isHere 0 = .ok (.aload_n 0, 1) ∧ decode cX12_isHere 1 = .ok (.getfield 266, 3) ∧ decode cX12_isHere 4 = .ok (.ifCond .ne 24, 3) ∧ decode cX12_isHere 7 = .ok (.aload_n 0, 1) ∧ decode cX12_isHere 8 = .ok (.invokevirtual 278, 3) ∧ decode cX12_isHere 11 = .ok (.invokestatic 282, 3) ∧ decode cX12_isHere 14 = .ok (.ifCond .eq 14, 3) := by decide +kernel
theorem eX12_isHere_17 : decode cX12_isHere 17 = .ok (.aload_n 0, 1) ∧ decode cX12_isHere 18 = .ok (.getfield 272, 3) ∧ decode cX12_isHere 21 = .ok (.aload_n 0, 1) ∧ decode cX12_isHere 22 = .ok (.getfield 286, 3) ∧ decode cX12_isHere 25 = .ok (.if_icmp .ne 5, 3) ∧ decode cX12_isHere 28 = .ok (.iconst 0, 1) ∧ decode cX12_isHere 29 = .ok (.ireturn, 1) ∧ decode cX12_isHere 30 = .ok (.aload_n 0, 1) := by decide +kernel
theorem eX12_isHere_31 : decode cX12_isHere 31 = .ok (.getfield 272, 3) ∧ decode cX12_isHere 34 = .ok (.istore_n 2, 1) ∧ decode cX12_isHere 35 = .ok (.iload_n 2, 1) ∧ decode cX12_isHere 36 = .ok (.aload_n 0, 1) ∧ decode cX12_isHere 37 = .ok (.getfield 275, 3) ∧ decode cX12_isHere 40 = .ok (.if_icmp .ge 21, 3) ∧ decode cX12_isHere 43 = .ok (.aload_n 0, 1) ∧ decode cX12_isHere 44 = .ok (.getfield 7, 3) := by decide +kernel
theorem eX12_isHere_47 : decode cX12_isHere 47 = .ok (.iload_n 2, 1) ∧ decode cX12_isHere 48 = .ok (.iaload, 1) ∧ decode cX12_isHere 49 = .ok (.invokestatic 282, 3) ∧ decode cX12_isHere 52 = .ok (.ifCond .eq 9, 3) ∧ decode cX12_isHere 55 = .ok (.iinc 2 1, 3) ∧ decode cX12_isHere 58 = .ok (.goto (-23), 3) ∧ decode cX12_isHere 61 = .ok (.iload_n 2, 1) ∧ decode cX12_isHere 62 = .ok (.aload_n 0, 1) := by decide +kernel
theorem eX12_isHere_63 : decode cX12_isHere 63 = .ok (.getfield 272, 3) ∧ decode cX12_isHere 66 = .ok (.isub, 1) ∧ decode cX12_isHere 67 = .ok (.aload_n 1, 1) ∧ decode cX12_isHere 68 = .ok (.arraylength, 1) ∧ decode cX12_isHere 69 = .ok (.if_icmp .eq 5, 3) ∧ decode cX12_isHere 72 = .ok (.iconst 0, 1) ∧ decode cX12_isHere 73 = .ok (.ireturn, 1) ∧ decode cX12_isHere 74 = .ok (.iconst 0, 1) := by decide +kernel
theorem eX12_isHere_75 : decode cX12_isHere 75 = .ok (.istore_n 3, 1) ∧ decode cX12_isHere 76 = .ok (.iload_n 3, 1) ∧ decode cX12_isHere 77 = .ok (.aload_n 1, 1) ∧ decode cX12_isHere 78 = .ok (.arraylength, 1) ∧ decode cX12_isHere 79 = .ok (.if_icmp .ge 28, 3) ∧ decode cX12_isHere 82 = .ok (.aload_n 0, 1) ∧ decode cX12_isHere 83 = .ok (.getfield 7, 3) ∧ decode cX12_isHere 86 = .ok (.aload_n 0, 1) := by decide +kernel
theorem eX12_isHere_87 : decode cX12_isHere 87 = .ok (.getfield 272, 3) ∧ decode cX12_isHere 90 = .ok (.iload_n 3, 1) ∧ decode cX12_isHere 91 = .ok (.iadd, 1) ∧ decode cX12_isHere 92 = .ok (.iaload, 1) ∧ decode cX12_isHere 93 = .ok (.aload_n 1, 1) ∧ decode cX12_isHere 94 = .ok (.iload_n 3, 1) ∧ decode cX12_isHere 95 = .ok (.caload, 1) ∧ decode cX12_isHere 96 = .ok (.if_icmp .eq 5, 3) := by decide +kernel
theorem eX12_isHere_99 : decode cX12_isHere 99 = .ok (.iconst 0, 1) ∧ decode cX12_isHere 100 = .ok (.ireturn, 1) ∧ decode cX12_isHere 101 = .ok (.iinc 3 1, 3) ∧ decode cX12_isHere 104 = .ok (.goto (-28), 3) ∧ decode cX12_isHere 107 = .ok (.iconst 1, 1) ∧ decode cX12_isHere 108 = .ok (.ireturn, 1) ∧ decode cX12_isIn 0 = .ok (.lload_n 0, 1) ∧ decode cX12_isIn 1 = .ok (.lload_n 2, 1) := by decide +kernel
theorem eX12_isIn_2 : decode cX12_isIn 2 = .ok (.lcmp, 1) ∧ decode cX12_isIn 3 = .ok (.ifCond .lt 14, 3) ∧ decode cX12_isIn 6 = .ok (.lload_n 0, 1) ∧ decode cX12_isIn 7 = .ok (.lload 4, 2) ∧ decode cX12_isIn 9 = .ok (.lcmp, 1) ∧ decode cX12_isIn 10 = .ok (.ifCond .gt 7, 3) ∧ decode cX12_isIn 13 = .ok (.iconst 1, 1) ∧ decode cX12_isIn 14 = .ok (.goto 4, 3) := by decide +kernel
theorem eX12_isIn_17 : decode cX12_isIn 17 = .ok (.iconst 0, 1) ∧ decode cX12_isIn 18 = .ok (.ireturn, 1) ∧ decode cX12_isLetter 0 = .ok (.iload_n 0, 1) ∧ decode cX12_isLetter 1 = .ok (.bipush 97, 2) ∧ decode cX12_isLetter 3 = .ok (.if_icmp .lt 13, 3) ∧ decode cX12_isLetter 6 = .ok (.iload_n 0, 1) ∧ decode cX12_isLetter 7 = .ok (.bipush 122, 2) ∧ decode cX12_isLetter 9 = .ok (.if_icmp .gt 7, 3) := by decide +kernel
theorem eX12_isLetter_12 : decode cX12_isLetter 12 = .ok (.iconst 1, 1) ∧ decode cX12_isLetter 13 = .ok (.goto 4, 3) ∧ decode cX12_isLetter 16 = .ok (.iconst 0, 1) ∧ decode cX12_isLetter 17 = .ok (.ireturn, 1) ∧ decode cX12_isOwnHere 0 = .ok (.aload_n 0, 1) ∧ decode cX12_isOwnHere 1 = .ok (.aload_n 0, 1) ∧ decode cX12_isOwnHere 2 = .ok (.getfield 20, 3) ∧ decode cX12_isOwnHere 5 = .ok (.invokevirtual 289, 3) := by decide +kernel
theorem eX12_isOwnHere_8 : decode cX12_isOwnHere 8 = .ok (.ifCond .ne 58, 3) ∧ decode cX12_isOwnHere 11 = .ok (.aload_n 0, 1) ∧ decode cX12_isOwnHere 12 = .ok (.aload_n 0, 1) ∧ decode cX12_isOwnHere 13 = .ok (.getfield 24, 3) ∧ decode cX12_isOwnHere 16 = .ok (.invokevirtual 289, 3) ∧ decode cX12_isOwnHere 19 = .ok (.ifCond .ne 47, 3) ∧ decode cX12_isOwnHere 22 = .ok (.aload_n 0, 1) ∧ decode cX12_isOwnHere 23 = .ok (.aload_n 0, 1) := by decide +kernel
theorem eX12_isOwnHere_24 : decode cX12_isOwnHere 24 = .ok (.getfield 27, 3) ∧ decode cX12_isOwnHere 27 = .ok (.invokevirtual 289, 3) ∧ decode cX12_isOwnHere 30 = .ok (.ifCond .ne 36, 3) ∧ decode cX12_isOwnHere 33 = .ok (.aload_n 0, 1) ∧ decode cX12_isOwnHere 34 = .ok (.aload_n 0, 1) ∧ decode cX12_isOwnHere 35 = .ok (.getfield 30, 3) ∧ decode cX12_isOwnHere 38 = .ok (.invokevirtual 289, 3) ∧ decode cX12_isOwnHere 41 = .ok (.ifCond .ne 25, 3) := by decide +kernel
theorem eX12_isOwnHere_44 : decode cX12_isOwnHere 44 = .ok (.aload_n 0, 1) ∧ decode cX12_isOwnHere 45 = .ok (.aload_n 0, 1) ∧ decode cX12_isOwnHere 46 = .ok (.getfield 33, 3) ∧ decode cX12_isOwnHere 49 = .ok (.invokevirtual 289, 3) ∧ decode cX12_isOwnHere 52 = .ok (.ifCond .ne 14, 3) ∧ decode cX12_isOwnHere 55 = .ok (.aload_n 0, 1) ∧ decode cX12_isOwnHere 56 = .ok (.aload_n 0, 1) ∧ decode cX12_isOwnHere 57 = .ok (.getfield 36, 3) := by decide +kernel
theorem eX12_isOwnHere_60 : decode cX12_isOwnHere 60 = .ok (.invokevirtual 289, 3) ∧ decode cX12_isOwnHere 63 = .ok (.ifCond .eq 7, 3) ∧ decode cX12_isOwnHere 66 = .ok (.iconst 1, 1) ∧ decode cX12_isOwnHere 67 = .ok (.goto 4, 3) ∧ decode cX12_isOwnHere 70 = .ok (.iconst 0, 1) ∧ decode cX12_isOwnHere 71 = .ok (.istore_n 1, 1) ∧ decode cX12_isOwnHere 72 = .ok (.iload_n 1, 1) ∧ decode cX12_isOwnHere 73 = .ok (.ifCond .ne 69, 3) := by decide +kernel
theorem eX12_isOwnHere_76 : decode cX12_isOwnHere 76 = .ok (.aload_n 0, 1) ∧ decode cX12_isOwnHere 77 = .ok (.aload_n 0, 1) ∧ decode cX12_isOwnHere 78 = .ok (.getfield 39, 3) ∧ decode cX12_isOwnHere 81 = .ok (.invokevirtual 289, 3) ∧ decode cX12_isOwnHere 84 = .ok (.ifCond .ne 58, 3) ∧ decode cX12_isOwnHere 87 = .ok (.aload_n 0, 1) ∧ decode cX12_isOwnHere 88 = .ok (.aload_n 0, 1) ∧ decode cX12_isOwnHere 89 = .ok (.getfield 42, 3) := by decide +kernel
theorem eX12_isOwnHere_92 : decode cX12_isOwnHere 92 = .ok (.invokevirtual 289, 3) ∧ decode cX12_isOwnHere 95 = .ok (.ifCond .ne 47, 3) ∧ decode cX12_isOwnHere 98 = .ok (.aload_n 0, 1) ∧ decode cX12_isOwnHere 99 = .ok (.aload_n 0, 1) ∧ decode cX12_isOwnHere 100 = .ok (.getfield 45, 3) ∧ decode cX12_isOwnHere 103 = .ok (.invokevirtual 289, 3) ∧ decode cX12_isOwnHere 106 = .ok (.ifCond .ne 36, 3) ∧ decode cX12_isOwnHere 109 = .ok (.aload_n 0, 1) := by decide +kernel
theorem eX12_isOwnHere_110 : decode cX12_isOwnHere 110 = .ok (.aload_n 0, 1) ∧ decode cX12_isOwnHere 111 = .ok (.getfield 48, 3) ∧ decode cX12_isOwnHere 114 = .ok (.invokevirtual 289, 3) ∧ decode cX12_isOwnHere 117 = .ok (.ifCond .ne 25, 3) ∧ decode cX12_isOwnHere 120 = .ok (.aload_n 0, 1) ∧ decode cX12_isOwnHere 121 = .ok (.aload_n 0, 1) ∧ decode cX12_isOwnHere 122 = .ok (.getfield 51, 3) ∧ decode cX12_isOwnHere 125 = .ok (.invokevirtual 289, 3) := by decide +kernel
theorem eX12_isOwnHere_128 : decode cX12_isOwnHere 128 = .ok (.ifCond .ne 14, 3) ∧ decode cX12_isOwnHere 131 = .ok (.aload_n 0, 1) ∧ decode cX12_isOwnHere 132 = .ok (.aload_n 0, 1) ∧ decode cX12_isOwnHere 133 = .ok (.getfield 54, 3) ∧ decode cX12_isOwnHere 136 = .ok (.invokevirtual 289, 3) ∧ decode cX12_isOwnHere 139 = .ok (.ifCond .eq 7, 3) ∧ decode cX12_isOwnHere 142 = .ok (.iconst 1, 1) ∧ decode cX12_isOwnHere 143 = .ok (.goto 4, 3) := by decide +kernel
theorem eX12_isOwnHere_146 : decode cX12_isOwnHere 146 = .ok (.iconst 0, 1) ∧ decode cX12_isOwnHere 147 = .ok (.istore_n 1, 1) ∧ decode cX12_isOwnHere 148 = .ok (.iload_n 1, 1) ∧ decode cX12_isOwnHere 149 = .ok (.ifCond .ne 69, 3) ∧ decode cX12_isOwnHere 152 = .ok (.aload_n 0, 1) ∧ decode cX12_isOwnHere 153 = .ok (.aload_n 0, 1) ∧ decode cX12_isOwnHere 154 = .ok (.getfield 57, 3) ∧ decode cX12_isOwnHere 157 = .ok (.invokevirtual 289, 3) := by decide +kernel
theorem eX12_isOwnHere_160 : decode cX12_isOwnHere 160 = .ok (.ifCond .ne 58, 3) ∧ decode cX12_isOwnHere 163 = .ok (.aload_n 0, 1) ∧ decode cX12_isOwnHere 164 = .ok (.aload_n 0, 1) ∧ decode cX12_isOwnHere 165 = .ok (.getfield 60, 3) ∧ decode cX12_isOwnHere 168 = .ok (.invokevirtual 289, 3) ∧ decode cX12_isOwnHere 171 = .ok (.ifCond .ne 47, 3) ∧ decode cX12_isOwnHere 174 = .ok (.aload_n 0, 1) ∧ decode cX12_isOwnHere 175 = .ok (.aload_n 0, 1) := by decide +kernel
theorem eX12_isOwnHere_176 : decode cX12_isOwnHere 176 = .ok (.getfield 63, 3) ∧ decode cX12_isOwnHere 179 = .ok (.invokevirtual 289, 3) ∧ decode cX12_isOwnHere 182 = .ok (.ifCond .ne 36, 3) ∧ decode cX12_isOwnHere 185 = .ok (.aload_n 0, 1) ∧ decode cX12_isOwnHere 186 = .ok (.aload_n 0, 1) ∧ decode cX12_isOwnHere 187 = .ok (.getfield 66, 3) ∧ decode cX12_isOwnHere 190 = .ok (.invokevirtual 289, 3) ∧ decode cX12_isOwnHere 193 = .ok (.ifCond .ne 25, 3) := by decide +kernel
theorem eX12_isOwnHere_196 : decode cX12_isOwnHere 196 = .ok (.aload_n 0, 1) ∧ decode cX12_isOwnHere 197 = .ok (.aload_n 0, 1) ∧ decode cX12_isOwnHere 198 = .ok (.getfield 69, 3) ∧ decode cX12_isOwnHere 201 = .ok (.invokevirtual 289, 3) ∧ decode cX12_isOwnHere 204 = .ok (.ifCond .ne 14, 3) ∧ decode cX12_isOwnHere 207 = .ok (.aload_n 0, 1) ∧ decode cX12_isOwnHere 208 = .ok (.aload_n 0, 1) ∧ decode cX12_isOwnHere 209 = .ok (.getfield 72, 3) := by decide +kernel
theorem eX12_isOwnHere_212 : decode cX12_isOwnHere 212 = .ok (.invokevirtual 289, 3) ∧ decode cX12_isOwnHere 215 = .ok (.ifCond .eq 7, 3) ∧ decode cX12_isOwnHere 218 = .ok (.iconst 1, 1) ∧ decode cX12_isOwnHere 219 = .ok (.goto 4, 3) ∧ decode cX12_isOwnHere 222 = .ok (.iconst 0, 1) ∧ decode cX12_isOwnHere 223 = .ok (.istore_n 1, 1) ∧ decode cX12_isOwnHere 224 = .ok (.iload_n 1, 1) ∧ decode cX12_isOwnHere 225 = .ok (.ifCond .ne 69, 3) := by decide +kernel
theorem eX12_isOwnHere_228 : decode cX12_isOwnHere 228 = .ok (.aload_n 0, 1) ∧ decode cX12_isOwnHere 229 = .ok (.aload_n 0, 1) ∧ decode cX12_isOwnHere 230 = .ok (.getfield 75, 3) ∧ decode cX12_isOwnHere 233 = .ok (.invokevirtual 289, 3) ∧ decode cX12_isOwnHere 236 = .ok (.ifCond .ne 58, 3) ∧ decode cX12_isOwnHere 239 = .ok (.aload_n 0, 1) ∧ decode cX12_isOwnHere 240 = .ok (.aload_n 0, 1) ∧ decode cX12_isOwnHere 241 = .ok (.getfield 78, 3) := by decide +kernel
theorem eX12_isOwnHere_244 : decode cX12_isOwnHere 244 = .ok (.invokevirtual 289, 3) ∧ decode cX12_isOwnHere 247 = .ok (.ifCond .ne 47, 3) ∧ decode cX12_isOwnHere 250 = .ok (.aload_n 0, 1) ∧ decode cX12_isOwnHere 251 = .ok (.aload_n 0, 1) ∧ decode cX12_isOwnHere 252 = .ok (.getfield 81, 3) ∧ decode cX12_isOwnHere 255 = .ok (.invokevirtual 289, 3) ∧ decode cX12_isOwnHere 258 = .ok (.ifCond .ne 36, 3) ∧ decode cX12_isOwnHere 261 = .ok (.aload_n 0, 1) := by decide +kernel
theorem eX12_isOwnHere_262 : decode cX12_isOwnHere 262 = .ok (.aload_n 0, 1) ∧ decode cX12_isOwnHere 263 = .ok (.getfield 84, 3) ∧ decode cX12_isOwnHere 266 = .ok (.invokevirtual 289, 3) ∧ decode cX12_isOwnHere 269 = .ok (.ifCond .ne 25, 3) ∧ decode cX12_isOwnHere 272 = .ok (.aload_n 0, 1) ∧ decode cX12_isOwnHere 273 = .ok (.aload_n 0, 1) ∧ decode cX12_isOwnHere 274 = .ok (.getfield 87, 3) ∧ decode cX12_isOwnHere 277 = .ok (.invokevirtual 289, 3) := by decide +kernel
theorem eX12_isOwnHere_280 : decode cX12_isOwnHere 280 = .ok (.ifCond .ne 14, 3) ∧ decode cX12_isOwnHere 283 = .ok (.aload_n 0, 1) ∧ decode cX12_isOwnHere 284 = .ok (.aload_n 0, 1) ∧ decode cX12_isOwnHere 285 = .ok (.getfield 90, 3) ∧ decode cX12_isOwnHere 288 = .ok (.invokevirtual 289, 3) ∧ decode cX12_isOwnHere 291 = .ok (.ifCond .eq 7, 3) ∧ decode cX12_isOwnHere 294 = .ok (.iconst 1, 1) ∧ decode cX12_isOwnHere 295 = .ok (.goto 4, 3) := by decide +kernel
theorem eX12_isOwnHere_298 : decode cX12_isOwnHere 298 = .ok (.iconst 0, 1) ∧ decode cX12_isOwnHere 299 = .ok (.istore_n 1, 1) ∧ decode cX12_isOwnHere 300 = .ok (.iload_n 1, 1) ∧ decode cX12_isOwnHere 301 = .ok (.ifCond .ne 36, 3) ∧ decode cX12_isOwnHere 304 = .ok (.aload_n 0, 1) ∧ decode cX12_isOwnHere 305 = .ok (.aload_n 0, 1) ∧ decode cX12_isOwnHere 306 = .ok (.getfield 93, 3) ∧ decode cX12_isOwnHere 309 = .ok (.invokevirtual 289, 3) := by decide +kernel
theorem eX12_isOwnHere_312 : decode cX12_isOwnHere 312 = .ok (.ifCond .ne 25, 3) ∧ decode cX12_isOwnHere 315 = .ok (.aload_n 0, 1) ∧ decode cX12_isOwnHere 316 = .ok (.aload_n 0, 1) ∧ decode cX12_isOwnHere 317 = .ok (.getfield 96, 3) ∧ decode cX12_isOwnHere 320 = .ok (.invokevirtual 289, 3) ∧ decode cX12_isOwnHere 323 = .ok (.ifCond .ne 14, 3) ∧ decode cX12_isOwnHere 326 = .ok (.aload_n 0, 1) ∧ decode cX12_isOwnHere 327 = .ok (.aload_n 0, 1) := by decide +kernel
theorem eX12_isOwnHere_328 : decode cX12_isOwnHere 328 = .ok (.getfield 99, 3) ∧ decode cX12_isOwnHere 331 = .ok (.invokevirtual 289, 3) ∧ decode cX12_isOwnHere 334 = .ok (.ifCond .eq 7, 3) ∧ decode cX12_isOwnHere 337 = .ok (.iconst 1, 1) ∧ decode cX12_isOwnHere 338 = .ok (.goto 4, 3) ∧ decode cX12_isOwnHere 341 = .ok (.iconst 0, 1) ∧ decode cX12_isOwnHere 342 = .ok (.istore_n 1, 1) ∧ decode cX12_isOwnHere 343 = .ok (.iload_n 1, 1) := by decide +kernel
theorem eX12_isOwnHere_344 : decode cX12_isOwnHere 344 = .ok (.ireturn, 1) ∧ decode cX12_look 0 = .ok (.aload_n 0, 1) ∧ decode cX12_look 1 = .ok (.getfield 272, 3) ∧ decode cX12_look 4 = .ok (.aload_n 0, 1) ∧ decode cX12_look 5 = .ok (.getfield 275, 3) ∧ decode cX12_look 8 = .ok (.if_icmp .ge 44, 3) ∧ decode cX12_look 11 = .ok (.aload_n 0, 1) ∧ decode cX12_look 12 = .ok (.getfield 7, 3) := by decide +kernel
theorem eX12_look_15 : decode cX12_look 15 = .ok (.aload_n 0, 1) ∧ decode cX12_look 16 = .ok (.getfield 272, 3) ∧ decode cX12_look 19 = .ok (.iaload, 1) ∧ decode cX12_look 20 = .ok (.bipush 10, 2) ∧ decode cX12_look 22 = .ok (.if_icmp .eq 17, 3) ∧ decode cX12_look 25 = .ok (.aload_n 0, 1) ∧ decode cX12_look 26 = .ok (.getfield 7, 3) ∧ decode cX12_look 29 = .ok (.aload_n 0, 1) := by decide +kernel
theorem eX12_look_30 : decode cX12_look 30 = .ok (.getfield 272, 3) ∧ decode cX12_look 33 = .ok (.iaload, 1) ∧ decode cX12_look 34 = .ok (.bipush 32, 2) ∧ decode cX12_look 36 = .ok (.if_icmp .ne 16, 3) ∧ decode cX12_look 39 = .ok (.aload_n 0, 1) ∧ decode cX12_look 40 = .ok (.dup, 1) ∧ decode cX12_look 41 = .ok (.getfield 272, 3) ∧ decode cX12_look 44 = .ok (.iconst 1, 1) := by decide +kernel
theorem eX12_look_45 : decode cX12_look 45 = .ok (.iadd, 1) ∧ decode cX12_look 46 = .ok (.putfield 272, 3) ∧ decode cX12_look 49 = .ok (.goto (-49), 3) ∧ decode cX12_look 52 = .ok (.aload_n 0, 1) ∧ decode cX12_look 53 = .ok (.getfield 272, 3) ∧ decode cX12_look 56 = .ok (.aload_n 0, 1) ∧ decode cX12_look 57 = .ok (.getfield 275, 3) ∧ decode cX12_look 60 = .ok (.if_icmp .ge 15, 3) := by decide +kernel
theorem eX12_look_63 : decode cX12_look 63 = .ok (.aload_n 0, 1) ∧ decode cX12_look 64 = .ok (.getfield 7, 3) ∧ decode cX12_look 67 = .ok (.aload_n 0, 1) ∧ decode cX12_look 68 = .ok (.getfield 272, 3) ∧ decode cX12_look 71 = .ok (.iaload, 1) ∧ decode cX12_look 72 = .ok (.goto 4, 3) ∧ decode cX12_look 75 = .ok (.iconst (-1), 1) ∧ decode cX12_look 76 = .ok (.ireturn, 1) := by decide +kernel
theorem eX12_number_0 : decode cX12_number 0 = .ok (.aload_n 0, 1) ∧ decode cX12_number 1 = .ok (.getfield 266, 3) ∧ decode cX12_number 4 = .ok (.ifCond .eq 5, 3) ∧ decode cX12_number 7 = .ok (.iconst 0, 1) ∧ decode cX12_number 8 = .ok (.ireturn, 1) ∧ decode cX12_number 9 = .ok (.aload_n 0, 1) ∧ decode cX12_number 10 = .ok (.invokevirtual 278, 3) ∧ decode cX12_number 13 = .ok (.invokestatic 303, 3) := by decide +kernel
theorem eX12_number_16 : decode cX12_number 16 = .ok (.ifCond .eq 14, 3) ∧ decode cX12_number 19 = .ok (.aload_n 0, 1) ∧ decode cX12_number 20 = .ok (.getfield 272, 3) ∧ decode cX12_number 23 = .ok (.aload_n 0, 1) ∧ decode cX12_number 24 = .ok (.getfield 286, 3) ∧ decode cX12_number 27 = .ok (.if_icmp .ne 14, 3) ∧ decode cX12_number 30 = .ok (.aload_n 0, 1) ∧ decode cX12_number 31 = .ok (.iconst 1, 1) := by decide +kernel
theorem eX12_number_32 : decode cX12_number 32 = .ok (.aload_n 0, 1) ∧ decode cX12_number 33 = .ok (.getfield 272, 3) ∧ decode cX12_number 36 = .ok (.invokevirtual 296, 3) ∧ decode cX12_number 39 = .ok (.iconst 0, 1) ∧ decode cX12_number 40 = .ok (.ireturn, 1) ∧ decode cX12_number 41 = .ok (.aload_n 0, 1) ∧ decode cX12_number 42 = .ok (.getfield 272, 3) ∧ decode cX12_number 45 = .ok (.istore_n 3, 1) := by decide +kernel
theorem eX12_number_46 : decode cX12_number 46 = .ok (.iconst 0, 1) ∧ decode cX12_number 47 = .ok (.istore 4, 2) ∧ decode cX12_number 49 = .ok (.aload_n 0, 1) ∧ decode cX12_number 50 = .ok (.getfield 272, 3) ∧ decode cX12_number 53 = .ok (.aload_n 0, 1) ∧ decode cX12_number 54 = .ok (.getfield 275, 3) ∧ decode cX12_number 57 = .ok (.if_icmp .ge 72, 3) ∧ decode cX12_number 60 = .ok (.aload_n 0, 1) := by decide +kernel
theorem eX12_number_61 : decode cX12_number 61 = .ok (.getfield 7, 3) ∧ decode cX12_number 64 = .ok (.aload_n 0, 1) ∧ decode cX12_number 65 = .ok (.getfield 272, 3) ∧ decode cX12_number 68 = .ok (.iaload, 1) ∧ decode cX12_number 69 = .ok (.invokestatic 303, 3) ∧ decode cX12_number 72 = .ok (.ifCond .eq 57, 3) ∧ decode cX12_number 75 = .ok (.aload_n 0, 1) ∧ decode cX12_number 76 = .ok (.getfield 272, 3) := by decide +kernel
theorem eX12_number_79 : decode cX12_number 79 = .ok (.iload_n 3, 1) ∧ decode cX12_number 80 = .ok (.isub, 1) ∧ decode cX12_number 81 = .ok (.iconst 4, 1) ∧ decode cX12_number 82 = .ok (.if_icmp .ne 14, 3) ∧ decode cX12_number 85 = .ok (.aload_n 0, 1) ∧ decode cX12_number 86 = .ok (.iconst 1, 1) ∧ decode cX12_number 87 = .ok (.aload_n 0, 1) ∧ decode cX12_number 88 = .ok (.getfield 272, 3) := by decide +kernel
theorem eX12_number_91 : decode cX12_number 91 = .ok (.invokevirtual 296, 3) ∧ decode cX12_number 94 = .ok (.iconst 0, 1) ∧ decode cX12_number 95 = .ok (.ireturn, 1) ∧ decode cX12_number 96 = .ok (.bipush 10, 2) ∧ decode cX12_number 98 = .ok (.iload 4, 2) ∧ decode cX12_number 100 = .ok (.imul, 1) ∧ decode cX12_number 101 = .ok (.aload_n 0, 1) ∧ decode cX12_number 102 = .ok (.getfield 7, 3) := by decide +kernel
theorem eX12_number_105 : decode cX12_number 105 = .ok (.aload_n 0, 1) ∧ decode cX12_number 106 = .ok (.getfield 272, 3) ∧ decode cX12_number 109 = .ok (.iaload, 1) ∧ decode cX12_number 110 = .ok (.iadd, 1) ∧ decode cX12_number 111 = .ok (.bipush 48, 2) ∧ decode cX12_number 113 = .ok (.isub, 1) ∧ decode cX12_number 114 = .ok (.istore 4, 2) ∧ decode cX12_number 116 = .ok (.aload_n 0, 1) := by decide +kernel
theorem eX12_number_117 : decode cX12_number 117 = .ok (.dup, 1) ∧ decode cX12_number 118 = .ok (.getfield 272, 3) ∧ decode cX12_number 121 = .ok (.iconst 1, 1) ∧ decode cX12_number 122 = .ok (.iadd, 1) ∧ decode cX12_number 123 = .ok (.putfield 272, 3) ∧ decode cX12_number 126 = .ok (.goto (-77), 3) ∧ decode cX12_number 129 = .ok (.aload_n 0, 1) ∧ decode cX12_number 130 = .ok (.aload_n 0, 1) := by decide +kernel
theorem eX12_number_131 : decode cX12_number 131 = .ok (.getfield 272, 3) ∧ decode cX12_number 134 = .ok (.putfield 286, 3) ∧ decode cX12_number 137 = .ok (.aload_n 0, 1) ∧ decode cX12_number 138 = .ok (.iload_n 3, 1) ∧ decode cX12_number 139 = .ok (.putfield 306, 3) ∧ decode cX12_number 142 = .ok (.iload 4, 2) ∧ decode cX12_number 144 = .ok (.i2l, 1) ∧ decode cX12_number 145 = .ok (.iload_n 1, 1) := by decide +kernel
theorem eX12_number_146 : decode cX12_number 146 = .ok (.i2l, 1) ∧ decode cX12_number 147 = .ok (.iload_n 2, 1) ∧ decode cX12_number 148 = .ok (.i2l, 1) ∧ decode cX12_number 149 = .ok (.invokestatic 309, 3) ∧ decode cX12_number 152 = .ok (.ifCond .ne 12, 3) ∧ decode cX12_number 155 = .ok (.aload_n 0, 1) ∧ decode cX12_number 156 = .ok (.iconst 2, 1) ∧ decode cX12_number 157 = .ok (.aload_n 0, 1) := by decide +kernel
theorem eX12_number_158 : decode cX12_number 158 = .ok (.getfield 306, 3) ∧ decode cX12_number 161 = .ok (.invokevirtual 296, 3) ∧ decode cX12_number 164 = .ok (.iload 4, 2) ∧ decode cX12_number 166 = .ok (.ireturn, 1) ∧ decode cX12_takes 0 = .ok (.aload_n 0, 1) ∧ decode cX12_takes 1 = .ok (.aload_n 1, 1) ∧ decode cX12_takes 2 = .ok (.invokevirtual 289, 3) ∧ decode cX12_takes 5 = .ok (.ifCond .ne 5, 3) := by decide +kernel
theorem eX12_takes_8 : decode cX12_takes 8 = .ok (.iconst 0, 1) ∧ decode cX12_takes 9 = .ok (.ireturn, 1) ∧ decode cX12_takes 10 = .ok (.aload_n 0, 1) ∧ decode cX12_takes 11 = .ok (.dup, 1) ∧ decode cX12_takes 12 = .ok (.getfield 272, 3) ∧ decode cX12_takes 15 = .ok (.aload_n 1, 1) ∧ decode cX12_takes 16 = .ok (.arraylength, 1) ∧ decode cX12_takes 17 = .ok (.iadd, 1) := by decide +kernel
theorem eX12_takes_18 : decode cX12_takes 18 = .ok (.putfield 272, 3) ∧ decode cX12_takes 21 = .ok (.aload_n 0, 1) ∧ decode cX12_takes 22 = .ok (.aload_n 0, 1) ∧ decode cX12_takes 23 = .ok (.getfield 272, 3) ∧ decode cX12_takes 26 = .ok (.putfield 286, 3) ∧ decode cX12_takes 29 = .ok (.iconst 1, 1) ∧ decode cX12_takes 30 = .ok (.ireturn, 1) ∧ decode cX12_takesSign 0 = .ok (.aload_n 0, 1) := by decide +kernel
theorem eX12_takesSign_1 : decode cX12_takesSign 1 = .ok (.getfield 266, 3) ∧ decode cX12_takesSign 4 = .ok (.ifCond .ne 11, 3) ∧ decode cX12_takesSign 7 = .ok (.aload_n 0, 1) ∧ decode cX12_takesSign 8 = .ok (.invokevirtual 278, 3) ∧ decode cX12_takesSign 11 = .ok (.iload_n 1, 1) ∧ decode cX12_takesSign 12 = .ok (.if_icmp .eq 5, 3) ∧ decode cX12_takesSign 15 = .ok (.iconst 0, 1) ∧ decode cX12_takesSign 16 = .ok (.ireturn, 1) := by decide +kernel
theorem eX12_takesSign_17 : decode cX12_takesSign 17 = .ok (.aload_n 0, 1) ∧ decode cX12_takesSign 18 = .ok (.dup, 1) ∧ decode cX12_takesSign 19 = .ok (.getfield 272, 3) ∧ decode cX12_takesSign 22 = .ok (.iconst 1, 1) ∧ decode cX12_takesSign 23 = .ok (.iadd, 1) ∧ decode cX12_takesSign 24 = .ok (.putfield 272, 3) ∧ decode cX12_takesSign 27 = .ok (.iconst 1, 1) ∧ decode cX12_takesSign 28 = .ok (.ireturn, 1) := by decide +kernel
set_option maxHeartbeats 4000000 in
set_option maxRecDepth 100000 in
theorem k_x12_isIn (l : Launch) (D : va_G) (a : Nat → Nat) (p0 : Int) (p1 : Int) (p2 : Int) (s : MS) (o : Int) (h : m_x12_isIn p0 p1 p2 s = some o) : yRi l yX12_isIn cX12_isIn 6 (some .boolean) { frames := 0, cells := 0, slots := 0, locals := 0 } D [.long (i8 p0), .long (i8 p1), .long (i8 p2)] (RW D a s) (i2 o) := by
  refine Met.ofW (cc := cX12_isIn) (maxL := 6) (ret := (some .boolean)) (by decide) rfl ?_
  intro p e s₀ m args below meth c s₁ B hml hv
  obtain ⟨rfl, ⟨hP, hK⟩, hN⟩ := hv
  have hx := B.exec
  have hb := B.bytes
  have hr := B.returns
  have hts := atoms_spec (ws := wz yX12_isIn cX12_isIn 6 (some .boolean)) B.pre
  have ht : ∀ w ∈ lw_gd, w.before _ s₀ = true := fun w h => hts w (List.mem_cons_of_mem _ h)
  have hown : s₀.vm.findClass RX12 = some m.cls := findClass_of_methodNamed B.named
  have hlocks := B.notSynchronized
  have hS : va_S (fun _ => False) s₀.heap s₀.heap [] := va_S.rf
  have hl := lv_entry ([.long (i8 p0), .long (i8 p1), .long (i8 p2)]) (n := 6) (Nat.le_of_ble_eq_true rfl)
  rw [lg_entry_eq]
  generalize (lg_sl ([.long (i8 p0), .long (i8 p1), .long (i8 p2)]) ++ List.replicate (6 - (lg_sl ([.long (i8 p0), .long (i8 p1), .long (i8 p2)])).length) Slot.unset).toArray = ls at hl ⊢
  have hl : lv_has ls 6 [(0, .long (i8 p0)), (2, .long (i8 p1)), (4, .long (i8 p2))] := hl
  unfold m_x12_isIn at h
  refine y_head (pcJ := 18) (σ := Int) (fun u H locs ls => va_P D vwCl (RW D a s) H ∧ va_S (fun _ => False) s₀.heap H locs ∧ lv_has ls 6 [] ∧ m_x12_isIn_J18 s u = some o) (fun u => [.int (i2 u)]) (fun u H locs ls hI => ?_) (fun J18 => ?_)
  · obtain ⟨hP, hS, hl, h⟩ := hI
    obtain ⟨x1, rfl⟩ : ∃ z, z = u := ⟨u, rfl⟩
    have hP : va_P D vwCl (RW D a s) H := hP
    have hl : lv_has ls 6 [] := hl
    have h : m_x12_isIn_J18 s x1 = some o := h
    unfold m_x12_isIn_J18 at h
    obtain ⟨hb2, h⟩ := bo_e h
    obtain rfl := Option.some.inj h
    exact W.zret (v := (i2 x1)) hx hb hr (bo_n hb2) (fun t ht hW => ⟨⟨_, (), rfl, rfl, trivial⟩, hS.F ht⟩) hS.2.2 eX12_isIn_17.2.1
  refine y_head (pcJ := 17) (σ := Unit) (fun u H locs ls => va_P D vwCl (RW D a s) H ∧ va_S (fun _ => False) s₀.heap H locs ∧ lv_has ls 6 [] ∧ m_x12_isIn_J17 s u = some o) (fun u => []) (fun u H locs ls hI => ?_) (fun J17 => ?_)
  · obtain ⟨hP, hS, hl, h⟩ := hI
    skip
    have hP : va_P D vwCl (RW D a s) H := hP
    have hl : lv_has ls 6 [] := hl
    have h : m_x12_isIn_J17 s () = some o := h
    unfold m_x12_isIn_J17 at h
    refine lv_iconst (v := 0) hx hb eX12_isIn_17.1 (by decide) ?_
    exact J18 0 _ _ _ ⟨hP, hS, lv_sub hl [] rfl, h⟩
  refine lv_lload_n hx hb eX12_isHere_99.2.2.2.2.2.2.1 rfl (lv_at hl 0 rfl) ?_
  refine lv_lload_n hx hb eX12_isHere_99.2.2.2.2.2.2.2 rfl (lv_at hl 1 rfl) ?_
  refine W.lcmp hx hb eX12_isIn_2.1 ?_
  obtain ⟨hr3, h⟩ := rgL_e h
  obtain ⟨hr4, h⟩ := rgL_e h
  refine lv_if_lt (tgt := 17) hx hb eX12_isIn_2.2.1 (by decide) (fun c5 => ?_) (fun c5 => ?_)
  · have h := if_t ((l_lt (x := p0) (y := p1) hr3 hr4).mp c5) h
    exact J17 () _ _ _ ⟨hP, hS, lv_sub hl [] rfl, h⟩
  · have h := if_f (mt (l_lt (x := p0) (y := p1) hr3 hr4).mpr c5) h
    refine lv_lload_n hx hb eX12_isIn_2.2.2.1 rfl (lv_at hl 0 rfl) ?_
    refine lv_lload hx hb eX12_isIn_2.2.2.2.1 (lv_at hl 2 rfl) ?_
    refine W.lcmp hx hb eX12_isIn_2.2.2.2.2.1 ?_
    obtain ⟨hr6, h⟩ := rgL_e h
    obtain ⟨hr7, h⟩ := rgL_e h
    refine lv_if_gt (tgt := 17) hx hb eX12_isIn_2.2.2.2.2.2.1 (by decide) (fun c8 => ?_) (fun c8 => ?_)
    · have h := if_t ((l_gt (x := p0) (y := p2) hr6 hr7).mp c8) h
      exact J17 () _ _ _ ⟨hP, hS, lv_sub hl [] rfl, h⟩
    · have h := if_f (mt (l_gt (x := p0) (y := p2) hr6 hr7).mpr c8) h
      refine lv_iconst (v := 1) hx hb eX12_isIn_2.2.2.2.2.2.2.1 (by decide) ?_
      refine lv_goto (tgt := 18) hx hb eX12_isIn_2.2.2.2.2.2.2.2 (by decide) ?_
      exact J18 1 _ _ _ ⟨hP, hS, lv_sub hl [] rfl, h⟩
set_option maxHeartbeats 4000000 in
set_option maxRecDepth 100000 in
theorem k_x12_clamp (l : Launch) (D : va_G) (a : Nat → Nat) (p0 : Int) (s : MS) (o : Int) (h : m_x12_clamp p0 s = some o) : yRi l yX12_clamp cX12_clamp 2 (some .int) { frames := 0, cells := 0, slots := 0, locals := 0 } D [.long (i8 p0)] (RW D a s) (i2 o) := by
  refine Met.ofW (cc := cX12_clamp) (maxL := 2) (ret := (some .int)) (by decide) rfl ?_
  intro p e s₀ m args below meth c s₁ B hml hv
  obtain ⟨rfl, ⟨hP, hK⟩, hN⟩ := hv
  have hx := B.exec
  have hb := B.bytes
  have hr := B.returns
  have hts := atoms_spec (ws := wz yX12_clamp cX12_clamp 2 (some .int)) B.pre
  have ht : ∀ w ∈ lw_gd, w.before _ s₀ = true := fun w h => hts w (List.mem_cons_of_mem _ h)
  have hown : s₀.vm.findClass RX12 = some m.cls := findClass_of_methodNamed B.named
  have hlocks := B.notSynchronized
  have hS : va_S (fun _ => False) s₀.heap s₀.heap [] := va_S.rf
  have hl := lv_entry ([.long (i8 p0)]) (n := 2) (Nat.le_of_ble_eq_true rfl)
  rw [lg_entry_eq]
  generalize (lg_sl ([.long (i8 p0)]) ++ List.replicate (2 - (lg_sl ([.long (i8 p0)])).length) Slot.unset).toArray = ls at hl ⊢
  have hl : lv_has ls 2 [(0, .long (i8 p0))] := hl
  unfold m_x12_clamp at h
  refine y_head (pcJ := 25) (σ := Int) (fun u H locs ls => va_P D vwCl (RW D a s) H ∧ va_S (fun _ => False) s₀.heap H locs ∧ lv_has ls 2 [] ∧ m_x12_clamp_J25 s u = some o) (fun u => [.int (i2 u)]) (fun u H locs ls hI => ?_) (fun J25 => ?_)
  · obtain ⟨hP, hS, hl, h⟩ := hI
    obtain ⟨x1, rfl⟩ : ∃ z, z = u := ⟨u, rfl⟩
    have hP : va_P D vwCl (RW D a s) H := hP
    have hl : lv_has ls 2 [] := hl
    have h : m_x12_clamp_J25 s x1 = some o := h
    unfold m_x12_clamp_J25 at h
    obtain rfl := Option.some.inj h
    exact W.iret (v := (i2 x1)) hx hb hr (fun t ht hW => ⟨⟨_, (), rfl, rfl, trivial⟩, hS.F ht⟩) hS.2.2 eX12_clamp_25.1
  refine lv_lload_n hx hb eX12_asksSign_21.2.2.1 rfl (lv_at hl 0 rfl) ?_
  refine lv_lconst (v := 0) hx hb eX12_asksSign_21.2.2.2.1 (by decide) ?_
  refine W.lcmp hx hb eX12_asksSign_21.2.2.2.2.1 ?_
  obtain ⟨hr2, h⟩ := rgL_e h
  refine lv_if_ge (tgt := 10) hx hb eX12_asksSign_21.2.2.2.2.2.1 (by decide) (fun c3 => ?_) (fun c3 => ?_)
  · have h := if_t ((l_ge (x := p0) (y := 0) hr2 (by decide)).mp c3) h
    refine lv_lload_n hx hb eX12_clamp_10.1 rfl (lv_at hl 0 rfl) ?_
    refine lv_ldc2 (own := RX12) (v := 99) hx hb hown (ht _ cl_X12_261) eX12_clamp_10.2.1 ?_
    refine W.lcmp hx hb eX12_clamp_10.2.2.1 ?_
    obtain ⟨hr4, h⟩ := rgL_e h
    refine lv_if_le (tgt := 23) hx hb eX12_clamp_10.2.2.2.1 (by decide) (fun c5 => ?_) (fun c5 => ?_)
    · have h := if_t ((l_le (x := p0) (y := 99) hr4 (by decide)).mp c5) h
      refine lv_lload_n hx hb eX12_clamp_10.2.2.2.2.2.2.1 rfl (lv_at hl 0 rfl) ?_
      refine lv_l2i (v := i2 p0) hx hb eX12_clamp_10.2.2.2.2.2.2.2 (i8_i p0) ?_
      exact J25 p0 _ _ _ ⟨hP, hS, lv_sub hl [] rfl, h⟩
    · have h := if_f (mt (l_le (x := p0) (y := 99) hr4 (by decide)).mpr c5) h
      refine lv_bipush (v := 99) hx hb eX12_clamp_10.2.2.2.2.1 (by decide) ?_
      refine lv_goto (tgt := 25) hx hb eX12_clamp_10.2.2.2.2.2.1 (by decide) ?_
      exact J25 99 _ _ _ ⟨hP, hS, lv_sub hl [] rfl, h⟩
  · have h := if_f (mt (l_ge (x := p0) (y := 0) hr2 (by decide)).mpr c3) h
    refine lv_iconst (v := 0) hx hb eX12_asksSign_21.2.2.2.2.2.2.1 (by decide) ?_
    refine lv_goto (tgt := 25) hx hb eX12_asksSign_21.2.2.2.2.2.2.2 (by decide) ?_
    exact J25 0 _ _ _ ⟨hP, hS, lv_sub hl [] rfl, h⟩
set_option maxHeartbeats 4000000 in
set_option maxRecDepth 100000 in
theorem k_x12_feed (l : Launch) (D : va_G) (a : Nat → Nat) (p0 : Int) (p1 : Int) (p2 : Int) (p3 : Int) (p4 : Int) (sz : Nat) (s : MS) (o : (Int × MS)) (h : m_x12_feed p0 p1 p2 p3 p4 s = some o) : yWi l yX12_feed cX12_feed 8 (some .int) { frames := 0, cells := 0, slots := 0, locals := 0 } D sz [.ref (a 200), .int (i2 p0), .int (i2 p1), .int (i2 p2), .int (i2 p3), .int (i2 p4)] (RW D a s) (RW D a o.2) (i2 o.1) := by
  refine Met.ofW (cc := cX12_feed) (maxL := 8) (ret := (some .int)) (by decide) rfl ?_
  intro p e s₀ m args below meth c s₁ B hml hv
  obtain ⟨rfl, ⟨hsz, hP, hK, hD0⟩, hN⟩ := hv
  have hx := B.exec
  have hb := B.bytes
  have hr := B.returns
  have hts := atoms_spec (ws := wz yX12_feed cX12_feed 8 (some .int)) B.pre
  have ht : ∀ w ∈ lw_gd, w.before _ s₀ = true := fun w h => hts w (List.mem_cons_of_mem _ h)
  have hown : s₀.vm.findClass RX12 = some m.cls := findClass_of_methodNamed B.named
  have hlocks := B.notSynchronized
  subst hsz
  have hD := hD0.self (sz := s₀.heap.size)
  generalize hAe : va_A (RW D a s) s₀.heap.size = A at hD ⊢
  have hA : ∀ q : Nat, s₀.heap.size ≤ q → A q := fun q h => by rw [← hAe]; exact Or.inr h
  have hS : va_S A s₀.heap s₀.heap [] := va_S.rf
  have hDD : ∀ t : MS, va_D A (RW D a t) := fun t => RW_D t hD
  have hl := lv_entry ([.ref (a 200), .int (i2 p0), .int (i2 p1), .int (i2 p2), .int (i2 p3), .int (i2 p4)]) (n := 8) (Nat.le_of_ble_eq_true rfl)
  rw [lg_entry_eq]
  generalize (lg_sl ([.ref (a 200), .int (i2 p0), .int (i2 p1), .int (i2 p2), .int (i2 p3), .int (i2 p4)]) ++ List.replicate (8 - (lg_sl ([.ref (a 200), .int (i2 p0), .int (i2 p1), .int (i2 p2), .int (i2 p3), .int (i2 p4)])).length) Slot.unset).toArray = ls at hl ⊢
  have hl : lv_has ls 8 [(0, .ref (a 200)), (1, .int (i2 p0)), (2, .int (i2 p1)), (3, .int (i2 p2)), (4, .int (i2 p3)), (5, .int (i2 p4))] := hl
  unfold m_x12_feed at h
  refine y_loop (pcJ := 28) (σ := Int × Int × Int × Int × Int × Int × MS) (fun n u H locs ls => va_P D vwCl (RW D a u.2.2.2.2.2.2) H ∧ va_S A s₀.heap H locs ∧ lv_has ls 8 [(0, .ref (a 200)), (1, .int (i2 u.1)), (2, .int (i2 u.2.1)), (3, .int (i2 u.2.2.1)), (4, .int (i2 u.2.2.2.1)), (5, .int (i2 u.2.2.2.2.1)), (6, .int (i2 u.2.2.2.2.2.1))] ∧ m_x12_feed_L28 n u.1 u.2.1 u.2.2.1 u.2.2.2.1 u.2.2.2.2.1 u.2.2.2.2.2.1 u.2.2.2.2.2.2 = some o) (fun u => []) (fun u H locs ls hI => by obtain ⟨_, _, _, h⟩ := hI; cases h) (fun n28 ih28 u H locs ls hI => ?_) (fun J28 => ?_)
  · obtain ⟨hP, hS, hl, h⟩ := hI
    obtain ⟨x1, x2, x3, x4, x5, x6, s7⟩ := u
    have hP : va_P D vwCl (RW D a s7) H := hP
    have hl : lv_has ls 8 [(0, .ref (a 200)), (1, .int (i2 x1)), (2, .int (i2 x2)), (3, .int (i2 x3)), (4, .int (i2 x4)), (5, .int (i2 x5)), (6, .int (i2 x6))] := hl
    have h : m_x12_feed_b28 (m_x12_feed_L28 n28) x1 x2 x3 x4 x5 x6 s7 = some o := h
    unfold m_x12_feed_b28 at h
    refine y_head (pcJ := 81) (σ := Int × Int × Int × Int × Int × Int × Int × MS) (fun u H locs ls => va_P D vwCl (RW D a u.2.2.2.2.2.2.2) H ∧ va_S A s₀.heap H locs ∧ lv_has ls 8 [(0, .ref (a 200)), (1, .int (i2 u.1)), (2, .int (i2 u.2.1)), (3, .int (i2 u.2.2.1)), (4, .int (i2 u.2.2.2.1)), (5, .int (i2 u.2.2.2.2.1)), (6, .int (i2 u.2.2.2.2.2.1))] ∧ m_x12_feed_J81 (m_x12_feed_L28 n28) u.1 u.2.1 u.2.2.1 u.2.2.2.1 u.2.2.2.2.1 u.2.2.2.2.2.1 u.2.2.2.2.2.2.1 u.2.2.2.2.2.2.2 = some o) (fun u => [.int (i2 u.2.2.2.2.2.2.1)]) (fun u H locs ls hI => ?_) (fun J81 => ?_)
    · obtain ⟨hP, hS, hl, h⟩ := hI
      obtain ⟨x8, x9, x10, x11, x12, x13, x14, s15⟩ := u
      have hP : va_P D vwCl (RW D a s15) H := hP
      have hl : lv_has ls 8 [(0, .ref (a 200)), (1, .int (i2 x8)), (2, .int (i2 x9)), (3, .int (i2 x10)), (4, .int (i2 x11)), (5, .int (i2 x12)), (6, .int (i2 x13))] := hl
      have h : m_x12_feed_J81 (m_x12_feed_L28 n28) x8 x9 x10 x11 x12 x13 x14 s15 = some o := h
      unfold m_x12_feed_J81 at h
      refine lv_istore (lv' := [(7, .int (i2 x14)), (0, .ref (a 200)), (1, .int (i2 x8)), (2, .int (i2 x9)), (3, .int (i2 x10)), (4, .int (i2 x11)), (5, .int (i2 x12)), (6, .int (i2 x13))]) hx hb eX12_feed_74.2.2.2.1 hl (by decide) rfl (fun ls hl => ?_)
      refine lv_aload_n hx hb eX12_feed_74.2.2.2.2.1 rfl (lv_at hl 1 rfl) ?_
      refine va_get (D := D) (ci := 12) (v := .ref (a 0)) (C := RX12) (T := TX12) (N := 116) hx hb ht inX12 hown hK hP 0 RW_0 rfl 0 (by decide) (ht (.fieldLink RX12 7 "CloneVolumesModel" "tape" "[I") fl_X12_7) (fun _ h9 => h9) mF_0 eX12_feed_74.2.2.2.2.2.1 ?_
      refine lv_aload_n hx hb eX12_feed_74.2.2.2.2.2.2.1 rfl (lv_at hl 1 rfl) ?_
      refine va_get (D := D) (ci := 12) (v := .int (i2 (gI s15 1))) (C := RX12) (T := TX12) (N := 116) hx hb ht inX12 hown hK hP 0 RW_0 rfl 1 (by decide) (ht (.fieldLink RX12 263 "CloneVolumesModel" "taped" "I") fl_X12_263) (fun _ h9 => h9) mF_1 eX12_feed_74.2.2.2.2.2.2.2 ?_
      refine lv_iload hx hb eX12_feed_91.1 (lv_at hl 0 rfl) ?_
      refine lv_bipush (v := 8) hx hb eX12_feed_91.2.1 (by decide) ?_
      refine lv_iconst (v := 3) hx hb eX12_feed_91.2.2.1 (by decide) ?_
      refine lv_iload hx hb eX12_feed_91.2.2.2.1 (lv_at hl 7 rfl) ?_
      refine lv_iconst (v := 4) hx hb eX12_feed_91.2.2.2.2.1 (by decide) ?_
      obtain ⟨hn16, h⟩ := dv_e h
      refine lv_irem hx hb eX12_feed_91.2.2.2.2.2.1 (dv_nz hn16) ?_
      refine z_topi (y := i2 (Int.tmod x13 4)) (by rw [show (4 : Int32) = i2 4 from by decide +kernel]; exact dv_r hn16) ?_
      refine lv_isub hx hb eX12_feed_91.2.2.2.2.2.2.1 ?_
      refine z_topi (y := i2 (3 - (Int.tmod x13 4))) (i2_sub 3 (Int.tmod x13 4)) ?_
      refine lv_imul hx hb eX12_feed_91.2.2.2.2.2.2.2 ?_
      refine z_topi (y := i2 (8 * (3 - (Int.tmod x13 4)))) (i2_mul 8 (3 - (Int.tmod x13 4))) ?_
      refine lv_ishr hx hb eX12_feed_102.1 ?_
      refine z_topi (y := i2 (shrZ x14 (8 * (3 - (Int.tmod x13 4))))) (i2_of (i2 x14 >>> (i2 (8 * (3 - (Int.tmod x13 4))) &&& 31))).symm ?_
      refine lv_sipush (v := 255) hx hb eX12_feed_102.2.1 (by decide) ?_
      refine lv_iand hx hb eX12_feed_102.2.2.1 ?_
      refine z_topi (y := i2 (andZ (shrZ x14 (8 * (3 - (Int.tmod x13 4)))) 255)) (i2_of (i2 (shrZ x14 (8 * (3 - (Int.tmod x13 4)))) &&& i2 255)).symm ?_
      obtain ⟨hi17, h⟩ := inb_e h
      refine ya_iast (i := (gI s15 1)) (x := (andZ (shrZ x14 (8 * (3 - (Int.tmod x13 4)))) 255)) hx hb hK hP (hDD _) hS 1 0 RW_1 rfl (by decide) hi17 eX12_feed_102.2.2.2.1 (RW_w1 _) (fun H locs hP hS => ?_)
      obtain ⟨s18, hs18, h⟩ := st_e h
      rw [hs18] at hP
      refine lv_aload_n hx hb eX12_feed_102.2.2.2.2.1 rfl (lv_at hl 1 rfl) ?_
      refine lv_dup hx hb eX12_feed_102.2.2.2.2.2.1 rfl ?_
      refine va_get (D := D) (ci := 12) (v := .int (i2 (gI s18 1))) (C := RX12) (T := TX12) (N := 116) hx hb ht inX12 hown hK hP 0 RW_0 rfl 1 (by decide) (ht (.fieldLink RX12 263 "CloneVolumesModel" "taped" "I") fl_X12_263) (fun _ h9 => h9) mF_1 eX12_feed_102.2.2.2.2.2.2.1 ?_
      refine lv_iconst (v := 1) hx hb eX12_feed_102.2.2.2.2.2.2.2 (by decide) ?_
      refine lv_iadd hx hb eX12_feed_114.1 ?_
      refine z_topi (y := i2 ((gI s18 1) + 1)) (i2_add (gI s18 1) 1) ?_
      refine ya_put (D := D) (ci := 12) (v := .int (i2 ((gI s18 1) + 1))) (ty := .int) (C := RX12) (T := TX12) (N := 116) hx hb ht inX12 tyX12 tyX12_ok nmX12 hown hK hP (hDD _) hS 0 RW_0 rfl 1 (by decide) (ht (.fieldLink RX12 263 "CloneVolumesModel" "taped" "I") fl_X12_263) (fun _ h9 => h9) rfl (by decide +kernel) rfl rfl (by rw [mF_len]; decide) eX12_feed_114.2.1 (RW_f1 ((gI s18 1) + 1)) (fun H locs hP hS => ?_)
      obtain ⟨s19, hs19, h⟩ := st_e h
      rw [hs19] at hP
      refine lv_iinc (v := i2 (x13 + 1)) (lv' := [(6, .int (i2 (x13 + 1))), (7, .int (i2 x14)), (0, .ref (a 200)), (1, .int (i2 x8)), (2, .int (i2 x9)), (3, .int (i2 x10)), (4, .int (i2 x11)), (5, .int (i2 x12))]) hx hb eX12_feed_114.2.2.1 hl (k := 7) rfl (i2_add x13 1) (by decide) rfl (fun ls hl => ?_)
      refine lv_goto (tgt := 28) hx hb eX12_feed_114.2.2.2.1 (by decide) ?_
      exact ih28 (x8, x9, x10, x11, x12, x13 + 1, s19) _ _ _ ⟨hP, hS, lv_sub hl [2, 3, 4, 5, 6, 7, 0] rfl, h⟩
    refine lv_iload hx hb eX12_feed_24.2.2.2.1 (lv_at hl 6 rfl) ?_
    refine lv_bipush (v := 20) hx hb eX12_feed_24.2.2.2.2.1 (by decide) ?_
    obtain ⟨hr20, h⟩ := rg_e h
    refine lv_icmp_ge (tgt := 124) hx hb eX12_feed_24.2.2.2.2.2.1 (by decide) (fun c21 => ?_) (fun c21 => ?_)
    · have h := if_t ((i2_le (x := 20) (y := x6) (by decide) hr20).mp c21) h
      refine lv_aload_n hx hb eX12_feed_114.2.2.2.2.1 rfl (lv_at hl 0 rfl) ?_
      refine va_get (D := D) (ci := 12) (v := .int (i2 (gI s7 1))) (C := RX12) (T := TX12) (N := 116) hx hb ht inX12 hown hK hP 0 RW_0 rfl 1 (by decide) (ht (.fieldLink RX12 263 "CloneVolumesModel" "taped" "I") fl_X12_263) (fun _ h9 => h9) mF_1 eX12_feed_114.2.2.2.2.2.1 ?_
      obtain rfl := Option.some.inj h
      exact W.iret (v := (i2 (gI s7 1))) hx hb hr (fun t ht hW => ⟨⟨_, (), rfl, rfl, by rw [ht]; exact hP, va_K.moved hW.alike hK, hDD _⟩, hS.F ht⟩) hS.2.2 eX12_feed_114.2.2.2.2.2.2.1
    · have h := if_f (mt (i2_le (x := 20) (y := x6) (by decide) hr20).mpr c21) h
      refine lv_iload hx hb eX12_feed_24.2.2.2.2.2.2.1 (lv_at hl 6 rfl) ?_
      refine lv_iconst (v := 4) hx hb eX12_feed_24.2.2.2.2.2.2.2 (by decide) ?_
      obtain ⟨hr22, h⟩ := rg_e h
      refine lv_icmp_ge (tgt := 45) hx hb eX12_feed_38.1 (by decide) (fun c23 => ?_) (fun c23 => ?_)
      · have h := if_t ((i2_le (x := 4) (y := x6) (by decide) hr22).mp c23) h
        refine lv_iload hx hb eX12_feed_38.2.2.2.1 (lv_at hl 6 rfl) ?_
        refine lv_bipush (v := 8) hx hb eX12_feed_38.2.2.2.2.1 (by decide) ?_
        obtain ⟨hr24, h⟩ := rg_e h
        refine lv_icmp_ge (tgt := 56) hx hb eX12_feed_38.2.2.2.2.2.1 (by decide) (fun c25 => ?_) (fun c25 => ?_)
        · have h := if_t ((i2_le (x := 8) (y := x6) (by decide) hr24).mp c25) h
          refine lv_iload hx hb eX12_feed_56.1 (lv_at hl 6 rfl) ?_
          refine lv_bipush (v := 12) hx hb eX12_feed_56.2.1 (by decide) ?_
          obtain ⟨hr26, h⟩ := rg_e h
          refine lv_icmp_ge (tgt := 67) hx hb eX12_feed_56.2.2.1 (by decide) (fun c27 => ?_) (fun c27 => ?_)
          · have h := if_t ((i2_le (x := 12) (y := x6) (by decide) hr26).mp c27) h
            refine lv_iload hx hb eX12_feed_56.2.2.2.2.2.1 (lv_at hl 6 rfl) ?_
            refine lv_bipush (v := 16) hx hb eX12_feed_56.2.2.2.2.2.2.1 (by decide) ?_
            obtain ⟨hr28, h⟩ := rg_e h
            refine lv_icmp_ge (tgt := 79) hx hb eX12_feed_56.2.2.2.2.2.2.2 (by decide) (fun c29 => ?_) (fun c29 => ?_)
            · have h := if_t ((i2_le (x := 16) (y := x6) (by decide) hr28).mp c29) h
              refine lv_iload hx hb eX12_feed_74.2.2.1 (lv_at hl 5 rfl) ?_
              exact J81 (x1, x2, x3, x4, x5, x6, x5, s7) _ _ _ ⟨hP, hS, lv_sub hl [0, 1, 2, 3, 4, 5, 6] rfl, h⟩
            · have h := if_f (mt (i2_le (x := 16) (y := x6) (by decide) hr28).mpr c29) h
              refine lv_iload hx hb eX12_feed_74.1 (lv_at hl 4 rfl) ?_
              refine lv_goto (tgt := 81) hx hb eX12_feed_74.2.1 (by decide) ?_
              exact J81 (x1, x2, x3, x4, x5, x6, x4, s7) _ _ _ ⟨hP, hS, lv_sub hl [0, 1, 2, 3, 4, 5, 6] rfl, h⟩
          · have h := if_f (mt (i2_le (x := 12) (y := x6) (by decide) hr26).mpr c27) h
            refine lv_iload_n hx hb eX12_feed_56.2.2.2.1 rfl (lv_at hl 3 rfl) ?_
            refine lv_goto (tgt := 81) hx hb eX12_feed_56.2.2.2.2.1 (by decide) ?_
            exact J81 (x1, x2, x3, x4, x5, x6, x3, s7) _ _ _ ⟨hP, hS, lv_sub hl [0, 1, 2, 3, 4, 5, 6] rfl, h⟩
        · have h := if_f (mt (i2_le (x := 8) (y := x6) (by decide) hr24).mpr c25) h
          refine lv_iload_n hx hb eX12_feed_38.2.2.2.2.2.2.1 rfl (lv_at hl 2 rfl) ?_
          refine lv_goto (tgt := 81) hx hb eX12_feed_38.2.2.2.2.2.2.2 (by decide) ?_
          exact J81 (x1, x2, x3, x4, x5, x6, x2, s7) _ _ _ ⟨hP, hS, lv_sub hl [0, 1, 2, 3, 4, 5, 6] rfl, h⟩
      · have h := if_f (mt (i2_le (x := 4) (y := x6) (by decide) hr22).mpr c23) h
        refine lv_iload_n hx hb eX12_feed_38.2.1 rfl (lv_at hl 1 rfl) ?_
        refine lv_goto (tgt := 81) hx hb eX12_feed_38.2.2.1 (by decide) ?_
        exact J81 (x1, x2, x3, x4, x5, x6, x1, s7) _ _ _ ⟨hP, hS, lv_sub hl [0, 1, 2, 3, 4, 5, 6] rfl, h⟩
  refine lv_aload_n hx hb eX12_fail_18.2.1 rfl (lv_at hl 0 rfl) ?_
  refine va_get (D := D) (ci := 12) (v := .int (i2 (gI s 1))) (C := RX12) (T := TX12) (N := 116) hx hb ht inX12 hown hK hP 0 RW_0 rfl 1 (by decide) (ht (.fieldLink RX12 263 "CloneVolumesModel" "taped" "I") fl_X12_263) (fun _ h9 => h9) mF_1 eX12_fail_18.2.2.1 ?_
  refine lv_bipush (v := 20) hx hb eX12_fail_18.2.2.2.1 (by decide) ?_
  refine lv_iadd hx hb eX12_fail_18.2.2.2.2.1 ?_
  refine z_topi (y := i2 ((gI s 1) + 20)) (i2_add (gI s 1) 20) ?_
  refine lv_sipush (v := 1600) hx hb eX12_fail_18.2.2.2.2.2.1 (by decide) ?_
  obtain ⟨hr30, h⟩ := rg_e h
  refine lv_icmp_le (tgt := 25) hx hb eX12_fail_18.2.2.2.2.2.2.1 (by decide) (fun c31 => ?_) (fun c31 => ?_)
  · have h := if_t ((i2_le (x := ((gI s 1) + 20)) (y := 1600) hr30 (by decide)).mp c31) h
    refine lv_iconst (v := 0) hx hb eX12_feed_24.2.1 (by decide) ?_
    refine lv_istore (lv' := [(6, .int 0), (0, .ref (a 200)), (1, .int (i2 p0)), (2, .int (i2 p1)), (3, .int (i2 p2)), (4, .int (i2 p3)), (5, .int (i2 p4))]) hx hb eX12_feed_24.2.2.1 hl (by decide) rfl (fun ls hl => ?_)
    exact J28 FU (p0, p1, p2, p3, p4, 0, s) _ _ _ ⟨hP, hS, lv_sub hl [1, 2, 3, 4, 5, 6, 0] rfl, h⟩
  · have h := if_f (mt (i2_le (x := ((gI s 1) + 20)) (y := 1600) hr30 (by decide)).mpr c31) h
    refine lv_aload_n hx hb eX12_fail_18.2.2.2.2.2.2.2 rfl (lv_at hl 0 rfl) ?_
    refine va_get (D := D) (ci := 12) (v := .ref (a 9)) (C := RX12) (T := TX12) (N := 116) hx hb ht inX12 hown hK hP 0 RW_0 rfl 9 (by decide) (ht (.fieldLink RX12 17 "CloneVolumesModel" "refused" "[I") fl_X12_17) (fun _ h9 => h9) mF_9 eX12_feed_14.1 ?_
    refine lv_iconst (v := 0) hx hb eX12_feed_14.2.1 (by decide) ?_
    refine lv_dup2_11 hx hb eX12_feed_14.2.2.1 rfl rfl ?_
    obtain ⟨y32, ey32, iy32, h⟩ := rdI_e h
    refine ya_iald (i := 0) hx hb hK hP 2 0 RW_2 rfl (by decide) ey32 iy32 eX12_feed_14.2.2.2.1 ?_
    refine lv_iconst (v := 1) hx hb eX12_feed_14.2.2.2.2.1 (by decide) ?_
    refine lv_iadd hx hb eX12_feed_14.2.2.2.2.2.1 ?_
    refine z_topi (y := i2 (y32 + 1)) (i2_add y32 1) ?_
    obtain ⟨hi33, h⟩ := inb_e h
    refine ya_iast (i := 0) (x := (y32 + 1)) hx hb hK hP (hDD _) hS 2 0 RW_2 rfl (by decide) hi33 eX12_feed_14.2.2.2.2.2.2.1 (RW_w2 _) (fun H locs hP hS => ?_)
    obtain ⟨s34, hs34, h⟩ := st_e h
    rw [hs34] at hP
    refine lv_iconst (v := (-1)) hx hb eX12_feed_14.2.2.2.2.2.2.2 (by decide) ?_
    obtain rfl := Option.some.inj h
    exact W.iret (v := (-1)) hx hb hr (fun t ht hW => ⟨⟨_, (), rfl, rfl, by rw [ht]; exact hP, va_K.moved hW.alike hK, hDD _⟩, hS.F ht⟩) hS.2.2 eX12_feed_24.1
set_option maxHeartbeats 4000000 in
set_option maxRecDepth 100000 in
theorem k_x12_end (l : Launch) (D : va_G) (a : Nat → Nat) (p0 : Int) (sz : Nat) (s : MS) (o : (Int × MS)) (h : m_x12_end p0 s = some o) : yWi l yX12_end cX12_end 2 (some .boolean) { frames := 0, cells := 0, slots := 0, locals := 0 } D sz [.ref (a 200), .int (i2 p0)] (RW D a s) (RW D a o.2) (i2 o.1) := by
  refine Met.ofW (cc := cX12_end) (maxL := 2) (ret := (some .boolean)) (by decide) rfl ?_
  intro p e s₀ m args below meth c s₁ B hml hv
  obtain ⟨rfl, ⟨hsz, hP, hK, hD0⟩, hN⟩ := hv
  have hx := B.exec
  have hb := B.bytes
  have hr := B.returns
  have hts := atoms_spec (ws := wz yX12_end cX12_end 2 (some .boolean)) B.pre
  have ht : ∀ w ∈ lw_gd, w.before _ s₀ = true := fun w h => hts w (List.mem_cons_of_mem _ h)
  have hown : s₀.vm.findClass RX12 = some m.cls := findClass_of_methodNamed B.named
  have hlocks := B.notSynchronized
  subst hsz
  have hD := hD0.self (sz := s₀.heap.size)
  generalize hAe : va_A (RW D a s) s₀.heap.size = A at hD ⊢
  have hA : ∀ q : Nat, s₀.heap.size ≤ q → A q := fun q h => by rw [← hAe]; exact Or.inr h
  have hS : va_S A s₀.heap s₀.heap [] := va_S.rf
  have hDD : ∀ t : MS, va_D A (RW D a t) := fun t => RW_D t hD
  have hl := lv_entry ([.ref (a 200), .int (i2 p0)]) (n := 2) (Nat.le_of_ble_eq_true rfl)
  rw [lg_entry_eq]
  generalize (lg_sl ([.ref (a 200), .int (i2 p0)]) ++ List.replicate (2 - (lg_sl ([.ref (a 200), .int (i2 p0)])).length) Slot.unset).toArray = ls at hl ⊢
  have hl : lv_has ls 2 [(0, .ref (a 200)), (1, .int (i2 p0))] := hl
  unfold m_x12_end at h
  refine y_head (pcJ := 12) (σ := MS) (fun u H locs ls => va_P D vwCl (RW D a u) H ∧ va_S A s₀.heap H locs ∧ lv_has ls 2 [(0, .ref (a 200))] ∧ m_x12_end_J12 u = some o) (fun u => []) (fun u H locs ls hI => ?_) (fun J12 => ?_)
  · obtain ⟨hP, hS, hl, h⟩ := hI
    obtain ⟨s1, rfl⟩ : ∃ z, z = u := ⟨u, rfl⟩
    have hP : va_P D vwCl (RW D a s1) H := hP
    have hl : lv_has ls 2 [(0, .ref (a 200))] := hl
    have h : m_x12_end_J12 s1 = some o := h
    unfold m_x12_end_J12 at h
    refine lv_aload_n hx hb eX12_clamp_25.2.2.2.2.2.2.2 rfl (lv_at hl 0 rfl) ?_
    refine va_get (D := D) (ci := 12) (v := .ref (a 9)) (C := RX12) (T := TX12) (N := 116) hx hb ht inX12 hown hK hP 0 RW_0 rfl 9 (by decide) (ht (.fieldLink RX12 17 "CloneVolumesModel" "refused" "[I") fl_X12_17) (fun _ h9 => h9) mF_9 eX12_end_13.1 ?_
    refine lv_iconst (v := 0) hx hb eX12_end_13.2.1 (by decide) ?_
    refine lv_dup2_11 hx hb eX12_end_13.2.2.1 rfl rfl ?_
    obtain ⟨y2, ey2, iy2, h⟩ := rdI_e h
    refine ya_iald (i := 0) hx hb hK hP 2 0 RW_2 rfl (by decide) ey2 iy2 eX12_end_13.2.2.2.1 ?_
    refine lv_iconst (v := 1) hx hb eX12_end_13.2.2.2.2.1 (by decide) ?_
    refine lv_iadd hx hb eX12_end_13.2.2.2.2.2.1 ?_
    refine z_topi (y := i2 (y2 + 1)) (i2_add y2 1) ?_
    obtain ⟨hi3, h⟩ := inb_e h
    refine ya_iast (i := 0) (x := (y2 + 1)) hx hb hK hP (hDD _) hS 2 0 RW_2 rfl (by decide) hi3 eX12_end_13.2.2.2.2.2.2.1 (RW_w2 _) (fun H locs hP hS => ?_)
    obtain ⟨s4, hs4, h⟩ := st_e h
    rw [hs4] at hP
    refine lv_iconst (v := 0) hx hb eX12_end_13.2.2.2.2.2.2.2 (by decide) ?_
    obtain rfl := Option.some.inj h
    exact W.zret (v := 0) hx hb hr (by decide) (fun t ht hW => ⟨⟨_, (), rfl, rfl, by rw [ht]; exact hP, va_K.moved hW.alike hK, hDD _⟩, hS.F ht⟩) hS.2.2 eX12_end_23.1
  refine lv_iload_n hx hb eX12_clamp_25.2.1 rfl (lv_at hl 1 rfl) ?_
  obtain ⟨hr5, h⟩ := rg_e h
  refine lv_if_lt (tgt := 12) hx hb eX12_clamp_25.2.2.1 (by decide) (fun c6 => ?_) (fun c6 => ?_)
  · have h := if_t ((i2_lt (x := p0) (y := 0) hr5 (by decide)).mp c6) h
    exact J12 s _ _ _ ⟨hP, hS, lv_sub hl [0] rfl, h⟩
  · have h := if_f (mt (i2_lt (x := p0) (y := 0) hr5 (by decide)).mpr c6) h
    refine lv_iload_n hx hb eX12_clamp_25.2.2.2.1 rfl (lv_at hl 1 rfl) ?_
    refine lv_aload_n hx hb eX12_clamp_25.2.2.2.2.1 rfl (lv_at hl 0 rfl) ?_
    refine va_get (D := D) (ci := 12) (v := .int (i2 (gI s 1))) (C := RX12) (T := TX12) (N := 116) hx hb ht inX12 hown hK hP 0 RW_0 rfl 1 (by decide) (ht (.fieldLink RX12 263 "CloneVolumesModel" "taped" "I") fl_X12_263) (fun _ h9 => h9) mF_1 eX12_clamp_25.2.2.2.2.2.1 ?_
    obtain ⟨hr7, h⟩ := rg_e h
    obtain ⟨hr8, h⟩ := rg_e h
    refine lv_icmp_le (tgt := 24) hx hb eX12_clamp_25.2.2.2.2.2.2.1 (by decide) (fun c9 => ?_) (fun c9 => ?_)
    · have h := if_t ((i2_le (x := p0) (y := (gI s 1)) hr7 hr8).mp c9) h
      refine lv_aload_n hx hb eX12_end_23.2.1 rfl (lv_at hl 0 rfl) ?_
      refine lv_iload_n hx hb eX12_end_23.2.2.1 rfl (lv_at hl 1 rfl) ?_
      refine ya_put (D := D) (ci := 12) (v := .int (i2 p0)) (ty := .int) (C := RX12) (T := TX12) (N := 116) hx hb ht inX12 tyX12 tyX12_ok nmX12 hown hK hP (hDD _) hS 0 RW_0 rfl 1 (by decide) (ht (.fieldLink RX12 263 "CloneVolumesModel" "taped" "I") fl_X12_263) (fun _ h9 => h9) rfl (by decide +kernel) rfl rfl (by rw [mF_len]; decide) eX12_end_23.2.2.2.1 (RW_f1 p0) (fun H locs hP hS => ?_)
      obtain ⟨s10, hs10, h⟩ := st_e h
      rw [hs10] at hP
      refine lv_iconst (v := 1) hx hb eX12_end_23.2.2.2.2.1 (by decide) ?_
      obtain rfl := Option.some.inj h
      exact W.zret (v := 1) hx hb hr (by decide) (fun t ht hW => ⟨⟨_, (), rfl, rfl, by rw [ht]; exact hP, va_K.moved hW.alike hK, hDD _⟩, hS.F ht⟩) hS.2.2 eX12_end_23.2.2.2.2.2.1
    · have h := if_f (mt (i2_le (x := p0) (y := (gI s 1)) hr7 hr8).mpr c9) h
      exact J12 s _ _ _ ⟨hP, hS, lv_sub hl [0] rfl, h⟩
set_option maxHeartbeats 4000000 in
set_option maxRecDepth 100000 in
theorem k_x12_fail (l : Launch) (D : va_G) (a : Nat → Nat) (p0 : Int) (p1 : Int) (sz : Nat) (s : MS) (o : MS) (h : m_x12_fail p0 p1 s = some o) : yWv l yX12_fail cX12_fail 3 none { frames := 0, cells := 0, slots := 0, locals := 0 } D sz [.ref (a 200), .int (i2 p0), .int (i2 p1)] (RW D a s) (RW D a o) := by
  refine Met.ofW (cc := cX12_fail) (maxL := 3) (ret := none) (by decide) rfl ?_
  intro p e s₀ m args below meth c s₁ B hml hv
  obtain ⟨rfl, ⟨hsz, hP, hK, hD0⟩, hN⟩ := hv
  have hx := B.exec
  have hb := B.bytes
  have hr := B.returns
  have hts := atoms_spec (ws := wz yX12_fail cX12_fail 3 none) B.pre
  have ht : ∀ w ∈ lw_gd, w.before _ s₀ = true := fun w h => hts w (List.mem_cons_of_mem _ h)
  have hown : s₀.vm.findClass RX12 = some m.cls := findClass_of_methodNamed B.named
  have hlocks := B.notSynchronized
  subst hsz
  have hD := hD0.self (sz := s₀.heap.size)
  generalize hAe : va_A (RW D a s) s₀.heap.size = A at hD ⊢
  have hA : ∀ q : Nat, s₀.heap.size ≤ q → A q := fun q h => by rw [← hAe]; exact Or.inr h
  have hS : va_S A s₀.heap s₀.heap [] := va_S.rf
  have hDD : ∀ t : MS, va_D A (RW D a t) := fun t => RW_D t hD
  have hl := lv_entry ([.ref (a 200), .int (i2 p0), .int (i2 p1)]) (n := 3) (Nat.le_of_ble_eq_true rfl)
  rw [lg_entry_eq]
  generalize (lg_sl ([.ref (a 200), .int (i2 p0), .int (i2 p1)]) ++ List.replicate (3 - (lg_sl ([.ref (a 200), .int (i2 p0), .int (i2 p1)])).length) Slot.unset).toArray = ls at hl ⊢
  have hl : lv_has ls 3 [(0, .ref (a 200)), (1, .int (i2 p0)), (2, .int (i2 p1))] := hl
  unfold m_x12_fail at h
  refine lv_aload_n hx hb eX12_end_23.2.2.2.2.2.2.1 rfl (lv_at hl 0 rfl) ?_
  refine va_get (D := D) (ci := 12) (v := .int (i2 (gI s 5))) (C := RX12) (T := TX12) (N := 116) hx hb ht inX12 hown hK hP 0 RW_0 rfl 5 (by decide) (ht (.fieldLink RX12 266 "CloneVolumesModel" "bad" "I") fl_X12_266) (fun _ h9 => h9) mF_5 eX12_end_23.2.2.2.2.2.2.2 ?_
  obtain ⟨hr1, h⟩ := rg_e h
  refine lv_if_eq (tgt := 8) hx hb eX12_fail_4.1 (by decide) (fun c2 => ?_) (fun c2 => ?_)
  · have h := if_t ((i2_eq (x := (gI s 5)) (y := 0) hr1 (by decide)).mp c2) h
    refine lv_aload_n hx hb eX12_fail_4.2.2.1 rfl (lv_at hl 0 rfl) ?_
    refine lv_iload_n hx hb eX12_fail_4.2.2.2.1 rfl (lv_at hl 1 rfl) ?_
    refine ya_put (D := D) (ci := 12) (v := .int (i2 p0)) (ty := .int) (C := RX12) (T := TX12) (N := 116) hx hb ht inX12 tyX12 tyX12_ok nmX12 hown hK hP (hDD _) hS 0 RW_0 rfl 5 (by decide) (ht (.fieldLink RX12 266 "CloneVolumesModel" "bad" "I") fl_X12_266) (fun _ h9 => h9) rfl (by decide +kernel) rfl rfl (by rw [mF_len]; decide) eX12_fail_4.2.2.2.2.1 (RW_f5 p0) (fun H locs hP hS => ?_)
    obtain ⟨s3, hs3, h⟩ := st_e h
    rw [hs3] at hP
    refine lv_aload_n hx hb eX12_fail_4.2.2.2.2.2.1 rfl (lv_at hl 0 rfl) ?_
    refine lv_iload_n hx hb eX12_fail_4.2.2.2.2.2.2.1 rfl (lv_at hl 2 rfl) ?_
    refine ya_put (D := D) (ci := 12) (v := .int (i2 p1)) (ty := .int) (C := RX12) (T := TX12) (N := 116) hx hb ht inX12 tyX12 tyX12_ok nmX12 hown hK hP (hDD _) hS 0 RW_0 rfl 6 (by decide) (ht (.fieldLink RX12 269 "CloneVolumesModel" "badPlace" "I") fl_X12_269) (fun _ h9 => h9) rfl (by decide +kernel) rfl rfl (by rw [mF_len]; decide) eX12_fail_4.2.2.2.2.2.2.2 (RW_f6 p1) (fun H locs hP hS => ?_)
    obtain ⟨s4, hs4, h⟩ := st_e h
    rw [hs4] at hP
    obtain rfl := Option.some.inj h
    exact W.vret hx hb hr (fun t ht hW => ⟨⟨(), rfl, trivial, by rw [ht]; exact hP, va_K.moved hW.alike hK, hDD _⟩, hS.F ht⟩) hS.2.2 eX12_fail_18.1
  · have h := if_f (mt (i2_eq (x := (gI s 5)) (y := 0) hr1 (by decide)).mpr c2) h
    obtain rfl := Option.some.inj h
    exact W.vret hx hb hr (fun t ht hW => ⟨⟨(), rfl, trivial, by rw [ht]; exact hP, va_K.moved hW.alike hK, hDD _⟩, hS.F ht⟩) hS.2.2 eX12_fail_4.2.1
set_option maxHeartbeats 4000000 in
set_option maxRecDepth 100000 in
theorem k_x12_isLetter (l : Launch) (D : va_G) (a : Nat → Nat) (p0 : Int) (s : MS) (o : Int) (h : m_x12_isLetter p0 s = some o) : yRi l yX12_isLetter cX12_isLetter 1 (some .boolean) { frames := 0, cells := 0, slots := 0, locals := 0 } D [.int (i2 p0)] (RW D a s) (i2 o) := by
  refine Met.ofW (cc := cX12_isLetter) (maxL := 1) (ret := (some .boolean)) (by decide) rfl ?_
  intro p e s₀ m args below meth c s₁ B hml hv
  obtain ⟨rfl, ⟨hP, hK⟩, hN⟩ := hv
  have hx := B.exec
  have hb := B.bytes
  have hr := B.returns
  have hts := atoms_spec (ws := wz yX12_isLetter cX12_isLetter 1 (some .boolean)) B.pre
  have ht : ∀ w ∈ lw_gd, w.before _ s₀ = true := fun w h => hts w (List.mem_cons_of_mem _ h)
  have hown : s₀.vm.findClass RX12 = some m.cls := findClass_of_methodNamed B.named
  have hlocks := B.notSynchronized
  have hS : va_S (fun _ => False) s₀.heap s₀.heap [] := va_S.rf
  have hl := lv_entry ([.int (i2 p0)]) (n := 1) (Nat.le_of_ble_eq_true rfl)
  rw [lg_entry_eq]
  generalize (lg_sl ([.int (i2 p0)]) ++ List.replicate (1 - (lg_sl ([.int (i2 p0)])).length) Slot.unset).toArray = ls at hl ⊢
  have hl : lv_has ls 1 [(0, .int (i2 p0))] := hl
  unfold m_x12_isLetter at h
  refine y_head (pcJ := 17) (σ := Int) (fun u H locs ls => va_P D vwCl (RW D a s) H ∧ va_S (fun _ => False) s₀.heap H locs ∧ lv_has ls 1 [] ∧ m_x12_isLetter_J17 s u = some o) (fun u => [.int (i2 u)]) (fun u H locs ls hI => ?_) (fun J17 => ?_)
  · obtain ⟨hP, hS, hl, h⟩ := hI
    obtain ⟨x1, rfl⟩ : ∃ z, z = u := ⟨u, rfl⟩
    have hP : va_P D vwCl (RW D a s) H := hP
    have hl : lv_has ls 1 [] := hl
    have h : m_x12_isLetter_J17 s x1 = some o := h
    unfold m_x12_isLetter_J17 at h
    obtain ⟨hb2, h⟩ := bo_e h
    obtain rfl := Option.some.inj h
    exact W.zret (v := (i2 x1)) hx hb hr (bo_n hb2) (fun t ht hW => ⟨⟨_, (), rfl, rfl, trivial⟩, hS.F ht⟩) hS.2.2 eX12_isLetter_12.2.2.2.1
  refine y_head (pcJ := 16) (σ := Unit) (fun u H locs ls => va_P D vwCl (RW D a s) H ∧ va_S (fun _ => False) s₀.heap H locs ∧ lv_has ls 1 [] ∧ m_x12_isLetter_J16 s u = some o) (fun u => []) (fun u H locs ls hI => ?_) (fun J16 => ?_)
  · obtain ⟨hP, hS, hl, h⟩ := hI
    skip
    have hP : va_P D vwCl (RW D a s) H := hP
    have hl : lv_has ls 1 [] := hl
    have h : m_x12_isLetter_J16 s () = some o := h
    unfold m_x12_isLetter_J16 at h
    refine lv_iconst (v := 0) hx hb eX12_isLetter_12.2.2.1 (by decide) ?_
    exact J17 0 _ _ _ ⟨hP, hS, lv_sub hl [] rfl, h⟩
  refine lv_iload_n hx hb eX12_isIn_17.2.2.1 rfl (lv_at hl 0 rfl) ?_
  refine lv_bipush (v := 97) hx hb eX12_isIn_17.2.2.2.1 (by decide) ?_
  obtain ⟨hr3, h⟩ := rg_e h
  refine lv_icmp_lt (tgt := 16) hx hb eX12_isIn_17.2.2.2.2.1 (by decide) (fun c4 => ?_) (fun c4 => ?_)
  · have h := if_t ((i2_lt (x := p0) (y := 97) hr3 (by decide)).mp c4) h
    exact J16 () _ _ _ ⟨hP, hS, lv_sub hl [] rfl, h⟩
  · have h := if_f (mt (i2_lt (x := p0) (y := 97) hr3 (by decide)).mpr c4) h
    refine lv_iload_n hx hb eX12_isIn_17.2.2.2.2.2.1 rfl (lv_at hl 0 rfl) ?_
    refine lv_bipush (v := 122) hx hb eX12_isIn_17.2.2.2.2.2.2.1 (by decide) ?_
    obtain ⟨hr5, h⟩ := rg_e h
    refine lv_icmp_gt (tgt := 16) hx hb eX12_isIn_17.2.2.2.2.2.2.2 (by decide) (fun c6 => ?_) (fun c6 => ?_)
    · have h := if_t ((i2_lt (x := 122) (y := p0) (by decide) hr5).mp c6) h
      exact J16 () _ _ _ ⟨hP, hS, lv_sub hl [] rfl, h⟩
    · have h := if_f (mt (i2_lt (x := 122) (y := p0) (by decide) hr5).mpr c6) h
      refine lv_iconst (v := 1) hx hb eX12_isLetter_12.1 (by decide) ?_
      refine lv_goto (tgt := 17) hx hb eX12_isLetter_12.2.1 (by decide) ?_
      exact J17 1 _ _ _ ⟨hP, hS, lv_sub hl [] rfl, h⟩
set_option maxHeartbeats 4000000 in
set_option maxRecDepth 100000 in
theorem k_x12_isDigit (l : Launch) (D : va_G) (a : Nat → Nat) (p0 : Int) (s : MS) (o : Int) (h : m_x12_isDigit p0 s = some o) : yRi l yX12_isDigit cX12_isDigit 1 (some .boolean) { frames := 0, cells := 0, slots := 0, locals := 0 } D [.int (i2 p0)] (RW D a s) (i2 o) := by
  refine Met.ofW (cc := cX12_isDigit) (maxL := 1) (ret := (some .boolean)) (by decide) rfl ?_
  intro p e s₀ m args below meth c s₁ B hml hv
  obtain ⟨rfl, ⟨hP, hK⟩, hN⟩ := hv
  have hx := B.exec
  have hb := B.bytes
  have hr := B.returns
  have hts := atoms_spec (ws := wz yX12_isDigit cX12_isDigit 1 (some .boolean)) B.pre
  have ht : ∀ w ∈ lw_gd, w.before _ s₀ = true := fun w h => hts w (List.mem_cons_of_mem _ h)
  have hown : s₀.vm.findClass RX12 = some m.cls := findClass_of_methodNamed B.named
  have hlocks := B.notSynchronized
  have hS : va_S (fun _ => False) s₀.heap s₀.heap [] := va_S.rf
  have hl := lv_entry ([.int (i2 p0)]) (n := 1) (Nat.le_of_ble_eq_true rfl)
  rw [lg_entry_eq]
  generalize (lg_sl ([.int (i2 p0)]) ++ List.replicate (1 - (lg_sl ([.int (i2 p0)])).length) Slot.unset).toArray = ls at hl ⊢
  have hl : lv_has ls 1 [(0, .int (i2 p0))] := hl
  unfold m_x12_isDigit at h
  refine y_head (pcJ := 17) (σ := Int) (fun u H locs ls => va_P D vwCl (RW D a s) H ∧ va_S (fun _ => False) s₀.heap H locs ∧ lv_has ls 1 [] ∧ m_x12_isDigit_J17 s u = some o) (fun u => [.int (i2 u)]) (fun u H locs ls hI => ?_) (fun J17 => ?_)
  · obtain ⟨hP, hS, hl, h⟩ := hI
    obtain ⟨x1, rfl⟩ : ∃ z, z = u := ⟨u, rfl⟩
    have hP : va_P D vwCl (RW D a s) H := hP
    have hl : lv_has ls 1 [] := hl
    have h : m_x12_isDigit_J17 s x1 = some o := h
    unfold m_x12_isDigit_J17 at h
    obtain ⟨hb2, h⟩ := bo_e h
    obtain rfl := Option.some.inj h
    exact W.zret (v := (i2 x1)) hx hb hr (bo_n hb2) (fun t ht hW => ⟨⟨_, (), rfl, rfl, trivial⟩, hS.F ht⟩) hS.2.2 eX12_isDigit_17.1
  refine y_head (pcJ := 16) (σ := Unit) (fun u H locs ls => va_P D vwCl (RW D a s) H ∧ va_S (fun _ => False) s₀.heap H locs ∧ lv_has ls 1 [] ∧ m_x12_isDigit_J16 s u = some o) (fun u => []) (fun u H locs ls hI => ?_) (fun J16 => ?_)
  · obtain ⟨hP, hS, hl, h⟩ := hI
    skip
    have hP : va_P D vwCl (RW D a s) H := hP
    have hl : lv_has ls 1 [] := hl
    have h : m_x12_isDigit_J16 s () = some o := h
    unfold m_x12_isDigit_J16 at h
    refine lv_iconst (v := 0) hx hb eX12_isDigit_1.2.2.2.2.2.2.2 (by decide) ?_
    exact J17 0 _ _ _ ⟨hP, hS, lv_sub hl [] rfl, h⟩
  refine lv_iload_n hx hb eX12_feed_114.2.2.2.2.2.2.2 rfl (lv_at hl 0 rfl) ?_
  refine lv_bipush (v := 48) hx hb eX12_isDigit_1.1 (by decide) ?_
  obtain ⟨hr3, h⟩ := rg_e h
  refine lv_icmp_lt (tgt := 16) hx hb eX12_isDigit_1.2.1 (by decide) (fun c4 => ?_) (fun c4 => ?_)
  · have h := if_t ((i2_lt (x := p0) (y := 48) hr3 (by decide)).mp c4) h
    exact J16 () _ _ _ ⟨hP, hS, lv_sub hl [] rfl, h⟩
  · have h := if_f (mt (i2_lt (x := p0) (y := 48) hr3 (by decide)).mpr c4) h
    refine lv_iload_n hx hb eX12_isDigit_1.2.2.1 rfl (lv_at hl 0 rfl) ?_
    refine lv_bipush (v := 57) hx hb eX12_isDigit_1.2.2.2.1 (by decide) ?_
    obtain ⟨hr5, h⟩ := rg_e h
    refine lv_icmp_gt (tgt := 16) hx hb eX12_isDigit_1.2.2.2.2.1 (by decide) (fun c6 => ?_) (fun c6 => ?_)
    · have h := if_t ((i2_lt (x := 57) (y := p0) (by decide) hr5).mp c6) h
      exact J16 () _ _ _ ⟨hP, hS, lv_sub hl [] rfl, h⟩
    · have h := if_f (mt (i2_lt (x := 57) (y := p0) (by decide) hr5).mpr c6) h
      refine lv_iconst (v := 1) hx hb eX12_isDigit_1.2.2.2.2.2.1 (by decide) ?_
      refine lv_goto (tgt := 17) hx hb eX12_isDigit_1.2.2.2.2.2.2.1 (by decide) ?_
      exact J17 1 _ _ _ ⟨hP, hS, lv_sub hl [] rfl, h⟩
set_option maxHeartbeats 4000000 in
set_option maxRecDepth 100000 in
theorem k_x12_look (l : Launch) (D : va_G) (a : Nat → Nat) (sz : Nat) (s : MS) (o : (Int × MS)) (h : m_x12_look s = some o) : yWi l yX12_look cX12_look 1 (some .int) { frames := 0, cells := 0, slots := 0, locals := 0 } D sz [.ref (a 200)] (RW D a s) (RW D a o.2) (i2 o.1) := by
  refine Met.ofW (cc := cX12_look) (maxL := 1) (ret := (some .int)) (by decide) rfl ?_
  intro p e s₀ m args below meth c s₁ B hml hv
  obtain ⟨rfl, ⟨hsz, hP, hK, hD0⟩, hN⟩ := hv
  have hx := B.exec
  have hb := B.bytes
  have hr := B.returns
  have hts := atoms_spec (ws := wz yX12_look cX12_look 1 (some .int)) B.pre
  have ht : ∀ w ∈ lw_gd, w.before _ s₀ = true := fun w h => hts w (List.mem_cons_of_mem _ h)
  have hown : s₀.vm.findClass RX12 = some m.cls := findClass_of_methodNamed B.named
  have hlocks := B.notSynchronized
  subst hsz
  have hD := hD0.self (sz := s₀.heap.size)
  generalize hAe : va_A (RW D a s) s₀.heap.size = A at hD ⊢
  have hA : ∀ q : Nat, s₀.heap.size ≤ q → A q := fun q h => by rw [← hAe]; exact Or.inr h
  have hS : va_S A s₀.heap s₀.heap [] := va_S.rf
  have hDD : ∀ t : MS, va_D A (RW D a t) := fun t => RW_D t hD
  have hl := lv_entry ([.ref (a 200)]) (n := 1) (Nat.le_of_ble_eq_true rfl)
  rw [lg_entry_eq]
  generalize (lg_sl ([.ref (a 200)]) ++ List.replicate (1 - (lg_sl ([.ref (a 200)])).length) Slot.unset).toArray = ls at hl ⊢
  have hl : lv_has ls 1 [(0, .ref (a 200))] := hl
  unfold m_x12_look at h
  refine y_head (pcJ := 76) (σ := Int × MS) (fun u H locs ls => va_P D vwCl (RW D a u.2) H ∧ va_S A s₀.heap H locs ∧ lv_has ls 1 [] ∧ m_x12_look_J76 u.1 u.2 = some o) (fun u => [.int (i2 u.1)]) (fun u H locs ls hI => ?_) (fun J76 => ?_)
  · obtain ⟨hP, hS, hl, h⟩ := hI
    obtain ⟨x1, s2⟩ := u
    have hP : va_P D vwCl (RW D a s2) H := hP
    have hl : lv_has ls 1 [] := hl
    have h : m_x12_look_J76 x1 s2 = some o := h
    unfold m_x12_look_J76 at h
    obtain rfl := Option.some.inj h
    exact W.iret (v := (i2 x1)) hx hb hr (fun t ht hW => ⟨⟨_, (), rfl, rfl, by rw [ht]; exact hP, va_K.moved hW.alike hK, hDD _⟩, hS.F ht⟩) hS.2.2 eX12_look_63.2.2.2.2.2.2.2
  refine y_head (pcJ := 52) (σ := MS) (fun u H locs ls => va_P D vwCl (RW D a u) H ∧ va_S A s₀.heap H locs ∧ lv_has ls 1 [(0, .ref (a 200))] ∧ m_x12_look_J52 u = some o) (fun u => []) (fun u H locs ls hI => ?_) (fun J52 => ?_)
  · obtain ⟨hP, hS, hl, h⟩ := hI
    obtain ⟨s3, rfl⟩ : ∃ z, z = u := ⟨u, rfl⟩
    have hP : va_P D vwCl (RW D a s3) H := hP
    have hl : lv_has ls 1 [(0, .ref (a 200))] := hl
    have h : m_x12_look_J52 s3 = some o := h
    unfold m_x12_look_J52 at h
    refine lv_aload_n hx hb eX12_look_45.2.2.2.1 rfl (lv_at hl 0 rfl) ?_
    refine va_get (D := D) (ci := 12) (v := .int (i2 (gI s3 2))) (C := RX12) (T := TX12) (N := 116) hx hb ht inX12 hown hK hP 0 RW_0 rfl 2 (by decide) (ht (.fieldLink RX12 272 "CloneVolumesModel" "at" "I") fl_X12_272) (fun _ h9 => h9) mF_2 eX12_look_45.2.2.2.2.1 ?_
    refine lv_aload_n hx hb eX12_look_45.2.2.2.2.2.1 rfl (lv_at hl 0 rfl) ?_
    refine va_get (D := D) (ci := 12) (v := .int (i2 (gI s3 3))) (C := RX12) (T := TX12) (N := 116) hx hb ht inX12 hown hK hP 0 RW_0 rfl 3 (by decide) (ht (.fieldLink RX12 275 "CloneVolumesModel" "end" "I") fl_X12_275) (fun _ h9 => h9) mF_3 eX12_look_45.2.2.2.2.2.2.1 ?_
    obtain ⟨hr4, h⟩ := rg_e h
    obtain ⟨hr5, h⟩ := rg_e h
    refine lv_icmp_ge (tgt := 75) hx hb eX12_look_45.2.2.2.2.2.2.2 (by decide) (fun c6 => ?_) (fun c6 => ?_)
    · have h := if_t ((i2_le (x := (gI s3 3)) (y := (gI s3 2)) hr5 hr4).mp c6) h
      refine lv_iconst (v := (-1)) hx hb eX12_look_63.2.2.2.2.2.2.1 (by decide) ?_
      exact J76 ((-1), s3) _ _ _ ⟨hP, hS, lv_sub hl [] rfl, h⟩
    · have h := if_f (mt (i2_le (x := (gI s3 3)) (y := (gI s3 2)) hr5 hr4).mpr c6) h
      refine lv_aload_n hx hb eX12_look_63.1 rfl (lv_at hl 0 rfl) ?_
      refine va_get (D := D) (ci := 12) (v := .ref (a 0)) (C := RX12) (T := TX12) (N := 116) hx hb ht inX12 hown hK hP 0 RW_0 rfl 0 (by decide) (ht (.fieldLink RX12 7 "CloneVolumesModel" "tape" "[I") fl_X12_7) (fun _ h9 => h9) mF_0 eX12_look_63.2.1 ?_
      refine lv_aload_n hx hb eX12_look_63.2.2.1 rfl (lv_at hl 0 rfl) ?_
      refine va_get (D := D) (ci := 12) (v := .int (i2 (gI s3 2))) (C := RX12) (T := TX12) (N := 116) hx hb ht inX12 hown hK hP 0 RW_0 rfl 2 (by decide) (ht (.fieldLink RX12 272 "CloneVolumesModel" "at" "I") fl_X12_272) (fun _ h9 => h9) mF_2 eX12_look_63.2.2.2.1 ?_
      obtain ⟨y7, ey7, iy7, h⟩ := rdI_e h
      refine ya_iald (i := (gI s3 2)) hx hb hK hP 1 0 RW_1 rfl (by decide) ey7 iy7 eX12_look_63.2.2.2.2.1 ?_
      refine lv_goto (tgt := 76) hx hb eX12_look_63.2.2.2.2.2.1 (by decide) ?_
      exact J76 (y7, s3) _ _ _ ⟨hP, hS, lv_sub hl [] rfl, h⟩
  refine y_loop (pcJ := 0) (σ := MS) (fun n u H locs ls => va_P D vwCl (RW D a u) H ∧ va_S A s₀.heap H locs ∧ lv_has ls 1 [(0, .ref (a 200))] ∧ m_x12_look_L0 n u = some o) (fun u => []) (fun u H locs ls hI => by obtain ⟨_, _, _, h⟩ := hI; cases h) (fun n0 ih0 u H locs ls hI => ?_) (fun J0 => ?_)
  · obtain ⟨hP, hS, hl, h⟩ := hI
    obtain ⟨s8, rfl⟩ : ∃ z, z = u := ⟨u, rfl⟩
    have hP : va_P D vwCl (RW D a s8) H := hP
    have hl : lv_has ls 1 [(0, .ref (a 200))] := hl
    have h : m_x12_look_b0 (m_x12_look_L0 n0) s8 = some o := h
    unfold m_x12_look_b0 at h
    refine y_head (pcJ := 39) (σ := MS) (fun u H locs ls => va_P D vwCl (RW D a u) H ∧ va_S A s₀.heap H locs ∧ lv_has ls 1 [(0, .ref (a 200))] ∧ m_x12_look_J39 (m_x12_look_L0 n0) u = some o) (fun u => []) (fun u H locs ls hI => ?_) (fun J39 => ?_)
    · obtain ⟨hP, hS, hl, h⟩ := hI
      obtain ⟨s9, rfl⟩ : ∃ z, z = u := ⟨u, rfl⟩
      have hP : va_P D vwCl (RW D a s9) H := hP
      have hl : lv_has ls 1 [(0, .ref (a 200))] := hl
      have h : m_x12_look_J39 (m_x12_look_L0 n0) s9 = some o := h
      unfold m_x12_look_J39 at h
      refine lv_aload_n hx hb eX12_look_30.2.2.2.2.1 rfl (lv_at hl 0 rfl) ?_
      refine lv_dup hx hb eX12_look_30.2.2.2.2.2.1 rfl ?_
      refine va_get (D := D) (ci := 12) (v := .int (i2 (gI s9 2))) (C := RX12) (T := TX12) (N := 116) hx hb ht inX12 hown hK hP 0 RW_0 rfl 2 (by decide) (ht (.fieldLink RX12 272 "CloneVolumesModel" "at" "I") fl_X12_272) (fun _ h9 => h9) mF_2 eX12_look_30.2.2.2.2.2.2.1 ?_
      refine lv_iconst (v := 1) hx hb eX12_look_30.2.2.2.2.2.2.2 (by decide) ?_
      refine lv_iadd hx hb eX12_look_45.1 ?_
      refine z_topi (y := i2 ((gI s9 2) + 1)) (i2_add (gI s9 2) 1) ?_
      refine ya_put (D := D) (ci := 12) (v := .int (i2 ((gI s9 2) + 1))) (ty := .int) (C := RX12) (T := TX12) (N := 116) hx hb ht inX12 tyX12 tyX12_ok nmX12 hown hK hP (hDD _) hS 0 RW_0 rfl 2 (by decide) (ht (.fieldLink RX12 272 "CloneVolumesModel" "at" "I") fl_X12_272) (fun _ h9 => h9) rfl (by decide +kernel) rfl rfl (by rw [mF_len]; decide) eX12_look_45.2.1 (RW_f2 ((gI s9 2) + 1)) (fun H locs hP hS => ?_)
      obtain ⟨s10, hs10, h⟩ := st_e h
      rw [hs10] at hP
      refine lv_goto (tgt := 0) hx hb eX12_look_45.2.2.1 (by decide) ?_
      exact ih0 s10 _ _ _ ⟨hP, hS, lv_sub hl [0] rfl, h⟩
    refine lv_aload_n hx hb eX12_isOwnHere_344.2.1 rfl (lv_at hl 0 rfl) ?_
    refine va_get (D := D) (ci := 12) (v := .int (i2 (gI s8 2))) (C := RX12) (T := TX12) (N := 116) hx hb ht inX12 hown hK hP 0 RW_0 rfl 2 (by decide) (ht (.fieldLink RX12 272 "CloneVolumesModel" "at" "I") fl_X12_272) (fun _ h9 => h9) mF_2 eX12_isOwnHere_344.2.2.1 ?_
    refine lv_aload_n hx hb eX12_isOwnHere_344.2.2.2.1 rfl (lv_at hl 0 rfl) ?_
    refine va_get (D := D) (ci := 12) (v := .int (i2 (gI s8 3))) (C := RX12) (T := TX12) (N := 116) hx hb ht inX12 hown hK hP 0 RW_0 rfl 3 (by decide) (ht (.fieldLink RX12 275 "CloneVolumesModel" "end" "I") fl_X12_275) (fun _ h9 => h9) mF_3 eX12_isOwnHere_344.2.2.2.2.1 ?_
    obtain ⟨hr11, h⟩ := rg_e h
    obtain ⟨hr12, h⟩ := rg_e h
    refine lv_icmp_ge (tgt := 52) hx hb eX12_isOwnHere_344.2.2.2.2.2.1 (by decide) (fun c13 => ?_) (fun c13 => ?_)
    · have h := if_t ((i2_le (x := (gI s8 3)) (y := (gI s8 2)) hr12 hr11).mp c13) h
      exact J52 s8 _ _ _ ⟨hP, hS, lv_sub hl [0] rfl, h⟩
    · have h := if_f (mt (i2_le (x := (gI s8 3)) (y := (gI s8 2)) hr12 hr11).mpr c13) h
      refine lv_aload_n hx hb eX12_isOwnHere_344.2.2.2.2.2.2.1 rfl (lv_at hl 0 rfl) ?_
      refine va_get (D := D) (ci := 12) (v := .ref (a 0)) (C := RX12) (T := TX12) (N := 116) hx hb ht inX12 hown hK hP 0 RW_0 rfl 0 (by decide) (ht (.fieldLink RX12 7 "CloneVolumesModel" "tape" "[I") fl_X12_7) (fun _ h9 => h9) mF_0 eX12_isOwnHere_344.2.2.2.2.2.2.2 ?_
      refine lv_aload_n hx hb eX12_look_15.1 rfl (lv_at hl 0 rfl) ?_
      refine va_get (D := D) (ci := 12) (v := .int (i2 (gI s8 2))) (C := RX12) (T := TX12) (N := 116) hx hb ht inX12 hown hK hP 0 RW_0 rfl 2 (by decide) (ht (.fieldLink RX12 272 "CloneVolumesModel" "at" "I") fl_X12_272) (fun _ h9 => h9) mF_2 eX12_look_15.2.1 ?_
      obtain ⟨y14, ey14, iy14, h⟩ := rdI_e h
      refine ya_iald (i := (gI s8 2)) hx hb hK hP 1 0 RW_1 rfl (by decide) ey14 iy14 eX12_look_15.2.2.1 ?_
      refine lv_bipush (v := 10) hx hb eX12_look_15.2.2.2.1 (by decide) ?_
      obtain ⟨hr15, h⟩ := rg_e h
      refine lv_icmp_eq (tgt := 39) hx hb eX12_look_15.2.2.2.2.1 (by decide) (fun c16 => ?_) (fun c16 => ?_)
      · have h := if_t ((i2_eq (x := y14) (y := 10) hr15 (by decide)).mp c16) h
        exact J39 s8 _ _ _ ⟨hP, hS, lv_sub hl [0] rfl, h⟩
      · have h := if_f (mt (i2_eq (x := y14) (y := 10) hr15 (by decide)).mpr c16) h
        refine lv_aload_n hx hb eX12_look_15.2.2.2.2.2.1 rfl (lv_at hl 0 rfl) ?_
        refine va_get (D := D) (ci := 12) (v := .ref (a 0)) (C := RX12) (T := TX12) (N := 116) hx hb ht inX12 hown hK hP 0 RW_0 rfl 0 (by decide) (ht (.fieldLink RX12 7 "CloneVolumesModel" "tape" "[I") fl_X12_7) (fun _ h9 => h9) mF_0 eX12_look_15.2.2.2.2.2.2.1 ?_
        refine lv_aload_n hx hb eX12_look_15.2.2.2.2.2.2.2 rfl (lv_at hl 0 rfl) ?_
        refine va_get (D := D) (ci := 12) (v := .int (i2 (gI s8 2))) (C := RX12) (T := TX12) (N := 116) hx hb ht inX12 hown hK hP 0 RW_0 rfl 2 (by decide) (ht (.fieldLink RX12 272 "CloneVolumesModel" "at" "I") fl_X12_272) (fun _ h9 => h9) mF_2 eX12_look_30.1 ?_
        obtain ⟨y17, ey17, iy17, h⟩ := rdI_e h
        refine ya_iald (i := (gI s8 2)) hx hb hK hP 1 0 RW_1 rfl (by decide) ey17 iy17 eX12_look_30.2.1 ?_
        refine lv_bipush (v := 32) hx hb eX12_look_30.2.2.1 (by decide) ?_
        obtain ⟨hr18, h⟩ := rg_e h
        refine lv_icmp_ne (tgt := 52) hx hb eX12_look_30.2.2.2.1 (by decide) (fun c19 => ?_) (fun c19 => ?_)
        · have h := if_f (mt (i2_eq (x := y17) (y := 32) hr18 (by decide)).mpr c19) h
          exact J52 s8 _ _ _ ⟨hP, hS, lv_sub hl [0] rfl, h⟩
        · have h := if_t ((i2_eq (x := y17) (y := 32) hr18 (by decide)).mp c19) h
          exact J39 s8 _ _ _ ⟨hP, hS, lv_sub hl [0] rfl, h⟩
  exact J0 FU s _ _ _ ⟨hP, hS, lv_sub hl [0] rfl, h⟩
set_option maxHeartbeats 4000000 in
set_option maxRecDepth 100000 in
theorem k_x12_isHere (l : Launch) (D : va_G) (a : Nat → Nat) (wq aw wid wn : Nat) (hw : ∀ s : MS, (RW D a s)[wq]? = some (aw, .inl (D.1 14, wn, .inl (fun j => i2 (gA s wid j))))) (hwn : (wn : Int) ≤ 2147483647) (sz : Nat) (s : MS) (o : (Int × MS)) (h : m_x12_isHere wid wn s = some o) : yWi l yX12_isHere cX12_isHere 4 (some .boolean) { frames := 1, cells := 0, slots := 0, locals := 60 } D sz [.ref (a 200), .ref aw] (RW D a s) (RW D a o.2) (i2 o.1) := by
  refine Met.ofW (cc := cX12_isHere) (maxL := 4) (ret := (some .boolean)) (by decide) rfl ?_
  intro p e s₀ m args below meth c s₁ B hml hv
  obtain ⟨rfl, ⟨hsz, hP, hK, hD0⟩, hN⟩ := hv
  have hx := B.exec
  have hb := B.bytes
  have hr := B.returns
  have hts := atoms_spec (ws := wz yX12_isHere cX12_isHere 4 (some .boolean)) B.pre
  have ht : ∀ w ∈ lw_gd, w.before _ s₀ = true := fun w h => hts w (List.mem_cons_of_mem _ h)
  have hown : s₀.vm.findClass RX12 = some m.cls := findClass_of_methodNamed B.named
  have hlocks := B.notSynchronized
  subst hsz
  have hD := hD0.self (sz := s₀.heap.size)
  generalize hAe : va_A (RW D a s) s₀.heap.size = A at hD ⊢
  have hA : ∀ q : Nat, s₀.heap.size ≤ q → A q := fun q h => by rw [← hAe]; exact Or.inr h
  have hS : va_S A s₀.heap s₀.heap [] := va_S.rf
  have hDD : ∀ t : MS, va_D A (RW D a t) := fun t => RW_D t hD
  have hl := lv_entry ([.ref (a 200), .ref aw]) (n := 4) (Nat.le_of_ble_eq_true rfl)
  rw [lg_entry_eq]
  generalize (lg_sl ([.ref (a 200), .ref aw]) ++ List.replicate (4 - (lg_sl ([.ref (a 200), .ref aw])).length) Slot.unset).toArray = ls at hl ⊢
  have hl : lv_has ls 4 [(0, .ref (a 200)), (1, .ref aw)] := hl
  unfold m_x12_isHere at h
  refine y_loop (pcJ := 76) (σ := Int × MS) (fun n u H locs ls => va_P D vwCl (RW D a u.2) H ∧ va_S A s₀.heap H locs ∧ lv_has ls 4 [(0, .ref (a 200)), (1, .ref aw), (3, .int (i2 u.1))] ∧ m_x12_isHere_L76 wid wn n u.1 u.2 = some o) (fun u => []) (fun u H locs ls hI => by obtain ⟨_, _, _, h⟩ := hI; cases h) (fun n76 ih76 u H locs ls hI => ?_) (fun J76 => ?_)
  · obtain ⟨hP, hS, hl, h⟩ := hI
    obtain ⟨x1, s2⟩ := u
    have hP : va_P D vwCl (RW D a s2) H := hP
    have hl : lv_has ls 4 [(0, .ref (a 200)), (1, .ref aw), (3, .int (i2 x1))] := hl
    have h : m_x12_isHere_b76 wid wn (m_x12_isHere_L76 wid wn n76) x1 s2 = some o := h
    unfold m_x12_isHere_b76 at h
    refine lv_iload_n hx hb eX12_isHere_75.2.1 rfl (lv_at hl 2 rfl) ?_
    refine lv_aload_n hx hb eX12_isHere_75.2.2.1 rfl (lv_at hl 1 rfl) ?_
    refine va_alen (v := i2 (wn : Int)) hx hb hK hP wq 1 (hw _) (ty := .char) rfl (nI_i2 wn) eX12_isHere_75.2.2.2.1 ?_
    obtain ⟨hr3, h⟩ := rg_e h
    obtain ⟨hr4, h⟩ := rg_e h
    refine lv_icmp_ge (tgt := 107) hx hb eX12_isHere_75.2.2.2.2.1 (by decide) (fun c5 => ?_) (fun c5 => ?_)
    · have h := if_t ((i2_le (x := (wn : Int)) (y := x1) hr4 hr3).mp c5) h
      refine lv_iconst (v := 1) hx hb eX12_isHere_99.2.2.2.2.1 (by decide) ?_
      obtain rfl := Option.some.inj h
      exact W.zret (v := 1) hx hb hr (by decide) (fun t ht hW => ⟨⟨_, (), rfl, rfl, by rw [ht]; exact hP, va_K.moved hW.alike hK, hDD _⟩, hS.F ht⟩) hS.2.2 eX12_isHere_99.2.2.2.2.2.1
    · have h := if_f (mt (i2_le (x := (wn : Int)) (y := x1) hr4 hr3).mpr c5) h
      refine lv_aload_n hx hb eX12_isHere_75.2.2.2.2.2.1 rfl (lv_at hl 0 rfl) ?_
      refine va_get (D := D) (ci := 12) (v := .ref (a 0)) (C := RX12) (T := TX12) (N := 116) hx hb ht inX12 hown hK hP 0 RW_0 rfl 0 (by decide) (ht (.fieldLink RX12 7 "CloneVolumesModel" "tape" "[I") fl_X12_7) (fun _ h9 => h9) mF_0 eX12_isHere_75.2.2.2.2.2.2.1 ?_
      refine lv_aload_n hx hb eX12_isHere_75.2.2.2.2.2.2.2 rfl (lv_at hl 0 rfl) ?_
      refine va_get (D := D) (ci := 12) (v := .int (i2 (gI s2 2))) (C := RX12) (T := TX12) (N := 116) hx hb ht inX12 hown hK hP 0 RW_0 rfl 2 (by decide) (ht (.fieldLink RX12 272 "CloneVolumesModel" "at" "I") fl_X12_272) (fun _ h9 => h9) mF_2 eX12_isHere_87.1 ?_
      refine lv_iload_n hx hb eX12_isHere_87.2.1 rfl (lv_at hl 2 rfl) ?_
      refine lv_iadd hx hb eX12_isHere_87.2.2.1 ?_
      refine z_topi (y := i2 ((gI s2 2) + x1)) (i2_add (gI s2 2) x1) ?_
      obtain ⟨y6, ey6, iy6, h⟩ := rdI_e h
      refine ya_iald (i := ((gI s2 2) + x1)) hx hb hK hP 1 0 RW_1 rfl (by decide) ey6 iy6 eX12_isHere_87.2.2.2.1 ?_
      refine lv_aload_n hx hb eX12_isHere_87.2.2.2.2.1 rfl (lv_at hl 1 rfl) ?_
      refine lv_iload_n hx hb eX12_isHere_87.2.2.2.2.2.1 rfl (lv_at hl 2 rfl) ?_
      obtain ⟨y7, ey7, iy7, h⟩ := rdI_e h
      refine ya_cald (i := x1) hx hb hK hP wq 1 (hw _) rfl hwn ey7 iy7 eX12_isHere_87.2.2.2.2.2.2.1 ?_
      obtain ⟨hr8, h⟩ := rg_e h
      obtain ⟨hr9, h⟩ := rg_e h
      refine lv_icmp_eq (tgt := 101) hx hb eX12_isHere_87.2.2.2.2.2.2.2 (by decide) (fun c10 => ?_) (fun c10 => ?_)
      · have h := if_t ((i2_eq (x := y6) (y := y7) hr8 hr9).mp c10) h
        refine lv_iinc (v := i2 (x1 + 1)) (lv' := [(3, .int (i2 (x1 + 1))), (0, .ref (a 200)), (1, .ref aw)]) hx hb eX12_isHere_99.2.2.1 hl (k := 2) rfl (i2_add x1 1) (by decide) rfl (fun ls hl => ?_)
        refine lv_goto (tgt := 76) hx hb eX12_isHere_99.2.2.2.1 (by decide) ?_
        exact ih76 (x1 + 1, s2) _ _ _ ⟨hP, hS, lv_sub hl [1, 2, 0] rfl, h⟩
      · have h := if_f (mt (i2_eq (x := y6) (y := y7) hr8 hr9).mpr c10) h
        refine lv_iconst (v := 0) hx hb eX12_isHere_99.1 (by decide) ?_
        obtain rfl := Option.some.inj h
        exact W.zret (v := 0) hx hb hr (by decide) (fun t ht hW => ⟨⟨_, (), rfl, rfl, by rw [ht]; exact hP, va_K.moved hW.alike hK, hDD _⟩, hS.F ht⟩) hS.2.2 eX12_isHere_99.2.1
  refine y_head (pcJ := 61) (σ := Int × MS) (fun u H locs ls => va_P D vwCl (RW D a u.2) H ∧ va_S A s₀.heap H locs ∧ lv_has ls 4 [(0, .ref (a 200)), (1, .ref aw), (2, .int (i2 u.1))] ∧ m_x12_isHere_J61 wid wn u.1 u.2 = some o) (fun u => []) (fun u H locs ls hI => ?_) (fun J61 => ?_)
  · obtain ⟨hP, hS, hl, h⟩ := hI
    obtain ⟨x11, s12⟩ := u
    have hP : va_P D vwCl (RW D a s12) H := hP
    have hl : lv_has ls 4 [(0, .ref (a 200)), (1, .ref aw), (2, .int (i2 x11))] := hl
    have h : m_x12_isHere_J61 wid wn x11 s12 = some o := h
    unfold m_x12_isHere_J61 at h
    refine lv_iload_n hx hb eX12_isHere_47.2.2.2.2.2.2.1 rfl (lv_at hl 2 rfl) ?_
    refine lv_aload_n hx hb eX12_isHere_47.2.2.2.2.2.2.2 rfl (lv_at hl 0 rfl) ?_
    refine va_get (D := D) (ci := 12) (v := .int (i2 (gI s12 2))) (C := RX12) (T := TX12) (N := 116) hx hb ht inX12 hown hK hP 0 RW_0 rfl 2 (by decide) (ht (.fieldLink RX12 272 "CloneVolumesModel" "at" "I") fl_X12_272) (fun _ h9 => h9) mF_2 eX12_isHere_63.1 ?_
    refine lv_isub hx hb eX12_isHere_63.2.1 ?_
    refine z_topi (y := i2 (x11 - (gI s12 2))) (i2_sub x11 (gI s12 2)) ?_
    refine lv_aload_n hx hb eX12_isHere_63.2.2.1 rfl (lv_at hl 1 rfl) ?_
    refine va_alen (v := i2 (wn : Int)) hx hb hK hP wq 1 (hw _) (ty := .char) rfl (nI_i2 wn) eX12_isHere_63.2.2.2.1 ?_
    obtain ⟨hr13, h⟩ := rg_e h
    obtain ⟨hr14, h⟩ := rg_e h
    refine lv_icmp_eq (tgt := 74) hx hb eX12_isHere_63.2.2.2.2.1 (by decide) (fun c15 => ?_) (fun c15 => ?_)
    · have h := if_t ((i2_eq (x := (x11 - (gI s12 2))) (y := (wn : Int)) hr13 hr14).mp c15) h
      refine lv_iconst (v := 0) hx hb eX12_isHere_63.2.2.2.2.2.2.2 (by decide) ?_
      refine lv_istore_n (lv' := [(3, .int 0), (0, .ref (a 200)), (1, .ref aw), (2, .int (i2 x11))]) hx hb eX12_isHere_75.1 rfl hl (by decide) rfl (fun ls hl => ?_)
      exact J76 FU (0, s12) _ _ _ ⟨hP, hS, lv_sub hl [1, 2, 0] rfl, h⟩
    · have h := if_f (mt (i2_eq (x := (x11 - (gI s12 2))) (y := (wn : Int)) hr13 hr14).mpr c15) h
      refine lv_iconst (v := 0) hx hb eX12_isHere_63.2.2.2.2.2.1 (by decide) ?_
      obtain rfl := Option.some.inj h
      exact W.zret (v := 0) hx hb hr (by decide) (fun t ht hW => ⟨⟨_, (), rfl, rfl, by rw [ht]; exact hP, va_K.moved hW.alike hK, hDD _⟩, hS.F ht⟩) hS.2.2 eX12_isHere_63.2.2.2.2.2.2.1
  refine y_loop (pcJ := 35) (σ := Int × MS) (fun n u H locs ls => va_P D vwCl (RW D a u.2) H ∧ va_S A s₀.heap H locs ∧ lv_has ls 4 [(0, .ref (a 200)), (1, .ref aw), (2, .int (i2 u.1))] ∧ m_x12_isHere_L35 wid wn n u.1 u.2 = some o) (fun u => []) (fun u H locs ls hI => by obtain ⟨_, _, _, h⟩ := hI; cases h) (fun n35 ih35 u H locs ls hI => ?_) (fun J35 => ?_)
  · obtain ⟨hP, hS, hl, h⟩ := hI
    obtain ⟨x16, s17⟩ := u
    have hP : va_P D vwCl (RW D a s17) H := hP
    have hl : lv_has ls 4 [(0, .ref (a 200)), (1, .ref aw), (2, .int (i2 x16))] := hl
    have h : m_x12_isHere_b35 wid wn (m_x12_isHere_L35 wid wn n35) x16 s17 = some o := h
    unfold m_x12_isHere_b35 at h
    refine lv_iload_n hx hb eX12_isHere_31.2.2.1 rfl (lv_at hl 2 rfl) ?_
    refine lv_aload_n hx hb eX12_isHere_31.2.2.2.1 rfl (lv_at hl 0 rfl) ?_
    refine va_get (D := D) (ci := 12) (v := .int (i2 (gI s17 3))) (C := RX12) (T := TX12) (N := 116) hx hb ht inX12 hown hK hP 0 RW_0 rfl 3 (by decide) (ht (.fieldLink RX12 275 "CloneVolumesModel" "end" "I") fl_X12_275) (fun _ h9 => h9) mF_3 eX12_isHere_31.2.2.2.2.1 ?_
    obtain ⟨hr18, h⟩ := rg_e h
    obtain ⟨hr19, h⟩ := rg_e h
    refine lv_icmp_ge (tgt := 61) hx hb eX12_isHere_31.2.2.2.2.2.1 (by decide) (fun c20 => ?_) (fun c20 => ?_)
    · have h := if_t ((i2_le (x := (gI s17 3)) (y := x16) hr19 hr18).mp c20) h
      exact J61 (x16, s17) _ _ _ ⟨hP, hS, lv_sub hl [0, 1, 2] rfl, h⟩
    · have h := if_f (mt (i2_le (x := (gI s17 3)) (y := x16) hr19 hr18).mpr c20) h
      refine lv_aload_n hx hb eX12_isHere_31.2.2.2.2.2.2.1 rfl (lv_at hl 0 rfl) ?_
      refine va_get (D := D) (ci := 12) (v := .ref (a 0)) (C := RX12) (T := TX12) (N := 116) hx hb ht inX12 hown hK hP 0 RW_0 rfl 0 (by decide) (ht (.fieldLink RX12 7 "CloneVolumesModel" "tape" "[I") fl_X12_7) (fun _ h9 => h9) mF_0 eX12_isHere_31.2.2.2.2.2.2.2 ?_
      refine lv_iload_n hx hb eX12_isHere_47.1 rfl (lv_at hl 2 rfl) ?_
      obtain ⟨y21, ey21, iy21, h⟩ := rdI_e h
      refine ya_iald (i := x16) hx hb hK hP 1 0 RW_1 rfl (by decide) ey21 iy21 eX12_isHere_47.2.1 ?_
      obtain ⟨r23, hc22, h⟩ := bn_e h
      refine ycS (r0 := i2 r23) (As := [.int (i2 y21)]) (rest := []) (n := 1) ⟨hx, hb, hml, hown, ht⟩ (k_x12_isLetter l D a y21 _ _ hc22) (zgT ml_X12_282 st_X12_isLetter in_X12 co_X12_isLetter) rfl rfl (by decide +kernel) ⟨Nat.le_of_ble_eq_true rfl, Nat.le_of_ble_eq_true rfl⟩ hN hK hP hS rfl hl.1 rfl (Nat.le_of_ble_eq_true rfl) eX12_isHere_47.2.2.1 ⟨Nat.le_of_ble_eq_true rfl, Nat.le_of_ble_eq_true rfl⟩ (fun H locs hP hS => ?_)
      obtain ⟨hr24, h⟩ := rg_e h
      refine lv_if_eq (tgt := 61) hx hb eX12_isHere_47.2.2.2.1 (by decide) (fun c25 => ?_) (fun c25 => ?_)
      · have h := if_t ((i2_eq (x := r23) (y := 0) hr24 (by decide)).mp c25) h
        exact J61 (x16, s17) _ _ _ ⟨hP, hS, lv_sub hl [0, 1, 2] rfl, h⟩
      · have h := if_f (mt (i2_eq (x := r23) (y := 0) hr24 (by decide)).mpr c25) h
        refine lv_iinc (v := i2 (x16 + 1)) (lv' := [(2, .int (i2 (x16 + 1))), (0, .ref (a 200)), (1, .ref aw)]) hx hb eX12_isHere_47.2.2.2.2.1 hl (k := 2) rfl (i2_add x16 1) (by decide) rfl (fun ls hl => ?_)
        refine lv_goto (tgt := 35) hx hb eX12_isHere_47.2.2.2.2.2.1 (by decide) ?_
        exact ih35 (x16 + 1, s17) _ _ _ ⟨hP, hS, lv_sub hl [1, 2, 0] rfl, h⟩
  refine y_head (pcJ := 28) (σ := MS) (fun u H locs ls => va_P D vwCl (RW D a u) H ∧ va_S A s₀.heap H locs ∧ lv_has ls 4 [] ∧ m_x12_isHere_J28 wid wn u = some o) (fun u => []) (fun u H locs ls hI => ?_) (fun J28 => ?_)
  · obtain ⟨hP, hS, hl, h⟩ := hI
    obtain ⟨s26, rfl⟩ : ∃ z, z = u := ⟨u, rfl⟩
    have hP : va_P D vwCl (RW D a s26) H := hP
    have hl : lv_has ls 4 [] := hl
    have h : m_x12_isHere_J28 wid wn s26 = some o := h
    unfold m_x12_isHere_J28 at h
    refine lv_iconst (v := 0) hx hb eX12_isHere_17.2.2.2.2.2.1 (by decide) ?_
    obtain rfl := Option.some.inj h
    exact W.zret (v := 0) hx hb hr (by decide) (fun t ht hW => ⟨⟨_, (), rfl, rfl, by rw [ht]; exact hP, va_K.moved hW.alike hK, hDD _⟩, hS.F ht⟩) hS.2.2 eX12_isHere_17.2.2.2.2.2.2.1
  refine lv_aload_n hx hb eX12_isDigit_17.2.1 rfl (lv_at hl 0 rfl) ?_
  refine va_get (D := D) (ci := 12) (v := .int (i2 (gI s 5))) (C := RX12) (T := TX12) (N := 116) hx hb ht inX12 hown hK hP 0 RW_0 rfl 5 (by decide) (ht (.fieldLink RX12 266 "CloneVolumesModel" "bad" "I") fl_X12_266) (fun _ h9 => h9) mF_5 eX12_isDigit_17.2.2.1 ?_
  obtain ⟨hr27, h⟩ := rg_e h
  refine lv_if_ne (tgt := 28) hx hb eX12_isDigit_17.2.2.2.1 (by decide) (fun c28 => ?_) (fun c28 => ?_)
  · have h := if_f (mt (i2_eq (x := (gI s 5)) (y := 0) hr27 (by decide)).mpr c28) h
    exact J28 s _ _ _ ⟨hP, hS, lv_sub hl [] rfl, h⟩
  · have h := if_t ((i2_eq (x := (gI s 5)) (y := 0) hr27 (by decide)).mp c28) h
    refine lv_aload_n hx hb eX12_isDigit_17.2.2.2.2.1 rfl (lv_at hl 0 rfl) ?_
    obtain ⟨⟨r31, s30⟩, hc29, h⟩ := bn_e h
    refine ywV (r0 := i2 r31) (As := []) (rest := []) (C := RX12) (n := 0) (ws' := RW D a s30) ⟨hx, hb, hml, hown, ht⟩ (k_x12_look l D a _ _ _ hc29) (zgV ml_X12_278 im_X12_look se_X12_look in_X12 co_X12_look) rfl rfl (by decide +kernel) ⟨Nat.le_of_ble_eq_true rfl, Nat.le_of_ble_eq_true rfl⟩ hN hK hP (hDD _) hS hA 0 RW_0 rfl rfl rfl hl.1 rfl (Nat.le_of_ble_eq_true rfl) eX12_isDigit_17.2.2.2.2.2.1 ⟨Nat.le_of_ble_eq_true rfl, Nat.le_of_ble_eq_true rfl⟩ (fun H locs hP hS => ?_)
    obtain ⟨r33, hc32, h⟩ := bn_e h
    refine ycS (r0 := i2 r33) (As := [.int (i2 r31)]) (rest := []) (n := 1) ⟨hx, hb, hml, hown, ht⟩ (k_x12_isLetter l D a r31 _ _ hc32) (zgT ml_X12_282 st_X12_isLetter in_X12 co_X12_isLetter) rfl rfl (by decide +kernel) ⟨Nat.le_of_ble_eq_true rfl, Nat.le_of_ble_eq_true rfl⟩ hN hK hP hS rfl hl.1 rfl (Nat.le_of_ble_eq_true rfl) eX12_isDigit_17.2.2.2.2.2.2.1 ⟨Nat.le_of_ble_eq_true rfl, Nat.le_of_ble_eq_true rfl⟩ (fun H locs hP hS => ?_)
    obtain ⟨hr34, h⟩ := rg_e h
    refine lv_if_eq (tgt := 28) hx hb eX12_isDigit_17.2.2.2.2.2.2.2 (by decide) (fun c35 => ?_) (fun c35 => ?_)
    · have h := if_t ((i2_eq (x := r33) (y := 0) hr34 (by decide)).mp c35) h
      exact J28 s30 _ _ _ ⟨hP, hS, lv_sub hl [] rfl, h⟩
    · have h := if_f (mt (i2_eq (x := r33) (y := 0) hr34 (by decide)).mpr c35) h
      refine lv_aload_n hx hb eX12_isHere_17.1 rfl (lv_at hl 0 rfl) ?_
      refine va_get (D := D) (ci := 12) (v := .int (i2 (gI s30 2))) (C := RX12) (T := TX12) (N := 116) hx hb ht inX12 hown hK hP 0 RW_0 rfl 2 (by decide) (ht (.fieldLink RX12 272 "CloneVolumesModel" "at" "I") fl_X12_272) (fun _ h9 => h9) mF_2 eX12_isHere_17.2.1 ?_
      refine lv_aload_n hx hb eX12_isHere_17.2.2.1 rfl (lv_at hl 0 rfl) ?_
      refine va_get (D := D) (ci := 12) (v := .int (i2 (gI s30 4))) (C := RX12) (T := TX12) (N := 116) hx hb ht inX12 hown hK hP 0 RW_0 rfl 4 (by decide) (ht (.fieldLink RX12 286 "CloneVolumesModel" "ended" "I") fl_X12_286) (fun _ h9 => h9) mF_4 eX12_isHere_17.2.2.2.1 ?_
      obtain ⟨hr36, h⟩ := rg_e h
      obtain ⟨hr37, h⟩ := rg_e h
      refine lv_icmp_ne (tgt := 30) hx hb eX12_isHere_17.2.2.2.2.1 (by decide) (fun c38 => ?_) (fun c38 => ?_)
      · have h := if_f (mt (i2_eq (x := (gI s30 2)) (y := (gI s30 4)) hr36 hr37).mpr c38) h
        refine lv_aload_n hx hb eX12_isHere_17.2.2.2.2.2.2.2 rfl (lv_at hl 0 rfl) ?_
        refine va_get (D := D) (ci := 12) (v := .int (i2 (gI s30 2))) (C := RX12) (T := TX12) (N := 116) hx hb ht inX12 hown hK hP 0 RW_0 rfl 2 (by decide) (ht (.fieldLink RX12 272 "CloneVolumesModel" "at" "I") fl_X12_272) (fun _ h9 => h9) mF_2 eX12_isHere_31.1 ?_
        refine lv_istore_n (lv' := [(2, .int (i2 (gI s30 2))), (0, .ref (a 200)), (1, .ref aw)]) hx hb eX12_isHere_31.2.1 rfl hl (by decide) rfl (fun ls hl => ?_)
        exact J35 FU (gI s30 2, s30) _ _ _ ⟨hP, hS, lv_sub hl [1, 2, 0] rfl, h⟩
      · have h := if_t ((i2_eq (x := (gI s30 2)) (y := (gI s30 4)) hr36 hr37).mp c38) h
        exact J28 s30 _ _ _ ⟨hP, hS, lv_sub hl [] rfl, h⟩
set_option maxHeartbeats 4000000 in
set_option maxRecDepth 100000 in
theorem k_x12_takes (l : Launch) (D : va_G) (a : Nat → Nat) (wq aw wid wn : Nat) (hw : ∀ s : MS, (RW D a s)[wq]? = some (aw, .inl (D.1 14, wn, .inl (fun j => i2 (gA s wid j))))) (hwn : (wn : Int) ≤ 2147483647) (sz : Nat) (s : MS) (o : (Int × MS)) (h : m_x12_takes wid wn s = some o) : yWi l yX12_takes cX12_takes 2 (some .boolean) { frames := 2, cells := 0, slots := 0, locals := 120 } D sz [.ref (a 200), .ref aw] (RW D a s) (RW D a o.2) (i2 o.1) := by
  refine Met.ofW (cc := cX12_takes) (maxL := 2) (ret := (some .boolean)) (by decide) rfl ?_
  intro p e s₀ m args below meth c s₁ B hml hv
  obtain ⟨rfl, ⟨hsz, hP, hK, hD0⟩, hN⟩ := hv
  have hx := B.exec
  have hb := B.bytes
  have hr := B.returns
  have hts := atoms_spec (ws := wz yX12_takes cX12_takes 2 (some .boolean)) B.pre
  have ht : ∀ w ∈ lw_gd, w.before _ s₀ = true := fun w h => hts w (List.mem_cons_of_mem _ h)
  have hown : s₀.vm.findClass RX12 = some m.cls := findClass_of_methodNamed B.named
  have hlocks := B.notSynchronized
  subst hsz
  have hD := hD0.self (sz := s₀.heap.size)
  generalize hAe : va_A (RW D a s) s₀.heap.size = A at hD ⊢
  have hA : ∀ q : Nat, s₀.heap.size ≤ q → A q := fun q h => by rw [← hAe]; exact Or.inr h
  have hS : va_S A s₀.heap s₀.heap [] := va_S.rf
  have hDD : ∀ t : MS, va_D A (RW D a t) := fun t => RW_D t hD
  have hl := lv_entry ([.ref (a 200), .ref aw]) (n := 2) (Nat.le_of_ble_eq_true rfl)
  rw [lg_entry_eq]
  generalize (lg_sl ([.ref (a 200), .ref aw]) ++ List.replicate (2 - (lg_sl ([.ref (a 200), .ref aw])).length) Slot.unset).toArray = ls at hl ⊢
  have hl : lv_has ls 2 [(0, .ref (a 200)), (1, .ref aw)] := hl
  unfold m_x12_takes at h
  refine lv_aload_n hx hb eX12_number_158.2.2.2.2.1 rfl (lv_at hl 0 rfl) ?_
  refine lv_aload_n hx hb eX12_number_158.2.2.2.2.2.1 rfl (lv_at hl 1 rfl) ?_
  obtain ⟨⟨r3, s2⟩, hc1, h⟩ := bn_e h
  refine ywV (r0 := i2 r3) (As := [.ref aw]) (rest := []) (C := RX12) (n := 1) (ws' := RW D a s2) ⟨hx, hb, hml, hown, ht⟩ (k_x12_isHere l D a wq aw wid wn hw hwn _ _ _ hc1) (zgV ml_X12_289 im_X12_isHere se_X12_isHere in_X12 co_X12_isHere) rfl rfl (by decide +kernel) ⟨Nat.le_of_ble_eq_true rfl, Nat.le_of_ble_eq_true rfl⟩ hN hK hP (hDD _) hS hA 0 RW_0 rfl rfl rfl hl.1 rfl (Nat.le_of_ble_eq_true rfl) eX12_number_158.2.2.2.2.2.2.1 ⟨Nat.le_of_ble_eq_true rfl, Nat.le_of_ble_eq_true rfl⟩ (fun H locs hP hS => ?_)
  obtain ⟨hr4, h⟩ := rg_e h
  refine lv_if_ne (tgt := 10) hx hb eX12_number_158.2.2.2.2.2.2.2 (by decide) (fun c5 => ?_) (fun c5 => ?_)
  · have h := if_f (mt (i2_eq (x := r3) (y := 0) hr4 (by decide)).mpr c5) h
    refine lv_aload_n hx hb eX12_takes_8.2.2.1 rfl (lv_at hl 0 rfl) ?_
    refine lv_dup hx hb eX12_takes_8.2.2.2.1 rfl ?_
    refine va_get (D := D) (ci := 12) (v := .int (i2 (gI s2 2))) (C := RX12) (T := TX12) (N := 116) hx hb ht inX12 hown hK hP 0 RW_0 rfl 2 (by decide) (ht (.fieldLink RX12 272 "CloneVolumesModel" "at" "I") fl_X12_272) (fun _ h9 => h9) mF_2 eX12_takes_8.2.2.2.2.1 ?_
    refine lv_aload_n hx hb eX12_takes_8.2.2.2.2.2.1 rfl (lv_at hl 1 rfl) ?_
    refine va_alen (v := i2 (wn : Int)) hx hb hK hP wq 1 (hw _) (ty := .char) rfl (nI_i2 wn) eX12_takes_8.2.2.2.2.2.2.1 ?_
    refine lv_iadd hx hb eX12_takes_8.2.2.2.2.2.2.2 ?_
    refine z_topi (y := i2 ((gI s2 2) + (wn : Int))) (i2_add (gI s2 2) (wn : Int)) ?_
    refine ya_put (D := D) (ci := 12) (v := .int (i2 ((gI s2 2) + (wn : Int)))) (ty := .int) (C := RX12) (T := TX12) (N := 116) hx hb ht inX12 tyX12 tyX12_ok nmX12 hown hK hP (hDD _) hS 0 RW_0 rfl 2 (by decide) (ht (.fieldLink RX12 272 "CloneVolumesModel" "at" "I") fl_X12_272) (fun _ h9 => h9) rfl (by decide +kernel) rfl rfl (by rw [mF_len]; decide) eX12_takes_18.1 (RW_f2 ((gI s2 2) + (wn : Int))) (fun H locs hP hS => ?_)
    obtain ⟨s6, hs6, h⟩ := st_e h
    rw [hs6] at hP
    refine lv_aload_n hx hb eX12_takes_18.2.1 rfl (lv_at hl 0 rfl) ?_
    refine lv_aload_n hx hb eX12_takes_18.2.2.1 rfl (lv_at hl 0 rfl) ?_
    refine va_get (D := D) (ci := 12) (v := .int (i2 (gI s6 2))) (C := RX12) (T := TX12) (N := 116) hx hb ht inX12 hown hK hP 0 RW_0 rfl 2 (by decide) (ht (.fieldLink RX12 272 "CloneVolumesModel" "at" "I") fl_X12_272) (fun _ h9 => h9) mF_2 eX12_takes_18.2.2.2.1 ?_
    refine ya_put (D := D) (ci := 12) (v := .int (i2 (gI s6 2))) (ty := .int) (C := RX12) (T := TX12) (N := 116) hx hb ht inX12 tyX12 tyX12_ok nmX12 hown hK hP (hDD _) hS 0 RW_0 rfl 4 (by decide) (ht (.fieldLink RX12 286 "CloneVolumesModel" "ended" "I") fl_X12_286) (fun _ h9 => h9) rfl (by decide +kernel) rfl rfl (by rw [mF_len]; decide) eX12_takes_18.2.2.2.2.1 (RW_f4 (gI s6 2)) (fun H locs hP hS => ?_)
    obtain ⟨s7, hs7, h⟩ := st_e h
    rw [hs7] at hP
    refine lv_iconst (v := 1) hx hb eX12_takes_18.2.2.2.2.2.1 (by decide) ?_
    obtain rfl := Option.some.inj h
    exact W.zret (v := 1) hx hb hr (by decide) (fun t ht hW => ⟨⟨_, (), rfl, rfl, by rw [ht]; exact hP, va_K.moved hW.alike hK, hDD _⟩, hS.F ht⟩) hS.2.2 eX12_takes_18.2.2.2.2.2.2.1
  · have h := if_t ((i2_eq (x := r3) (y := 0) hr4 (by decide)).mp c5) h
    refine lv_iconst (v := 0) hx hb eX12_takes_8.1 (by decide) ?_
    obtain rfl := Option.some.inj h
    exact W.zret (v := 0) hx hb hr (by decide) (fun t ht hW => ⟨⟨_, (), rfl, rfl, by rw [ht]; exact hP, va_K.moved hW.alike hK, hDD _⟩, hS.F ht⟩) hS.2.2 eX12_takes_8.2.1
set_option maxHeartbeats 4000000 in
set_option maxRecDepth 100000 in
theorem k_x12_asks (l : Launch) (D : va_G) (a : Nat → Nat) (wq aw wid wn : Nat) (hw : ∀ s : MS, (RW D a s)[wq]? = some (aw, .inl (D.1 14, wn, .inl (fun j => i2 (gA s wid j))))) (hwn : (wn : Int) ≤ 2147483647) (sz : Nat) (s : MS) (o : MS) (h : m_x12_asks wid wn s = some o) : yWv l yX12_asks cX12_asks 2 none { frames := 3, cells := 0, slots := 0, locals := 180 } D sz [.ref (a 200), .ref aw] (RW D a s) (RW D a o) := by
  refine Met.ofW (cc := cX12_asks) (maxL := 2) (ret := none) (by decide) rfl ?_
  intro p e s₀ m args below meth c s₁ B hml hv
  obtain ⟨rfl, ⟨hsz, hP, hK, hD0⟩, hN⟩ := hv
  have hx := B.exec
  have hb := B.bytes
  have hr := B.returns
  have hts := atoms_spec (ws := wz yX12_asks cX12_asks 2 none) B.pre
  have ht : ∀ w ∈ lw_gd, w.before _ s₀ = true := fun w h => hts w (List.mem_cons_of_mem _ h)
  have hown : s₀.vm.findClass RX12 = some m.cls := findClass_of_methodNamed B.named
  have hlocks := B.notSynchronized
  subst hsz
  have hD := hD0.self (sz := s₀.heap.size)
  generalize hAe : va_A (RW D a s) s₀.heap.size = A at hD ⊢
  have hA : ∀ q : Nat, s₀.heap.size ≤ q → A q := fun q h => by rw [← hAe]; exact Or.inr h
  have hS : va_S A s₀.heap s₀.heap [] := va_S.rf
  have hDD : ∀ t : MS, va_D A (RW D a t) := fun t => RW_D t hD
  have hl := lv_entry ([.ref (a 200), .ref aw]) (n := 2) (Nat.le_of_ble_eq_true rfl)
  rw [lg_entry_eq]
  generalize (lg_sl ([.ref (a 200), .ref aw]) ++ List.replicate (2 - (lg_sl ([.ref (a 200), .ref aw])).length) Slot.unset).toArray = ls at hl ⊢
  have hl : lv_has ls 2 [(0, .ref (a 200)), (1, .ref aw)] := hl
  unfold m_x12_asks at h
  refine y_head (pcJ := 24) (σ := MS) (fun u H locs ls => va_P D vwCl (RW D a u) H ∧ va_S A s₀.heap H locs ∧ lv_has ls 2 [] ∧ m_x12_asks_J24 wid wn u = some o) (fun u => []) (fun u H locs ls hI => ?_) (fun J24 => ?_)
  · obtain ⟨hP, hS, hl, h⟩ := hI
    obtain ⟨s1, rfl⟩ : ∃ z, z = u := ⟨u, rfl⟩
    have hP : va_P D vwCl (RW D a s1) H := hP
    have hl : lv_has ls 2 [] := hl
    have h : m_x12_asks_J24 wid wn s1 = some o := h
    unfold m_x12_asks_J24 at h
    obtain rfl := Option.some.inj h
    exact W.vret hx hb hr (fun t ht hW => ⟨⟨(), rfl, trivial, by rw [ht]; exact hP, va_K.moved hW.alike hK, hDD _⟩, hS.F ht⟩) hS.2.2 eX12_asks_16.2.2.2.2.1
  refine lv_aload_n hx hb eX12_asks_0.1 rfl (lv_at hl 0 rfl) ?_
  refine va_get (D := D) (ci := 12) (v := .int (i2 (gI s 5))) (C := RX12) (T := TX12) (N := 116) hx hb ht inX12 hown hK hP 0 RW_0 rfl 5 (by decide) (ht (.fieldLink RX12 266 "CloneVolumesModel" "bad" "I") fl_X12_266) (fun _ h9 => h9) mF_5 eX12_asks_0.2.1 ?_
  obtain ⟨hr2, h⟩ := rg_e h
  refine lv_if_ne (tgt := 24) hx hb eX12_asks_0.2.2.1 (by decide) (fun c3 => ?_) (fun c3 => ?_)
  · have h := if_f (mt (i2_eq (x := (gI s 5)) (y := 0) hr2 (by decide)).mpr c3) h
    exact J24 s _ _ _ ⟨hP, hS, lv_sub hl [] rfl, h⟩
  · have h := if_t ((i2_eq (x := (gI s 5)) (y := 0) hr2 (by decide)).mp c3) h
    refine lv_aload_n hx hb eX12_asks_0.2.2.2.1 rfl (lv_at hl 0 rfl) ?_
    refine lv_aload_n hx hb eX12_asks_0.2.2.2.2.1 rfl (lv_at hl 1 rfl) ?_
    obtain ⟨⟨r6, s5⟩, hc4, h⟩ := bn_e h
    refine ywV (r0 := i2 r6) (As := [.ref aw]) (rest := []) (C := RX12) (n := 1) (ws' := RW D a s5) ⟨hx, hb, hml, hown, ht⟩ (k_x12_takes l D a wq aw wid wn hw hwn _ _ _ hc4) (zgV ml_X12_293 im_X12_takes se_X12_takes in_X12 co_X12_takes) rfl rfl (by decide +kernel) ⟨Nat.le_of_ble_eq_true rfl, Nat.le_of_ble_eq_true rfl⟩ hN hK hP (hDD _) hS hA 0 RW_0 rfl rfl rfl hl.1 rfl (Nat.le_of_ble_eq_true rfl) eX12_asks_0.2.2.2.2.2.1 ⟨Nat.le_of_ble_eq_true rfl, Nat.le_of_ble_eq_true rfl⟩ (fun H locs hP hS => ?_)
    obtain ⟨hr7, h⟩ := rg_e h
    refine lv_if_ne (tgt := 24) hx hb eX12_asks_0.2.2.2.2.2.2.1 (by decide) (fun c8 => ?_) (fun c8 => ?_)
    · have h := if_f (mt (i2_eq (x := r6) (y := 0) hr7 (by decide)).mpr c8) h
      exact J24 s5 _ _ _ ⟨hP, hS, lv_sub hl [] rfl, h⟩
    · have h := if_t ((i2_eq (x := r6) (y := 0) hr7 (by decide)).mp c8) h
      refine lv_aload_n hx hb eX12_asks_0.2.2.2.2.2.2.2 rfl (lv_at hl 0 rfl) ?_
      refine lv_iconst (v := 1) hx hb eX12_asks_16.1 (by decide) ?_
      refine lv_aload_n hx hb eX12_asks_16.2.1 rfl (lv_at hl 0 rfl) ?_
      refine va_get (D := D) (ci := 12) (v := .int (i2 (gI s5 2))) (C := RX12) (T := TX12) (N := 116) hx hb ht inX12 hown hK hP 0 RW_0 rfl 2 (by decide) (ht (.fieldLink RX12 272 "CloneVolumesModel" "at" "I") fl_X12_272) (fun _ h9 => h9) mF_2 eX12_asks_16.2.2.1 ?_
      obtain ⟨s10, hc9, h⟩ := bn_e h
      refine ywVv (As := [.int 1, .int (i2 (gI s5 2))]) (rest := []) (C := RX12) (n := 2) (ws' := RW D a s10) ⟨hx, hb, hml, hown, ht⟩ (k_x12_fail l D a 1 (gI s5 2) _ _ _ hc9) (zgV ml_X12_296 im_X12_fail se_X12_fail in_X12 co_X12_fail) rfl rfl (by decide +kernel) ⟨Nat.le_of_ble_eq_true rfl, Nat.le_of_ble_eq_true rfl⟩ hN hK hP (hDD _) hS hA 0 RW_0 rfl rfl rfl hl.1 rfl (Nat.le_of_ble_eq_true rfl) eX12_asks_16.2.2.2.1 ⟨Nat.le_of_ble_eq_true rfl, Nat.le_of_ble_eq_true rfl⟩ (fun H locs hP hS => ?_)
      exact J24 s10 _ _ _ ⟨hP, hS, lv_sub hl [] rfl, h⟩
set_option maxHeartbeats 4000000 in
set_option maxRecDepth 100000 in
theorem k_x12_takesSign (l : Launch) (D : va_G) (a : Nat → Nat) (p0 : Int) (sz : Nat) (s : MS) (o : (Int × MS)) (h : m_x12_takesSign p0 s = some o) : yWi l yX12_takesSign cX12_takesSign 2 (some .boolean) { frames := 1, cells := 0, slots := 0, locals := 60 } D sz [.ref (a 200), .int (i2 p0)] (RW D a s) (RW D a o.2) (i2 o.1) := by
  refine Met.ofW (cc := cX12_takesSign) (maxL := 2) (ret := (some .boolean)) (by decide) rfl ?_
  intro p e s₀ m args below meth c s₁ B hml hv
  obtain ⟨rfl, ⟨hsz, hP, hK, hD0⟩, hN⟩ := hv
  have hx := B.exec
  have hb := B.bytes
  have hr := B.returns
  have hts := atoms_spec (ws := wz yX12_takesSign cX12_takesSign 2 (some .boolean)) B.pre
  have ht : ∀ w ∈ lw_gd, w.before _ s₀ = true := fun w h => hts w (List.mem_cons_of_mem _ h)
  have hown : s₀.vm.findClass RX12 = some m.cls := findClass_of_methodNamed B.named
  have hlocks := B.notSynchronized
  subst hsz
  have hD := hD0.self (sz := s₀.heap.size)
  generalize hAe : va_A (RW D a s) s₀.heap.size = A at hD ⊢
  have hA : ∀ q : Nat, s₀.heap.size ≤ q → A q := fun q h => by rw [← hAe]; exact Or.inr h
  have hS : va_S A s₀.heap s₀.heap [] := va_S.rf
  have hDD : ∀ t : MS, va_D A (RW D a t) := fun t => RW_D t hD
  have hl := lv_entry ([.ref (a 200), .int (i2 p0)]) (n := 2) (Nat.le_of_ble_eq_true rfl)
  rw [lg_entry_eq]
  generalize (lg_sl ([.ref (a 200), .int (i2 p0)]) ++ List.replicate (2 - (lg_sl ([.ref (a 200), .int (i2 p0)])).length) Slot.unset).toArray = ls at hl ⊢
  have hl : lv_has ls 2 [(0, .ref (a 200)), (1, .int (i2 p0))] := hl
  unfold m_x12_takesSign at h
  refine y_head (pcJ := 15) (σ := MS) (fun u H locs ls => va_P D vwCl (RW D a u) H ∧ va_S A s₀.heap H locs ∧ lv_has ls 2 [] ∧ m_x12_takesSign_J15 u = some o) (fun u => []) (fun u H locs ls hI => ?_) (fun J15 => ?_)
  · obtain ⟨hP, hS, hl, h⟩ := hI
    obtain ⟨s1, rfl⟩ : ∃ z, z = u := ⟨u, rfl⟩
    have hP : va_P D vwCl (RW D a s1) H := hP
    have hl : lv_has ls 2 [] := hl
    have h : m_x12_takesSign_J15 s1 = some o := h
    unfold m_x12_takesSign_J15 at h
    refine lv_iconst (v := 0) hx hb eX12_takesSign_1.2.2.2.2.2.2.1 (by decide) ?_
    obtain rfl := Option.some.inj h
    exact W.zret (v := 0) hx hb hr (by decide) (fun t ht hW => ⟨⟨_, (), rfl, rfl, by rw [ht]; exact hP, va_K.moved hW.alike hK, hDD _⟩, hS.F ht⟩) hS.2.2 eX12_takesSign_1.2.2.2.2.2.2.2
  refine lv_aload_n hx hb eX12_takes_18.2.2.2.2.2.2.2 rfl (lv_at hl 0 rfl) ?_
  refine va_get (D := D) (ci := 12) (v := .int (i2 (gI s 5))) (C := RX12) (T := TX12) (N := 116) hx hb ht inX12 hown hK hP 0 RW_0 rfl 5 (by decide) (ht (.fieldLink RX12 266 "CloneVolumesModel" "bad" "I") fl_X12_266) (fun _ h9 => h9) mF_5 eX12_takesSign_1.1 ?_
  obtain ⟨hr2, h⟩ := rg_e h
  refine lv_if_ne (tgt := 15) hx hb eX12_takesSign_1.2.1 (by decide) (fun c3 => ?_) (fun c3 => ?_)
  · have h := if_f (mt (i2_eq (x := (gI s 5)) (y := 0) hr2 (by decide)).mpr c3) h
    exact J15 s _ _ _ ⟨hP, hS, lv_sub hl [] rfl, h⟩
  · have h := if_t ((i2_eq (x := (gI s 5)) (y := 0) hr2 (by decide)).mp c3) h
    refine lv_aload_n hx hb eX12_takesSign_1.2.2.1 rfl (lv_at hl 0 rfl) ?_
    obtain ⟨⟨r6, s5⟩, hc4, h⟩ := bn_e h
    refine ywV (r0 := i2 r6) (As := []) (rest := []) (C := RX12) (n := 0) (ws' := RW D a s5) ⟨hx, hb, hml, hown, ht⟩ (k_x12_look l D a _ _ _ hc4) (zgV ml_X12_278 im_X12_look se_X12_look in_X12 co_X12_look) rfl rfl (by decide +kernel) ⟨Nat.le_of_ble_eq_true rfl, Nat.le_of_ble_eq_true rfl⟩ hN hK hP (hDD _) hS hA 0 RW_0 rfl rfl rfl hl.1 rfl (Nat.le_of_ble_eq_true rfl) eX12_takesSign_1.2.2.2.1 ⟨Nat.le_of_ble_eq_true rfl, Nat.le_of_ble_eq_true rfl⟩ (fun H locs hP hS => ?_)
    refine lv_iload_n hx hb eX12_takesSign_1.2.2.2.2.1 rfl (lv_at hl 1 rfl) ?_
    obtain ⟨hr7, h⟩ := rg_e h
    obtain ⟨hr8, h⟩ := rg_e h
    refine lv_icmp_eq (tgt := 17) hx hb eX12_takesSign_1.2.2.2.2.2.1 (by decide) (fun c9 => ?_) (fun c9 => ?_)
    · have h := if_t ((i2_eq (x := r6) (y := p0) hr7 hr8).mp c9) h
      refine lv_aload_n hx hb eX12_takesSign_17.1 rfl (lv_at hl 0 rfl) ?_
      refine lv_dup hx hb eX12_takesSign_17.2.1 rfl ?_
      refine va_get (D := D) (ci := 12) (v := .int (i2 (gI s5 2))) (C := RX12) (T := TX12) (N := 116) hx hb ht inX12 hown hK hP 0 RW_0 rfl 2 (by decide) (ht (.fieldLink RX12 272 "CloneVolumesModel" "at" "I") fl_X12_272) (fun _ h9 => h9) mF_2 eX12_takesSign_17.2.2.1 ?_
      refine lv_iconst (v := 1) hx hb eX12_takesSign_17.2.2.2.1 (by decide) ?_
      refine lv_iadd hx hb eX12_takesSign_17.2.2.2.2.1 ?_
      refine z_topi (y := i2 ((gI s5 2) + 1)) (i2_add (gI s5 2) 1) ?_
      refine ya_put (D := D) (ci := 12) (v := .int (i2 ((gI s5 2) + 1))) (ty := .int) (C := RX12) (T := TX12) (N := 116) hx hb ht inX12 tyX12 tyX12_ok nmX12 hown hK hP (hDD _) hS 0 RW_0 rfl 2 (by decide) (ht (.fieldLink RX12 272 "CloneVolumesModel" "at" "I") fl_X12_272) (fun _ h9 => h9) rfl (by decide +kernel) rfl rfl (by rw [mF_len]; decide) eX12_takesSign_17.2.2.2.2.2.1 (RW_f2 ((gI s5 2) + 1)) (fun H locs hP hS => ?_)
      obtain ⟨s10, hs10, h⟩ := st_e h
      rw [hs10] at hP
      refine lv_iconst (v := 1) hx hb eX12_takesSign_17.2.2.2.2.2.2.1 (by decide) ?_
      obtain rfl := Option.some.inj h
      exact W.zret (v := 1) hx hb hr (by decide) (fun t ht hW => ⟨⟨_, (), rfl, rfl, by rw [ht]; exact hP, va_K.moved hW.alike hK, hDD _⟩, hS.F ht⟩) hS.2.2 eX12_takesSign_17.2.2.2.2.2.2.2
    · have h := if_f (mt (i2_eq (x := r6) (y := p0) hr7 hr8).mpr c9) h
      exact J15 s5 _ _ _ ⟨hP, hS, lv_sub hl [] rfl, h⟩
set_option maxHeartbeats 4000000 in
set_option maxRecDepth 100000 in
theorem k_x12_asksSign (l : Launch) (D : va_G) (a : Nat → Nat) (p0 : Int) (sz : Nat) (s : MS) (o : MS) (h : m_x12_asksSign p0 s = some o) : yWv l yX12_asksSign cX12_asksSign 2 none { frames := 2, cells := 0, slots := 0, locals := 120 } D sz [.ref (a 200), .int (i2 p0)] (RW D a s) (RW D a o) := by
  refine Met.ofW (cc := cX12_asksSign) (maxL := 2) (ret := none) (by decide) rfl ?_
  intro p e s₀ m args below meth c s₁ B hml hv
  obtain ⟨rfl, ⟨hsz, hP, hK, hD0⟩, hN⟩ := hv
  have hx := B.exec
  have hb := B.bytes
  have hr := B.returns
  have hts := atoms_spec (ws := wz yX12_asksSign cX12_asksSign 2 none) B.pre
  have ht : ∀ w ∈ lw_gd, w.before _ s₀ = true := fun w h => hts w (List.mem_cons_of_mem _ h)
  have hown : s₀.vm.findClass RX12 = some m.cls := findClass_of_methodNamed B.named
  have hlocks := B.notSynchronized
  subst hsz
  have hD := hD0.self (sz := s₀.heap.size)
  generalize hAe : va_A (RW D a s) s₀.heap.size = A at hD ⊢
  have hA : ∀ q : Nat, s₀.heap.size ≤ q → A q := fun q h => by rw [← hAe]; exact Or.inr h
  have hS : va_S A s₀.heap s₀.heap [] := va_S.rf
  have hDD : ∀ t : MS, va_D A (RW D a t) := fun t => RW_D t hD
  have hl := lv_entry ([.ref (a 200), .int (i2 p0)]) (n := 2) (Nat.le_of_ble_eq_true rfl)
  rw [lg_entry_eq]
  generalize (lg_sl ([.ref (a 200), .int (i2 p0)]) ++ List.replicate (2 - (lg_sl ([.ref (a 200), .int (i2 p0)])).length) Slot.unset).toArray = ls at hl ⊢
  have hl : lv_has ls 2 [(0, .ref (a 200)), (1, .int (i2 p0))] := hl
  unfold m_x12_asksSign at h
  refine y_head (pcJ := 24) (σ := MS) (fun u H locs ls => va_P D vwCl (RW D a u) H ∧ va_S A s₀.heap H locs ∧ lv_has ls 2 [] ∧ m_x12_asksSign_J24 u = some o) (fun u => []) (fun u H locs ls hI => ?_) (fun J24 => ?_)
  · obtain ⟨hP, hS, hl, h⟩ := hI
    obtain ⟨s1, rfl⟩ : ∃ z, z = u := ⟨u, rfl⟩
    have hP : va_P D vwCl (RW D a s1) H := hP
    have hl : lv_has ls 2 [] := hl
    have h : m_x12_asksSign_J24 s1 = some o := h
    unfold m_x12_asksSign_J24 at h
    obtain rfl := Option.some.inj h
    exact W.vret hx hb hr (fun t ht hW => ⟨⟨(), rfl, trivial, by rw [ht]; exact hP, va_K.moved hW.alike hK, hDD _⟩, hS.F ht⟩) hS.2.2 eX12_asksSign_21.2.1
  refine lv_aload_n hx hb eX12_asks_16.2.2.2.2.2.1 rfl (lv_at hl 0 rfl) ?_
  refine va_get (D := D) (ci := 12) (v := .int (i2 (gI s 5))) (C := RX12) (T := TX12) (N := 116) hx hb ht inX12 hown hK hP 0 RW_0 rfl 5 (by decide) (ht (.fieldLink RX12 266 "CloneVolumesModel" "bad" "I") fl_X12_266) (fun _ h9 => h9) mF_5 eX12_asks_16.2.2.2.2.2.2.1 ?_
  obtain ⟨hr2, h⟩ := rg_e h
  refine lv_if_ne (tgt := 24) hx hb eX12_asks_16.2.2.2.2.2.2.2 (by decide) (fun c3 => ?_) (fun c3 => ?_)
  · have h := if_f (mt (i2_eq (x := (gI s 5)) (y := 0) hr2 (by decide)).mpr c3) h
    exact J24 s _ _ _ ⟨hP, hS, lv_sub hl [] rfl, h⟩
  · have h := if_t ((i2_eq (x := (gI s 5)) (y := 0) hr2 (by decide)).mp c3) h
    refine lv_aload_n hx hb eX12_asksSign_7.1 rfl (lv_at hl 0 rfl) ?_
    refine lv_iload_n hx hb eX12_asksSign_7.2.1 rfl (lv_at hl 1 rfl) ?_
    obtain ⟨⟨r6, s5⟩, hc4, h⟩ := bn_e h
    refine ywV (r0 := i2 r6) (As := [.int (i2 p0)]) (rest := []) (C := RX12) (n := 1) (ws' := RW D a s5) ⟨hx, hb, hml, hown, ht⟩ (k_x12_takesSign l D a p0 _ _ _ hc4) (zgV ml_X12_300 im_X12_takesSign se_X12_takesSign in_X12 co_X12_takesSign) rfl rfl (by decide +kernel) ⟨Nat.le_of_ble_eq_true rfl, Nat.le_of_ble_eq_true rfl⟩ hN hK hP (hDD _) hS hA 0 RW_0 rfl rfl rfl hl.1 rfl (Nat.le_of_ble_eq_true rfl) eX12_asksSign_7.2.2.1 ⟨Nat.le_of_ble_eq_true rfl, Nat.le_of_ble_eq_true rfl⟩ (fun H locs hP hS => ?_)
    obtain ⟨hr7, h⟩ := rg_e h
    refine lv_if_ne (tgt := 24) hx hb eX12_asksSign_7.2.2.2.1 (by decide) (fun c8 => ?_) (fun c8 => ?_)
    · have h := if_f (mt (i2_eq (x := r6) (y := 0) hr7 (by decide)).mpr c8) h
      exact J24 s5 _ _ _ ⟨hP, hS, lv_sub hl [] rfl, h⟩
    · have h := if_t ((i2_eq (x := r6) (y := 0) hr7 (by decide)).mp c8) h
      refine lv_aload_n hx hb eX12_asksSign_7.2.2.2.2.1 rfl (lv_at hl 0 rfl) ?_
      refine lv_iconst (v := 1) hx hb eX12_asksSign_7.2.2.2.2.2.1 (by decide) ?_
      refine lv_aload_n hx hb eX12_asksSign_7.2.2.2.2.2.2.1 rfl (lv_at hl 0 rfl) ?_
      refine va_get (D := D) (ci := 12) (v := .int (i2 (gI s5 2))) (C := RX12) (T := TX12) (N := 116) hx hb ht inX12 hown hK hP 0 RW_0 rfl 2 (by decide) (ht (.fieldLink RX12 272 "CloneVolumesModel" "at" "I") fl_X12_272) (fun _ h9 => h9) mF_2 eX12_asksSign_7.2.2.2.2.2.2.2 ?_
      obtain ⟨s10, hc9, h⟩ := bn_e h
      refine ywVv (As := [.int 1, .int (i2 (gI s5 2))]) (rest := []) (C := RX12) (n := 2) (ws' := RW D a s10) ⟨hx, hb, hml, hown, ht⟩ (k_x12_fail l D a 1 (gI s5 2) _ _ _ hc9) (zgV ml_X12_296 im_X12_fail se_X12_fail in_X12 co_X12_fail) rfl rfl (by decide +kernel) ⟨Nat.le_of_ble_eq_true rfl, Nat.le_of_ble_eq_true rfl⟩ hN hK hP (hDD _) hS hA 0 RW_0 rfl rfl rfl hl.1 rfl (Nat.le_of_ble_eq_true rfl) eX12_asksSign_21.1 ⟨Nat.le_of_ble_eq_true rfl, Nat.le_of_ble_eq_true rfl⟩ (fun H locs hP hS => ?_)
      exact J24 s10 _ _ _ ⟨hP, hS, lv_sub hl [] rfl, h⟩
set_option maxHeartbeats 4000000 in
set_option maxRecDepth 100000 in
theorem k_x12_number (l : Launch) (D : va_G) (a : Nat → Nat) (p0 : Int) (p1 : Int) (sz : Nat) (s : MS) (o : (Int × MS)) (h : m_x12_number p0 p1 s = some o) : yWi l yX12_number cX12_number 5 (some .int) { frames := 1, cells := 0, slots := 0, locals := 60 } D sz [.ref (a 200), .int (i2 p0), .int (i2 p1)] (RW D a s) (RW D a o.2) (i2 o.1) := by
  refine Met.ofW (cc := cX12_number) (maxL := 5) (ret := (some .int)) (by decide) rfl ?_
  intro p e s₀ m args below meth c s₁ B hml hv
  obtain ⟨rfl, ⟨hsz, hP, hK, hD0⟩, hN⟩ := hv
  have hx := B.exec
  have hb := B.bytes
  have hr := B.returns
  have hts := atoms_spec (ws := wz yX12_number cX12_number 5 (some .int)) B.pre
  have ht : ∀ w ∈ lw_gd, w.before _ s₀ = true := fun w h => hts w (List.mem_cons_of_mem _ h)
  have hown : s₀.vm.findClass RX12 = some m.cls := findClass_of_methodNamed B.named
  have hlocks := B.notSynchronized
  subst hsz
  have hD := hD0.self (sz := s₀.heap.size)
  generalize hAe : va_A (RW D a s) s₀.heap.size = A at hD ⊢
  have hA : ∀ q : Nat, s₀.heap.size ≤ q → A q := fun q h => by rw [← hAe]; exact Or.inr h
  have hS : va_S A s₀.heap s₀.heap [] := va_S.rf
  have hDD : ∀ t : MS, va_D A (RW D a t) := fun t => RW_D t hD
  have hl := lv_entry ([.ref (a 200), .int (i2 p0), .int (i2 p1)]) (n := 5) (Nat.le_of_ble_eq_true rfl)
  rw [lg_entry_eq]
  generalize (lg_sl ([.ref (a 200), .int (i2 p0), .int (i2 p1)]) ++ List.replicate (5 - (lg_sl ([.ref (a 200), .int (i2 p0), .int (i2 p1)])).length) Slot.unset).toArray = ls at hl ⊢
  have hl : lv_has ls 5 [(0, .ref (a 200)), (1, .int (i2 p0)), (2, .int (i2 p1))] := hl
  unfold m_x12_number at h
  refine y_head (pcJ := 164) (σ := Int × MS) (fun u H locs ls => va_P D vwCl (RW D a u.2) H ∧ va_S A s₀.heap H locs ∧ lv_has ls 5 [(4, .int (i2 u.1))] ∧ m_x12_number_J164 u.1 u.2 = some o) (fun u => []) (fun u H locs ls hI => ?_) (fun J164 => ?_)
  · obtain ⟨hP, hS, hl, h⟩ := hI
    obtain ⟨x1, s2⟩ := u
    have hP : va_P D vwCl (RW D a s2) H := hP
    have hl : lv_has ls 5 [(4, .int (i2 x1))] := hl
    have h : m_x12_number_J164 x1 s2 = some o := h
    unfold m_x12_number_J164 at h
    refine lv_iload hx hb eX12_number_158.2.2.1 (lv_at hl 0 rfl) ?_
    obtain rfl := Option.some.inj h
    exact W.iret (v := (i2 x1)) hx hb hr (fun t ht hW => ⟨⟨_, (), rfl, rfl, by rw [ht]; exact hP, va_K.moved hW.alike hK, hDD _⟩, hS.F ht⟩) hS.2.2 eX12_number_158.2.2.2.1
  refine y_head (pcJ := 129) (σ := Int × Int × Int × Int × MS) (fun u H locs ls => va_P D vwCl (RW D a u.2.2.2.2) H ∧ va_S A s₀.heap H locs ∧ lv_has ls 5 [(0, .ref (a 200)), (1, .int (i2 u.1)), (2, .int (i2 u.2.1)), (3, .int (i2 u.2.2.1)), (4, .int (i2 u.2.2.2.1))] ∧ m_x12_number_J129 u.1 u.2.1 u.2.2.1 u.2.2.2.1 u.2.2.2.2 = some o) (fun u => []) (fun u H locs ls hI => ?_) (fun J129 => ?_)
  · obtain ⟨hP, hS, hl, h⟩ := hI
    obtain ⟨x3, x4, x5, x6, s7⟩ := u
    have hP : va_P D vwCl (RW D a s7) H := hP
    have hl : lv_has ls 5 [(0, .ref (a 200)), (1, .int (i2 x3)), (2, .int (i2 x4)), (3, .int (i2 x5)), (4, .int (i2 x6))] := hl
    have h : m_x12_number_J129 x3 x4 x5 x6 s7 = some o := h
    unfold m_x12_number_J129 at h
    refine lv_aload_n hx hb eX12_number_117.2.2.2.2.2.2.1 rfl (lv_at hl 0 rfl) ?_
    refine lv_aload_n hx hb eX12_number_117.2.2.2.2.2.2.2 rfl (lv_at hl 0 rfl) ?_
    refine va_get (D := D) (ci := 12) (v := .int (i2 (gI s7 2))) (C := RX12) (T := TX12) (N := 116) hx hb ht inX12 hown hK hP 0 RW_0 rfl 2 (by decide) (ht (.fieldLink RX12 272 "CloneVolumesModel" "at" "I") fl_X12_272) (fun _ h9 => h9) mF_2 eX12_number_131.1 ?_
    refine ya_put (D := D) (ci := 12) (v := .int (i2 (gI s7 2))) (ty := .int) (C := RX12) (T := TX12) (N := 116) hx hb ht inX12 tyX12 tyX12_ok nmX12 hown hK hP (hDD _) hS 0 RW_0 rfl 4 (by decide) (ht (.fieldLink RX12 286 "CloneVolumesModel" "ended" "I") fl_X12_286) (fun _ h9 => h9) rfl (by decide +kernel) rfl rfl (by rw [mF_len]; decide) eX12_number_131.2.1 (RW_f4 (gI s7 2)) (fun H locs hP hS => ?_)
    obtain ⟨s8, hs8, h⟩ := st_e h
    rw [hs8] at hP
    refine lv_aload_n hx hb eX12_number_131.2.2.1 rfl (lv_at hl 0 rfl) ?_
    refine lv_iload_n hx hb eX12_number_131.2.2.2.1 rfl (lv_at hl 3 rfl) ?_
    refine ya_put (D := D) (ci := 12) (v := .int (i2 x5)) (ty := .int) (C := RX12) (T := TX12) (N := 116) hx hb ht inX12 tyX12 tyX12_ok nmX12 hown hK hP (hDD _) hS 0 RW_0 rfl 10 (by decide) (ht (.fieldLink RX12 306 "CloneVolumesModel" "numberPlace" "I") fl_X12_306) (fun _ h9 => h9) rfl (by decide +kernel) rfl rfl (by rw [mF_len]; decide) eX12_number_131.2.2.2.2.1 (RW_f10 x5) (fun H locs hP hS => ?_)
    obtain ⟨s9, hs9, h⟩ := st_e h
    rw [hs9] at hP
    refine lv_iload hx hb eX12_number_131.2.2.2.2.2.1 (lv_at hl 4 rfl) ?_
    obtain ⟨hr10, h⟩ := rg_e h
    refine lv_i2l (v := i8 x6) hx hb eX12_number_131.2.2.2.2.2.2.1 (i2_l hr10) ?_
    refine lv_iload_n hx hb eX12_number_131.2.2.2.2.2.2.2 rfl (lv_at hl 1 rfl) ?_
    obtain ⟨hr11, h⟩ := rg_e h
    refine lv_i2l (v := i8 x3) hx hb eX12_number_146.1 (i2_l hr11) ?_
    refine lv_iload_n hx hb eX12_number_146.2.1 rfl (lv_at hl 2 rfl) ?_
    obtain ⟨hr12, h⟩ := rg_e h
    refine lv_i2l (v := i8 x4) hx hb eX12_number_146.2.2.1 (i2_l hr12) ?_
    obtain ⟨r14, hc13, h⟩ := bn_e h
    refine ycS (r0 := i2 r14) (As := [.long (i8 x6), .long (i8 x3), .long (i8 x4)]) (rest := []) (n := 3) ⟨hx, hb, hml, hown, ht⟩ (k_x12_isIn l D a x6 x3 x4 _ _ hc13) (zgT ml_X12_309 st_X12_isIn in_X12 co_X12_isIn) rfl rfl (by decide +kernel) ⟨Nat.le_of_ble_eq_true rfl, Nat.le_of_ble_eq_true rfl⟩ hN hK hP hS rfl hl.1 rfl (Nat.le_of_ble_eq_true rfl) eX12_number_146.2.2.2.1 ⟨Nat.le_of_ble_eq_true rfl, Nat.le_of_ble_eq_true rfl⟩ (fun H locs hP hS => ?_)
    obtain ⟨hr15, h⟩ := rg_e h
    refine lv_if_ne (tgt := 164) hx hb eX12_number_146.2.2.2.2.1 (by decide) (fun c16 => ?_) (fun c16 => ?_)
    · have h := if_f (mt (i2_eq (x := r14) (y := 0) hr15 (by decide)).mpr c16) h
      exact J164 (x6, s9) _ _ _ ⟨hP, hS, lv_sub hl [4] rfl, h⟩
    · have h := if_t ((i2_eq (x := r14) (y := 0) hr15 (by decide)).mp c16) h
      refine lv_aload_n hx hb eX12_number_146.2.2.2.2.2.1 rfl (lv_at hl 0 rfl) ?_
      refine lv_iconst (v := 2) hx hb eX12_number_146.2.2.2.2.2.2.1 (by decide) ?_
      refine lv_aload_n hx hb eX12_number_146.2.2.2.2.2.2.2 rfl (lv_at hl 0 rfl) ?_
      refine va_get (D := D) (ci := 12) (v := .int (i2 (gI s9 10))) (C := RX12) (T := TX12) (N := 116) hx hb ht inX12 hown hK hP 0 RW_0 rfl 10 (by decide) (ht (.fieldLink RX12 306 "CloneVolumesModel" "numberPlace" "I") fl_X12_306) (fun _ h9 => h9) mF_10 eX12_number_158.1 ?_
      obtain ⟨s18, hc17, h⟩ := bn_e h
      refine ywVv (As := [.int 2, .int (i2 (gI s9 10))]) (rest := []) (C := RX12) (n := 2) (ws' := RW D a s18) ⟨hx, hb, hml, hown, ht⟩ (k_x12_fail l D a 2 (gI s9 10) _ _ _ hc17) (zgV ml_X12_296 im_X12_fail se_X12_fail in_X12 co_X12_fail) rfl rfl (by decide +kernel) ⟨Nat.le_of_ble_eq_true rfl, Nat.le_of_ble_eq_true rfl⟩ hN hK hP (hDD _) hS hA 0 RW_0 rfl rfl rfl hl.1 rfl (Nat.le_of_ble_eq_true rfl) eX12_number_158.2.1 ⟨Nat.le_of_ble_eq_true rfl, Nat.le_of_ble_eq_true rfl⟩ (fun H locs hP hS => ?_)
      exact J164 (x6, s18) _ _ _ ⟨hP, hS, lv_sub hl [4] rfl, h⟩
  refine y_loop (pcJ := 49) (σ := Int × Int × Int × Int × MS) (fun n u H locs ls => va_P D vwCl (RW D a u.2.2.2.2) H ∧ va_S A s₀.heap H locs ∧ lv_has ls 5 [(0, .ref (a 200)), (1, .int (i2 u.1)), (2, .int (i2 u.2.1)), (3, .int (i2 u.2.2.1)), (4, .int (i2 u.2.2.2.1))] ∧ m_x12_number_L49 n u.1 u.2.1 u.2.2.1 u.2.2.2.1 u.2.2.2.2 = some o) (fun u => []) (fun u H locs ls hI => by obtain ⟨_, _, _, h⟩ := hI; cases h) (fun n49 ih49 u H locs ls hI => ?_) (fun J49 => ?_)
  · obtain ⟨hP, hS, hl, h⟩ := hI
    obtain ⟨x19, x20, x21, x22, s23⟩ := u
    have hP : va_P D vwCl (RW D a s23) H := hP
    have hl : lv_has ls 5 [(0, .ref (a 200)), (1, .int (i2 x19)), (2, .int (i2 x20)), (3, .int (i2 x21)), (4, .int (i2 x22))] := hl
    have h : m_x12_number_b49 (m_x12_number_L49 n49) x19 x20 x21 x22 s23 = some o := h
    unfold m_x12_number_b49 at h
    refine lv_aload_n hx hb eX12_number_46.2.2.1 rfl (lv_at hl 0 rfl) ?_
    refine va_get (D := D) (ci := 12) (v := .int (i2 (gI s23 2))) (C := RX12) (T := TX12) (N := 116) hx hb ht inX12 hown hK hP 0 RW_0 rfl 2 (by decide) (ht (.fieldLink RX12 272 "CloneVolumesModel" "at" "I") fl_X12_272) (fun _ h9 => h9) mF_2 eX12_number_46.2.2.2.1 ?_
    refine lv_aload_n hx hb eX12_number_46.2.2.2.2.1 rfl (lv_at hl 0 rfl) ?_
    refine va_get (D := D) (ci := 12) (v := .int (i2 (gI s23 3))) (C := RX12) (T := TX12) (N := 116) hx hb ht inX12 hown hK hP 0 RW_0 rfl 3 (by decide) (ht (.fieldLink RX12 275 "CloneVolumesModel" "end" "I") fl_X12_275) (fun _ h9 => h9) mF_3 eX12_number_46.2.2.2.2.2.1 ?_
    obtain ⟨hr24, h⟩ := rg_e h
    obtain ⟨hr25, h⟩ := rg_e h
    refine lv_icmp_ge (tgt := 129) hx hb eX12_number_46.2.2.2.2.2.2.1 (by decide) (fun c26 => ?_) (fun c26 => ?_)
    · have h := if_t ((i2_le (x := (gI s23 3)) (y := (gI s23 2)) hr25 hr24).mp c26) h
      exact J129 (x19, x20, x21, x22, s23) _ _ _ ⟨hP, hS, lv_sub hl [0, 1, 2, 3, 4] rfl, h⟩
    · have h := if_f (mt (i2_le (x := (gI s23 3)) (y := (gI s23 2)) hr25 hr24).mpr c26) h
      refine lv_aload_n hx hb eX12_number_46.2.2.2.2.2.2.2 rfl (lv_at hl 0 rfl) ?_
      refine va_get (D := D) (ci := 12) (v := .ref (a 0)) (C := RX12) (T := TX12) (N := 116) hx hb ht inX12 hown hK hP 0 RW_0 rfl 0 (by decide) (ht (.fieldLink RX12 7 "CloneVolumesModel" "tape" "[I") fl_X12_7) (fun _ h9 => h9) mF_0 eX12_number_61.1 ?_
      refine lv_aload_n hx hb eX12_number_61.2.1 rfl (lv_at hl 0 rfl) ?_
      refine va_get (D := D) (ci := 12) (v := .int (i2 (gI s23 2))) (C := RX12) (T := TX12) (N := 116) hx hb ht inX12 hown hK hP 0 RW_0 rfl 2 (by decide) (ht (.fieldLink RX12 272 "CloneVolumesModel" "at" "I") fl_X12_272) (fun _ h9 => h9) mF_2 eX12_number_61.2.2.1 ?_
      obtain ⟨y27, ey27, iy27, h⟩ := rdI_e h
      refine ya_iald (i := (gI s23 2)) hx hb hK hP 1 0 RW_1 rfl (by decide) ey27 iy27 eX12_number_61.2.2.2.1 ?_
      obtain ⟨r29, hc28, h⟩ := bn_e h
      refine ycS (r0 := i2 r29) (As := [.int (i2 y27)]) (rest := []) (n := 1) ⟨hx, hb, hml, hown, ht⟩ (k_x12_isDigit l D a y27 _ _ hc28) (zgT ml_X12_303 st_X12_isDigit in_X12 co_X12_isDigit) rfl rfl (by decide +kernel) ⟨Nat.le_of_ble_eq_true rfl, Nat.le_of_ble_eq_true rfl⟩ hN hK hP hS rfl hl.1 rfl (Nat.le_of_ble_eq_true rfl) eX12_number_61.2.2.2.2.1 ⟨Nat.le_of_ble_eq_true rfl, Nat.le_of_ble_eq_true rfl⟩ (fun H locs hP hS => ?_)
      obtain ⟨hr30, h⟩ := rg_e h
      refine lv_if_eq (tgt := 129) hx hb eX12_number_61.2.2.2.2.2.1 (by decide) (fun c31 => ?_) (fun c31 => ?_)
      · have h := if_t ((i2_eq (x := r29) (y := 0) hr30 (by decide)).mp c31) h
        exact J129 (x19, x20, x21, x22, s23) _ _ _ ⟨hP, hS, lv_sub hl [0, 1, 2, 3, 4] rfl, h⟩
      · have h := if_f (mt (i2_eq (x := r29) (y := 0) hr30 (by decide)).mpr c31) h
        refine lv_aload_n hx hb eX12_number_61.2.2.2.2.2.2.1 rfl (lv_at hl 0 rfl) ?_
        refine va_get (D := D) (ci := 12) (v := .int (i2 (gI s23 2))) (C := RX12) (T := TX12) (N := 116) hx hb ht inX12 hown hK hP 0 RW_0 rfl 2 (by decide) (ht (.fieldLink RX12 272 "CloneVolumesModel" "at" "I") fl_X12_272) (fun _ h9 => h9) mF_2 eX12_number_61.2.2.2.2.2.2.2 ?_
        refine lv_iload_n hx hb eX12_number_79.1 rfl (lv_at hl 3 rfl) ?_
        refine lv_isub hx hb eX12_number_79.2.1 ?_
        refine z_topi (y := i2 ((gI s23 2) - x21)) (i2_sub (gI s23 2) x21) ?_
        refine lv_iconst (v := 4) hx hb eX12_number_79.2.2.1 (by decide) ?_
        obtain ⟨hr32, h⟩ := rg_e h
        refine lv_icmp_ne (tgt := 96) hx hb eX12_number_79.2.2.2.1 (by decide) (fun c33 => ?_) (fun c33 => ?_)
        · have h := if_f (mt (i2_eq (x := ((gI s23 2) - x21)) (y := 4) hr32 (by decide)).mpr c33) h
          refine lv_bipush (v := 10) hx hb eX12_number_91.2.2.2.1 (by decide) ?_
          refine lv_iload hx hb eX12_number_91.2.2.2.2.1 (lv_at hl 4 rfl) ?_
          refine lv_imul hx hb eX12_number_91.2.2.2.2.2.1 ?_
          refine z_topi (y := i2 (10 * x22)) (i2_mul 10 x22) ?_
          refine lv_aload_n hx hb eX12_number_91.2.2.2.2.2.2.1 rfl (lv_at hl 0 rfl) ?_
          refine va_get (D := D) (ci := 12) (v := .ref (a 0)) (C := RX12) (T := TX12) (N := 116) hx hb ht inX12 hown hK hP 0 RW_0 rfl 0 (by decide) (ht (.fieldLink RX12 7 "CloneVolumesModel" "tape" "[I") fl_X12_7) (fun _ h9 => h9) mF_0 eX12_number_91.2.2.2.2.2.2.2 ?_
          refine lv_aload_n hx hb eX12_number_105.1 rfl (lv_at hl 0 rfl) ?_
          refine va_get (D := D) (ci := 12) (v := .int (i2 (gI s23 2))) (C := RX12) (T := TX12) (N := 116) hx hb ht inX12 hown hK hP 0 RW_0 rfl 2 (by decide) (ht (.fieldLink RX12 272 "CloneVolumesModel" "at" "I") fl_X12_272) (fun _ h9 => h9) mF_2 eX12_number_105.2.1 ?_
          obtain ⟨y34, ey34, iy34, h⟩ := rdI_e h
          refine ya_iald (i := (gI s23 2)) hx hb hK hP 1 0 RW_1 rfl (by decide) ey34 iy34 eX12_number_105.2.2.1 ?_
          refine lv_iadd hx hb eX12_number_105.2.2.2.1 ?_
          refine z_topi (y := i2 ((10 * x22) + y34)) (i2_add (10 * x22) y34) ?_
          refine lv_bipush (v := 48) hx hb eX12_number_105.2.2.2.2.1 (by decide) ?_
          refine lv_isub hx hb eX12_number_105.2.2.2.2.2.1 ?_
          refine z_topi (y := i2 (((10 * x22) + y34) - 48)) (i2_sub ((10 * x22) + y34) 48) ?_
          refine lv_istore (lv' := [(4, .int (i2 (((10 * x22) + y34) - 48))), (0, .ref (a 200)), (1, .int (i2 x19)), (2, .int (i2 x20)), (3, .int (i2 x21))]) hx hb eX12_number_105.2.2.2.2.2.2.1 hl (by decide) rfl (fun ls hl => ?_)
          refine lv_aload_n hx hb eX12_number_105.2.2.2.2.2.2.2 rfl (lv_at hl 1 rfl) ?_
          refine lv_dup hx hb eX12_number_117.1 rfl ?_
          refine va_get (D := D) (ci := 12) (v := .int (i2 (gI s23 2))) (C := RX12) (T := TX12) (N := 116) hx hb ht inX12 hown hK hP 0 RW_0 rfl 2 (by decide) (ht (.fieldLink RX12 272 "CloneVolumesModel" "at" "I") fl_X12_272) (fun _ h9 => h9) mF_2 eX12_number_117.2.1 ?_
          refine lv_iconst (v := 1) hx hb eX12_number_117.2.2.1 (by decide) ?_
          refine lv_iadd hx hb eX12_number_117.2.2.2.1 ?_
          refine z_topi (y := i2 ((gI s23 2) + 1)) (i2_add (gI s23 2) 1) ?_
          refine ya_put (D := D) (ci := 12) (v := .int (i2 ((gI s23 2) + 1))) (ty := .int) (C := RX12) (T := TX12) (N := 116) hx hb ht inX12 tyX12 tyX12_ok nmX12 hown hK hP (hDD _) hS 0 RW_0 rfl 2 (by decide) (ht (.fieldLink RX12 272 "CloneVolumesModel" "at" "I") fl_X12_272) (fun _ h9 => h9) rfl (by decide +kernel) rfl rfl (by rw [mF_len]; decide) eX12_number_117.2.2.2.2.1 (RW_f2 ((gI s23 2) + 1)) (fun H locs hP hS => ?_)
          obtain ⟨s35, hs35, h⟩ := st_e h
          rw [hs35] at hP
          refine lv_goto (tgt := 49) hx hb eX12_number_117.2.2.2.2.2.1 (by decide) ?_
          exact ih49 (x19, x20, x21, ((10 * x22) + y34) - 48, s35) _ _ _ ⟨hP, hS, lv_sub hl [1, 2, 3, 4, 0] rfl, h⟩
        · have h := if_t ((i2_eq (x := ((gI s23 2) - x21)) (y := 4) hr32 (by decide)).mp c33) h
          refine lv_aload_n hx hb eX12_number_79.2.2.2.2.1 rfl (lv_at hl 0 rfl) ?_
          refine lv_iconst (v := 1) hx hb eX12_number_79.2.2.2.2.2.1 (by decide) ?_
          refine lv_aload_n hx hb eX12_number_79.2.2.2.2.2.2.1 rfl (lv_at hl 0 rfl) ?_
          refine va_get (D := D) (ci := 12) (v := .int (i2 (gI s23 2))) (C := RX12) (T := TX12) (N := 116) hx hb ht inX12 hown hK hP 0 RW_0 rfl 2 (by decide) (ht (.fieldLink RX12 272 "CloneVolumesModel" "at" "I") fl_X12_272) (fun _ h9 => h9) mF_2 eX12_number_79.2.2.2.2.2.2.2 ?_
          obtain ⟨s37, hc36, h⟩ := bn_e h
          refine ywVv (As := [.int 1, .int (i2 (gI s23 2))]) (rest := []) (C := RX12) (n := 2) (ws' := RW D a s37) ⟨hx, hb, hml, hown, ht⟩ (k_x12_fail l D a 1 (gI s23 2) _ _ _ hc36) (zgV ml_X12_296 im_X12_fail se_X12_fail in_X12 co_X12_fail) rfl rfl (by decide +kernel) ⟨Nat.le_of_ble_eq_true rfl, Nat.le_of_ble_eq_true rfl⟩ hN hK hP (hDD _) hS hA 0 RW_0 rfl rfl rfl hl.1 rfl (Nat.le_of_ble_eq_true rfl) eX12_number_91.1 ⟨Nat.le_of_ble_eq_true rfl, Nat.le_of_ble_eq_true rfl⟩ (fun H locs hP hS => ?_)
          refine lv_iconst (v := 0) hx hb eX12_number_91.2.1 (by decide) ?_
          obtain rfl := Option.some.inj h
          exact W.iret (v := 0) hx hb hr (fun t ht hW => ⟨⟨_, (), rfl, rfl, by rw [ht]; exact hP, va_K.moved hW.alike hK, hDD _⟩, hS.F ht⟩) hS.2.2 eX12_number_91.2.2.1
  refine y_head (pcJ := 30) (σ := MS) (fun u H locs ls => va_P D vwCl (RW D a u) H ∧ va_S A s₀.heap H locs ∧ lv_has ls 5 [(0, .ref (a 200))] ∧ m_x12_number_J30 u = some o) (fun u => []) (fun u H locs ls hI => ?_) (fun J30 => ?_)
  · obtain ⟨hP, hS, hl, h⟩ := hI
    obtain ⟨s38, rfl⟩ : ∃ z, z = u := ⟨u, rfl⟩
    have hP : va_P D vwCl (RW D a s38) H := hP
    have hl : lv_has ls 5 [(0, .ref (a 200))] := hl
    have h : m_x12_number_J30 s38 = some o := h
    unfold m_x12_number_J30 at h
    refine lv_aload_n hx hb eX12_number_16.2.2.2.2.2.2.1 rfl (lv_at hl 0 rfl) ?_
    refine lv_iconst (v := 1) hx hb eX12_number_16.2.2.2.2.2.2.2 (by decide) ?_
    refine lv_aload_n hx hb eX12_number_32.1 rfl (lv_at hl 0 rfl) ?_
    refine va_get (D := D) (ci := 12) (v := .int (i2 (gI s38 2))) (C := RX12) (T := TX12) (N := 116) hx hb ht inX12 hown hK hP 0 RW_0 rfl 2 (by decide) (ht (.fieldLink RX12 272 "CloneVolumesModel" "at" "I") fl_X12_272) (fun _ h9 => h9) mF_2 eX12_number_32.2.1 ?_
    obtain ⟨s40, hc39, h⟩ := bn_e h
    refine ywVv (As := [.int 1, .int (i2 (gI s38 2))]) (rest := []) (C := RX12) (n := 2) (ws' := RW D a s40) ⟨hx, hb, hml, hown, ht⟩ (k_x12_fail l D a 1 (gI s38 2) _ _ _ hc39) (zgV ml_X12_296 im_X12_fail se_X12_fail in_X12 co_X12_fail) rfl rfl (by decide +kernel) ⟨Nat.le_of_ble_eq_true rfl, Nat.le_of_ble_eq_true rfl⟩ hN hK hP (hDD _) hS hA 0 RW_0 rfl rfl rfl hl.1 rfl (Nat.le_of_ble_eq_true rfl) eX12_number_32.2.2.1 ⟨Nat.le_of_ble_eq_true rfl, Nat.le_of_ble_eq_true rfl⟩ (fun H locs hP hS => ?_)
    refine lv_iconst (v := 0) hx hb eX12_number_32.2.2.2.1 (by decide) ?_
    obtain rfl := Option.some.inj h
    exact W.iret (v := 0) hx hb hr (fun t ht hW => ⟨⟨_, (), rfl, rfl, by rw [ht]; exact hP, va_K.moved hW.alike hK, hDD _⟩, hS.F ht⟩) hS.2.2 eX12_number_32.2.2.2.2.1
  refine lv_aload_n hx hb eX12_number_0.1 rfl (lv_at hl 0 rfl) ?_
  refine va_get (D := D) (ci := 12) (v := .int (i2 (gI s 5))) (C := RX12) (T := TX12) (N := 116) hx hb ht inX12 hown hK hP 0 RW_0 rfl 5 (by decide) (ht (.fieldLink RX12 266 "CloneVolumesModel" "bad" "I") fl_X12_266) (fun _ h9 => h9) mF_5 eX12_number_0.2.1 ?_
  obtain ⟨hr41, h⟩ := rg_e h
  refine lv_if_eq (tgt := 9) hx hb eX12_number_0.2.2.1 (by decide) (fun c42 => ?_) (fun c42 => ?_)
  · have h := if_t ((i2_eq (x := (gI s 5)) (y := 0) hr41 (by decide)).mp c42) h
    refine lv_aload_n hx hb eX12_number_0.2.2.2.2.2.1 rfl (lv_at hl 0 rfl) ?_
    obtain ⟨⟨r45, s44⟩, hc43, h⟩ := bn_e h
    refine ywV (r0 := i2 r45) (As := []) (rest := []) (C := RX12) (n := 0) (ws' := RW D a s44) ⟨hx, hb, hml, hown, ht⟩ (k_x12_look l D a _ _ _ hc43) (zgV ml_X12_278 im_X12_look se_X12_look in_X12 co_X12_look) rfl rfl (by decide +kernel) ⟨Nat.le_of_ble_eq_true rfl, Nat.le_of_ble_eq_true rfl⟩ hN hK hP (hDD _) hS hA 0 RW_0 rfl rfl rfl hl.1 rfl (Nat.le_of_ble_eq_true rfl) eX12_number_0.2.2.2.2.2.2.1 ⟨Nat.le_of_ble_eq_true rfl, Nat.le_of_ble_eq_true rfl⟩ (fun H locs hP hS => ?_)
    obtain ⟨r47, hc46, h⟩ := bn_e h
    refine ycS (r0 := i2 r47) (As := [.int (i2 r45)]) (rest := []) (n := 1) ⟨hx, hb, hml, hown, ht⟩ (k_x12_isDigit l D a r45 _ _ hc46) (zgT ml_X12_303 st_X12_isDigit in_X12 co_X12_isDigit) rfl rfl (by decide +kernel) ⟨Nat.le_of_ble_eq_true rfl, Nat.le_of_ble_eq_true rfl⟩ hN hK hP hS rfl hl.1 rfl (Nat.le_of_ble_eq_true rfl) eX12_number_0.2.2.2.2.2.2.2 ⟨Nat.le_of_ble_eq_true rfl, Nat.le_of_ble_eq_true rfl⟩ (fun H locs hP hS => ?_)
    obtain ⟨hr48, h⟩ := rg_e h
    refine lv_if_eq (tgt := 30) hx hb eX12_number_16.1 (by decide) (fun c49 => ?_) (fun c49 => ?_)
    · have h := if_t ((i2_eq (x := r47) (y := 0) hr48 (by decide)).mp c49) h
      exact J30 s44 _ _ _ ⟨hP, hS, lv_sub hl [0] rfl, h⟩
    · have h := if_f (mt (i2_eq (x := r47) (y := 0) hr48 (by decide)).mpr c49) h
      refine lv_aload_n hx hb eX12_number_16.2.1 rfl (lv_at hl 0 rfl) ?_
      refine va_get (D := D) (ci := 12) (v := .int (i2 (gI s44 2))) (C := RX12) (T := TX12) (N := 116) hx hb ht inX12 hown hK hP 0 RW_0 rfl 2 (by decide) (ht (.fieldLink RX12 272 "CloneVolumesModel" "at" "I") fl_X12_272) (fun _ h9 => h9) mF_2 eX12_number_16.2.2.1 ?_
      refine lv_aload_n hx hb eX12_number_16.2.2.2.1 rfl (lv_at hl 0 rfl) ?_
      refine va_get (D := D) (ci := 12) (v := .int (i2 (gI s44 4))) (C := RX12) (T := TX12) (N := 116) hx hb ht inX12 hown hK hP 0 RW_0 rfl 4 (by decide) (ht (.fieldLink RX12 286 "CloneVolumesModel" "ended" "I") fl_X12_286) (fun _ h9 => h9) mF_4 eX12_number_16.2.2.2.2.1 ?_
      obtain ⟨hr50, h⟩ := rg_e h
      obtain ⟨hr51, h⟩ := rg_e h
      refine lv_icmp_ne (tgt := 41) hx hb eX12_number_16.2.2.2.2.2.1 (by decide) (fun c52 => ?_) (fun c52 => ?_)
      · have h := if_f (mt (i2_eq (x := (gI s44 2)) (y := (gI s44 4)) hr50 hr51).mpr c52) h
        refine lv_aload_n hx hb eX12_number_32.2.2.2.2.2.1 rfl (lv_at hl 0 rfl) ?_
        refine va_get (D := D) (ci := 12) (v := .int (i2 (gI s44 2))) (C := RX12) (T := TX12) (N := 116) hx hb ht inX12 hown hK hP 0 RW_0 rfl 2 (by decide) (ht (.fieldLink RX12 272 "CloneVolumesModel" "at" "I") fl_X12_272) (fun _ h9 => h9) mF_2 eX12_number_32.2.2.2.2.2.2.1 ?_
        refine lv_istore_n (lv' := [(3, .int (i2 (gI s44 2))), (0, .ref (a 200)), (1, .int (i2 p0)), (2, .int (i2 p1))]) hx hb eX12_number_32.2.2.2.2.2.2.2 rfl hl (by decide) rfl (fun ls hl => ?_)
        refine lv_iconst (v := 0) hx hb eX12_number_46.1 (by decide) ?_
        refine lv_istore (lv' := [(4, .int 0), (3, .int (i2 (gI s44 2))), (0, .ref (a 200)), (1, .int (i2 p0)), (2, .int (i2 p1))]) hx hb eX12_number_46.2.1 hl (by decide) rfl (fun ls hl => ?_)
        exact J49 FU (p0, p1, gI s44 2, 0, s44) _ _ _ ⟨hP, hS, lv_sub hl [2, 3, 4, 1, 0] rfl, h⟩
      · have h := if_t ((i2_eq (x := (gI s44 2)) (y := (gI s44 4)) hr50 hr51).mp c52) h
        exact J30 s44 _ _ _ ⟨hP, hS, lv_sub hl [0] rfl, h⟩
  · have h := if_f (mt (i2_eq (x := (gI s 5)) (y := 0) hr41 (by decide)).mpr c42) h
    refine lv_iconst (v := 0) hx hb eX12_number_0.2.2.2.1 (by decide) ?_
    obtain rfl := Option.some.inj h
    exact W.iret (v := 0) hx hb hr (fun t ht hW => ⟨⟨_, (), rfl, rfl, by rw [ht]; exact hP, va_K.moved hW.alike hK, hDD _⟩, hS.F ht⟩) hS.2.2 eX12_number_0.2.2.2.2.1
set_option maxHeartbeats 4000000 in
set_option maxRecDepth 100000 in
theorem k_x12_isOwnHere (l : Launch) (D : va_G) (a : Nat → Nat) (sz : Nat) (s : MS) (o : (Int × MS)) (h : m_x12_isOwnHere s = some o) : yWi l yX12_isOwnHere cX12_isOwnHere 2 (some .boolean) { frames := 2, cells := 0, slots := 0, locals := 120 } D sz [.ref (a 200)] (RW D a s) (RW D a o.2) (i2 o.1) := by
  refine Met.ofW (cc := cX12_isOwnHere) (maxL := 2) (ret := (some .boolean)) (by decide) rfl ?_
  intro p e s₀ m args below meth c s₁ B hml hv
  obtain ⟨rfl, ⟨hsz, hP, hK, hD0⟩, hN⟩ := hv
  have hx := B.exec
  have hb := B.bytes
  have hr := B.returns
  have hts := atoms_spec (ws := wz yX12_isOwnHere cX12_isOwnHere 2 (some .boolean)) B.pre
  have ht : ∀ w ∈ lw_gd, w.before _ s₀ = true := fun w h => hts w (List.mem_cons_of_mem _ h)
  have hown : s₀.vm.findClass RX12 = some m.cls := findClass_of_methodNamed B.named
  have hlocks := B.notSynchronized
  subst hsz
  have hD := hD0.self (sz := s₀.heap.size)
  generalize hAe : va_A (RW D a s) s₀.heap.size = A at hD ⊢
  have hA : ∀ q : Nat, s₀.heap.size ≤ q → A q := fun q h => by rw [← hAe]; exact Or.inr h
  have hS : va_S A s₀.heap s₀.heap [] := va_S.rf
  have hDD : ∀ t : MS, va_D A (RW D a t) := fun t => RW_D t hD
  have hl := lv_entry ([.ref (a 200)]) (n := 2) (Nat.le_of_ble_eq_true rfl)
  rw [lg_entry_eq]
  generalize (lg_sl ([.ref (a 200)]) ++ List.replicate (2 - (lg_sl ([.ref (a 200)])).length) Slot.unset).toArray = ls at hl ⊢
  have hl : lv_has ls 2 [(0, .ref (a 200))] := hl
  unfold m_x12_isOwnHere at h
  refine y_head (pcJ := 342) (σ := Int × MS) (fun u H locs ls => va_P D vwCl (RW D a u.2) H ∧ va_S A s₀.heap H locs ∧ lv_has ls 2 [] ∧ m_x12_isOwnHere_J342 u.1 u.2 = some o) (fun u => [.int (i2 u.1)]) (fun u H locs ls hI => ?_) (fun J342 => ?_)
  · obtain ⟨hP, hS, hl, h⟩ := hI
    obtain ⟨x1, s2⟩ := u
    have hP : va_P D vwCl (RW D a s2) H := hP
    have hl : lv_has ls 2 [] := hl
    have h : m_x12_isOwnHere_J342 x1 s2 = some o := h
    unfold m_x12_isOwnHere_J342 at h
    refine lv_istore_n (lv' := [(1, .int (i2 x1))]) hx hb eX12_isOwnHere_328.2.2.2.2.2.2.1 rfl hl (by decide) rfl (fun ls hl => ?_)
    refine lv_iload_n hx hb eX12_isOwnHere_328.2.2.2.2.2.2.2 rfl (lv_at hl 0 rfl) ?_
    obtain ⟨hb3, h⟩ := bo_e h
    obtain rfl := Option.some.inj h
    exact W.zret (v := (i2 x1)) hx hb hr (bo_n hb3) (fun t ht hW => ⟨⟨_, (), rfl, rfl, by rw [ht]; exact hP, va_K.moved hW.alike hK, hDD _⟩, hS.F ht⟩) hS.2.2 eX12_isOwnHere_344.1
  refine y_head (pcJ := 337) (σ := MS) (fun u H locs ls => va_P D vwCl (RW D a u) H ∧ va_S A s₀.heap H locs ∧ lv_has ls 2 [] ∧ m_x12_isOwnHere_J337 u = some o) (fun u => []) (fun u H locs ls hI => ?_) (fun J337 => ?_)
  · obtain ⟨hP, hS, hl, h⟩ := hI
    obtain ⟨s4, rfl⟩ : ∃ z, z = u := ⟨u, rfl⟩
    have hP : va_P D vwCl (RW D a s4) H := hP
    have hl : lv_has ls 2 [] := hl
    have h : m_x12_isOwnHere_J337 s4 = some o := h
    unfold m_x12_isOwnHere_J337 at h
    refine lv_iconst (v := 1) hx hb eX12_isOwnHere_328.2.2.2.1 (by decide) ?_
    refine lv_goto (tgt := 342) hx hb eX12_isOwnHere_328.2.2.2.2.1 (by decide) ?_
    exact J342 (1, s4) _ _ _ ⟨hP, hS, lv_sub hl [] rfl, h⟩
  refine y_head (pcJ := 299) (σ := Int × MS) (fun u H locs ls => va_P D vwCl (RW D a u.2) H ∧ va_S A s₀.heap H locs ∧ lv_has ls 2 [(0, .ref (a 200))] ∧ m_x12_isOwnHere_J299 u.1 u.2 = some o) (fun u => [.int (i2 u.1)]) (fun u H locs ls hI => ?_) (fun J299 => ?_)
  · obtain ⟨hP, hS, hl, h⟩ := hI
    obtain ⟨x5, s6⟩ := u
    have hP : va_P D vwCl (RW D a s6) H := hP
    have hl : lv_has ls 2 [(0, .ref (a 200))] := hl
    have h : m_x12_isOwnHere_J299 x5 s6 = some o := h
    unfold m_x12_isOwnHere_J299 at h
    refine lv_istore_n (lv' := [(1, .int (i2 x5)), (0, .ref (a 200))]) hx hb eX12_isOwnHere_298.2.1 rfl hl (by decide) rfl (fun ls hl => ?_)
    refine lv_iload_n hx hb eX12_isOwnHere_298.2.2.1 rfl (lv_at hl 0 rfl) ?_
    obtain ⟨hr7, h⟩ := rg_e h
    refine lv_if_ne (tgt := 337) hx hb eX12_isOwnHere_298.2.2.2.1 (by decide) (fun c8 => ?_) (fun c8 => ?_)
    · have h := if_f (mt (i2_eq (x := x5) (y := 0) hr7 (by decide)).mpr c8) h
      exact J337 s6 _ _ _ ⟨hP, hS, lv_sub hl [] rfl, h⟩
    · have h := if_t ((i2_eq (x := x5) (y := 0) hr7 (by decide)).mp c8) h
      refine lv_aload_n hx hb eX12_isOwnHere_298.2.2.2.2.1 rfl (lv_at hl 1 rfl) ?_
      refine lv_aload_n hx hb eX12_isOwnHere_298.2.2.2.2.2.1 rfl (lv_at hl 1 rfl) ?_
      refine va_get (D := D) (ci := 12) (v := .ref (a 35)) (C := RX12) (T := TX12) (N := 116) hx hb ht inX12 hown hK hP 0 RW_0 rfl 35 (by decide) (ht (.fieldLink RX12 93 "CloneVolumesModel" "allWord" "[C") fl_X12_93) (fun _ h9 => h9) mF_35 eX12_isOwnHere_298.2.2.2.2.2.2.1 ?_
      obtain ⟨⟨r11, s10⟩, hc9, h⟩ := bn_e h
      refine ywV (r0 := i2 r11) (As := [.ref (a 35)]) (rest := []) (C := RX12) (n := 1) (ws' := RW D a s10) ⟨hx, hb, hml, hown, ht⟩ (k_x12_isHere l D a 27 (a 35) 35 3 (fun _ => RW_27) (by decide) _ _ _ hc9) (zgV ml_X12_289 im_X12_isHere se_X12_isHere in_X12 co_X12_isHere) rfl rfl (by decide +kernel) ⟨Nat.le_of_ble_eq_true rfl, Nat.le_of_ble_eq_true rfl⟩ hN hK hP (hDD _) hS hA 0 RW_0 rfl rfl rfl hl.1 rfl (Nat.le_of_ble_eq_true rfl) eX12_isOwnHere_298.2.2.2.2.2.2.2 ⟨Nat.le_of_ble_eq_true rfl, Nat.le_of_ble_eq_true rfl⟩ (fun H locs hP hS => ?_)
      obtain ⟨hr12, h⟩ := rg_e h
      refine lv_if_ne (tgt := 337) hx hb eX12_isOwnHere_312.1 (by decide) (fun c13 => ?_) (fun c13 => ?_)
      · have h := if_f (mt (i2_eq (x := r11) (y := 0) hr12 (by decide)).mpr c13) h
        exact J337 s10 _ _ _ ⟨hP, hS, lv_sub hl [] rfl, h⟩
      · have h := if_t ((i2_eq (x := r11) (y := 0) hr12 (by decide)).mp c13) h
        refine lv_aload_n hx hb eX12_isOwnHere_312.2.1 rfl (lv_at hl 1 rfl) ?_
        refine lv_aload_n hx hb eX12_isOwnHere_312.2.2.1 rfl (lv_at hl 1 rfl) ?_
        refine va_get (D := D) (ci := 12) (v := .ref (a 36)) (C := RX12) (T := TX12) (N := 116) hx hb ht inX12 hown hK hP 0 RW_0 rfl 36 (by decide) (ht (.fieldLink RX12 96 "CloneVolumesModel" "minWord" "[C") fl_X12_96) (fun _ h9 => h9) mF_36 eX12_isOwnHere_312.2.2.2.1 ?_
        obtain ⟨⟨r16, s15⟩, hc14, h⟩ := bn_e h
        refine ywV (r0 := i2 r16) (As := [.ref (a 36)]) (rest := []) (C := RX12) (n := 1) (ws' := RW D a s15) ⟨hx, hb, hml, hown, ht⟩ (k_x12_isHere l D a 28 (a 36) 36 3 (fun _ => RW_28) (by decide) _ _ _ hc14) (zgV ml_X12_289 im_X12_isHere se_X12_isHere in_X12 co_X12_isHere) rfl rfl (by decide +kernel) ⟨Nat.le_of_ble_eq_true rfl, Nat.le_of_ble_eq_true rfl⟩ hN hK hP (hDD _) hS hA 0 RW_0 rfl rfl rfl hl.1 rfl (Nat.le_of_ble_eq_true rfl) eX12_isOwnHere_312.2.2.2.2.1 ⟨Nat.le_of_ble_eq_true rfl, Nat.le_of_ble_eq_true rfl⟩ (fun H locs hP hS => ?_)
        obtain ⟨hr17, h⟩ := rg_e h
        refine lv_if_ne (tgt := 337) hx hb eX12_isOwnHere_312.2.2.2.2.2.1 (by decide) (fun c18 => ?_) (fun c18 => ?_)
        · have h := if_f (mt (i2_eq (x := r16) (y := 0) hr17 (by decide)).mpr c18) h
          exact J337 s15 _ _ _ ⟨hP, hS, lv_sub hl [] rfl, h⟩
        · have h := if_t ((i2_eq (x := r16) (y := 0) hr17 (by decide)).mp c18) h
          refine lv_aload_n hx hb eX12_isOwnHere_312.2.2.2.2.2.2.1 rfl (lv_at hl 1 rfl) ?_
          refine lv_aload_n hx hb eX12_isOwnHere_312.2.2.2.2.2.2.2 rfl (lv_at hl 1 rfl) ?_
          refine va_get (D := D) (ci := 12) (v := .ref (a 37)) (C := RX12) (T := TX12) (N := 116) hx hb ht inX12 hown hK hP 0 RW_0 rfl 37 (by decide) (ht (.fieldLink RX12 99 "CloneVolumesModel" "maxWord" "[C") fl_X12_99) (fun _ h9 => h9) mF_37 eX12_isOwnHere_328.1 ?_
          obtain ⟨⟨r21, s20⟩, hc19, h⟩ := bn_e h
          refine ywV (r0 := i2 r21) (As := [.ref (a 37)]) (rest := []) (C := RX12) (n := 1) (ws' := RW D a s20) ⟨hx, hb, hml, hown, ht⟩ (k_x12_isHere l D a 29 (a 37) 37 3 (fun _ => RW_29) (by decide) _ _ _ hc19) (zgV ml_X12_289 im_X12_isHere se_X12_isHere in_X12 co_X12_isHere) rfl rfl (by decide +kernel) ⟨Nat.le_of_ble_eq_true rfl, Nat.le_of_ble_eq_true rfl⟩ hN hK hP (hDD _) hS hA 0 RW_0 rfl rfl rfl hl.1 rfl (Nat.le_of_ble_eq_true rfl) eX12_isOwnHere_328.2.1 ⟨Nat.le_of_ble_eq_true rfl, Nat.le_of_ble_eq_true rfl⟩ (fun H locs hP hS => ?_)
          obtain ⟨hr22, h⟩ := rg_e h
          refine lv_if_eq (tgt := 341) hx hb eX12_isOwnHere_328.2.2.1 (by decide) (fun c23 => ?_) (fun c23 => ?_)
          · have h := if_t ((i2_eq (x := r21) (y := 0) hr22 (by decide)).mp c23) h
            refine lv_iconst (v := 0) hx hb eX12_isOwnHere_328.2.2.2.2.2.1 (by decide) ?_
            exact J342 (0, s20) _ _ _ ⟨hP, hS, lv_sub hl [] rfl, h⟩
          · have h := if_f (mt (i2_eq (x := r21) (y := 0) hr22 (by decide)).mpr c23) h
            exact J337 s20 _ _ _ ⟨hP, hS, lv_sub hl [] rfl, h⟩
  refine y_head (pcJ := 294) (σ := MS) (fun u H locs ls => va_P D vwCl (RW D a u) H ∧ va_S A s₀.heap H locs ∧ lv_has ls 2 [(0, .ref (a 200))] ∧ m_x12_isOwnHere_J294 u = some o) (fun u => []) (fun u H locs ls hI => ?_) (fun J294 => ?_)
  · obtain ⟨hP, hS, hl, h⟩ := hI
    obtain ⟨s24, rfl⟩ : ∃ z, z = u := ⟨u, rfl⟩
    have hP : va_P D vwCl (RW D a s24) H := hP
    have hl : lv_has ls 2 [(0, .ref (a 200))] := hl
    have h : m_x12_isOwnHere_J294 s24 = some o := h
    unfold m_x12_isOwnHere_J294 at h
    refine lv_iconst (v := 1) hx hb eX12_isOwnHere_280.2.2.2.2.2.2.1 (by decide) ?_
    refine lv_goto (tgt := 299) hx hb eX12_isOwnHere_280.2.2.2.2.2.2.2 (by decide) ?_
    exact J299 (1, s24) _ _ _ ⟨hP, hS, lv_sub hl [0] rfl, h⟩
  refine y_head (pcJ := 223) (σ := Int × MS) (fun u H locs ls => va_P D vwCl (RW D a u.2) H ∧ va_S A s₀.heap H locs ∧ lv_has ls 2 [(0, .ref (a 200))] ∧ m_x12_isOwnHere_J223 u.1 u.2 = some o) (fun u => [.int (i2 u.1)]) (fun u H locs ls hI => ?_) (fun J223 => ?_)
  · obtain ⟨hP, hS, hl, h⟩ := hI
    obtain ⟨x25, s26⟩ := u
    have hP : va_P D vwCl (RW D a s26) H := hP
    have hl : lv_has ls 2 [(0, .ref (a 200))] := hl
    have h : m_x12_isOwnHere_J223 x25 s26 = some o := h
    unfold m_x12_isOwnHere_J223 at h
    refine lv_istore_n (lv' := [(1, .int (i2 x25)), (0, .ref (a 200))]) hx hb eX12_isOwnHere_212.2.2.2.2.2.1 rfl hl (by decide) rfl (fun ls hl => ?_)
    refine lv_iload_n hx hb eX12_isOwnHere_212.2.2.2.2.2.2.1 rfl (lv_at hl 0 rfl) ?_
    obtain ⟨hr27, h⟩ := rg_e h
    refine lv_if_ne (tgt := 294) hx hb eX12_isOwnHere_212.2.2.2.2.2.2.2 (by decide) (fun c28 => ?_) (fun c28 => ?_)
    · have h := if_f (mt (i2_eq (x := x25) (y := 0) hr27 (by decide)).mpr c28) h
      exact J294 s26 _ _ _ ⟨hP, hS, lv_sub hl [1] rfl, h⟩
    · have h := if_t ((i2_eq (x := x25) (y := 0) hr27 (by decide)).mp c28) h
      refine lv_aload_n hx hb eX12_isOwnHere_228.1 rfl (lv_at hl 1 rfl) ?_
      refine lv_aload_n hx hb eX12_isOwnHere_228.2.1 rfl (lv_at hl 1 rfl) ?_
      refine va_get (D := D) (ci := 12) (v := .ref (a 29)) (C := RX12) (T := TX12) (N := 116) hx hb ht inX12 hown hK hP 0 RW_0 rfl 29 (by decide) (ht (.fieldLink RX12 75 "CloneVolumesModel" "savedWord" "[C") fl_X12_75) (fun _ h9 => h9) mF_29 eX12_isOwnHere_228.2.2.1 ?_
      obtain ⟨⟨r31, s30⟩, hc29, h⟩ := bn_e h
      refine ywV (r0 := i2 r31) (As := [.ref (a 29)]) (rest := []) (C := RX12) (n := 1) (ws' := RW D a s30) ⟨hx, hb, hml, hown, ht⟩ (k_x12_isHere l D a 21 (a 29) 29 5 (fun _ => RW_21) (by decide) _ _ _ hc29) (zgV ml_X12_289 im_X12_isHere se_X12_isHere in_X12 co_X12_isHere) rfl rfl (by decide +kernel) ⟨Nat.le_of_ble_eq_true rfl, Nat.le_of_ble_eq_true rfl⟩ hN hK hP (hDD _) hS hA 0 RW_0 rfl rfl rfl hl.1 rfl (Nat.le_of_ble_eq_true rfl) eX12_isOwnHere_228.2.2.2.1 ⟨Nat.le_of_ble_eq_true rfl, Nat.le_of_ble_eq_true rfl⟩ (fun H locs hP hS => ?_)
      obtain ⟨hr32, h⟩ := rg_e h
      refine lv_if_ne (tgt := 294) hx hb eX12_isOwnHere_228.2.2.2.2.1 (by decide) (fun c33 => ?_) (fun c33 => ?_)
      · have h := if_f (mt (i2_eq (x := r31) (y := 0) hr32 (by decide)).mpr c33) h
        exact J294 s30 _ _ _ ⟨hP, hS, lv_sub hl [1] rfl, h⟩
      · have h := if_t ((i2_eq (x := r31) (y := 0) hr32 (by decide)).mp c33) h
        refine lv_aload_n hx hb eX12_isOwnHere_228.2.2.2.2.2.1 rfl (lv_at hl 1 rfl) ?_
        refine lv_aload_n hx hb eX12_isOwnHere_228.2.2.2.2.2.2.1 rfl (lv_at hl 1 rfl) ?_
        refine va_get (D := D) (ci := 12) (v := .ref (a 30)) (C := RX12) (T := TX12) (N := 116) hx hb ht inX12 hown hK hP 0 RW_0 rfl 30 (by decide) (ht (.fieldLink RX12 78 "CloneVolumesModel" "refsWord" "[C") fl_X12_78) (fun _ h9 => h9) mF_30 eX12_isOwnHere_228.2.2.2.2.2.2.2 ?_
        obtain ⟨⟨r36, s35⟩, hc34, h⟩ := bn_e h
        refine ywV (r0 := i2 r36) (As := [.ref (a 30)]) (rest := []) (C := RX12) (n := 1) (ws' := RW D a s35) ⟨hx, hb, hml, hown, ht⟩ (k_x12_isHere l D a 22 (a 30) 30 4 (fun _ => RW_22) (by decide) _ _ _ hc34) (zgV ml_X12_289 im_X12_isHere se_X12_isHere in_X12 co_X12_isHere) rfl rfl (by decide +kernel) ⟨Nat.le_of_ble_eq_true rfl, Nat.le_of_ble_eq_true rfl⟩ hN hK hP (hDD _) hS hA 0 RW_0 rfl rfl rfl hl.1 rfl (Nat.le_of_ble_eq_true rfl) eX12_isOwnHere_244.1 ⟨Nat.le_of_ble_eq_true rfl, Nat.le_of_ble_eq_true rfl⟩ (fun H locs hP hS => ?_)
        obtain ⟨hr37, h⟩ := rg_e h
        refine lv_if_ne (tgt := 294) hx hb eX12_isOwnHere_244.2.1 (by decide) (fun c38 => ?_) (fun c38 => ?_)
        · have h := if_f (mt (i2_eq (x := r36) (y := 0) hr37 (by decide)).mpr c38) h
          exact J294 s35 _ _ _ ⟨hP, hS, lv_sub hl [1] rfl, h⟩
        · have h := if_t ((i2_eq (x := r36) (y := 0) hr37 (by decide)).mp c38) h
          refine lv_aload_n hx hb eX12_isOwnHere_244.2.2.1 rfl (lv_at hl 1 rfl) ?_
          refine lv_aload_n hx hb eX12_isOwnHere_244.2.2.2.1 rfl (lv_at hl 1 rfl) ?_
          refine va_get (D := D) (ci := 12) (v := .ref (a 31)) (C := RX12) (T := TX12) (N := 116) hx hb ht inX12 hown hK hP 0 RW_0 rfl 31 (by decide) (ht (.fieldLink RX12 81 "CloneVolumesModel" "keyWord" "[C") fl_X12_81) (fun _ h9 => h9) mF_31 eX12_isOwnHere_244.2.2.2.2.1 ?_
          obtain ⟨⟨r41, s40⟩, hc39, h⟩ := bn_e h
          refine ywV (r0 := i2 r41) (As := [.ref (a 31)]) (rest := []) (C := RX12) (n := 1) (ws' := RW D a s40) ⟨hx, hb, hml, hown, ht⟩ (k_x12_isHere l D a 23 (a 31) 31 3 (fun _ => RW_23) (by decide) _ _ _ hc39) (zgV ml_X12_289 im_X12_isHere se_X12_isHere in_X12 co_X12_isHere) rfl rfl (by decide +kernel) ⟨Nat.le_of_ble_eq_true rfl, Nat.le_of_ble_eq_true rfl⟩ hN hK hP (hDD _) hS hA 0 RW_0 rfl rfl rfl hl.1 rfl (Nat.le_of_ble_eq_true rfl) eX12_isOwnHere_244.2.2.2.2.2.1 ⟨Nat.le_of_ble_eq_true rfl, Nat.le_of_ble_eq_true rfl⟩ (fun H locs hP hS => ?_)
          obtain ⟨hr42, h⟩ := rg_e h
          refine lv_if_ne (tgt := 294) hx hb eX12_isOwnHere_244.2.2.2.2.2.2.1 (by decide) (fun c43 => ?_) (fun c43 => ?_)
          · have h := if_f (mt (i2_eq (x := r41) (y := 0) hr42 (by decide)).mpr c43) h
            exact J294 s40 _ _ _ ⟨hP, hS, lv_sub hl [1] rfl, h⟩
          · have h := if_t ((i2_eq (x := r41) (y := 0) hr42 (by decide)).mp c43) h
            refine lv_aload_n hx hb eX12_isOwnHere_244.2.2.2.2.2.2.2 rfl (lv_at hl 1 rfl) ?_
            refine lv_aload_n hx hb eX12_isOwnHere_262.1 rfl (lv_at hl 1 rfl) ?_
            refine va_get (D := D) (ci := 12) (v := .ref (a 32)) (C := RX12) (T := TX12) (N := 116) hx hb ht inX12 hown hK hP 0 RW_0 rfl 32 (by decide) (ht (.fieldLink RX12 84 "CloneVolumesModel" "orWord" "[C") fl_X12_84) (fun _ h9 => h9) mF_32 eX12_isOwnHere_262.2.1 ?_
            obtain ⟨⟨r46, s45⟩, hc44, h⟩ := bn_e h
            refine ywV (r0 := i2 r46) (As := [.ref (a 32)]) (rest := []) (C := RX12) (n := 1) (ws' := RW D a s45) ⟨hx, hb, hml, hown, ht⟩ (k_x12_isHere l D a 24 (a 32) 32 2 (fun _ => RW_24) (by decide) _ _ _ hc44) (zgV ml_X12_289 im_X12_isHere se_X12_isHere in_X12 co_X12_isHere) rfl rfl (by decide +kernel) ⟨Nat.le_of_ble_eq_true rfl, Nat.le_of_ble_eq_true rfl⟩ hN hK hP (hDD _) hS hA 0 RW_0 rfl rfl rfl hl.1 rfl (Nat.le_of_ble_eq_true rfl) eX12_isOwnHere_262.2.2.1 ⟨Nat.le_of_ble_eq_true rfl, Nat.le_of_ble_eq_true rfl⟩ (fun H locs hP hS => ?_)
            obtain ⟨hr47, h⟩ := rg_e h
            refine lv_if_ne (tgt := 294) hx hb eX12_isOwnHere_262.2.2.2.1 (by decide) (fun c48 => ?_) (fun c48 => ?_)
            · have h := if_f (mt (i2_eq (x := r46) (y := 0) hr47 (by decide)).mpr c48) h
              exact J294 s45 _ _ _ ⟨hP, hS, lv_sub hl [1] rfl, h⟩
            · have h := if_t ((i2_eq (x := r46) (y := 0) hr47 (by decide)).mp c48) h
              refine lv_aload_n hx hb eX12_isOwnHere_262.2.2.2.2.1 rfl (lv_at hl 1 rfl) ?_
              refine lv_aload_n hx hb eX12_isOwnHere_262.2.2.2.2.2.1 rfl (lv_at hl 1 rfl) ?_
              refine va_get (D := D) (ci := 12) (v := .ref (a 33)) (C := RX12) (T := TX12) (N := 116) hx hb ht inX12 hown hK hP 0 RW_0 rfl 33 (by decide) (ht (.fieldLink RX12 87 "CloneVolumesModel" "andWord" "[C") fl_X12_87) (fun _ h9 => h9) mF_33 eX12_isOwnHere_262.2.2.2.2.2.2.1 ?_
              obtain ⟨⟨r51, s50⟩, hc49, h⟩ := bn_e h
              refine ywV (r0 := i2 r51) (As := [.ref (a 33)]) (rest := []) (C := RX12) (n := 1) (ws' := RW D a s50) ⟨hx, hb, hml, hown, ht⟩ (k_x12_isHere l D a 25 (a 33) 33 3 (fun _ => RW_25) (by decide) _ _ _ hc49) (zgV ml_X12_289 im_X12_isHere se_X12_isHere in_X12 co_X12_isHere) rfl rfl (by decide +kernel) ⟨Nat.le_of_ble_eq_true rfl, Nat.le_of_ble_eq_true rfl⟩ hN hK hP (hDD _) hS hA 0 RW_0 rfl rfl rfl hl.1 rfl (Nat.le_of_ble_eq_true rfl) eX12_isOwnHere_262.2.2.2.2.2.2.2 ⟨Nat.le_of_ble_eq_true rfl, Nat.le_of_ble_eq_true rfl⟩ (fun H locs hP hS => ?_)
              obtain ⟨hr52, h⟩ := rg_e h
              refine lv_if_ne (tgt := 294) hx hb eX12_isOwnHere_280.1 (by decide) (fun c53 => ?_) (fun c53 => ?_)
              · have h := if_f (mt (i2_eq (x := r51) (y := 0) hr52 (by decide)).mpr c53) h
                exact J294 s50 _ _ _ ⟨hP, hS, lv_sub hl [1] rfl, h⟩
              · have h := if_t ((i2_eq (x := r51) (y := 0) hr52 (by decide)).mp c53) h
                refine lv_aload_n hx hb eX12_isOwnHere_280.2.1 rfl (lv_at hl 1 rfl) ?_
                refine lv_aload_n hx hb eX12_isOwnHere_280.2.2.1 rfl (lv_at hl 1 rfl) ?_
                refine va_get (D := D) (ci := 12) (v := .ref (a 34)) (C := RX12) (T := TX12) (N := 116) hx hb ht inX12 hown hK hP 0 RW_0 rfl 34 (by decide) (ht (.fieldLink RX12 90 "CloneVolumesModel" "notWord" "[C") fl_X12_90) (fun _ h9 => h9) mF_34 eX12_isOwnHere_280.2.2.2.1 ?_
                obtain ⟨⟨r56, s55⟩, hc54, h⟩ := bn_e h
                refine ywV (r0 := i2 r56) (As := [.ref (a 34)]) (rest := []) (C := RX12) (n := 1) (ws' := RW D a s55) ⟨hx, hb, hml, hown, ht⟩ (k_x12_isHere l D a 26 (a 34) 34 3 (fun _ => RW_26) (by decide) _ _ _ hc54) (zgV ml_X12_289 im_X12_isHere se_X12_isHere in_X12 co_X12_isHere) rfl rfl (by decide +kernel) ⟨Nat.le_of_ble_eq_true rfl, Nat.le_of_ble_eq_true rfl⟩ hN hK hP (hDD _) hS hA 0 RW_0 rfl rfl rfl hl.1 rfl (Nat.le_of_ble_eq_true rfl) eX12_isOwnHere_280.2.2.2.2.1 ⟨Nat.le_of_ble_eq_true rfl, Nat.le_of_ble_eq_true rfl⟩ (fun H locs hP hS => ?_)
                obtain ⟨hr57, h⟩ := rg_e h
                refine lv_if_eq (tgt := 298) hx hb eX12_isOwnHere_280.2.2.2.2.2.1 (by decide) (fun c58 => ?_) (fun c58 => ?_)
                · have h := if_t ((i2_eq (x := r56) (y := 0) hr57 (by decide)).mp c58) h
                  refine lv_iconst (v := 0) hx hb eX12_isOwnHere_298.1 (by decide) ?_
                  exact J299 (0, s55) _ _ _ ⟨hP, hS, lv_sub hl [1] rfl, h⟩
                · have h := if_f (mt (i2_eq (x := r56) (y := 0) hr57 (by decide)).mpr c58) h
                  exact J294 s55 _ _ _ ⟨hP, hS, lv_sub hl [1] rfl, h⟩
  refine y_head (pcJ := 218) (σ := MS) (fun u H locs ls => va_P D vwCl (RW D a u) H ∧ va_S A s₀.heap H locs ∧ lv_has ls 2 [(0, .ref (a 200))] ∧ m_x12_isOwnHere_J218 u = some o) (fun u => []) (fun u H locs ls hI => ?_) (fun J218 => ?_)
  · obtain ⟨hP, hS, hl, h⟩ := hI
    obtain ⟨s59, rfl⟩ : ∃ z, z = u := ⟨u, rfl⟩
    have hP : va_P D vwCl (RW D a s59) H := hP
    have hl : lv_has ls 2 [(0, .ref (a 200))] := hl
    have h : m_x12_isOwnHere_J218 s59 = some o := h
    unfold m_x12_isOwnHere_J218 at h
    refine lv_iconst (v := 1) hx hb eX12_isOwnHere_212.2.2.1 (by decide) ?_
    refine lv_goto (tgt := 223) hx hb eX12_isOwnHere_212.2.2.2.1 (by decide) ?_
    exact J223 (1, s59) _ _ _ ⟨hP, hS, lv_sub hl [0] rfl, h⟩
  refine y_head (pcJ := 147) (σ := Int × MS) (fun u H locs ls => va_P D vwCl (RW D a u.2) H ∧ va_S A s₀.heap H locs ∧ lv_has ls 2 [(0, .ref (a 200))] ∧ m_x12_isOwnHere_J147 u.1 u.2 = some o) (fun u => [.int (i2 u.1)]) (fun u H locs ls hI => ?_) (fun J147 => ?_)
  · obtain ⟨hP, hS, hl, h⟩ := hI
    obtain ⟨x60, s61⟩ := u
    have hP : va_P D vwCl (RW D a s61) H := hP
    have hl : lv_has ls 2 [(0, .ref (a 200))] := hl
    have h : m_x12_isOwnHere_J147 x60 s61 = some o := h
    unfold m_x12_isOwnHere_J147 at h
    refine lv_istore_n (lv' := [(1, .int (i2 x60)), (0, .ref (a 200))]) hx hb eX12_isOwnHere_146.2.1 rfl hl (by decide) rfl (fun ls hl => ?_)
    refine lv_iload_n hx hb eX12_isOwnHere_146.2.2.1 rfl (lv_at hl 0 rfl) ?_
    obtain ⟨hr62, h⟩ := rg_e h
    refine lv_if_ne (tgt := 218) hx hb eX12_isOwnHere_146.2.2.2.1 (by decide) (fun c63 => ?_) (fun c63 => ?_)
    · have h := if_f (mt (i2_eq (x := x60) (y := 0) hr62 (by decide)).mpr c63) h
      exact J218 s61 _ _ _ ⟨hP, hS, lv_sub hl [1] rfl, h⟩
    · have h := if_t ((i2_eq (x := x60) (y := 0) hr62 (by decide)).mp c63) h
      refine lv_aload_n hx hb eX12_isOwnHere_146.2.2.2.2.1 rfl (lv_at hl 1 rfl) ?_
      refine lv_aload_n hx hb eX12_isOwnHere_146.2.2.2.2.2.1 rfl (lv_at hl 1 rfl) ?_
      refine va_get (D := D) (ci := 12) (v := .ref (a 23)) (C := RX12) (T := TX12) (N := 116) hx hb ht inX12 hown hK hP 0 RW_0 rfl 23 (by decide) (ht (.fieldLink RX12 57 "CloneVolumesModel" "fromWord" "[C") fl_X12_57) (fun _ h9 => h9) mF_23 eX12_isOwnHere_146.2.2.2.2.2.2.1 ?_
      obtain ⟨⟨r66, s65⟩, hc64, h⟩ := bn_e h
      refine ywV (r0 := i2 r66) (As := [.ref (a 23)]) (rest := []) (C := RX12) (n := 1) (ws' := RW D a s65) ⟨hx, hb, hml, hown, ht⟩ (k_x12_isHere l D a 15 (a 23) 23 4 (fun _ => RW_15) (by decide) _ _ _ hc64) (zgV ml_X12_289 im_X12_isHere se_X12_isHere in_X12 co_X12_isHere) rfl rfl (by decide +kernel) ⟨Nat.le_of_ble_eq_true rfl, Nat.le_of_ble_eq_true rfl⟩ hN hK hP (hDD _) hS hA 0 RW_0 rfl rfl rfl hl.1 rfl (Nat.le_of_ble_eq_true rfl) eX12_isOwnHere_146.2.2.2.2.2.2.2 ⟨Nat.le_of_ble_eq_true rfl, Nat.le_of_ble_eq_true rfl⟩ (fun H locs hP hS => ?_)
      obtain ⟨hr67, h⟩ := rg_e h
      refine lv_if_ne (tgt := 218) hx hb eX12_isOwnHere_160.1 (by decide) (fun c68 => ?_) (fun c68 => ?_)
      · have h := if_f (mt (i2_eq (x := r66) (y := 0) hr67 (by decide)).mpr c68) h
        exact J218 s65 _ _ _ ⟨hP, hS, lv_sub hl [1] rfl, h⟩
      · have h := if_t ((i2_eq (x := r66) (y := 0) hr67 (by decide)).mp c68) h
        refine lv_aload_n hx hb eX12_isOwnHere_160.2.1 rfl (lv_at hl 1 rfl) ?_
        refine lv_aload_n hx hb eX12_isOwnHere_160.2.2.1 rfl (lv_at hl 1 rfl) ?_
        refine va_get (D := D) (ci := 12) (v := .ref (a 24)) (C := RX12) (T := TX12) (N := 116) hx hb ht inX12 hown hK hP 0 RW_0 rfl 24 (by decide) (ht (.fieldLink RX12 60 "CloneVolumesModel" "levelWord" "[C") fl_X12_60) (fun _ h9 => h9) mF_24 eX12_isOwnHere_160.2.2.2.1 ?_
        obtain ⟨⟨r71, s70⟩, hc69, h⟩ := bn_e h
        refine ywV (r0 := i2 r71) (As := [.ref (a 24)]) (rest := []) (C := RX12) (n := 1) (ws' := RW D a s70) ⟨hx, hb, hml, hown, ht⟩ (k_x12_isHere l D a 16 (a 24) 24 5 (fun _ => RW_16) (by decide) _ _ _ hc69) (zgV ml_X12_289 im_X12_isHere se_X12_isHere in_X12 co_X12_isHere) rfl rfl (by decide +kernel) ⟨Nat.le_of_ble_eq_true rfl, Nat.le_of_ble_eq_true rfl⟩ hN hK hP (hDD _) hS hA 0 RW_0 rfl rfl rfl hl.1 rfl (Nat.le_of_ble_eq_true rfl) eX12_isOwnHere_160.2.2.2.2.1 ⟨Nat.le_of_ble_eq_true rfl, Nat.le_of_ble_eq_true rfl⟩ (fun H locs hP hS => ?_)
        obtain ⟨hr72, h⟩ := rg_e h
        refine lv_if_ne (tgt := 218) hx hb eX12_isOwnHere_160.2.2.2.2.2.1 (by decide) (fun c73 => ?_) (fun c73 => ?_)
        · have h := if_f (mt (i2_eq (x := r71) (y := 0) hr72 (by decide)).mpr c73) h
          exact J218 s70 _ _ _ ⟨hP, hS, lv_sub hl [1] rfl, h⟩
        · have h := if_t ((i2_eq (x := r71) (y := 0) hr72 (by decide)).mp c73) h
          refine lv_aload_n hx hb eX12_isOwnHere_160.2.2.2.2.2.2.1 rfl (lv_at hl 1 rfl) ?_
          refine lv_aload_n hx hb eX12_isOwnHere_160.2.2.2.2.2.2.2 rfl (lv_at hl 1 rfl) ?_
          refine va_get (D := D) (ci := 12) (v := .ref (a 25)) (C := RX12) (T := TX12) (N := 116) hx hb ht inX12 hown hK hP 0 RW_0 rfl 25 (by decide) (ht (.fieldLink RX12 63 "CloneVolumesModel" "entriesWord" "[C") fl_X12_63) (fun _ h9 => h9) mF_25 eX12_isOwnHere_176.1 ?_
          obtain ⟨⟨r76, s75⟩, hc74, h⟩ := bn_e h
          refine ywV (r0 := i2 r76) (As := [.ref (a 25)]) (rest := []) (C := RX12) (n := 1) (ws' := RW D a s75) ⟨hx, hb, hml, hown, ht⟩ (k_x12_isHere l D a 17 (a 25) 25 7 (fun _ => RW_17) (by decide) _ _ _ hc74) (zgV ml_X12_289 im_X12_isHere se_X12_isHere in_X12 co_X12_isHere) rfl rfl (by decide +kernel) ⟨Nat.le_of_ble_eq_true rfl, Nat.le_of_ble_eq_true rfl⟩ hN hK hP (hDD _) hS hA 0 RW_0 rfl rfl rfl hl.1 rfl (Nat.le_of_ble_eq_true rfl) eX12_isOwnHere_176.2.1 ⟨Nat.le_of_ble_eq_true rfl, Nat.le_of_ble_eq_true rfl⟩ (fun H locs hP hS => ?_)
          obtain ⟨hr77, h⟩ := rg_e h
          refine lv_if_ne (tgt := 218) hx hb eX12_isOwnHere_176.2.2.1 (by decide) (fun c78 => ?_) (fun c78 => ?_)
          · have h := if_f (mt (i2_eq (x := r76) (y := 0) hr77 (by decide)).mpr c78) h
            exact J218 s75 _ _ _ ⟨hP, hS, lv_sub hl [1] rfl, h⟩
          · have h := if_t ((i2_eq (x := r76) (y := 0) hr77 (by decide)).mp c78) h
            refine lv_aload_n hx hb eX12_isOwnHere_176.2.2.2.1 rfl (lv_at hl 1 rfl) ?_
            refine lv_aload_n hx hb eX12_isOwnHere_176.2.2.2.2.1 rfl (lv_at hl 1 rfl) ?_
            refine va_get (D := D) (ci := 12) (v := .ref (a 26)) (C := RX12) (T := TX12) (N := 116) hx hb ht inX12 hown hK hP 0 RW_0 rfl 26 (by decide) (ht (.fieldLink RX12 66 "CloneVolumesModel" "numberWord" "[C") fl_X12_66) (fun _ h9 => h9) mF_26 eX12_isOwnHere_176.2.2.2.2.2.1 ?_
            obtain ⟨⟨r81, s80⟩, hc79, h⟩ := bn_e h
            refine ywV (r0 := i2 r81) (As := [.ref (a 26)]) (rest := []) (C := RX12) (n := 1) (ws' := RW D a s80) ⟨hx, hb, hml, hown, ht⟩ (k_x12_isHere l D a 18 (a 26) 26 6 (fun _ => RW_18) (by decide) _ _ _ hc79) (zgV ml_X12_289 im_X12_isHere se_X12_isHere in_X12 co_X12_isHere) rfl rfl (by decide +kernel) ⟨Nat.le_of_ble_eq_true rfl, Nat.le_of_ble_eq_true rfl⟩ hN hK hP (hDD _) hS hA 0 RW_0 rfl rfl rfl hl.1 rfl (Nat.le_of_ble_eq_true rfl) eX12_isOwnHere_176.2.2.2.2.2.2.1 ⟨Nat.le_of_ble_eq_true rfl, Nat.le_of_ble_eq_true rfl⟩ (fun H locs hP hS => ?_)
            obtain ⟨hr82, h⟩ := rg_e h
            refine lv_if_ne (tgt := 218) hx hb eX12_isOwnHere_176.2.2.2.2.2.2.2 (by decide) (fun c83 => ?_) (fun c83 => ?_)
            · have h := if_f (mt (i2_eq (x := r81) (y := 0) hr82 (by decide)).mpr c83) h
              exact J218 s80 _ _ _ ⟨hP, hS, lv_sub hl [1] rfl, h⟩
            · have h := if_t ((i2_eq (x := r81) (y := 0) hr82 (by decide)).mp c83) h
              refine lv_aload_n hx hb eX12_isOwnHere_196.1 rfl (lv_at hl 1 rfl) ?_
              refine lv_aload_n hx hb eX12_isOwnHere_196.2.1 rfl (lv_at hl 1 rfl) ?_
              refine va_get (D := D) (ci := 12) (v := .ref (a 27)) (C := RX12) (T := TX12) (N := 116) hx hb ht inX12 hown hK hP 0 RW_0 rfl 27 (by decide) (ht (.fieldLink RX12 69 "CloneVolumesModel" "countWord" "[C") fl_X12_69) (fun _ h9 => h9) mF_27 eX12_isOwnHere_196.2.2.1 ?_
              obtain ⟨⟨r86, s85⟩, hc84, h⟩ := bn_e h
              refine ywV (r0 := i2 r86) (As := [.ref (a 27)]) (rest := []) (C := RX12) (n := 1) (ws' := RW D a s85) ⟨hx, hb, hml, hown, ht⟩ (k_x12_isHere l D a 19 (a 27) 27 5 (fun _ => RW_19) (by decide) _ _ _ hc84) (zgV ml_X12_289 im_X12_isHere se_X12_isHere in_X12 co_X12_isHere) rfl rfl (by decide +kernel) ⟨Nat.le_of_ble_eq_true rfl, Nat.le_of_ble_eq_true rfl⟩ hN hK hP (hDD _) hS hA 0 RW_0 rfl rfl rfl hl.1 rfl (Nat.le_of_ble_eq_true rfl) eX12_isOwnHere_196.2.2.2.1 ⟨Nat.le_of_ble_eq_true rfl, Nat.le_of_ble_eq_true rfl⟩ (fun H locs hP hS => ?_)
              obtain ⟨hr87, h⟩ := rg_e h
              refine lv_if_ne (tgt := 218) hx hb eX12_isOwnHere_196.2.2.2.2.1 (by decide) (fun c88 => ?_) (fun c88 => ?_)
              · have h := if_f (mt (i2_eq (x := r86) (y := 0) hr87 (by decide)).mpr c88) h
                exact J218 s85 _ _ _ ⟨hP, hS, lv_sub hl [1] rfl, h⟩
              · have h := if_t ((i2_eq (x := r86) (y := 0) hr87 (by decide)).mp c88) h
                refine lv_aload_n hx hb eX12_isOwnHere_196.2.2.2.2.2.1 rfl (lv_at hl 1 rfl) ?_
                refine lv_aload_n hx hb eX12_isOwnHere_196.2.2.2.2.2.2.1 rfl (lv_at hl 1 rfl) ?_
                refine va_get (D := D) (ci := 12) (v := .ref (a 28)) (C := RX12) (T := TX12) (N := 116) hx hb ht inX12 hown hK hP 0 RW_0 rfl 28 (by decide) (ht (.fieldLink RX12 72 "CloneVolumesModel" "freshWord" "[C") fl_X12_72) (fun _ h9 => h9) mF_28 eX12_isOwnHere_196.2.2.2.2.2.2.2 ?_
                obtain ⟨⟨r91, s90⟩, hc89, h⟩ := bn_e h
                refine ywV (r0 := i2 r91) (As := [.ref (a 28)]) (rest := []) (C := RX12) (n := 1) (ws' := RW D a s90) ⟨hx, hb, hml, hown, ht⟩ (k_x12_isHere l D a 20 (a 28) 28 5 (fun _ => RW_20) (by decide) _ _ _ hc89) (zgV ml_X12_289 im_X12_isHere se_X12_isHere in_X12 co_X12_isHere) rfl rfl (by decide +kernel) ⟨Nat.le_of_ble_eq_true rfl, Nat.le_of_ble_eq_true rfl⟩ hN hK hP (hDD _) hS hA 0 RW_0 rfl rfl rfl hl.1 rfl (Nat.le_of_ble_eq_true rfl) eX12_isOwnHere_212.1 ⟨Nat.le_of_ble_eq_true rfl, Nat.le_of_ble_eq_true rfl⟩ (fun H locs hP hS => ?_)
                obtain ⟨hr92, h⟩ := rg_e h
                refine lv_if_eq (tgt := 222) hx hb eX12_isOwnHere_212.2.1 (by decide) (fun c93 => ?_) (fun c93 => ?_)
                · have h := if_t ((i2_eq (x := r91) (y := 0) hr92 (by decide)).mp c93) h
                  refine lv_iconst (v := 0) hx hb eX12_isOwnHere_212.2.2.2.2.1 (by decide) ?_
                  exact J223 (0, s90) _ _ _ ⟨hP, hS, lv_sub hl [1] rfl, h⟩
                · have h := if_f (mt (i2_eq (x := r91) (y := 0) hr92 (by decide)).mpr c93) h
                  exact J218 s90 _ _ _ ⟨hP, hS, lv_sub hl [1] rfl, h⟩
  refine y_head (pcJ := 142) (σ := MS) (fun u H locs ls => va_P D vwCl (RW D a u) H ∧ va_S A s₀.heap H locs ∧ lv_has ls 2 [(0, .ref (a 200))] ∧ m_x12_isOwnHere_J142 u = some o) (fun u => []) (fun u H locs ls hI => ?_) (fun J142 => ?_)
  · obtain ⟨hP, hS, hl, h⟩ := hI
    obtain ⟨s94, rfl⟩ : ∃ z, z = u := ⟨u, rfl⟩
    have hP : va_P D vwCl (RW D a s94) H := hP
    have hl : lv_has ls 2 [(0, .ref (a 200))] := hl
    have h : m_x12_isOwnHere_J142 s94 = some o := h
    unfold m_x12_isOwnHere_J142 at h
    refine lv_iconst (v := 1) hx hb eX12_isOwnHere_128.2.2.2.2.2.2.1 (by decide) ?_
    refine lv_goto (tgt := 147) hx hb eX12_isOwnHere_128.2.2.2.2.2.2.2 (by decide) ?_
    exact J147 (1, s94) _ _ _ ⟨hP, hS, lv_sub hl [0] rfl, h⟩
  refine y_head (pcJ := 71) (σ := Int × MS) (fun u H locs ls => va_P D vwCl (RW D a u.2) H ∧ va_S A s₀.heap H locs ∧ lv_has ls 2 [(0, .ref (a 200))] ∧ m_x12_isOwnHere_J71 u.1 u.2 = some o) (fun u => [.int (i2 u.1)]) (fun u H locs ls hI => ?_) (fun J71 => ?_)
  · obtain ⟨hP, hS, hl, h⟩ := hI
    obtain ⟨x95, s96⟩ := u
    have hP : va_P D vwCl (RW D a s96) H := hP
    have hl : lv_has ls 2 [(0, .ref (a 200))] := hl
    have h : m_x12_isOwnHere_J71 x95 s96 = some o := h
    unfold m_x12_isOwnHere_J71 at h
    refine lv_istore_n (lv' := [(1, .int (i2 x95)), (0, .ref (a 200))]) hx hb eX12_isOwnHere_60.2.2.2.2.2.1 rfl hl (by decide) rfl (fun ls hl => ?_)
    refine lv_iload_n hx hb eX12_isOwnHere_60.2.2.2.2.2.2.1 rfl (lv_at hl 0 rfl) ?_
    obtain ⟨hr97, h⟩ := rg_e h
    refine lv_if_ne (tgt := 142) hx hb eX12_isOwnHere_60.2.2.2.2.2.2.2 (by decide) (fun c98 => ?_) (fun c98 => ?_)
    · have h := if_f (mt (i2_eq (x := x95) (y := 0) hr97 (by decide)).mpr c98) h
      exact J142 s96 _ _ _ ⟨hP, hS, lv_sub hl [1] rfl, h⟩
    · have h := if_t ((i2_eq (x := x95) (y := 0) hr97 (by decide)).mp c98) h
      refine lv_aload_n hx hb eX12_isOwnHere_76.1 rfl (lv_at hl 1 rfl) ?_
      refine lv_aload_n hx hb eX12_isOwnHere_76.2.1 rfl (lv_at hl 1 rfl) ?_
      refine va_get (D := D) (ci := 12) (v := .ref (a 17)) (C := RX12) (T := TX12) (N := 116) hx hb ht inX12 hown hK hP 0 RW_0 rfl 17 (by decide) (ht (.fieldLink RX12 39 "CloneVolumesModel" "removeWord" "[C") fl_X12_39) (fun _ h9 => h9) mF_17 eX12_isOwnHere_76.2.2.1 ?_
      obtain ⟨⟨r101, s100⟩, hc99, h⟩ := bn_e h
      refine ywV (r0 := i2 r101) (As := [.ref (a 17)]) (rest := []) (C := RX12) (n := 1) (ws' := RW D a s100) ⟨hx, hb, hml, hown, ht⟩ (k_x12_isHere l D a 9 (a 17) 17 6 (fun _ => RW_9) (by decide) _ _ _ hc99) (zgV ml_X12_289 im_X12_isHere se_X12_isHere in_X12 co_X12_isHere) rfl rfl (by decide +kernel) ⟨Nat.le_of_ble_eq_true rfl, Nat.le_of_ble_eq_true rfl⟩ hN hK hP (hDD _) hS hA 0 RW_0 rfl rfl rfl hl.1 rfl (Nat.le_of_ble_eq_true rfl) eX12_isOwnHere_76.2.2.2.1 ⟨Nat.le_of_ble_eq_true rfl, Nat.le_of_ble_eq_true rfl⟩ (fun H locs hP hS => ?_)
      obtain ⟨hr102, h⟩ := rg_e h
      refine lv_if_ne (tgt := 142) hx hb eX12_isOwnHere_76.2.2.2.2.1 (by decide) (fun c103 => ?_) (fun c103 => ?_)
      · have h := if_f (mt (i2_eq (x := r101) (y := 0) hr102 (by decide)).mpr c103) h
        exact J142 s100 _ _ _ ⟨hP, hS, lv_sub hl [1] rfl, h⟩
      · have h := if_t ((i2_eq (x := r101) (y := 0) hr102 (by decide)).mp c103) h
        refine lv_aload_n hx hb eX12_isOwnHere_76.2.2.2.2.2.1 rfl (lv_at hl 1 rfl) ?_
        refine lv_aload_n hx hb eX12_isOwnHere_76.2.2.2.2.2.2.1 rfl (lv_at hl 1 rfl) ?_
        refine va_get (D := D) (ci := 12) (v := .ref (a 18)) (C := RX12) (T := TX12) (N := 116) hx hb ht inX12 hown hK hP 0 RW_0 rfl 18 (by decide) (ht (.fieldLink RX12 42 "CloneVolumesModel" "picksWord" "[C") fl_X12_42) (fun _ h9 => h9) mF_18 eX12_isOwnHere_76.2.2.2.2.2.2.2 ?_
        obtain ⟨⟨r106, s105⟩, hc104, h⟩ := bn_e h
        refine ywV (r0 := i2 r106) (As := [.ref (a 18)]) (rest := []) (C := RX12) (n := 1) (ws' := RW D a s105) ⟨hx, hb, hml, hown, ht⟩ (k_x12_isHere l D a 10 (a 18) 18 5 (fun _ => RW_10) (by decide) _ _ _ hc104) (zgV ml_X12_289 im_X12_isHere se_X12_isHere in_X12 co_X12_isHere) rfl rfl (by decide +kernel) ⟨Nat.le_of_ble_eq_true rfl, Nat.le_of_ble_eq_true rfl⟩ hN hK hP (hDD _) hS hA 0 RW_0 rfl rfl rfl hl.1 rfl (Nat.le_of_ble_eq_true rfl) eX12_isOwnHere_92.1 ⟨Nat.le_of_ble_eq_true rfl, Nat.le_of_ble_eq_true rfl⟩ (fun H locs hP hS => ?_)
        obtain ⟨hr107, h⟩ := rg_e h
        refine lv_if_ne (tgt := 142) hx hb eX12_isOwnHere_92.2.1 (by decide) (fun c108 => ?_) (fun c108 => ?_)
        · have h := if_f (mt (i2_eq (x := r106) (y := 0) hr107 (by decide)).mpr c108) h
          exact J142 s105 _ _ _ ⟨hP, hS, lv_sub hl [1] rfl, h⟩
        · have h := if_t ((i2_eq (x := r106) (y := 0) hr107 (by decide)).mp c108) h
          refine lv_aload_n hx hb eX12_isOwnHere_92.2.2.1 rfl (lv_at hl 1 rfl) ?_
          refine lv_aload_n hx hb eX12_isOwnHere_92.2.2.2.1 rfl (lv_at hl 1 rfl) ?_
          refine va_get (D := D) (ci := 12) (v := .ref (a 19)) (C := RX12) (T := TX12) (N := 116) hx hb ht inX12 hown hK hP 0 RW_0 rfl 19 (by decide) (ht (.fieldLink RX12 45 "CloneVolumesModel" "splitsWord" "[C") fl_X12_45) (fun _ h9 => h9) mF_19 eX12_isOwnHere_92.2.2.2.2.1 ?_
          obtain ⟨⟨r111, s110⟩, hc109, h⟩ := bn_e h
          refine ywV (r0 := i2 r111) (As := [.ref (a 19)]) (rest := []) (C := RX12) (n := 1) (ws' := RW D a s110) ⟨hx, hb, hml, hown, ht⟩ (k_x12_isHere l D a 11 (a 19) 19 6 (fun _ => RW_11) (by decide) _ _ _ hc109) (zgV ml_X12_289 im_X12_isHere se_X12_isHere in_X12 co_X12_isHere) rfl rfl (by decide +kernel) ⟨Nat.le_of_ble_eq_true rfl, Nat.le_of_ble_eq_true rfl⟩ hN hK hP (hDD _) hS hA 0 RW_0 rfl rfl rfl hl.1 rfl (Nat.le_of_ble_eq_true rfl) eX12_isOwnHere_92.2.2.2.2.2.1 ⟨Nat.le_of_ble_eq_true rfl, Nat.le_of_ble_eq_true rfl⟩ (fun H locs hP hS => ?_)
          obtain ⟨hr112, h⟩ := rg_e h
          refine lv_if_ne (tgt := 142) hx hb eX12_isOwnHere_92.2.2.2.2.2.2.1 (by decide) (fun c113 => ?_) (fun c113 => ?_)
          · have h := if_f (mt (i2_eq (x := r111) (y := 0) hr112 (by decide)).mpr c113) h
            exact J142 s110 _ _ _ ⟨hP, hS, lv_sub hl [1] rfl, h⟩
          · have h := if_t ((i2_eq (x := r111) (y := 0) hr112 (by decide)).mp c113) h
            refine lv_aload_n hx hb eX12_isOwnHere_92.2.2.2.2.2.2.2 rfl (lv_at hl 1 rfl) ?_
            refine lv_aload_n hx hb eX12_isOwnHere_110.1 rfl (lv_at hl 1 rfl) ?_
            refine va_get (D := D) (ci := 12) (v := .ref (a 20)) (C := RX12) (T := TX12) (N := 116) hx hb ht inX12 hown hK hP 0 RW_0 rfl 20 (by decide) (ht (.fieldLink RX12 48 "CloneVolumesModel" "costsWord" "[C") fl_X12_48) (fun _ h9 => h9) mF_20 eX12_isOwnHere_110.2.1 ?_
            obtain ⟨⟨r116, s115⟩, hc114, h⟩ := bn_e h
            refine ywV (r0 := i2 r116) (As := [.ref (a 20)]) (rest := []) (C := RX12) (n := 1) (ws' := RW D a s115) ⟨hx, hb, hml, hown, ht⟩ (k_x12_isHere l D a 12 (a 20) 20 5 (fun _ => RW_12) (by decide) _ _ _ hc114) (zgV ml_X12_289 im_X12_isHere se_X12_isHere in_X12 co_X12_isHere) rfl rfl (by decide +kernel) ⟨Nat.le_of_ble_eq_true rfl, Nat.le_of_ble_eq_true rfl⟩ hN hK hP (hDD _) hS hA 0 RW_0 rfl rfl rfl hl.1 rfl (Nat.le_of_ble_eq_true rfl) eX12_isOwnHere_110.2.2.1 ⟨Nat.le_of_ble_eq_true rfl, Nat.le_of_ble_eq_true rfl⟩ (fun H locs hP hS => ?_)
            obtain ⟨hr117, h⟩ := rg_e h
            refine lv_if_ne (tgt := 142) hx hb eX12_isOwnHere_110.2.2.2.1 (by decide) (fun c118 => ?_) (fun c118 => ?_)
            · have h := if_f (mt (i2_eq (x := r116) (y := 0) hr117 (by decide)).mpr c118) h
              exact J142 s115 _ _ _ ⟨hP, hS, lv_sub hl [1] rfl, h⟩
            · have h := if_t ((i2_eq (x := r116) (y := 0) hr117 (by decide)).mp c118) h
              refine lv_aload_n hx hb eX12_isOwnHere_110.2.2.2.2.1 rfl (lv_at hl 1 rfl) ?_
              refine lv_aload_n hx hb eX12_isOwnHere_110.2.2.2.2.2.1 rfl (lv_at hl 1 rfl) ?_
              refine va_get (D := D) (ci := 12) (v := .ref (a 21)) (C := RX12) (T := TX12) (N := 116) hx hb ht inX12 hown hK hP 0 RW_0 rfl 21 (by decide) (ht (.fieldLink RX12 51 "CloneVolumesModel" "churnWord" "[C") fl_X12_51) (fun _ h9 => h9) mF_21 eX12_isOwnHere_110.2.2.2.2.2.2.1 ?_
              obtain ⟨⟨r121, s120⟩, hc119, h⟩ := bn_e h
              refine ywV (r0 := i2 r121) (As := [.ref (a 21)]) (rest := []) (C := RX12) (n := 1) (ws' := RW D a s120) ⟨hx, hb, hml, hown, ht⟩ (k_x12_isHere l D a 13 (a 21) 21 5 (fun _ => RW_13) (by decide) _ _ _ hc119) (zgV ml_X12_289 im_X12_isHere se_X12_isHere in_X12 co_X12_isHere) rfl rfl (by decide +kernel) ⟨Nat.le_of_ble_eq_true rfl, Nat.le_of_ble_eq_true rfl⟩ hN hK hP (hDD _) hS hA 0 RW_0 rfl rfl rfl hl.1 rfl (Nat.le_of_ble_eq_true rfl) eX12_isOwnHere_110.2.2.2.2.2.2.2 ⟨Nat.le_of_ble_eq_true rfl, Nat.le_of_ble_eq_true rfl⟩ (fun H locs hP hS => ?_)
              obtain ⟨hr122, h⟩ := rg_e h
              refine lv_if_ne (tgt := 142) hx hb eX12_isOwnHere_128.1 (by decide) (fun c123 => ?_) (fun c123 => ?_)
              · have h := if_f (mt (i2_eq (x := r121) (y := 0) hr122 (by decide)).mpr c123) h
                exact J142 s120 _ _ _ ⟨hP, hS, lv_sub hl [1] rfl, h⟩
              · have h := if_t ((i2_eq (x := r121) (y := 0) hr122 (by decide)).mp c123) h
                refine lv_aload_n hx hb eX12_isOwnHere_128.2.1 rfl (lv_at hl 1 rfl) ?_
                refine lv_aload_n hx hb eX12_isOwnHere_128.2.2.1 rfl (lv_at hl 1 rfl) ?_
                refine va_get (D := D) (ci := 12) (v := .ref (a 22)) (C := RX12) (T := TX12) (N := 116) hx hb ht inX12 hown hK hP 0 RW_0 rfl 22 (by decide) (ht (.fieldLink RX12 54 "CloneVolumesModel" "blockWord" "[C") fl_X12_54) (fun _ h9 => h9) mF_22 eX12_isOwnHere_128.2.2.2.1 ?_
                obtain ⟨⟨r126, s125⟩, hc124, h⟩ := bn_e h
                refine ywV (r0 := i2 r126) (As := [.ref (a 22)]) (rest := []) (C := RX12) (n := 1) (ws' := RW D a s125) ⟨hx, hb, hml, hown, ht⟩ (k_x12_isHere l D a 14 (a 22) 22 5 (fun _ => RW_14) (by decide) _ _ _ hc124) (zgV ml_X12_289 im_X12_isHere se_X12_isHere in_X12 co_X12_isHere) rfl rfl (by decide +kernel) ⟨Nat.le_of_ble_eq_true rfl, Nat.le_of_ble_eq_true rfl⟩ hN hK hP (hDD _) hS hA 0 RW_0 rfl rfl rfl hl.1 rfl (Nat.le_of_ble_eq_true rfl) eX12_isOwnHere_128.2.2.2.2.1 ⟨Nat.le_of_ble_eq_true rfl, Nat.le_of_ble_eq_true rfl⟩ (fun H locs hP hS => ?_)
                obtain ⟨hr127, h⟩ := rg_e h
                refine lv_if_eq (tgt := 146) hx hb eX12_isOwnHere_128.2.2.2.2.2.1 (by decide) (fun c128 => ?_) (fun c128 => ?_)
                · have h := if_t ((i2_eq (x := r126) (y := 0) hr127 (by decide)).mp c128) h
                  refine lv_iconst (v := 0) hx hb eX12_isOwnHere_146.1 (by decide) ?_
                  exact J147 (0, s125) _ _ _ ⟨hP, hS, lv_sub hl [1] rfl, h⟩
                · have h := if_f (mt (i2_eq (x := r126) (y := 0) hr127 (by decide)).mpr c128) h
                  exact J142 s125 _ _ _ ⟨hP, hS, lv_sub hl [1] rfl, h⟩
  refine y_head (pcJ := 66) (σ := MS) (fun u H locs ls => va_P D vwCl (RW D a u) H ∧ va_S A s₀.heap H locs ∧ lv_has ls 2 [(0, .ref (a 200))] ∧ m_x12_isOwnHere_J66 u = some o) (fun u => []) (fun u H locs ls hI => ?_) (fun J66 => ?_)
  · obtain ⟨hP, hS, hl, h⟩ := hI
    obtain ⟨s129, rfl⟩ : ∃ z, z = u := ⟨u, rfl⟩
    have hP : va_P D vwCl (RW D a s129) H := hP
    have hl : lv_has ls 2 [(0, .ref (a 200))] := hl
    have h : m_x12_isOwnHere_J66 s129 = some o := h
    unfold m_x12_isOwnHere_J66 at h
    refine lv_iconst (v := 1) hx hb eX12_isOwnHere_60.2.2.1 (by decide) ?_
    refine lv_goto (tgt := 71) hx hb eX12_isOwnHere_60.2.2.2.1 (by decide) ?_
    exact J71 (1, s129) _ _ _ ⟨hP, hS, lv_sub hl [0] rfl, h⟩
  refine lv_aload_n hx hb eX12_isLetter_12.2.2.2.2.1 rfl (lv_at hl 0 rfl) ?_
  refine lv_aload_n hx hb eX12_isLetter_12.2.2.2.2.2.1 rfl (lv_at hl 0 rfl) ?_
  refine va_get (D := D) (ci := 12) (v := .ref (a 11)) (C := RX12) (T := TX12) (N := 116) hx hb ht inX12 hown hK hP 0 RW_0 rfl 11 (by decide) (ht (.fieldLink RX12 20 "CloneVolumesModel" "blocksWord" "[C") fl_X12_20) (fun _ h9 => h9) mF_11 eX12_isLetter_12.2.2.2.2.2.2.1 ?_
  obtain ⟨⟨r132, s131⟩, hc130, h⟩ := bn_e h
  refine ywV (r0 := i2 r132) (As := [.ref (a 11)]) (rest := []) (C := RX12) (n := 1) (ws' := RW D a s131) ⟨hx, hb, hml, hown, ht⟩ (k_x12_isHere l D a 3 (a 11) 11 6 (fun _ => RW_3) (by decide) _ _ _ hc130) (zgV ml_X12_289 im_X12_isHere se_X12_isHere in_X12 co_X12_isHere) rfl rfl (by decide +kernel) ⟨Nat.le_of_ble_eq_true rfl, Nat.le_of_ble_eq_true rfl⟩ hN hK hP (hDD _) hS hA 0 RW_0 rfl rfl rfl hl.1 rfl (Nat.le_of_ble_eq_true rfl) eX12_isLetter_12.2.2.2.2.2.2.2 ⟨Nat.le_of_ble_eq_true rfl, Nat.le_of_ble_eq_true rfl⟩ (fun H locs hP hS => ?_)
  obtain ⟨hr133, h⟩ := rg_e h
  refine lv_if_ne (tgt := 66) hx hb eX12_isOwnHere_8.1 (by decide) (fun c134 => ?_) (fun c134 => ?_)
  · have h := if_f (mt (i2_eq (x := r132) (y := 0) hr133 (by decide)).mpr c134) h
    exact J66 s131 _ _ _ ⟨hP, hS, lv_sub hl [0] rfl, h⟩
  · have h := if_t ((i2_eq (x := r132) (y := 0) hr133 (by decide)).mp c134) h
    refine lv_aload_n hx hb eX12_isOwnHere_8.2.1 rfl (lv_at hl 0 rfl) ?_
    refine lv_aload_n hx hb eX12_isOwnHere_8.2.2.1 rfl (lv_at hl 0 rfl) ?_
    refine va_get (D := D) (ci := 12) (v := .ref (a 12)) (C := RX12) (T := TX12) (N := 116) hx hb ht inX12 hown hK hP 0 RW_0 rfl 12 (by decide) (ht (.fieldLink RX12 24 "CloneVolumesModel" "roomWord" "[C") fl_X12_24) (fun _ h9 => h9) mF_12 eX12_isOwnHere_8.2.2.2.1 ?_
    obtain ⟨⟨r137, s136⟩, hc135, h⟩ := bn_e h
    refine ywV (r0 := i2 r137) (As := [.ref (a 12)]) (rest := []) (C := RX12) (n := 1) (ws' := RW D a s136) ⟨hx, hb, hml, hown, ht⟩ (k_x12_isHere l D a 4 (a 12) 12 4 (fun _ => RW_4) (by decide) _ _ _ hc135) (zgV ml_X12_289 im_X12_isHere se_X12_isHere in_X12 co_X12_isHere) rfl rfl (by decide +kernel) ⟨Nat.le_of_ble_eq_true rfl, Nat.le_of_ble_eq_true rfl⟩ hN hK hP (hDD _) hS hA 0 RW_0 rfl rfl rfl hl.1 rfl (Nat.le_of_ble_eq_true rfl) eX12_isOwnHere_8.2.2.2.2.1 ⟨Nat.le_of_ble_eq_true rfl, Nat.le_of_ble_eq_true rfl⟩ (fun H locs hP hS => ?_)
    obtain ⟨hr138, h⟩ := rg_e h
    refine lv_if_ne (tgt := 66) hx hb eX12_isOwnHere_8.2.2.2.2.2.1 (by decide) (fun c139 => ?_) (fun c139 => ?_)
    · have h := if_f (mt (i2_eq (x := r137) (y := 0) hr138 (by decide)).mpr c139) h
      exact J66 s136 _ _ _ ⟨hP, hS, lv_sub hl [0] rfl, h⟩
    · have h := if_t ((i2_eq (x := r137) (y := 0) hr138 (by decide)).mp c139) h
      refine lv_aload_n hx hb eX12_isOwnHere_8.2.2.2.2.2.2.1 rfl (lv_at hl 0 rfl) ?_
      refine lv_aload_n hx hb eX12_isOwnHere_8.2.2.2.2.2.2.2 rfl (lv_at hl 0 rfl) ?_
      refine va_get (D := D) (ci := 12) (v := .ref (a 13)) (C := RX12) (T := TX12) (N := 116) hx hb ht inX12 hown hK hP 0 RW_0 rfl 13 (by decide) (ht (.fieldLink RX12 27 "CloneVolumesModel" "volumeWord" "[C") fl_X12_27) (fun _ h9 => h9) mF_13 eX12_isOwnHere_24.1 ?_
      obtain ⟨⟨r142, s141⟩, hc140, h⟩ := bn_e h
      refine ywV (r0 := i2 r142) (As := [.ref (a 13)]) (rest := []) (C := RX12) (n := 1) (ws' := RW D a s141) ⟨hx, hb, hml, hown, ht⟩ (k_x12_isHere l D a 5 (a 13) 13 6 (fun _ => RW_5) (by decide) _ _ _ hc140) (zgV ml_X12_289 im_X12_isHere se_X12_isHere in_X12 co_X12_isHere) rfl rfl (by decide +kernel) ⟨Nat.le_of_ble_eq_true rfl, Nat.le_of_ble_eq_true rfl⟩ hN hK hP (hDD _) hS hA 0 RW_0 rfl rfl rfl hl.1 rfl (Nat.le_of_ble_eq_true rfl) eX12_isOwnHere_24.2.1 ⟨Nat.le_of_ble_eq_true rfl, Nat.le_of_ble_eq_true rfl⟩ (fun H locs hP hS => ?_)
      obtain ⟨hr143, h⟩ := rg_e h
      refine lv_if_ne (tgt := 66) hx hb eX12_isOwnHere_24.2.2.1 (by decide) (fun c144 => ?_) (fun c144 => ?_)
      · have h := if_f (mt (i2_eq (x := r142) (y := 0) hr143 (by decide)).mpr c144) h
        exact J66 s141 _ _ _ ⟨hP, hS, lv_sub hl [0] rfl, h⟩
      · have h := if_t ((i2_eq (x := r142) (y := 0) hr143 (by decide)).mp c144) h
        refine lv_aload_n hx hb eX12_isOwnHere_24.2.2.2.1 rfl (lv_at hl 0 rfl) ?_
        refine lv_aload_n hx hb eX12_isOwnHere_24.2.2.2.2.1 rfl (lv_at hl 0 rfl) ?_
        refine va_get (D := D) (ci := 12) (v := .ref (a 14)) (C := RX12) (T := TX12) (N := 116) hx hb ht inX12 hown hK hP 0 RW_0 rfl 14 (by decide) (ht (.fieldLink RX12 30 "CloneVolumesModel" "cloneWord" "[C") fl_X12_30) (fun _ h9 => h9) mF_14 eX12_isOwnHere_24.2.2.2.2.2.1 ?_
        obtain ⟨⟨r147, s146⟩, hc145, h⟩ := bn_e h
        refine ywV (r0 := i2 r147) (As := [.ref (a 14)]) (rest := []) (C := RX12) (n := 1) (ws' := RW D a s146) ⟨hx, hb, hml, hown, ht⟩ (k_x12_isHere l D a 6 (a 14) 14 5 (fun _ => RW_6) (by decide) _ _ _ hc145) (zgV ml_X12_289 im_X12_isHere se_X12_isHere in_X12 co_X12_isHere) rfl rfl (by decide +kernel) ⟨Nat.le_of_ble_eq_true rfl, Nat.le_of_ble_eq_true rfl⟩ hN hK hP (hDD _) hS hA 0 RW_0 rfl rfl rfl hl.1 rfl (Nat.le_of_ble_eq_true rfl) eX12_isOwnHere_24.2.2.2.2.2.2.1 ⟨Nat.le_of_ble_eq_true rfl, Nat.le_of_ble_eq_true rfl⟩ (fun H locs hP hS => ?_)
        obtain ⟨hr148, h⟩ := rg_e h
        refine lv_if_ne (tgt := 66) hx hb eX12_isOwnHere_24.2.2.2.2.2.2.2 (by decide) (fun c149 => ?_) (fun c149 => ?_)
        · have h := if_f (mt (i2_eq (x := r147) (y := 0) hr148 (by decide)).mpr c149) h
          exact J66 s146 _ _ _ ⟨hP, hS, lv_sub hl [0] rfl, h⟩
        · have h := if_t ((i2_eq (x := r147) (y := 0) hr148 (by decide)).mp c149) h
          refine lv_aload_n hx hb eX12_isOwnHere_44.1 rfl (lv_at hl 0 rfl) ?_
          refine lv_aload_n hx hb eX12_isOwnHere_44.2.1 rfl (lv_at hl 0 rfl) ?_
          refine va_get (D := D) (ci := 12) (v := .ref (a 15)) (C := RX12) (T := TX12) (N := 116) hx hb ht inX12 hown hK hP 0 RW_0 rfl 15 (by decide) (ht (.fieldLink RX12 33 "CloneVolumesModel" "ofWord" "[C") fl_X12_33) (fun _ h9 => h9) mF_15 eX12_isOwnHere_44.2.2.1 ?_
          obtain ⟨⟨r152, s151⟩, hc150, h⟩ := bn_e h
          refine ywV (r0 := i2 r152) (As := [.ref (a 15)]) (rest := []) (C := RX12) (n := 1) (ws' := RW D a s151) ⟨hx, hb, hml, hown, ht⟩ (k_x12_isHere l D a 7 (a 15) 15 2 (fun _ => RW_7) (by decide) _ _ _ hc150) (zgV ml_X12_289 im_X12_isHere se_X12_isHere in_X12 co_X12_isHere) rfl rfl (by decide +kernel) ⟨Nat.le_of_ble_eq_true rfl, Nat.le_of_ble_eq_true rfl⟩ hN hK hP (hDD _) hS hA 0 RW_0 rfl rfl rfl hl.1 rfl (Nat.le_of_ble_eq_true rfl) eX12_isOwnHere_44.2.2.2.1 ⟨Nat.le_of_ble_eq_true rfl, Nat.le_of_ble_eq_true rfl⟩ (fun H locs hP hS => ?_)
          obtain ⟨hr153, h⟩ := rg_e h
          refine lv_if_ne (tgt := 66) hx hb eX12_isOwnHere_44.2.2.2.2.1 (by decide) (fun c154 => ?_) (fun c154 => ?_)
          · have h := if_f (mt (i2_eq (x := r152) (y := 0) hr153 (by decide)).mpr c154) h
            exact J66 s151 _ _ _ ⟨hP, hS, lv_sub hl [0] rfl, h⟩
          · have h := if_t ((i2_eq (x := r152) (y := 0) hr153 (by decide)).mp c154) h
            refine lv_aload_n hx hb eX12_isOwnHere_44.2.2.2.2.2.1 rfl (lv_at hl 0 rfl) ?_
            refine lv_aload_n hx hb eX12_isOwnHere_44.2.2.2.2.2.2.1 rfl (lv_at hl 0 rfl) ?_
            refine va_get (D := D) (ci := 12) (v := .ref (a 16)) (C := RX12) (T := TX12) (N := 116) hx hb ht inX12 hown hK hP 0 RW_0 rfl 16 (by decide) (ht (.fieldLink RX12 36 "CloneVolumesModel" "putWord" "[C") fl_X12_36) (fun _ h9 => h9) mF_16 eX12_isOwnHere_44.2.2.2.2.2.2.2 ?_
            obtain ⟨⟨r157, s156⟩, hc155, h⟩ := bn_e h
            refine ywV (r0 := i2 r157) (As := [.ref (a 16)]) (rest := []) (C := RX12) (n := 1) (ws' := RW D a s156) ⟨hx, hb, hml, hown, ht⟩ (k_x12_isHere l D a 8 (a 16) 16 3 (fun _ => RW_8) (by decide) _ _ _ hc155) (zgV ml_X12_289 im_X12_isHere se_X12_isHere in_X12 co_X12_isHere) rfl rfl (by decide +kernel) ⟨Nat.le_of_ble_eq_true rfl, Nat.le_of_ble_eq_true rfl⟩ hN hK hP (hDD _) hS hA 0 RW_0 rfl rfl rfl hl.1 rfl (Nat.le_of_ble_eq_true rfl) eX12_isOwnHere_60.1 ⟨Nat.le_of_ble_eq_true rfl, Nat.le_of_ble_eq_true rfl⟩ (fun H locs hP hS => ?_)
            obtain ⟨hr158, h⟩ := rg_e h
            refine lv_if_eq (tgt := 70) hx hb eX12_isOwnHere_60.2.1 (by decide) (fun c159 => ?_) (fun c159 => ?_)
            · have h := if_t ((i2_eq (x := r157) (y := 0) hr158 (by decide)).mp c159) h
              refine lv_iconst (v := 0) hx hb eX12_isOwnHere_60.2.2.2.2.1 (by decide) ?_
              exact J71 (0, s156) _ _ _ ⟨hP, hS, lv_sub hl [0] rfl, h⟩
            · have h := if_f (mt (i2_eq (x := r157) (y := 0) hr158 (by decide)).mpr c159) h
              exact J66 s156 _ _ _ ⟨hP, hS, lv_sub hl [0] rfl, h⟩
