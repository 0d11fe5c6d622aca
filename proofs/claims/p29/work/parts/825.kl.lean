theorem ck_X11_376 : Cond.constant RX11 376 (-1000000) ∈ lw_gd := zm (lw_g_6 (List.mem_of_getElem? (i := 46) (by decide +kernel))) rfl
theorem ck_X11_377 : Cond.constant RX11 377 1000000 ∈ lw_gd := zm (lw_g_6 (List.mem_of_getElem? (i := 47) (by decide +kernel))) rfl
theorem cl_X11_319 : Cond.constantLong RX11 319 (-1000000000000000) ∈ lw_gd := zm (lw_g_6 (List.mem_of_getElem? (i := 27) (by decide +kernel))) rfl
theorem co_X11_answerSum : Cond.code yX11_answerSum cX11_answerSum 8 (some .long) ∈ lw_gd := zm (lw_g_6 (List.mem_of_getElem? (i := 45) (by decide +kernel))) rfl
theorem co_X11_answerTest : Cond.code yX11_answerTest cX11_answerTest 5 (some .long) ∈ lw_gd := zm (lw_g_6 (List.mem_of_getElem? (i := 35) (by decide +kernel))) rfl
theorem co_X1_valueFor : Cond.code yX1_valueFor cX1_valueFor 3 (some .int) ∈ lw_gd := zm (lw_g_6 (List.mem_of_getElem? (i := 39) (by decide +kernel))) rfl
theorem co_X6_begin : Cond.code yX6_begin cX6_begin 2 none ∈ lw_gd := zm (lw_g_3 (List.mem_of_getElem? (i := 95) (by decide +kernel))) rfl
theorem co_X6_readQuestion : Cond.code yX6_readQuestion cX6_readQuestion 3 (some .int) ∈ lw_gd := zm (lw_g_6 (List.mem_of_getElem? (i := 31) (by decide +kernel))) rfl
theorem fl_X11_316 : Cond.fieldLink RX11 316 "CloneVolumes$Forest" "seed" "I" ∈ lw_gd := zm (lw_g_2 (List.mem_of_getElem? (i := 238) (by decide +kernel))) rfl
theorem fl_X11_321 : Cond.fieldLink RX11 321 "CloneVolumes$Plan" "code" "LCloneVolumes$Code;" ∈ lw_gd := zm (lw_g_2 (List.mem_of_getElem? (i := 64) (by decide +kernel))) rfl
theorem fl_X1_184 : Cond.fieldLink RX1 184 "CloneVolumes$Machine" "count" "I" ∈ lw_gd := zm (lw_g_2 (List.mem_of_getElem? (i := 204) (by decide +kernel))) rfl
theorem fl_X1_189 : Cond.fieldLink RX1 189 "CloneVolumes$Machine" "fresh" "I" ∈ lw_gd := zm (lw_g_2 (List.mem_of_getElem? (i := 206) (by decide +kernel))) rfl
theorem fl_X1_192 : Cond.fieldLink RX1 192 "CloneVolumes$State" "saved" "[I" ∈ lw_gd := zm (lw_g_2 (List.mem_of_getElem? (i := 135) (by decide +kernel))) rfl
theorem fl_X1_195 : Cond.fieldLink RX1 195 "CloneVolumes$Machine" "saved" "I" ∈ lw_gd := zm (lw_g_2 (List.mem_of_getElem? (i := 208) (by decide +kernel))) rfl
theorem fl_X1_197 : Cond.fieldLink RX1 197 "CloneVolumes$Code" "size" "I" ∈ lw_gd := zm (lw_g_2 (List.mem_of_getElem? (i := 23) (by decide +kernel))) rfl
theorem fl_X4_24 : Cond.fieldLink RX4 24 "CloneVolumes$Picture" "size" "I" ∈ lw_gd := zm (lw_g_1 (List.mem_of_getElem? (i := 205) (by decide +kernel))) rfl
theorem fl_X6_64 : Cond.fieldLink RX6 64 "CloneVolumes$Code" "size" "I" ∈ lw_gd := zm (lw_g_2 (List.mem_of_getElem? (i := 22) (by decide +kernel))) rfl
theorem im_X11_answerSum : Cond.instanceMethod yX11_answerSum ∈ lw_gd := zm (lw_g_6 (List.mem_of_getElem? (i := 44) (by decide +kernel))) rfl
theorem im_X11_answerTest : Cond.instanceMethod yX11_answerTest ∈ lw_gd := zm (lw_g_6 (List.mem_of_getElem? (i := 34) (by decide +kernel))) rfl
theorem im_X1_valueFor : Cond.instanceMethod yX1_valueFor ∈ lw_gd := zm (lw_g_6 (List.mem_of_getElem? (i := 37) (by decide +kernel))) rfl
theorem im_X6_begin : Cond.instanceMethod yX6_begin ∈ lw_gd := zm (lw_g_3 (List.mem_of_getElem? (i := 94) (by decide +kernel))) rfl
theorem im_X6_readQuestion : Cond.instanceMethod yX6_readQuestion ∈ lw_gd := zm (lw_g_6 (List.mem_of_getElem? (i := 29) (by decide +kernel))) rfl
theorem ml_X11_325 : Cond.methodLink RX11 325 yX6_readQuestion ∈ lw_gd := zm (lw_g_6 (List.mem_of_getElem? (i := 28) (by decide +kernel))) rfl
theorem ml_X11_329 : Cond.methodLink RX11 329 yX11_answerTest ∈ lw_gd := zm (lw_g_6 (List.mem_of_getElem? (i := 32) (by decide +kernel))) rfl
theorem ml_X11_333 : Cond.methodLink RX11 333 yX11_answerSum ∈ lw_gd := zm (lw_g_6 (List.mem_of_getElem? (i := 42) (by decide +kernel))) rfl
theorem ml_X11_372 : Cond.methodLink RX11 372 yX1_valueFor ∈ lw_gd := zm (lw_g_6 (List.mem_of_getElem? (i := 36) (by decide +kernel))) rfl
theorem ml_X11_378 : Cond.methodLink RX11 378 Lib.Math.max.name ∈ lw_gd := zm (lw_g_6 (List.mem_of_getElem? (i := 48) (by decide +kernel))) rfl
theorem ml_X1_175 : Cond.methodLink RX1 175 yX8_levelOf ∈ lw_gd := zm (lw_g_6 (List.mem_of_getElem? (i := 40) (by decide +kernel))) rfl
theorem ml_X1_178 : Cond.methodLink RX1 178 yX8_sizeOf ∈ lw_gd := zm (lw_g_6 (List.mem_of_getElem? (i := 41) (by decide +kernel))) rfl
theorem ml_X6_40 : Cond.methodLink RX6 40 yX6_begin ∈ lw_gd := zm (lw_g_3 (List.mem_of_getElem? (i := 92) (by decide +kernel))) rfl
theorem ml_X8_70 : Cond.methodLink RX8 70 yX8_isFresh ∈ lw_gd := zm (lw_g_5 (List.mem_of_getElem? (i := 224) (by decide +kernel))) rfl
theorem se_X11_answerSum : Cond.selects RX11 yX11_answerSum yX11_answerSum ∈ lw_gd := zm (List.mem_of_getElem? (i := 57) (by decide +kernel)) rfl
theorem se_X11_answerTest : Cond.selects RX11 yX11_answerTest yX11_answerTest ∈ lw_gd := zm (List.mem_of_getElem? (i := 56) (by decide +kernel)) rfl
theorem se_X1_valueFor : Cond.selects RX1 yX1_valueFor yX1_valueFor ∈ lw_gd := zm (lw_g_6 (List.mem_of_getElem? (i := 38) (by decide +kernel))) rfl
theorem se_X6_begin : Cond.selects RX6 yX6_begin yX6_begin ∈ lw_gd := zm (List.mem_of_getElem? (i := 1) (by decide +kernel)) rfl
theorem se_X6_readQuestion : Cond.selects RX6 yX6_readQuestion yX6_readQuestion ∈ lw_gd := zm (lw_g_6 (List.mem_of_getElem? (i := 30) (by decide +kernel))) rfl
theorem eX11_answerSum_0 : decode cX11_answerSum 0 = .ok (.lconst 0, 1) ∧ decode cX11_answerSum 1 = .ok (.lstore_n 2, 1) ∧ decode cX11_answerSum 2 = .ok (.ldc_w 376, 3) ∧ decode cX11_answerSum 5 = .ok (.istore 4, 2) ∧ decode cX11_answerSum 7 = .ok (.ldc_w 377, 3) ∧ decode cX11_answerSum 10 = .ok (.istore 5, 2) ∧ decode cX11_answerSum 12 = .ok (.iconst 0, 1) ∧ decode cX11_answerSum 13 = .ok (.istore 6, 2) := by decide +kernel
theorem eX11_answerSum_15 : decode cX11_answerSum 15 = .ok (.iload 6, 2) ∧ decode cX11_answerSum 17 = .ok (.aload_n 0, 1) ∧ decode cX11_answerSum 18 = .ok (.getfield 79, 3) ∧ decode cX11_answerSum 21 = .ok (.getfield 125, 3) ∧ decode cX11_answerSum 24 = .ok (.getfield 129, 3) ∧ decode cX11_answerSum 27 = .ok (.if_icmp .ge 51, 3) ∧ decode cX11_answerSum 30 = .ok (.aload_n 0, 1) ∧ decode cX11_answerSum 31 = .ok (.getfield 79, 3) := by decide +kernel
theorem eX11_answerSum_34 : decode cX11_answerSum 34 = .ok (.iload 6, 2) ∧ decode cX11_answerSum 36 = .ok (.aload_n 0, 1) ∧ decode cX11_answerSum 37 = .ok (.getfield 71, 3) ∧ decode cX11_answerSum 40 = .ok (.getfield 321, 3) ∧ decode cX11_answerSum 43 = .ok (.invokevirtual 372, 3) ∧ decode cX11_answerSum 46 = .ok (.istore 7, 2) ∧ decode cX11_answerSum 48 = .ok (.lload_n 2, 1) ∧ decode cX11_answerSum 49 = .ok (.iload 7, 2) := by decide +kernel
theorem eX11_answerSum_51 : decode cX11_answerSum 51 = .ok (.i2l, 1) ∧ decode cX11_answerSum 52 = .ok (.ladd, 1) ∧ decode cX11_answerSum 53 = .ok (.lstore_n 2, 1) ∧ decode cX11_answerSum 54 = .ok (.iload 4, 2) ∧ decode cX11_answerSum 56 = .ok (.iload 7, 2) ∧ decode cX11_answerSum 58 = .ok (.invokestatic 378, 3) ∧ decode cX11_answerSum 61 = .ok (.istore 4, 2) ∧ decode cX11_answerSum 63 = .ok (.iload 5, 2) := by decide +kernel
theorem eX11_answerSum_65 : decode cX11_answerSum 65 = .ok (.iload 7, 2) ∧ decode cX11_answerSum 67 = .ok (.invokestatic 367, 3) ∧ decode cX11_answerSum 70 = .ok (.istore 5, 2) ∧ decode cX11_answerSum 72 = .ok (.iinc 6 1, 3) ∧ decode cX11_answerSum 75 = .ok (.goto (-60), 3) ∧ decode cX11_answerSum 78 = .ok (.iload_n 1, 1) ∧ decode cX11_answerSum 79 = .ok (.bipush 30, 2) ∧ decode cX11_answerSum 81 = .ok (.if_icmp .ne 5, 3) := by decide +kernel
theorem eX11_answerSum_84 : decode cX11_answerSum 84 = .ok (.lload_n 2, 1) ∧ decode cX11_answerSum 85 = .ok (.lreturn, 1) ∧ decode cX11_answerSum 86 = .ok (.iload_n 1, 1) ∧ decode cX11_answerSum 87 = .ok (.bipush 31, 2) ∧ decode cX11_answerSum 89 = .ok (.if_icmp .ne 9, 3) ∧ decode cX11_answerSum 92 = .ok (.iload 4, 2) ∧ decode cX11_answerSum 94 = .ok (.i2l, 1) ∧ decode cX11_answerSum 95 = .ok (.goto 6, 3) := by decide +kernel
theorem eX11_answerSum_98 : decode cX11_answerSum 98 = .ok (.iload 5, 2) ∧ decode cX11_answerSum 100 = .ok (.i2l, 1) ∧ decode cX11_answerSum 101 = .ok (.lreturn, 1) ∧ decode cX11_answerTest 0 = .ok (.iconst 0, 1) ∧ decode cX11_answerTest 1 = .ok (.istore_n 2, 1) ∧ decode cX11_answerTest 2 = .ok (.iconst (-1), 1) ∧ decode cX11_answerTest 3 = .ok (.istore_n 3, 1) ∧ decode cX11_answerTest 4 = .ok (.iconst 0, 1) := by decide +kernel
theorem eX11_answerTest_5 : decode cX11_answerTest 5 = .ok (.istore 4, 2) ∧ decode cX11_answerTest 7 = .ok (.iload 4, 2) ∧ decode cX11_answerTest 9 = .ok (.aload_n 0, 1) ∧ decode cX11_answerTest 10 = .ok (.getfield 79, 3) ∧ decode cX11_answerTest 13 = .ok (.getfield 125, 3) ∧ decode cX11_answerTest 16 = .ok (.getfield 129, 3) ∧ decode cX11_answerTest 19 = .ok (.if_icmp .ge 44, 3) ∧ decode cX11_answerTest 22 = .ok (.aload_n 0, 1) := by decide +kernel
theorem eX11_answerTest_23 : decode cX11_answerTest 23 = .ok (.getfield 79, 3) ∧ decode cX11_answerTest 26 = .ok (.iload 4, 2) ∧ decode cX11_answerTest 28 = .ok (.aload_n 0, 1) ∧ decode cX11_answerTest 29 = .ok (.getfield 71, 3) ∧ decode cX11_answerTest 32 = .ok (.getfield 321, 3) ∧ decode cX11_answerTest 35 = .ok (.invokevirtual 372, 3) ∧ decode cX11_answerTest 38 = .ok (.ifCond .eq 19, 3) ∧ decode cX11_answerTest 41 = .ok (.iload_n 1, 1) := by decide +kernel
theorem eX11_answerTest_42 : decode cX11_answerTest 42 = .ok (.bipush 27, 2) ∧ decode cX11_answerTest 44 = .ok (.if_icmp .ne 7, 3) ∧ decode cX11_answerTest 47 = .ok (.iload 4, 2) ∧ decode cX11_answerTest 49 = .ok (.i2l, 1) ∧ decode cX11_answerTest 50 = .ok (.lreturn, 1) ∧ decode cX11_answerTest 51 = .ok (.iinc 2 1, 3) ∧ decode cX11_answerTest 54 = .ok (.iload 4, 2) ∧ decode cX11_answerTest 56 = .ok (.istore_n 3, 1) := by decide +kernel
theorem eX11_answerTest_57 : decode cX11_answerTest 57 = .ok (.iinc 4 1, 3) ∧ decode cX11_answerTest 60 = .ok (.goto (-53), 3) ∧ decode cX11_answerTest 63 = .ok (.iload_n 1, 1) ∧ decode cX11_answerTest 64 = .ok (.bipush 29, 2) ∧ decode cX11_answerTest 66 = .ok (.if_icmp .ne 8, 3) ∧ decode cX11_answerTest 69 = .ok (.iload_n 2, 1) ∧ decode cX11_answerTest 70 = .ok (.i2l, 1) ∧ decode cX11_answerTest 71 = .ok (.goto 5, 3) := by decide +kernel
theorem eX11_answerTest_74 : decode cX11_answerTest 74 = .ok (.iload_n 3, 1) ∧ decode cX11_answerTest 75 = .ok (.i2l, 1) ∧ decode cX11_answerTest 76 = .ok (.lreturn, 1) ∧ decode cX11_ask 0 = .ok (.aload_n 0, 1) ∧ decode cX11_ask 1 = .ok (.getfield 112, 3) ∧ decode cX11_ask 4 = .ok (.ifCond .ne 15, 3) ∧ decode cX11_ask 7 = .ok (.aload_n 0, 1) ∧ decode cX11_ask 8 = .ok (.getfield 12, 3) := by decide +kernel
theorem eX11_ask_11 : decode cX11_ask 11 = .ok (.iconst 0, 1) ∧ decode cX11_ask 12 = .ok (.putfield 95, 3) ∧ decode cX11_ask 15 = .ok (.ldc2_w 319, 3) ∧ decode cX11_ask 18 = .ok (.lreturn, 1) ∧ decode cX11_ask 19 = .ok (.aload_n 0, 1) ∧ decode cX11_ask 20 = .ok (.getfield 21, 3) ∧ decode cX11_ask 23 = .ok (.aload_n 0, 1) ∧ decode cX11_ask 24 = .ok (.getfield 71, 3) := by decide +kernel
theorem eX11_ask_27 : decode cX11_ask 27 = .ok (.getfield 321, 3) ∧ decode cX11_ask 30 = .ok (.invokevirtual 325, 3) ∧ decode cX11_ask 33 = .ok (.istore_n 1, 1) ∧ decode cX11_ask 34 = .ok (.aload_n 0, 1) ∧ decode cX11_ask 35 = .ok (.getfield 12, 3) ∧ decode cX11_ask 38 = .ok (.iconst 0, 1) ∧ decode cX11_ask 39 = .ok (.putfield 95, 3) ∧ decode cX11_ask 42 = .ok (.aload_n 0, 1) := by decide +kernel
theorem eX11_ask_43 : decode cX11_ask 43 = .ok (.getfield 21, 3) ∧ decode cX11_ask 46 = .ok (.getfield 119, 3) ∧ decode cX11_ask 49 = .ok (.ifCond .eq 7, 3) ∧ decode cX11_ask 52 = .ok (.ldc2_w 319, 3) ∧ decode cX11_ask 55 = .ok (.lreturn, 1) ∧ decode cX11_ask 56 = .ok (.iload_n 1, 1) ∧ decode cX11_ask 57 = .ok (.tableswitch 33 27 29 #[27, 27, 27], 27) ∧ decode cX11_ask 84 = .ok (.aload_n 0, 1) := by decide +kernel
theorem eX11_ask_85 : decode cX11_ask 85 = .ok (.iload_n 1, 1) ∧ decode cX11_ask 86 = .ok (.invokevirtual 329, 3) ∧ decode cX11_ask 89 = .ok (.lreturn, 1) ∧ decode cX11_ask 90 = .ok (.aload_n 0, 1) ∧ decode cX11_ask 91 = .ok (.iload_n 1, 1) ∧ decode cX11_ask 92 = .ok (.invokevirtual 333, 3) ∧ decode cX11_ask 95 = .ok (.lreturn, 1) ∧ decode cX11_seed 0 = .ok (.iload_n 1, 1) := by decide +kernel
theorem eX11_seed_1 : decode cX11_seed 1 = .ok (.ifCond .ge 11, 3) ∧ decode cX11_seed 4 = .ok (.aload_n 0, 1) ∧ decode cX11_seed 5 = .ok (.iconst 5, 1) ∧ decode cX11_seed 6 = .ok (.invokevirtual 87, 3) ∧ decode cX11_seed 9 = .ok (.pop, 1) ∧ decode cX11_seed 10 = .ok (.iconst 0, 1) ∧ decode cX11_seed 11 = .ok (.ireturn, 1) ∧ decode cX11_seed 12 = .ok (.aload_n 0, 1) := by decide +kernel
theorem eX11_seed_13 : decode cX11_seed 13 = .ok (.getfield 79, 3) ∧ decode cX11_seed 16 = .ok (.iload_n 1, 1) ∧ decode cX11_seed 17 = .ok (.putfield 316, 3) ∧ decode cX11_seed 20 = .ok (.iconst 1, 1) ∧ decode cX11_seed 21 = .ok (.ireturn, 1) ∧ decode cX1_valueFor 0 = .ok (.aload_n 0, 1) ∧ decode cX1_valueFor 1 = .ok (.getfield 33, 3) ∧ decode cX1_valueFor 4 = .ok (.iload_n 1, 1) := by decide +kernel
theorem eX1_valueFor_5 : decode cX1_valueFor 5 = .ok (.putfield 147, 3) ∧ decode cX1_valueFor 8 = .ok (.aload_n 0, 1) ∧ decode cX1_valueFor 9 = .ok (.getfield 33, 3) ∧ decode cX1_valueFor 12 = .ok (.aload_n 0, 1) ∧ decode cX1_valueFor 13 = .ok (.getfield 12, 3) ∧ decode cX1_valueFor 16 = .ok (.iload_n 1, 1) ∧ decode cX1_valueFor 17 = .ok (.invokevirtual 175, 3) ∧ decode cX1_valueFor 20 = .ok (.putfield 153, 3) := by decide +kernel
theorem eX1_valueFor_23 : decode cX1_valueFor 23 = .ok (.aload_n 0, 1) ∧ decode cX1_valueFor 24 = .ok (.getfield 33, 3) ∧ decode cX1_valueFor 27 = .ok (.aload_n 0, 1) ∧ decode cX1_valueFor 28 = .ok (.getfield 12, 3) ∧ decode cX1_valueFor 31 = .ok (.iload_n 1, 1) ∧ decode cX1_valueFor 32 = .ok (.invokevirtual 178, 3) ∧ decode cX1_valueFor 35 = .ok (.putfield 158, 3) ∧ decode cX1_valueFor 38 = .ok (.aload_n 0, 1) := by decide +kernel
theorem eX1_valueFor_39 : decode cX1_valueFor 39 = .ok (.getfield 33, 3) ∧ decode cX1_valueFor 42 = .ok (.aload_n 0, 1) ∧ decode cX1_valueFor 43 = .ok (.getfield 12, 3) ∧ decode cX1_valueFor 46 = .ok (.getfield 181, 3) ∧ decode cX1_valueFor 49 = .ok (.iload_n 1, 1) ∧ decode cX1_valueFor 50 = .ok (.iaload, 1) ∧ decode cX1_valueFor 51 = .ok (.putfield 184, 3) ∧ decode cX1_valueFor 54 = .ok (.aload_n 0, 1) := by decide +kernel
theorem eX1_valueFor_55 : decode cX1_valueFor 55 = .ok (.getfield 33, 3) ∧ decode cX1_valueFor 58 = .ok (.aload_n 0, 1) ∧ decode cX1_valueFor 59 = .ok (.getfield 12, 3) ∧ decode cX1_valueFor 62 = .ok (.iload_n 1, 1) ∧ decode cX1_valueFor 63 = .ok (.invokevirtual 186, 3) ∧ decode cX1_valueFor 66 = .ok (.ifCond .eq 7, 3) ∧ decode cX1_valueFor 69 = .ok (.iconst 1, 1) ∧ decode cX1_valueFor 70 = .ok (.goto 4, 3) := by decide +kernel
theorem eX1_valueFor_73 : decode cX1_valueFor 73 = .ok (.iconst 0, 1) ∧ decode cX1_valueFor 74 = .ok (.putfield 189, 3) ∧ decode cX1_valueFor 77 = .ok (.aload_n 0, 1) ∧ decode cX1_valueFor 78 = .ok (.getfield 33, 3) ∧ decode cX1_valueFor 81 = .ok (.aload_n 0, 1) ∧ decode cX1_valueFor 82 = .ok (.getfield 12, 3) ∧ decode cX1_valueFor 85 = .ok (.getfield 192, 3) ∧ decode cX1_valueFor 88 = .ok (.iload_n 1, 1) := by decide +kernel
theorem eX1_valueFor_89 : decode cX1_valueFor 89 = .ok (.iaload, 1) ∧ decode cX1_valueFor 90 = .ok (.putfield 195, 3) ∧ decode cX1_valueFor 93 = .ok (.aload_n 0, 1) ∧ decode cX1_valueFor 94 = .ok (.getfield 33, 3) ∧ decode cX1_valueFor 97 = .ok (.aload_n 2, 1) ∧ decode cX1_valueFor 98 = .ok (.iconst 0, 1) ∧ decode cX1_valueFor 99 = .ok (.aload_n 2, 1) ∧ decode cX1_valueFor 100 = .ok (.getfield 197, 3) := by decide +kernel
theorem eX1_valueFor_103 : decode cX1_valueFor 103 = .ok (.invokevirtual 168, 3) ∧ decode cX1_valueFor 106 = .ok (.ireturn, 1) ∧ decode cX4_add 0 = .ok (.aload_n 0, 1) ∧ decode cX4_add 1 = .ok (.getfield 24, 3) ∧ decode cX4_add 4 = .ok (.aload_n 0, 1) ∧ decode cX4_add 5 = .ok (.getfield 11, 3) ∧ decode cX4_add 8 = .ok (.arraylength, 1) ∧ decode cX4_add 9 = .ok (.if_icmp .ge 27, 3) := by decide +kernel
theorem eX4_add_12 : decode cX4_add 12 = .ok (.aload_n 0, 1) ∧ decode cX4_add 13 = .ok (.getfield 11, 3) ∧ decode cX4_add 16 = .ok (.aload_n 0, 1) ∧ decode cX4_add 17 = .ok (.getfield 24, 3) ∧ decode cX4_add 20 = .ok (.iload_n 1, 1) ∧ decode cX4_add 21 = .ok (.sipush 255, 3) ∧ decode cX4_add 24 = .ok (.iand, 1) ∧ decode cX4_add 25 = .ok (.iastore, 1) := by decide +kernel
theorem eX4_add_26 : decode cX4_add 26 = .ok (.aload_n 0, 1) ∧ decode cX4_add 27 = .ok (.dup, 1) ∧ decode cX4_add 28 = .ok (.getfield 24, 3) ∧ decode cX4_add 31 = .ok (.iconst 1, 1) ∧ decode cX4_add 32 = .ok (.iadd, 1) ∧ decode cX4_add 33 = .ok (.putfield 24, 3) ∧ decode cX4_add 36 = .ok (.return_, 1) ∧ decode cX4_seal 0 = .ok (.sipush 157, 3) := by decide +kernel
theorem eX4_seal_3 : decode cX4_seal 3 = .ok (.istore_n 2, 1) ∧ decode cX4_seal 4 = .ok (.iconst 0, 1) ∧ decode cX4_seal 5 = .ok (.istore_n 3, 1) ∧ decode cX4_seal 6 = .ok (.iload_n 3, 1) ∧ decode cX4_seal 7 = .ok (.iload_n 1, 1) ∧ decode cX4_seal 8 = .ok (.if_icmp .ge 27, 3) ∧ decode cX4_seal 11 = .ok (.iload_n 3, 1) ∧ decode cX4_seal 12 = .ok (.aload_n 0, 1) := by decide +kernel
theorem eX4_seal_13 : decode cX4_seal 13 = .ok (.arraylength, 1) ∧ decode cX4_seal 14 = .ok (.if_icmp .ge 21, 3) ∧ decode cX4_seal 17 = .ok (.iconst 3, 1) ∧ decode cX4_seal 18 = .ok (.iload_n 2, 1) ∧ decode cX4_seal 19 = .ok (.imul, 1) ∧ decode cX4_seal 20 = .ok (.aload_n 0, 1) ∧ decode cX4_seal 21 = .ok (.iload_n 3, 1) ∧ decode cX4_seal 22 = .ok (.iaload, 1) := by decide +kernel
theorem eX4_seal_23 : decode cX4_seal 23 = .ok (.iadd, 1) ∧ decode cX4_seal 24 = .ok (.sipush 251, 3) ∧ decode cX4_seal 27 = .ok (.irem, 1) ∧ decode cX4_seal 28 = .ok (.istore_n 2, 1) ∧ decode cX4_seal 29 = .ok (.iinc 3 1, 3) ∧ decode cX4_seal 32 = .ok (.goto (-26), 3) ∧ decode cX4_seal 35 = .ok (.iload_n 2, 1) ∧ decode cX4_seal 36 = .ok (.ireturn, 1) := by decide +kernel
theorem eX6_begin_0 : decode cX6_begin 0 = .ok (.aload_n 0, 1) ∧ decode cX6_begin 1 = .ok (.aload_n 1, 1) ∧ decode cX6_begin 2 = .ok (.putfield 84, 3) ∧ decode cX6_begin 5 = .ok (.aload_n 0, 1) ∧ decode cX6_begin 6 = .ok (.iconst 0, 1) ∧ decode cX6_begin 7 = .ok (.putfield 61, 3) ∧ decode cX6_begin 10 = .ok (.aload_n 0, 1) ∧ decode cX6_begin 11 = .ok (.iconst (-1), 1) := by decide +kernel
theorem eX6_begin_12 : decode cX6_begin 12 = .ok (.putfield 9, 3) ∧ decode cX6_begin 15 = .ok (.aload_n 0, 1) ∧ decode cX6_begin 16 = .ok (.iconst 0, 1) ∧ decode cX6_begin 17 = .ok (.putfield 85, 3) ∧ decode cX6_begin 20 = .ok (.aload_n 0, 1) ∧ decode cX6_begin 21 = .ok (.iconst 0, 1) ∧ decode cX6_begin 22 = .ok (.putfield 88, 3) ∧ decode cX6_begin 25 = .ok (.aload_n 0, 1) := by decide +kernel
theorem eX6_begin_26 : decode cX6_begin 26 = .ok (.invokevirtual 75, 3) ∧ decode cX6_begin 29 = .ok (.return_, 1) ∧ decode cX6_readQuestion 0 = .ok (.aload_n 1, 1) ∧ decode cX6_readQuestion 1 = .ok (.iconst 0, 1) ∧ decode cX6_readQuestion 2 = .ok (.putfield 64, 3) ∧ decode cX6_readQuestion 5 = .ok (.aload_n 0, 1) ∧ decode cX6_readQuestion 6 = .ok (.aload_n 1, 1) ∧ decode cX6_readQuestion 7 = .ok (.invokevirtual 40, 3) := by decide +kernel
theorem eX6_readQuestion_10 : decode cX6_readQuestion 10 = .ok (.aload_n 0, 1) ∧ decode cX6_readQuestion 11 = .ok (.iconst 3, 1) ∧ decode cX6_readQuestion 12 = .ok (.putfield 69, 3) ∧ decode cX6_readQuestion 15 = .ok (.aload_n 0, 1) ∧ decode cX6_readQuestion 16 = .ok (.getfield 44, 3) ∧ decode cX6_readQuestion 19 = .ok (.iconst 1, 1) ∧ decode cX6_readQuestion 20 = .ok (.if_icmp .ne 10, 3) ∧ decode cX6_readQuestion 23 = .ok (.aload_n 0, 1) := by decide +kernel
theorem eX6_readQuestion_24 : decode cX6_readQuestion 24 = .ok (.getfield 72, 3) ∧ decode cX6_readQuestion 27 = .ok (.goto 4, 3) ∧ decode cX6_readQuestion 30 = .ok (.iconst (-1), 1) ∧ decode cX6_readQuestion 31 = .ok (.istore_n 2, 1) ∧ decode cX6_readQuestion 32 = .ok (.iload_n 2, 1) ∧ decode cX6_readQuestion 33 = .ok (.tableswitch 61 27 32 #[39, 39, 39, 50, 50, 50], 39) ∧ decode cX6_readQuestion 72 = .ok (.aload_n 0, 1) ∧ decode cX6_readQuestion 73 = .ok (.invokevirtual 75, 3) := by decide +kernel
theorem eX6_readQuestion_76 : decode cX6_readQuestion 76 = .ok (.aload_n 0, 1) ∧ decode cX6_readQuestion 77 = .ok (.invokevirtual 78, 3) ∧ decode cX6_readQuestion 80 = .ok (.goto 24, 3) ∧ decode cX6_readQuestion 83 = .ok (.aload_n 0, 1) ∧ decode cX6_readQuestion 84 = .ok (.invokevirtual 75, 3) ∧ decode cX6_readQuestion 87 = .ok (.aload_n 0, 1) ∧ decode cX6_readQuestion 88 = .ok (.invokevirtual 81, 3) ∧ decode cX6_readQuestion 91 = .ok (.goto 13, 3) := by decide +kernel
theorem eX6_readQuestion_94 : decode cX6_readQuestion 94 = .ok (.aload_n 0, 1) ∧ decode cX6_readQuestion 95 = .ok (.iconst 1, 1) ∧ decode cX6_readQuestion 96 = .ok (.aload_n 0, 1) ∧ decode cX6_readQuestion 97 = .ok (.getfield 51, 3) ∧ decode cX6_readQuestion 100 = .ok (.invokevirtual 54, 3) ∧ decode cX6_readQuestion 103 = .ok (.pop, 1) ∧ decode cX6_readQuestion 104 = .ok (.aload_n 0, 1) ∧ decode cX6_readQuestion 105 = .ok (.getfield 44, 3) := by decide +kernel
theorem eX6_readQuestion_108 : decode cX6_readQuestion 108 = .ok (.ifCond .eq 13, 3) ∧ decode cX6_readQuestion 111 = .ok (.aload_n 0, 1) ∧ decode cX6_readQuestion 112 = .ok (.iconst 1, 1) ∧ decode cX6_readQuestion 113 = .ok (.aload_n 0, 1) ∧ decode cX6_readQuestion 114 = .ok (.getfield 51, 3) ∧ decode cX6_readQuestion 117 = .ok (.invokevirtual 54, 3) ∧ decode cX6_readQuestion 120 = .ok (.pop, 1) ∧ decode cX6_readQuestion 121 = .ok (.iload_n 2, 1) := by decide +kernel
theorem eX6_readQuestion_122 : decode cX6_readQuestion 122 = .ok (.ireturn, 1) ∧ decode cX8_fallBack 0 = .ok (.aload_n 0, 1) ∧ decode cX8_fallBack 1 = .ok (.getfield 15, 3) ∧ decode cX8_fallBack 4 = .ok (.iconst 0, 1) ∧ decode cX8_fallBack 5 = .ok (.aload_n 0, 1) ∧ decode cX8_fallBack 6 = .ok (.getfield 9, 3) ∧ decode cX8_fallBack 9 = .ok (.iconst 0, 1) ∧ decode cX8_fallBack 10 = .ok (.bipush 48, 2) := by decide +kernel
theorem eX8_fallBack_12 : decode cX8_fallBack 12 = .ok (.invokestatic 51, 3) ∧ decode cX8_fallBack 15 = .ok (.aload_n 0, 1) ∧ decode cX8_fallBack 16 = .ok (.getfield 33, 3) ∧ decode cX8_fallBack 19 = .ok (.iconst 0, 1) ∧ decode cX8_fallBack 20 = .ok (.aload_n 0, 1) ∧ decode cX8_fallBack 21 = .ok (.getfield 30, 3) ∧ decode cX8_fallBack 24 = .ok (.iconst 0, 1) ∧ decode cX8_fallBack 25 = .ok (.bipush 8, 2) := by decide +kernel
theorem eX8_fallBack_27 : decode cX8_fallBack 27 = .ok (.invokestatic 51, 3) ∧ decode cX8_fallBack 30 = .ok (.return_, 1) ∧ decode cX8_freshBlocks 0 = .ok (.iconst 0, 1) ∧ decode cX8_freshBlocks 1 = .ok (.istore_n 1, 1) ∧ decode cX8_freshBlocks 2 = .ok (.iconst 0, 1) ∧ decode cX8_freshBlocks 3 = .ok (.istore_n 2, 1) ∧ decode cX8_freshBlocks 4 = .ok (.iload_n 2, 1) ∧ decode cX8_freshBlocks 5 = .ok (.aload_n 0, 1) := by decide +kernel
theorem eX8_freshBlocks_6 : decode cX8_freshBlocks 6 = .ok (.getfield 40, 3) ∧ decode cX8_freshBlocks 9 = .ok (.if_icmp .ge 25, 3) ∧ decode cX8_freshBlocks 12 = .ok (.iload_n 1, 1) ∧ decode cX8_freshBlocks 13 = .ok (.aload_n 0, 1) ∧ decode cX8_freshBlocks 14 = .ok (.iload_n 2, 1) ∧ decode cX8_freshBlocks 15 = .ok (.invokevirtual 70, 3) ∧ decode cX8_freshBlocks 18 = .ok (.ifCond .eq 7, 3) ∧ decode cX8_freshBlocks 21 = .ok (.iconst 1, 1) := by decide +kernel
theorem eX8_freshBlocks_22 : decode cX8_freshBlocks 22 = .ok (.goto 4, 3) ∧ decode cX8_freshBlocks 25 = .ok (.iconst 0, 1) ∧ decode cX8_freshBlocks 26 = .ok (.iadd, 1) ∧ decode cX8_freshBlocks 27 = .ok (.istore_n 1, 1) ∧ decode cX8_freshBlocks 28 = .ok (.iinc 2 1, 3) ∧ decode cX8_freshBlocks 31 = .ok (.goto (-27), 3) ∧ decode cX8_freshBlocks 34 = .ok (.iload_n 1, 1) ∧ decode cX8_freshBlocks 35 = .ok (.ireturn, 1) := by decide +kernel
theorem eX8_save_0 : decode cX8_save 0 = .ok (.aload_n 0, 1) ∧ decode cX8_save 1 = .ok (.getfield 9, 3) ∧ decode cX8_save 4 = .ok (.iconst 0, 1) ∧ decode cX8_save 5 = .ok (.aload_n 0, 1) ∧ decode cX8_save 6 = .ok (.getfield 15, 3) ∧ decode cX8_save 9 = .ok (.iconst 0, 1) ∧ decode cX8_save 10 = .ok (.bipush 48, 2) ∧ decode cX8_save 12 = .ok (.invokestatic 51, 3) := by decide +kernel
theorem eX8_save_15 : decode cX8_save 15 = .ok (.aload_n 0, 1) ∧ decode cX8_save 16 = .ok (.getfield 30, 3) ∧ decode cX8_save 19 = .ok (.iconst 0, 1) ∧ decode cX8_save 20 = .ok (.aload_n 0, 1) ∧ decode cX8_save 21 = .ok (.getfield 33, 3) ∧ decode cX8_save 24 = .ok (.iconst 0, 1) ∧ decode cX8_save 25 = .ok (.bipush 8, 2) ∧ decode cX8_save 27 = .ok (.invokestatic 51, 3) := by decide +kernel
theorem dX8_save_30 : decode cX8_save 30 = .ok (.return_, 1) := by decide +kernel
set_option maxHeartbeats 4000000 in
set_option maxRecDepth 100000 in
theorem k_x8_save (l : Launch) (D : va_G) (a : Nat → Nat) (sz : Nat) (s : MS) (o : MS) (h : m_x8_save s = some o) : yWv l yX8_save cX8_save 1 none { frames := 1, cells := 0, slots := 0, locals := 60 } D sz [.ref (a 53)] (CS D a s) (CS D a o) := by
  refine Met.ofW (cc := cX8_save) (maxL := 1) (ret := none) (by decide) rfl ?_
  intro p e s₀ m args below meth c s₁ B hml hv
  obtain ⟨rfl, ⟨hsz, hP, hK, hD0⟩, hN⟩ := hv
  have hx := B.exec
  have hb := B.bytes
  have hr := B.returns
  have hts := atoms_spec (ws := wz yX8_save cX8_save 1 none) B.pre
  have ht : ∀ w ∈ lw_gd, w.before _ s₀ = true := fun w h => hts w (List.mem_cons_of_mem _ h)
  have hown : s₀.vm.findClass RX8 = some m.cls := findClass_of_methodNamed B.named
  have hlocks := B.notSynchronized
  subst hsz
  have hD := hD0.self (sz := s₀.heap.size)
  generalize hAe : va_A (CS D a s) s₀.heap.size = A at hD ⊢
  have hA : ∀ q : Nat, s₀.heap.size ≤ q → A q := fun q h => by rw [← hAe]; exact Or.inr h
  have hS : va_S A s₀.heap s₀.heap [] := va_S.rf
  have hDD : ∀ t : MS, va_D A (CS D a t) := fun t => CW_D t hD
  have hl := lv_entry ([.ref (a 53)]) (n := 1) (Nat.le_of_ble_eq_true rfl)
  rw [lg_entry_eq]
  generalize (lg_sl ([.ref (a 53)]) ++ List.replicate (1 - (lg_sl ([.ref (a 53)])).length) Slot.unset).toArray = ls at hl ⊢
  have hl : lv_has ls 1 [(0, .ref (a 53))] := hl
  unfold m_x8_save at h
  refine lv_aload_n hx hb eX8_save_0.1 rfl (lv_at hl 0 rfl) ?_
  refine va_get (D := D) (ci := 8) (v := .ref (a 54)) (C := RX8) (T := TX8) (N := 11) hx hb ht inX8 hown hK hP 53 CW_53 rfl 3 (by decide) (ht (.fieldLink RX8 9 "CloneVolumes$State" "count" "[I") fl_X8_9) (fun _ h9 => h9) rfl eX8_save_0.2.1 ?_
  refine lv_iconst (v := 0) hx hb eX8_save_0.2.2.1 (by decide) ?_
  refine lv_aload_n hx hb eX8_save_0.2.2.2.1 rfl (lv_at hl 0 rfl) ?_
  refine va_get (D := D) (ci := 8) (v := .ref (a 55)) (C := RX8) (T := TX8) (N := 11) hx hb ht inX8 hown hK hP 53 CW_53 rfl 4 (by decide) (ht (.fieldLink RX8 15 "CloneVolumes$State" "saved" "[I") fl_X8_15) (fun _ h9 => h9) rfl eX8_save_0.2.2.2.2.1 ?_
  refine lv_iconst (v := 0) hx hb eX8_save_0.2.2.2.2.2.1 (by decide) ?_
  refine lv_bipush (v := 48) hx hb eX8_save_0.2.2.2.2.2.2.1 (by decide) ?_
  obtain ⟨hc1, h⟩ := cpg_e h
  refine ya_copyi (sp := 0) (dp := 0) (n := 48) hx hb (by rw [hml]; exact hl.1.symm) hown (ht _ ml_X8_51) (ht _ na_cpy) (ht _ st_cpy) (ht _ in_sys) hK hP (hDD _) hS 54 55 CW_54 CW_55 (by decide) (by decide) hc1 (Nat.le_of_ble_eq_true rfl) (Nat.le_of_ble_eq_true rfl) eX8_save_0.2.2.2.2.2.2.2 (CW_w55 _) (fun H locs hP hS => ?_)
  obtain ⟨s2, hs2, h⟩ := st_e h
  rw [hs2] at hP
  refine lv_aload_n hx hb eX8_save_15.1 rfl (lv_at hl 0 rfl) ?_
  refine va_get (D := D) (ci := 8) (v := .ref (a 60)) (C := RX8) (T := TX8) (N := 11) hx hb ht inX8 hown hK hP 53 CW_53 rfl 9 (by decide) (ht (.fieldLink RX8 30 "CloneVolumes$State" "roots" "[I") fl_X8_30) (fun _ h9 => h9) rfl eX8_save_15.2.1 ?_
  refine lv_iconst (v := 0) hx hb eX8_save_15.2.2.1 (by decide) ?_
  refine lv_aload_n hx hb eX8_save_15.2.2.2.1 rfl (lv_at hl 0 rfl) ?_
  refine va_get (D := D) (ci := 8) (v := .ref (a 61)) (C := RX8) (T := TX8) (N := 11) hx hb ht inX8 hown hK hP 53 CW_53 rfl 10 (by decide) (ht (.fieldLink RX8 33 "CloneVolumes$State" "savedRoots" "[I") fl_X8_33) (fun _ h9 => h9) rfl eX8_save_15.2.2.2.2.1 ?_
  refine lv_iconst (v := 0) hx hb eX8_save_15.2.2.2.2.2.1 (by decide) ?_
  refine lv_bipush (v := 8) hx hb eX8_save_15.2.2.2.2.2.2.1 (by decide) ?_
  obtain ⟨hc3, h⟩ := cpg_e h
  refine ya_copyi (sp := 0) (dp := 0) (n := 8) hx hb (by rw [hml]; exact hl.1.symm) hown (ht _ ml_X8_51) (ht _ na_cpy) (ht _ st_cpy) (ht _ in_sys) hK hP (hDD _) hS 60 61 CW_60 CW_61 (by decide) (by decide) hc3 (Nat.le_of_ble_eq_true rfl) (Nat.le_of_ble_eq_true rfl) eX8_save_15.2.2.2.2.2.2.2 (CW_w61 _) (fun H locs hP hS => ?_)
  obtain ⟨s4, hs4, h⟩ := st_e h
  rw [hs4] at hP
  obtain rfl := Option.some.inj h
  exact W.vret hx hb hr (fun t ht hW => ⟨⟨(), rfl, trivial, by rw [ht]; exact hP, va_K.moved hW.alike hK, hDD _⟩, hS.F ht⟩) hS.2.2 dX8_save_30
set_option maxHeartbeats 4000000 in
set_option maxRecDepth 100000 in
theorem k_x8_freshBlocks (l : Launch) (D : va_G) (a : Nat → Nat) (s : MS) (o : Int) (h : m_x8_freshBlocks s = some o) : yRi l yX8_freshBlocks cX8_freshBlocks 3 (some .int) { frames := 2, cells := 0, slots := 0, locals := 120 } D [.ref (a 53)] (CS D a s) (i2 o) := by
  refine Met.ofW (cc := cX8_freshBlocks) (maxL := 3) (ret := (some .int)) (by decide) rfl ?_
  intro p e s₀ m args below meth c s₁ B hml hv
  obtain ⟨rfl, ⟨hP, hK⟩, hN⟩ := hv
  have hx := B.exec
  have hb := B.bytes
  have hr := B.returns
  have hts := atoms_spec (ws := wz yX8_freshBlocks cX8_freshBlocks 3 (some .int)) B.pre
  have ht : ∀ w ∈ lw_gd, w.before _ s₀ = true := fun w h => hts w (List.mem_cons_of_mem _ h)
  have hown : s₀.vm.findClass RX8 = some m.cls := findClass_of_methodNamed B.named
  have hlocks := B.notSynchronized
  have hS : va_S (fun _ => False) s₀.heap s₀.heap [] := va_S.rf
  have hl := lv_entry ([.ref (a 53)]) (n := 3) (Nat.le_of_ble_eq_true rfl)
  rw [lg_entry_eq]
  generalize (lg_sl ([.ref (a 53)]) ++ List.replicate (3 - (lg_sl ([.ref (a 53)])).length) Slot.unset).toArray = ls at hl ⊢
  have hl : lv_has ls 3 [(0, .ref (a 53))] := hl
  unfold m_x8_freshBlocks at h
  refine y_loop (pcJ := 4) (σ := Int × Int) (fun n u H locs ls => va_P D vwCl (CS D a s) H ∧ va_S (fun _ => False) s₀.heap H locs ∧ lv_has ls 3 [(0, .ref (a 53)), (1, .int (i2 u.1)), (2, .int (i2 u.2))] ∧ m_x8_freshBlocks_L4 s n u.1 u.2 = some o) (fun u => []) (fun u H locs ls hI => by obtain ⟨_, _, _, h⟩ := hI; cases h) (fun n4 ih4 u H locs ls hI => ?_) (fun J4 => ?_)
  · obtain ⟨hP, hS, hl, h⟩ := hI
    obtain ⟨x1, x2⟩ := u
    have hP : va_P D vwCl (CS D a s) H := hP
    have hl : lv_has ls 3 [(0, .ref (a 53)), (1, .int (i2 x1)), (2, .int (i2 x2))] := hl
    have h : m_x8_freshBlocks_b4 s (m_x8_freshBlocks_L4 s n4) x1 x2 = some o := h
    unfold m_x8_freshBlocks_b4 at h
    refine y_head (pcJ := 26) (σ := Int × Int × Int) (fun u H locs ls => va_P D vwCl (CS D a s) H ∧ va_S (fun _ => False) s₀.heap H locs ∧ lv_has ls 3 [(0, .ref (a 53)), (2, .int (i2 u.1))] ∧ m_x8_freshBlocks_J26 s (m_x8_freshBlocks_L4 s n4) u.1 u.2.1 u.2.2 = some o) (fun u => [.int (i2 u.2.1), .int (i2 u.2.2)]) (fun u H locs ls hI => ?_) (fun J26 => ?_)
    · obtain ⟨hP, hS, hl, h⟩ := hI
      obtain ⟨x3, x4, x5⟩ := u
      have hP : va_P D vwCl (CS D a s) H := hP
      have hl : lv_has ls 3 [(0, .ref (a 53)), (2, .int (i2 x3))] := hl
      have h : m_x8_freshBlocks_J26 s (m_x8_freshBlocks_L4 s n4) x3 x4 x5 = some o := h
      unfold m_x8_freshBlocks_J26 at h
      refine lv_iadd hx hb eX8_freshBlocks_22.2.2.1 ?_
      refine z_topi (y := i2 (x5 + x4)) (i2_add x5 x4) ?_
      refine lv_istore_n (lv' := [(1, .int (i2 (x5 + x4))), (0, .ref (a 53)), (2, .int (i2 x3))]) hx hb eX8_freshBlocks_22.2.2.2.1 rfl hl (by decide) rfl (fun ls hl => ?_)
      refine lv_iinc (v := i2 (x3 + 1)) (lv' := [(2, .int (i2 (x3 + 1))), (1, .int (i2 (x5 + x4))), (0, .ref (a 53))]) hx hb eX8_freshBlocks_22.2.2.2.2.1 hl (k := 2) rfl (i2_add x3 1) (by decide) rfl (fun ls hl => ?_)
      refine lv_goto (tgt := 4) hx hb eX8_freshBlocks_22.2.2.2.2.2.1 (by decide) ?_
      exact ih4 (x5 + x4, x3 + 1) _ _ _ ⟨hP, hS, lv_sub hl [2, 1, 0] rfl, h⟩
    refine lv_iload_n hx hb eX8_fallBack_27.2.2.2.2.2.2.1 rfl (lv_at hl 2 rfl) ?_
    refine lv_aload_n hx hb eX8_fallBack_27.2.2.2.2.2.2.2 rfl (lv_at hl 0 rfl) ?_
    refine va_get (D := D) (ci := 8) (v := .int (i2 (gI s 1060))) (C := RX8) (T := TX8) (N := 11) hx hb ht inX8 hown hK hP 53 CW_53 rfl 0 (by decide) (ht (.fieldLink RX8 40 "CloneVolumes$State" "blocks" "I") fl_X8_40) (fun _ h9 => h9) rfl eX8_freshBlocks_6.1 ?_
    obtain ⟨hr6, h⟩ := rg_e h
    obtain ⟨hr7, h⟩ := rg_e h
    refine lv_icmp_ge (tgt := 34) hx hb eX8_freshBlocks_6.2.1 (by decide) (fun c8 => ?_) (fun c8 => ?_)
    · have h := if_t ((i2_le (x := (gI s 1060)) (y := x2) hr7 hr6).mp c8) h
      refine lv_iload_n hx hb eX8_freshBlocks_22.2.2.2.2.2.2.1 rfl (lv_at hl 1 rfl) ?_
      obtain rfl := Option.some.inj h
      exact W.iret (v := (i2 x1)) hx hb hr (fun t ht hW => ⟨⟨_, (), rfl, rfl, trivial⟩, hS.F ht⟩) hS.2.2 eX8_freshBlocks_22.2.2.2.2.2.2.2
    · have h := if_f (mt (i2_le (x := (gI s 1060)) (y := x2) hr7 hr6).mpr c8) h
      refine lv_iload_n hx hb eX8_freshBlocks_6.2.2.1 rfl (lv_at hl 1 rfl) ?_
      refine lv_aload_n hx hb eX8_freshBlocks_6.2.2.2.1 rfl (lv_at hl 0 rfl) ?_
      refine lv_iload_n hx hb eX8_freshBlocks_6.2.2.2.2.1 rfl (lv_at hl 2 rfl) ?_
      obtain ⟨r10, hc9, h⟩ := bn_e h
      refine ycV (r0 := i2 r10) (As := [.int (i2 x2)]) (rest := [.int (i2 x1)]) (C := RX8) (n := 1) ⟨hx, hb, hml, hown, ht⟩ (k_x8_isFresh l D a x2 _ _ hc9) (zgV ml_X8_70 im_X8_isFresh se_X8_isFresh in_X8 co_X8_isFresh) rfl rfl (by decide +kernel) ⟨Nat.le_of_ble_eq_true rfl, Nat.le_of_ble_eq_true rfl⟩ hN hK hP hS 53 CW_53 rfl rfl rfl hl.1 rfl (Nat.le_of_ble_eq_true rfl) eX8_freshBlocks_6.2.2.2.2.2.1 ⟨Nat.le_of_ble_eq_true rfl, Nat.le_of_ble_eq_true rfl⟩ (fun H locs hP hS => ?_)
      obtain ⟨hr11, h⟩ := rg_e h
      refine lv_if_eq (tgt := 25) hx hb eX8_freshBlocks_6.2.2.2.2.2.2.1 (by decide) (fun c12 => ?_) (fun c12 => ?_)
      · have h := if_t ((i2_eq (x := r10) (y := 0) hr11 (by decide)).mp c12) h
        refine lv_iconst (v := 0) hx hb eX8_freshBlocks_22.2.1 (by decide) ?_
        exact J26 (x2, 0, x1) _ _ _ ⟨hP, hS, lv_sub hl [0, 2] rfl, h⟩
      · have h := if_f (mt (i2_eq (x := r10) (y := 0) hr11 (by decide)).mpr c12) h
        refine lv_iconst (v := 1) hx hb eX8_freshBlocks_6.2.2.2.2.2.2.2 (by decide) ?_
        refine lv_goto (tgt := 26) hx hb eX8_freshBlocks_22.1 (by decide) ?_
        exact J26 (x2, 1, x1) _ _ _ ⟨hP, hS, lv_sub hl [0, 2] rfl, h⟩
  refine lv_iconst (v := 0) hx hb eX8_fallBack_27.2.2.1 (by decide) ?_
  refine lv_istore_n (lv' := [(1, .int 0), (0, .ref (a 53))]) hx hb eX8_fallBack_27.2.2.2.1 rfl hl (by decide) rfl (fun ls hl => ?_)
  refine lv_iconst (v := 0) hx hb eX8_fallBack_27.2.2.2.2.1 (by decide) ?_
  refine lv_istore_n (lv' := [(2, .int 0), (1, .int 0), (0, .ref (a 53))]) hx hb eX8_fallBack_27.2.2.2.2.2.1 rfl hl (by decide) rfl (fun ls hl => ?_)
  exact J4 FU (0, 0) _ _ _ ⟨hP, hS, lv_sub hl [2, 1, 0] rfl, h⟩
set_option maxHeartbeats 4000000 in
set_option maxRecDepth 100000 in
theorem k_x8_fallBack (l : Launch) (D : va_G) (a : Nat → Nat) (sz : Nat) (s : MS) (o : MS) (h : m_x8_fallBack s = some o) : yWv l yX8_fallBack cX8_fallBack 1 none { frames := 1, cells := 0, slots := 0, locals := 60 } D sz [.ref (a 53)] (CS D a s) (CS D a o) := by
  refine Met.ofW (cc := cX8_fallBack) (maxL := 1) (ret := none) (by decide) rfl ?_
  intro p e s₀ m args below meth c s₁ B hml hv
  obtain ⟨rfl, ⟨hsz, hP, hK, hD0⟩, hN⟩ := hv
  have hx := B.exec
  have hb := B.bytes
  have hr := B.returns
  have hts := atoms_spec (ws := wz yX8_fallBack cX8_fallBack 1 none) B.pre
  have ht : ∀ w ∈ lw_gd, w.before _ s₀ = true := fun w h => hts w (List.mem_cons_of_mem _ h)
  have hown : s₀.vm.findClass RX8 = some m.cls := findClass_of_methodNamed B.named
  have hlocks := B.notSynchronized
  subst hsz
  have hD := hD0.self (sz := s₀.heap.size)
  generalize hAe : va_A (CS D a s) s₀.heap.size = A at hD ⊢
  have hA : ∀ q : Nat, s₀.heap.size ≤ q → A q := fun q h => by rw [← hAe]; exact Or.inr h
  have hS : va_S A s₀.heap s₀.heap [] := va_S.rf
  have hDD : ∀ t : MS, va_D A (CS D a t) := fun t => CW_D t hD
  have hl := lv_entry ([.ref (a 53)]) (n := 1) (Nat.le_of_ble_eq_true rfl)
  rw [lg_entry_eq]
  generalize (lg_sl ([.ref (a 53)]) ++ List.replicate (1 - (lg_sl ([.ref (a 53)])).length) Slot.unset).toArray = ls at hl ⊢
  have hl : lv_has ls 1 [(0, .ref (a 53))] := hl
  unfold m_x8_fallBack at h
  refine lv_aload_n hx hb eX6_readQuestion_122.2.1 rfl (lv_at hl 0 rfl) ?_
  refine va_get (D := D) (ci := 8) (v := .ref (a 55)) (C := RX8) (T := TX8) (N := 11) hx hb ht inX8 hown hK hP 53 CW_53 rfl 4 (by decide) (ht (.fieldLink RX8 15 "CloneVolumes$State" "saved" "[I") fl_X8_15) (fun _ h9 => h9) rfl eX6_readQuestion_122.2.2.1 ?_
  refine lv_iconst (v := 0) hx hb eX6_readQuestion_122.2.2.2.1 (by decide) ?_
  refine lv_aload_n hx hb eX6_readQuestion_122.2.2.2.2.1 rfl (lv_at hl 0 rfl) ?_
  refine va_get (D := D) (ci := 8) (v := .ref (a 54)) (C := RX8) (T := TX8) (N := 11) hx hb ht inX8 hown hK hP 53 CW_53 rfl 3 (by decide) (ht (.fieldLink RX8 9 "CloneVolumes$State" "count" "[I") fl_X8_9) (fun _ h9 => h9) rfl eX6_readQuestion_122.2.2.2.2.2.1 ?_
  refine lv_iconst (v := 0) hx hb eX6_readQuestion_122.2.2.2.2.2.2.1 (by decide) ?_
  refine lv_bipush (v := 48) hx hb eX6_readQuestion_122.2.2.2.2.2.2.2 (by decide) ?_
  obtain ⟨hc1, h⟩ := cpg_e h
  refine ya_copyi (sp := 0) (dp := 0) (n := 48) hx hb (by rw [hml]; exact hl.1.symm) hown (ht _ ml_X8_51) (ht _ na_cpy) (ht _ st_cpy) (ht _ in_sys) hK hP (hDD _) hS 55 54 CW_55 CW_54 (by decide) (by decide) hc1 (Nat.le_of_ble_eq_true rfl) (Nat.le_of_ble_eq_true rfl) eX8_fallBack_12.1 (CW_w54 _) (fun H locs hP hS => ?_)
  obtain ⟨s2, hs2, h⟩ := st_e h
  rw [hs2] at hP
  refine lv_aload_n hx hb eX8_fallBack_12.2.1 rfl (lv_at hl 0 rfl) ?_
  refine va_get (D := D) (ci := 8) (v := .ref (a 61)) (C := RX8) (T := TX8) (N := 11) hx hb ht inX8 hown hK hP 53 CW_53 rfl 10 (by decide) (ht (.fieldLink RX8 33 "CloneVolumes$State" "savedRoots" "[I") fl_X8_33) (fun _ h9 => h9) rfl eX8_fallBack_12.2.2.1 ?_
  refine lv_iconst (v := 0) hx hb eX8_fallBack_12.2.2.2.1 (by decide) ?_
  refine lv_aload_n hx hb eX8_fallBack_12.2.2.2.2.1 rfl (lv_at hl 0 rfl) ?_
  refine va_get (D := D) (ci := 8) (v := .ref (a 60)) (C := RX8) (T := TX8) (N := 11) hx hb ht inX8 hown hK hP 53 CW_53 rfl 9 (by decide) (ht (.fieldLink RX8 30 "CloneVolumes$State" "roots" "[I") fl_X8_30) (fun _ h9 => h9) rfl eX8_fallBack_12.2.2.2.2.2.1 ?_
  refine lv_iconst (v := 0) hx hb eX8_fallBack_12.2.2.2.2.2.2.1 (by decide) ?_
  refine lv_bipush (v := 8) hx hb eX8_fallBack_12.2.2.2.2.2.2.2 (by decide) ?_
  obtain ⟨hc3, h⟩ := cpg_e h
  refine ya_copyi (sp := 0) (dp := 0) (n := 8) hx hb (by rw [hml]; exact hl.1.symm) hown (ht _ ml_X8_51) (ht _ na_cpy) (ht _ st_cpy) (ht _ in_sys) hK hP (hDD _) hS 61 60 CW_61 CW_60 (by decide) (by decide) hc3 (Nat.le_of_ble_eq_true rfl) (Nat.le_of_ble_eq_true rfl) eX8_fallBack_27.1 (CW_w60 _) (fun H locs hP hS => ?_)
  obtain ⟨s4, hs4, h⟩ := st_e h
  rw [hs4] at hP
  obtain rfl := Option.some.inj h
  exact W.vret hx hb hr (fun t ht hW => ⟨⟨(), rfl, trivial, by rw [ht]; exact hP, va_K.moved hW.alike hK, hDD _⟩, hS.F ht⟩) hS.2.2 eX8_fallBack_27.2.1
set_option maxHeartbeats 4000000 in
set_option maxRecDepth 100000 in
theorem k_x11_seed (l : Launch) (D : va_G) (a : Nat → Nat) (p0 : Int) (sz : Nat) (s : MS) (o : (Int × MS)) (h : m_x11_seed p0 s = some o) : yWi l yX11_seed cX11_seed 2 (some .boolean) { frames := 1, cells := 0, slots := 0, locals := 60 } D sz [.ref (a 0), .int (i2 p0)] (CS D a s) (CS D a o.2) (i2 o.1) := by
  refine Met.ofW (cc := cX11_seed) (maxL := 2) (ret := (some .boolean)) (by decide) rfl ?_
  intro p e s₀ m args below meth c s₁ B hml hv
  obtain ⟨rfl, ⟨hsz, hP, hK, hD0⟩, hN⟩ := hv
  have hx := B.exec
  have hb := B.bytes
  have hr := B.returns
  have hts := atoms_spec (ws := wz yX11_seed cX11_seed 2 (some .boolean)) B.pre
  have ht : ∀ w ∈ lw_gd, w.before _ s₀ = true := fun w h => hts w (List.mem_cons_of_mem _ h)
  have hown : s₀.vm.findClass RX11 = some m.cls := findClass_of_methodNamed B.named
  have hlocks := B.notSynchronized
  subst hsz
  have hD := hD0.self (sz := s₀.heap.size)
  generalize hAe : va_A (CS D a s) s₀.heap.size = A at hD ⊢
  have hA : ∀ q : Nat, s₀.heap.size ≤ q → A q := fun q h => by rw [← hAe]; exact Or.inr h
  have hS : va_S A s₀.heap s₀.heap [] := va_S.rf
  have hDD : ∀ t : MS, va_D A (CS D a t) := fun t => CW_D t hD
  have hl := lv_entry ([.ref (a 0), .int (i2 p0)]) (n := 2) (Nat.le_of_ble_eq_true rfl)
  rw [lg_entry_eq]
  generalize (lg_sl ([.ref (a 0), .int (i2 p0)]) ++ List.replicate (2 - (lg_sl ([.ref (a 0), .int (i2 p0)])).length) Slot.unset).toArray = ls at hl ⊢
  have hl : lv_has ls 2 [(0, .ref (a 0)), (1, .int (i2 p0))] := hl
  unfold m_x11_seed at h
  refine lv_iload_n hx hb eX11_ask_85.2.2.2.2.2.2.2 rfl (lv_at hl 1 rfl) ?_
  obtain ⟨hr1, h⟩ := rg_e h
  refine lv_if_ge (tgt := 12) hx hb eX11_seed_1.1 (by decide) (fun c2 => ?_) (fun c2 => ?_)
  · have h := if_t ((i2_le (x := 0) (y := p0) (by decide) hr1).mp c2) h
    refine lv_aload_n hx hb eX11_seed_1.2.2.2.2.2.2.2 rfl (lv_at hl 0 rfl) ?_
    refine va_get (D := D) (ci := 11) (v := .ref (a 49)) (C := RX11) (T := TX11) (N := 13) hx hb ht inX11 hown hK hP 0 CW_0 rfl 11 (by decide) (ht (.fieldLink RX11 79 "CloneVolumes" "forest" "LCloneVolumes$Forest;") fl_X11_79) (fun _ h9 => h9) rfl eX11_seed_13.1 ?_
    refine lv_iload_n hx hb eX11_seed_13.2.1 rfl (lv_at hl 1 rfl) ?_
    refine ya_put (D := D) (ci := 1) (v := .int (i2 p0)) (ty := .int) (C := RX1) (T := TX1) (N := 9) hx hb ht inX1 tyX1 tyX1_ok nmX1 hown hK hP (hDD _) hS 49 CW_49 rfl 3 (by decide) (ht (.fieldLink RX11 316 "CloneVolumes$Forest" "seed" "I") fl_X11_316) (fun _ h9 => h9) rfl (by decide +kernel) rfl rfl (Nat.le_of_ble_eq_true rfl) eX11_seed_13.2.2.1 (CW_w49_3 p0) (fun H locs hP hS => ?_)
    obtain ⟨s3, hs3, h⟩ := st_e h
    rw [hs3] at hP
    refine lv_iconst (v := 1) hx hb eX11_seed_13.2.2.2.1 (by decide) ?_
    obtain rfl := Option.some.inj h
    exact W.zret (v := 1) hx hb hr (by decide) (fun t ht hW => ⟨⟨_, (), rfl, rfl, by rw [ht]; exact hP, va_K.moved hW.alike hK, hDD _⟩, hS.F ht⟩) hS.2.2 eX11_seed_13.2.2.2.2.1
  · have h := if_f (mt (i2_le (x := 0) (y := p0) (by decide) hr1).mpr c2) h
    refine lv_aload_n hx hb eX11_seed_1.2.1 rfl (lv_at hl 0 rfl) ?_
    refine lv_iconst (v := 5) hx hb eX11_seed_1.2.2.1 (by decide) ?_
    obtain ⟨⟨r6, s5⟩, hc4, h⟩ := bn_e h
    refine ywV (r0 := i2 r6) (As := [.int 5]) (rest := []) (C := RX11) (n := 1) (ws' := CS D a s5) ⟨hx, hb, hml, hown, ht⟩ (k_x11_refuse l D a 5 _ _ _ hc4) (zgV ml_X11_87 im_X11_refuse se_X11_refuse in_X11 co_X11_refuse) rfl rfl (by decide +kernel) ⟨Nat.le_of_ble_eq_true rfl, Nat.le_of_ble_eq_true rfl⟩ hN hK hP (hDD _) hS hA 0 CW_0 rfl rfl rfl hl.1 rfl (Nat.le_of_ble_eq_true rfl) eX11_seed_1.2.2.2.1 ⟨Nat.le_of_ble_eq_true rfl, Nat.le_of_ble_eq_true rfl⟩ (fun H locs hP hS => ?_)
    refine lv_pop hx hb eX11_seed_1.2.2.2.2.1 rfl ?_
    refine lv_iconst (v := 0) hx hb eX11_seed_1.2.2.2.2.2.1 (by decide) ?_
    obtain rfl := Option.some.inj h
    exact W.zret (v := 0) hx hb hr (by decide) (fun t ht hW => ⟨⟨_, (), rfl, rfl, by rw [ht]; exact hP, va_K.moved hW.alike hK, hDD _⟩, hS.F ht⟩) hS.2.2 eX11_seed_1.2.2.2.2.2.2.1
set_option maxHeartbeats 4000000 in
set_option maxRecDepth 100000 in
theorem k_x3_value_v2 (l : Launch) (D : va_G) (a : Nat → Nat) (p1 : Int) (p2 : Int) (sz : Nat) (s : MS) (o : (Int × MS)) (h : m_x3_value_v2 p1 p2 s = some o) : yWi l yX3_value cX3_value 7 (some .int) { frames := 1, cells := 0, slots := 0, locals := 60 } D sz [.ref (a 80), .ref (a 47), .int (i2 p1), .int (i2 p2)] (CS D a s) (CS D a o.2) (i2 o.1) := by
  refine Met.ofW (cc := cX3_value) (maxL := 7) (ret := (some .int)) (by decide) rfl ?_
  intro p e s₀ m args below meth c s₁ B hml hv
  obtain ⟨rfl, ⟨hsz, hP, hK, hD0⟩, hN⟩ := hv
  have hx := B.exec
  have hb := B.bytes
  have hr := B.returns
  have hts := atoms_spec (ws := wz yX3_value cX3_value 7 (some .int)) B.pre
  have ht : ∀ w ∈ lw_gd, w.before _ s₀ = true := fun w h => hts w (List.mem_cons_of_mem _ h)
  have hown : s₀.vm.findClass RX3 = some m.cls := findClass_of_methodNamed B.named
  have hlocks := B.notSynchronized
  subst hsz
  have hD := hD0.self (sz := s₀.heap.size)
  generalize hAe : va_A (CS D a s) s₀.heap.size = A at hD ⊢
  have hA : ∀ q : Nat, s₀.heap.size ≤ q → A q := fun q h => by rw [← hAe]; exact Or.inr h
  have hS : va_S A s₀.heap s₀.heap [] := va_S.rf
  have hDD : ∀ t : MS, va_D A (CS D a t) := fun t => CW_D t hD
  have hl := lv_entry ([.ref (a 80), .ref (a 47), .int (i2 p1), .int (i2 p2)]) (n := 7) (Nat.le_of_ble_eq_true rfl)
  rw [lg_entry_eq]
  generalize (lg_sl ([.ref (a 80), .ref (a 47), .int (i2 p1), .int (i2 p2)]) ++ List.replicate (7 - (lg_sl ([.ref (a 80), .ref (a 47), .int (i2 p1), .int (i2 p2)])).length) Slot.unset).toArray = ls at hl ⊢
  have hl : lv_has ls 7 [(0, .ref (a 80)), (1, .ref (a 47)), (2, .int (i2 p1)), (3, .int (i2 p2))] := hl
  unfold m_x3_value_v2 at h
  refine y_head (pcJ := 125) (σ := MS) (fun u H locs ls => va_P D vwCl (CS D a u) H ∧ va_S A s₀.heap H locs ∧ lv_has ls 7 [(0, .ref (a 80))] ∧ m_x3_value_v2_J125 u = some o) (fun u => []) (fun u H locs ls hI => ?_) (fun J125 => ?_)
  · obtain ⟨hP, hS, hl, h⟩ := hI
    obtain ⟨s1, rfl⟩ : ∃ z, z = u := ⟨u, rfl⟩
    have hP : va_P D vwCl (CS D a s1) H := hP
    have hl : lv_has ls 7 [(0, .ref (a 80))] := hl
    have h : m_x3_value_v2_J125 s1 = some o := h
    unfold m_x3_value_v2_J125 at h
    refine lv_aload_n hx hb eX3_value_116.2.2.2.1 rfl (lv_at hl 0 rfl) ?_
    obtain ⟨⟨r4, s3⟩, hc2, h⟩ := bn_e h
    refine ywV (r0 := i2 r4) (As := []) (rest := []) (C := RX3) (n := 0) (ws' := CS D a s3) ⟨hx, hb, hml, hown, ht⟩ (k_x3_pop l D a _ _ _ hc2) (zgV ml_X3_39 im_X3_pop se_X3_pop in_X3 co_X3_pop) rfl rfl (by decide +kernel) ⟨Nat.le_of_ble_eq_true rfl, Nat.le_of_ble_eq_true rfl⟩ hN hK hP (hDD _) hS hA 80 CW_80 rfl rfl rfl hl.1 rfl (Nat.le_of_ble_eq_true rfl) eX3_value_116.2.2.2.2.1 ⟨Nat.le_of_ble_eq_true rfl, Nat.le_of_ble_eq_true rfl⟩ (fun H locs hP hS => ?_)
    obtain rfl := Option.some.inj h
    exact W.iret (v := (i2 r4)) hx hb hr (fun t ht hW => ⟨⟨_, (), rfl, rfl, by rw [ht]; exact hP, va_K.moved hW.alike hK, hDD _⟩, hS.F ht⟩) hS.2.2 eX3_value_116.2.2.2.2.2.1
  refine y_loop (pcJ := 8) (σ := Int × Int × MS) (fun n u H locs ls => va_P D vwCl (CS D a u.2.2) H ∧ va_S A s₀.heap H locs ∧ lv_has ls 7 [(0, .ref (a 80)), (1, .ref (a 47)), (3, .int (i2 u.1)), (4, .int (i2 u.2.1))] ∧ m_x3_value_v2_L8 n u.1 u.2.1 u.2.2 = some o) (fun u => []) (fun u H locs ls hI => by obtain ⟨_, _, _, h⟩ := hI; cases h) (fun n8 ih8 u H locs ls hI => ?_) (fun J8 => ?_)
  · obtain ⟨hP, hS, hl, h⟩ := hI
    obtain ⟨x5, x6, s7⟩ := u
    have hP : va_P D vwCl (CS D a s7) H := hP
    have hl : lv_has ls 7 [(0, .ref (a 80)), (1, .ref (a 47)), (3, .int (i2 x5)), (4, .int (i2 x6))] := hl
    have h : m_x3_value_v2_b8 (m_x3_value_v2_L8 n8) x5 x6 s7 = some o := h
    unfold m_x3_value_v2_b8 at h
    refine y_head (pcJ := 119) (σ := Int × Int × MS) (fun u H locs ls => va_P D vwCl (CS D a u.2.2) H ∧ va_S A s₀.heap H locs ∧ lv_has ls 7 [(0, .ref (a 80)), (1, .ref (a 47)), (3, .int (i2 u.1)), (4, .int (i2 u.2.1))] ∧ m_x3_value_v2_J119 (m_x3_value_v2_L8 n8) u.1 u.2.1 u.2.2 = some o) (fun u => []) (fun u H locs ls hI => ?_) (fun J119 => ?_)
    · obtain ⟨hP, hS, hl, h⟩ := hI
      obtain ⟨x8, x9, s10⟩ := u
      have hP : va_P D vwCl (CS D a s10) H := hP
      have hl : lv_has ls 7 [(0, .ref (a 80)), (1, .ref (a 47)), (3, .int (i2 x8)), (4, .int (i2 x9))] := hl
      have h : m_x3_value_v2_J119 (m_x3_value_v2_L8 n8) x8 x9 s10 = some o := h
      unfold m_x3_value_v2_J119 at h
      refine lv_iinc (v := i2 (x9 + 1)) (lv' := [(4, .int (i2 (x9 + 1))), (0, .ref (a 80)), (1, .ref (a 47)), (3, .int (i2 x8))]) hx hb eX3_value_116.2.1 hl (k := 3) rfl (i2_add x9 1) (by decide) rfl (fun ls hl => ?_)
      refine lv_goto (tgt := 8) hx hb eX3_value_116.2.2.1 (by decide) ?_
      exact ih8 (x8, x9 + 1, s10) _ _ _ ⟨hP, hS, lv_sub hl [1, 2, 3, 0] rfl, h⟩
    refine lv_iload hx hb eX3_value_0.2.2.2.2.2.1 (lv_at hl 3 rfl) ?_
    obtain ⟨hr11, h⟩ := rg_e h
    refine lv_if_lt (tgt := 125) hx hb eX3_value_0.2.2.2.2.2.2.1 (by decide) (fun c12 => ?_) (fun c12 => ?_)
    · have h := if_t ((i2_lt (x := x6) (y := 0) hr11 (by decide)).mp c12) h
      exact J125 s7 _ _ _ ⟨hP, hS, lv_sub hl [0] rfl, h⟩
    · have h := if_f (mt (i2_lt (x := x6) (y := 0) hr11 (by decide)).mpr c12) h
      refine lv_iload hx hb eX3_value_0.2.2.2.2.2.2.2 (lv_at hl 3 rfl) ?_
      refine lv_iload_n hx hb eX3_value_15.1 rfl (lv_at hl 2 rfl) ?_
      obtain ⟨hr13, h⟩ := rg_e h
      obtain ⟨hr14, h⟩ := rg_e h
      refine lv_icmp_ge (tgt := 125) hx hb eX3_value_15.2.1 (by decide) (fun c15 => ?_) (fun c15 => ?_)
      · have h := if_t ((i2_le (x := x5) (y := x6) hr14 hr13).mp c15) h
        exact J125 s7 _ _ _ ⟨hP, hS, lv_sub hl [0] rfl, h⟩
      · have h := if_f (mt (i2_le (x := x5) (y := x6) hr14 hr13).mpr c15) h
        refine lv_iload hx hb eX3_value_15.2.2.1 (lv_at hl 3 rfl) ?_
        refine lv_aload_n hx hb eX3_value_15.2.2.2.1 rfl (lv_at hl 1 rfl) ?_
        refine va_get (D := D) (ci := 0) (v := .int (i2 (gI s7 941))) (C := RX0) (T := TX0) (N := 2) hx hb ht inX0 hown hK hP 47 CW_47 rfl 1 (by decide) (ht (.fieldLink RX3 23 "CloneVolumes$Code" "size" "I") fl_X3_23) (fun _ h9 => h9) rfl eX3_value_15.2.2.2.2.1 ?_
        obtain ⟨hr16, h⟩ := rg_e h
        obtain ⟨hr17, h⟩ := rg_e h
        refine lv_icmp_ge (tgt := 125) hx hb eX3_value_15.2.2.2.2.2.1 (by decide) (fun c18 => ?_) (fun c18 => ?_)
        · have h := if_t ((i2_le (x := (gI s7 941)) (y := x6) hr17 hr16).mp c18) h
          exact J125 s7 _ _ _ ⟨hP, hS, lv_sub hl [0] rfl, h⟩
        · have h := if_f (mt (i2_le (x := (gI s7 941)) (y := x6) hr17 hr16).mpr c18) h
          refine lv_aload_n hx hb eX3_value_15.2.2.2.2.2.2.1 rfl (lv_at hl 1 rfl) ?_
          refine va_get (D := D) (ci := 0) (v := .ref (a 48)) (C := RX0) (T := TX0) (N := 2) hx hb ht inX0 hown hK hP 47 CW_47 rfl 0 (by decide) (ht (.fieldLink RX3 28 "CloneVolumes$Code" "steps" "[I") fl_X3_28) (fun _ h9 => h9) rfl eX3_value_15.2.2.2.2.2.2.2 ?_
          refine lv_iload hx hb eX3_value_32.1 (lv_at hl 3 rfl) ?_
          obtain ⟨y19, ey19, iy19, h⟩ := rdI_e h
          refine ya_iald (i := x6) hx hb hK hP 48 0 CW_48 rfl (by decide) ey19 iy19 eX3_value_32.2.1 ?_
          refine lv_istore (lv' := [(5, .int (i2 y19)), (0, .ref (a 80)), (1, .ref (a 47)), (3, .int (i2 x5)), (4, .int (i2 x6))]) hx hb eX3_value_32.2.2.1 hl (by decide) rfl (fun ls hl => ?_)
          refine lv_iload hx hb eX3_value_32.2.2.2.1 (lv_at hl 0 rfl) ?_
          obtain ⟨hr20, h⟩ := rg_e h
          refine lv_if_lt (tgt := 51) hx hb eX3_value_32.2.2.2.2.1 (by decide) (fun c21 => ?_) (fun c21 => ?_)
          · have h := if_t ((i2_lt (x := y19) (y := 0) hr20 (by decide)).mp c21) h
            refine lv_iload hx hb eX3_value_48.2.1 (lv_at hl 0 rfl) ?_
            refine lv_bipush (v := (-100)) hx hb eX3_value_48.2.2.1 (by decide) ?_
            obtain ⟨hr22, h⟩ := rg_e h
            refine lv_icmp_gt (tgt := 74) hx hb eX3_value_48.2.2.2.1 (by decide) (fun c23 => ?_) (fun c23 => ?_)
            · rw [show ((-100) : Int32) = i2 (-100) from by decide] at c23
              have h := if_t ((i2_lt (x := (-100)) (y := y19) (by decide) hr22).mp c23) h
              refine lv_iload hx hb eX3_value_64.2.2.2.2.1 (lv_at hl 0 rfl) ?_
              refine lv_bipush (v := (-12)) hx hb eX3_value_64.2.2.2.2.2.1 (by decide) ?_
              obtain ⟨hr24, h⟩ := rg_e h
              refine lv_icmp_gt (tgt := 98) hx hb eX3_value_64.2.2.2.2.2.2.1 (by decide) (fun c25 => ?_) (fun c25 => ?_)
              · rw [show ((-12) : Int32) = i2 (-12) from by decide] at c25
                have h := if_t ((i2_lt (x := (-12)) (y := y19) (by decide) hr24).mp c25) h
                refine lv_aload_n hx hb eX3_value_82.2.2.2.2.2.2.2 rfl (lv_at hl 1 rfl) ?_
                obtain ⟨⟨r28, s27⟩, hc26, h⟩ := bn_e h
                refine ywV (r0 := i2 r28) (As := []) (rest := []) (C := RX3) (n := 0) (ws' := CS D a s27) ⟨hx, hb, hml, hown, ht⟩ (k_x3_pop l D a _ _ _ hc26) (zgV ml_X3_39 im_X3_pop se_X3_pop in_X3 co_X3_pop) rfl rfl (by decide +kernel) ⟨Nat.le_of_ble_eq_true rfl, Nat.le_of_ble_eq_true rfl⟩ hN hK hP (hDD _) hS hA 80 CW_80 rfl rfl rfl hl.1 rfl (Nat.le_of_ble_eq_true rfl) eX3_value_99.1 ⟨Nat.le_of_ble_eq_true rfl, Nat.le_of_ble_eq_true rfl⟩ (fun H locs hP hS => ?_)
                refine lv_istore (lv' := [(6, .int (i2 r28)), (5, .int (i2 y19)), (0, .ref (a 80)), (1, .ref (a 47)), (3, .int (i2 x5)), (4, .int (i2 x6))]) hx hb eX3_value_99.2.1 hl (by decide) rfl (fun ls hl => ?_)
                refine lv_aload_n hx hb eX3_value_99.2.2.1 rfl (lv_at hl 2 rfl) ?_
                refine lv_iload hx hb eX3_value_99.2.2.2.1 (lv_at hl 1 rfl) ?_
                refine lv_aload_n hx hb eX3_value_99.2.2.2.2.1 rfl (lv_at hl 2 rfl) ?_
                obtain ⟨⟨r31, s30⟩, hc29, h⟩ := bn_e h
                refine ywV (r0 := i2 r31) (As := []) (rest := [.int (i2 y19), .ref (a 80)]) (C := RX3) (n := 0) (ws' := CS D a s30) ⟨hx, hb, hml, hown, ht⟩ (k_x3_pop l D a _ _ _ hc29) (zgV ml_X3_39 im_X3_pop se_X3_pop in_X3 co_X3_pop) rfl rfl (by decide +kernel) ⟨Nat.le_of_ble_eq_true rfl, Nat.le_of_ble_eq_true rfl⟩ hN hK hP (hDD _) hS hA 80 CW_80 rfl rfl rfl hl.1 rfl (Nat.le_of_ble_eq_true rfl) eX3_value_99.2.2.2.2.2.1 ⟨Nat.le_of_ble_eq_true rfl, Nat.le_of_ble_eq_true rfl⟩ (fun H locs hP hS => ?_)
                refine lv_iload hx hb eX3_value_99.2.2.2.2.2.2.1 (lv_at hl 0 rfl) ?_
                obtain ⟨r33, hc32, h⟩ := bn_e h
                refine ycS (r0 := i2 r33) (As := [.int (i2 y19), .int (i2 r31), .int (i2 r28)]) (rest := [.ref (a 80)]) (n := 3) ⟨hx, hb, hml, hown, ht⟩ (k_x3_joined l D a y19 r31 r28 _ _ hc32) (zgT ml_X3_47 st_X3_joined in_X3 co_X3_joined) rfl rfl (by decide +kernel) ⟨Nat.le_of_ble_eq_true rfl, Nat.le_of_ble_eq_true rfl⟩ hN hK hP hS rfl hl.1 rfl (Nat.le_of_ble_eq_true rfl) eX3_value_99.2.2.2.2.2.2.2 ⟨Nat.le_of_ble_eq_true rfl, Nat.le_of_ble_eq_true rfl⟩ (fun H locs hP hS => ?_)
                obtain ⟨s35, hc34, h⟩ := bn_e h
                refine ywVv (As := [.int (i2 r33)]) (rest := []) (C := RX3) (n := 1) (ws' := CS D a s35) ⟨hx, hb, hml, hown, ht⟩ (k_x3_push l D a r33 _ _ _ hc34) (zgV ml_X3_31 im_X3_push se_X3_push in_X3 co_X3_push) rfl rfl (by decide +kernel) ⟨Nat.le_of_ble_eq_true rfl, Nat.le_of_ble_eq_true rfl⟩ hN hK hP (hDD _) hS hA 80 CW_80 rfl rfl rfl hl.1 rfl (Nat.le_of_ble_eq_true rfl) eX3_value_116.1 ⟨Nat.le_of_ble_eq_true rfl, Nat.le_of_ble_eq_true rfl⟩ (fun H locs hP hS => ?_)
                exact J119 (x5, x6, s35) _ _ _ ⟨hP, hS, lv_sub hl [2, 3, 4, 5] rfl, h⟩
              · rw [show ((-12) : Int32) = i2 (-12) from by decide] at c25
                have h := if_f (mt (i2_lt (x := (-12)) (y := y19) (by decide) hr24).mpr c25) h
                refine lv_aload_n hx hb eX3_value_64.2.2.2.2.2.2.2 rfl (lv_at hl 1 rfl) ?_
                refine lv_aload_n hx hb eX3_value_82.1 rfl (lv_at hl 1 rfl) ?_
                refine lv_iload hx hb eX3_value_82.2.1 (lv_at hl 0 rfl) ?_
                refine lv_aload_n hx hb eX3_value_82.2.2.1 rfl (lv_at hl 1 rfl) ?_
                obtain ⟨⟨r38, s37⟩, hc36, h⟩ := bn_e h
                refine ywV (r0 := i2 r38) (As := []) (rest := [.int (i2 y19), .ref (a 80), .ref (a 80)]) (C := RX3) (n := 0) (ws' := CS D a s37) ⟨hx, hb, hml, hown, ht⟩ (k_x3_pop l D a _ _ _ hc36) (zgV ml_X3_39 im_X3_pop se_X3_pop in_X3 co_X3_pop) rfl rfl (by decide +kernel) ⟨Nat.le_of_ble_eq_true rfl, Nat.le_of_ble_eq_true rfl⟩ hN hK hP (hDD _) hS hA 80 CW_80 rfl rfl rfl hl.1 rfl (Nat.le_of_ble_eq_true rfl) eX3_value_82.2.2.2.1 ⟨Nat.le_of_ble_eq_true rfl, Nat.le_of_ble_eq_true rfl⟩ (fun H locs hP hS => ?_)
                obtain ⟨r40, hc39, h⟩ := bn_e h
                refine ycV (r0 := i2 r40) (As := [.int (i2 y19), .int (i2 r38)]) (rest := [.ref (a 80)]) (C := RX3) (n := 2) ⟨hx, hb, hml, hown, ht⟩ (k_x3_changed l D a y19 r38 _ _ hc39) (zgV ml_X3_43 im_X3_changed se_X3_changed in_X3 co_X3_changed) rfl rfl (by decide +kernel) ⟨Nat.le_of_ble_eq_true rfl, Nat.le_of_ble_eq_true rfl⟩ hN hK hP hS 80 CW_80 rfl rfl rfl hl.1 rfl (Nat.le_of_ble_eq_true rfl) eX3_value_82.2.2.2.2.1 ⟨Nat.le_of_ble_eq_true rfl, Nat.le_of_ble_eq_true rfl⟩ (fun H locs hP hS => ?_)
                obtain ⟨s42, hc41, h⟩ := bn_e h
                refine ywVv (As := [.int (i2 r40)]) (rest := []) (C := RX3) (n := 1) (ws' := CS D a s42) ⟨hx, hb, hml, hown, ht⟩ (k_x3_push l D a r40 _ _ _ hc41) (zgV ml_X3_31 im_X3_push se_X3_push in_X3 co_X3_push) rfl rfl (by decide +kernel) ⟨Nat.le_of_ble_eq_true rfl, Nat.le_of_ble_eq_true rfl⟩ hN hK hP (hDD _) hS hA 80 CW_80 rfl rfl rfl hl.1 rfl (Nat.le_of_ble_eq_true rfl) eX3_value_82.2.2.2.2.2.1 ⟨Nat.le_of_ble_eq_true rfl, Nat.le_of_ble_eq_true rfl⟩ (fun H locs hP hS => ?_)
                refine lv_goto (tgt := 119) hx hb eX3_value_82.2.2.2.2.2.2.1 (by decide) ?_
                exact J119 (x5, x6, s42) _ _ _ ⟨hP, hS, lv_sub hl [1, 2, 3, 4] rfl, h⟩
            · rw [show ((-100) : Int32) = i2 (-100) from by decide] at c23
              have h := if_f (mt (i2_lt (x := (-100)) (y := y19) (by decide) hr22).mpr c23) h
              refine lv_aload_n hx hb eX3_value_48.2.2.2.2.1 rfl (lv_at hl 1 rfl) ?_
              refine lv_aload_n hx hb eX3_value_48.2.2.2.2.2.1 rfl (lv_at hl 1 rfl) ?_
              refine lv_bipush (v := (-100)) hx hb eX3_value_48.2.2.2.2.2.2.1 (by decide) ?_
              refine lv_iload hx hb eX3_value_48.2.2.2.2.2.2.2 (lv_at hl 0 rfl) ?_
              refine lv_isub hx hb eX3_value_64.1 ?_
              refine z_topi (y := i2 ((-100) - y19)) (by rw [show ((-100) : Int32) = i2 (-100) from by decide]; exact (i2_sub (-100) y19)) ?_
              obtain ⟨r44, hc43, h⟩ := bn_e h
              refine ycV (r0 := i2 r44) (As := [.int (i2 ((-100) - y19))]) (rest := [.ref (a 80)]) (C := RX3) (n := 1) ⟨hx, hb, hml, hown, ht⟩ (k_x3_fact l D a ((-100) - y19) _ _ hc43) (zgV ml_X3_35 im_X3_fact se_X3_fact in_X3 co_X3_fact) rfl rfl (by decide +kernel) ⟨Nat.le_of_ble_eq_true rfl, Nat.le_of_ble_eq_true rfl⟩ hN hK hP hS 80 CW_80 rfl rfl rfl hl.1 rfl (Nat.le_of_ble_eq_true rfl) eX3_value_64.2.1 ⟨Nat.le_of_ble_eq_true rfl, Nat.le_of_ble_eq_true rfl⟩ (fun H locs hP hS => ?_)
              obtain ⟨s46, hc45, h⟩ := bn_e h
              refine ywVv (As := [.int (i2 r44)]) (rest := []) (C := RX3) (n := 1) (ws' := CS D a s46) ⟨hx, hb, hml, hown, ht⟩ (k_x3_push l D a r44 _ _ _ hc45) (zgV ml_X3_31 im_X3_push se_X3_push in_X3 co_X3_push) rfl rfl (by decide +kernel) ⟨Nat.le_of_ble_eq_true rfl, Nat.le_of_ble_eq_true rfl⟩ hN hK hP (hDD _) hS hA 80 CW_80 rfl rfl rfl hl.1 rfl (Nat.le_of_ble_eq_true rfl) eX3_value_64.2.2.1 ⟨Nat.le_of_ble_eq_true rfl, Nat.le_of_ble_eq_true rfl⟩ (fun H locs hP hS => ?_)
              refine lv_goto (tgt := 119) hx hb eX3_value_64.2.2.2.1 (by decide) ?_
              exact J119 (x5, x6, s46) _ _ _ ⟨hP, hS, lv_sub hl [1, 2, 3, 4] rfl, h⟩
          · have h := if_f (mt (i2_lt (x := y19) (y := 0) hr20 (by decide)).mpr c21) h
            refine lv_aload_n hx hb eX3_value_32.2.2.2.2.2.1 rfl (lv_at hl 1 rfl) ?_
            refine lv_iload hx hb eX3_value_32.2.2.2.2.2.2.1 (lv_at hl 0 rfl) ?_
            obtain ⟨s48, hc47, h⟩ := bn_e h
            refine ywVv (As := [.int (i2 y19)]) (rest := []) (C := RX3) (n := 1) (ws' := CS D a s48) ⟨hx, hb, hml, hown, ht⟩ (k_x3_push l D a y19 _ _ _ hc47) (zgV ml_X3_31 im_X3_push se_X3_push in_X3 co_X3_push) rfl rfl (by decide +kernel) ⟨Nat.le_of_ble_eq_true rfl, Nat.le_of_ble_eq_true rfl⟩ hN hK hP (hDD _) hS hA 80 CW_80 rfl rfl rfl hl.1 rfl (Nat.le_of_ble_eq_true rfl) eX3_value_32.2.2.2.2.2.2.2 ⟨Nat.le_of_ble_eq_true rfl, Nat.le_of_ble_eq_true rfl⟩ (fun H locs hP hS => ?_)
            refine lv_goto (tgt := 119) hx hb eX3_value_48.1 (by decide) ?_
            exact J119 (x5, x6, s48) _ _ _ ⟨hP, hS, lv_sub hl [1, 2, 3, 4] rfl, h⟩
  refine lv_aload_n hx hb eX3_value_0.1 rfl (lv_at hl 0 rfl) ?_
  refine lv_iconst (v := 0) hx hb eX3_value_0.2.1 (by decide) ?_
  refine ya_put (D := D) (ci := 3) (v := .int 0) (ty := .int) (C := RX3) (T := TX3) (N := 10) hx hb ht inX3 tyX3 tyX3_ok nmX3 hown hK hP (hDD _) hS 80 CW_80 rfl 1 (by decide) (ht (.fieldLink RX3 19 "CloneVolumes$Machine" "top" "I") fl_X3_19) (fun _ h9 => h9) rfl (by decide +kernel) rfl rfl (Nat.le_of_ble_eq_true rfl) eX3_value_0.2.2.1 (CW_w80_1 0) (fun H locs hP hS => ?_)
  obtain ⟨s49, hs49, h⟩ := st_e h
  rw [hs49] at hP
  refine lv_iload_n hx hb eX3_value_0.2.2.2.1 rfl (lv_at hl 2 rfl) ?_
  refine lv_istore (lv' := [(4, .int (i2 p1)), (0, .ref (a 80)), (1, .ref (a 47)), (2, .int (i2 p1)), (3, .int (i2 p2))]) hx hb eX3_value_0.2.2.2.2.1 hl (by decide) rfl (fun ls hl => ?_)
  exact J8 FU (p2, p1, s49) _ _ _ ⟨hP, hS, lv_sub hl [1, 2, 4, 0] rfl, h⟩
set_option maxHeartbeats 4000000 in
set_option maxRecDepth 100000 in
theorem k_x1_valueFor (l : Launch) (D : va_G) (a : Nat → Nat) (p0 : Int) (sz : Nat) (s : MS) (o : (Int × MS)) (h : m_x1_valueFor p0 s = some o) : yWi l yX1_valueFor cX1_valueFor 3 (some .int) { frames := 3, cells := 0, slots := 0, locals := 180 } D sz [.ref (a 49), .int (i2 p0), .ref (a 47)] (CS D a s) (CS D a o.2) (i2 o.1) := by
  refine Met.ofW (cc := cX1_valueFor) (maxL := 3) (ret := (some .int)) (by decide) rfl ?_
  intro p e s₀ m args below meth c s₁ B hml hv
  obtain ⟨rfl, ⟨hsz, hP, hK, hD0⟩, hN⟩ := hv
  have hx := B.exec
  have hb := B.bytes
  have hr := B.returns
  have hts := atoms_spec (ws := wz yX1_valueFor cX1_valueFor 3 (some .int)) B.pre
  have ht : ∀ w ∈ lw_gd, w.before _ s₀ = true := fun w h => hts w (List.mem_cons_of_mem _ h)
  have hown : s₀.vm.findClass RX1 = some m.cls := findClass_of_methodNamed B.named
  have hlocks := B.notSynchronized
  subst hsz
  have hD := hD0.self (sz := s₀.heap.size)
  generalize hAe : va_A (CS D a s) s₀.heap.size = A at hD ⊢
  have hA : ∀ q : Nat, s₀.heap.size ≤ q → A q := fun q h => by rw [← hAe]; exact Or.inr h
  have hS : va_S A s₀.heap s₀.heap [] := va_S.rf
  have hDD : ∀ t : MS, va_D A (CS D a t) := fun t => CW_D t hD
  have hl := lv_entry ([.ref (a 49), .int (i2 p0), .ref (a 47)]) (n := 3) (Nat.le_of_ble_eq_true rfl)
  rw [lg_entry_eq]
  generalize (lg_sl ([.ref (a 49), .int (i2 p0), .ref (a 47)]) ++ List.replicate (3 - (lg_sl ([.ref (a 49), .int (i2 p0), .ref (a 47)])).length) Slot.unset).toArray = ls at hl ⊢
  have hl : lv_has ls 3 [(0, .ref (a 49)), (1, .int (i2 p0)), (2, .ref (a 47))] := hl
  unfold m_x1_valueFor at h
  refine y_head (pcJ := 74) (σ := Int × Int × MS) (fun u H locs ls => va_P D vwCl (CS D a u.2.2) H ∧ va_S A s₀.heap H locs ∧ lv_has ls 3 [(0, .ref (a 49)), (1, .int (i2 u.1)), (2, .ref (a 47))] ∧ m_x1_valueFor_J74 u.1 u.2.1 u.2.2 = some o) (fun u => [.int (i2 u.2.1), .ref (a 80)]) (fun u H locs ls hI => ?_) (fun J74 => ?_)
  · obtain ⟨hP, hS, hl, h⟩ := hI
    obtain ⟨x1, x2, s3⟩ := u
    have hP : va_P D vwCl (CS D a s3) H := hP
    have hl : lv_has ls 3 [(0, .ref (a 49)), (1, .int (i2 x1)), (2, .ref (a 47))] := hl
    have h : m_x1_valueFor_J74 x1 x2 s3 = some o := h
    unfold m_x1_valueFor_J74 at h
    refine ya_put (D := D) (ci := 3) (v := .int (i2 x2)) (ty := .int) (C := RX3) (T := TX3) (N := 10) hx hb ht inX3 tyX3 tyX3_ok nmX3 hown hK hP (hDD _) hS 80 CW_80 rfl 7 (by decide) (ht (.fieldLink RX1 189 "CloneVolumes$Machine" "fresh" "I") fl_X1_189) (fun _ h9 => h9) rfl (by decide +kernel) rfl rfl (Nat.le_of_ble_eq_true rfl) eX1_valueFor_73.2.1 (CW_w80_7 x2) (fun H locs hP hS => ?_)
    obtain ⟨s4, hs4, h⟩ := st_e h
    rw [hs4] at hP
    refine lv_aload_n hx hb eX1_valueFor_73.2.2.1 rfl (lv_at hl 0 rfl) ?_
    refine va_get (D := D) (ci := 1) (v := .ref (a 80)) (C := RX1) (T := TX1) (N := 9) hx hb ht inX1 hown hK hP 49 CW_49 rfl 5 (by decide) (ht (.fieldLink RX1 33 "CloneVolumes$Forest" "machine" "LCloneVolumes$Machine;") fl_X1_33) (fun _ h9 => h9) rfl eX1_valueFor_73.2.2.2.1 ?_
    refine lv_aload_n hx hb eX1_valueFor_73.2.2.2.2.1 rfl (lv_at hl 0 rfl) ?_
    refine va_get (D := D) (ci := 1) (v := .ref (a 53)) (C := RX1) (T := TX1) (N := 9) hx hb ht inX1 hown hK hP 49 CW_49 rfl 0 (by decide) (ht (.fieldLink RX1 12 "CloneVolumes$Forest" "now" "LCloneVolumes$State;") fl_X1_12) (fun _ h9 => h9) rfl eX1_valueFor_73.2.2.2.2.2.1 ?_
    refine va_get (D := D) (ci := 8) (v := .ref (a 55)) (C := RX8) (T := TX8) (N := 11) hx hb ht inX8 hown hK hP 53 CW_53 rfl 4 (by decide) (ht (.fieldLink RX1 192 "CloneVolumes$State" "saved" "[I") fl_X1_192) (fun _ h9 => h9) rfl eX1_valueFor_73.2.2.2.2.2.2.1 ?_
    refine lv_iload_n hx hb eX1_valueFor_73.2.2.2.2.2.2.2 rfl (lv_at hl 1 rfl) ?_
    obtain ⟨y5, ey5, iy5, h⟩ := rdI_e h
    refine ya_iald (i := x1) hx hb hK hP 55 0 CW_55 rfl (by decide) ey5 iy5 eX1_valueFor_89.1 ?_
    refine ya_put (D := D) (ci := 3) (v := .int (i2 y5)) (ty := .int) (C := RX3) (T := TX3) (N := 10) hx hb ht inX3 tyX3 tyX3_ok nmX3 hown hK hP (hDD _) hS 80 CW_80 rfl 8 (by decide) (ht (.fieldLink RX1 195 "CloneVolumes$Machine" "saved" "I") fl_X1_195) (fun _ h9 => h9) rfl (by decide +kernel) rfl rfl (Nat.le_of_ble_eq_true rfl) eX1_valueFor_89.2.1 (CW_w80_8 y5) (fun H locs hP hS => ?_)
    obtain ⟨s6, hs6, h⟩ := st_e h
    rw [hs6] at hP
    refine lv_aload_n hx hb eX1_valueFor_89.2.2.1 rfl (lv_at hl 0 rfl) ?_
    refine va_get (D := D) (ci := 1) (v := .ref (a 80)) (C := RX1) (T := TX1) (N := 9) hx hb ht inX1 hown hK hP 49 CW_49 rfl 5 (by decide) (ht (.fieldLink RX1 33 "CloneVolumes$Forest" "machine" "LCloneVolumes$Machine;") fl_X1_33) (fun _ h9 => h9) rfl eX1_valueFor_89.2.2.2.1 ?_
    refine lv_aload_n hx hb eX1_valueFor_89.2.2.2.2.1 rfl (lv_at hl 2 rfl) ?_
    refine lv_iconst (v := 0) hx hb eX1_valueFor_89.2.2.2.2.2.1 (by decide) ?_
    refine lv_aload_n hx hb eX1_valueFor_89.2.2.2.2.2.2.1 rfl (lv_at hl 2 rfl) ?_
    refine va_get (D := D) (ci := 0) (v := .int (i2 (gI s6 941))) (C := RX0) (T := TX0) (N := 2) hx hb ht inX0 hown hK hP 47 CW_47 rfl 1 (by decide) (ht (.fieldLink RX1 197 "CloneVolumes$Code" "size" "I") fl_X1_197) (fun _ h9 => h9) rfl eX1_valueFor_89.2.2.2.2.2.2.2 ?_
    obtain ⟨⟨r9, s8⟩, hc7, h⟩ := bn_e h
    refine ywV (r0 := i2 r9) (As := [.ref (a 47), .int 0, .int (i2 (gI s6 941))]) (rest := []) (C := RX3) (n := 3) (ws' := CS D a s8) ⟨hx, hb, hml, hown, ht⟩ (k_x3_value_v2 l D a 0 (gI s6 941) _ _ _ hc7) (zgV ml_X1_168 im_X3_value se_X3_value in_X3 co_X3_value) rfl rfl (by decide +kernel) ⟨Nat.le_of_ble_eq_true rfl, Nat.le_of_ble_eq_true rfl⟩ hN hK hP (hDD _) hS hA 80 CW_80 rfl rfl rfl hl.1 rfl (Nat.le_of_ble_eq_true rfl) eX1_valueFor_103.1 ⟨Nat.le_of_ble_eq_true rfl, Nat.le_of_ble_eq_true rfl⟩ (fun H locs hP hS => ?_)
    obtain rfl := Option.some.inj h
    exact W.iret (v := (i2 r9)) hx hb hr (fun t ht hW => ⟨⟨_, (), rfl, rfl, by rw [ht]; exact hP, va_K.moved hW.alike hK, hDD _⟩, hS.F ht⟩) hS.2.2 eX1_valueFor_103.2.1
  refine lv_aload_n hx hb eX11_seed_13.2.2.2.2.2.1 rfl (lv_at hl 0 rfl) ?_
  refine va_get (D := D) (ci := 1) (v := .ref (a 80)) (C := RX1) (T := TX1) (N := 9) hx hb ht inX1 hown hK hP 49 CW_49 rfl 5 (by decide) (ht (.fieldLink RX1 33 "CloneVolumes$Forest" "machine" "LCloneVolumes$Machine;") fl_X1_33) (fun _ h9 => h9) rfl eX11_seed_13.2.2.2.2.2.2.1 ?_
  refine lv_iload_n hx hb eX11_seed_13.2.2.2.2.2.2.2 rfl (lv_at hl 1 rfl) ?_
  refine ya_put (D := D) (ci := 3) (v := .int (i2 p0)) (ty := .int) (C := RX3) (T := TX3) (N := 10) hx hb ht inX3 tyX3 tyX3_ok nmX3 hown hK hP (hDD _) hS 80 CW_80 rfl 2 (by decide) (ht (.fieldLink RX1 147 "CloneVolumes$Machine" "number" "I") fl_X1_147) (fun _ h9 => h9) rfl (by decide +kernel) rfl rfl (Nat.le_of_ble_eq_true rfl) eX1_valueFor_5.1 (CW_w80_2 p0) (fun H locs hP hS => ?_)
  obtain ⟨s10, hs10, h⟩ := st_e h
  rw [hs10] at hP
  refine lv_aload_n hx hb eX1_valueFor_5.2.1 rfl (lv_at hl 0 rfl) ?_
  refine va_get (D := D) (ci := 1) (v := .ref (a 80)) (C := RX1) (T := TX1) (N := 9) hx hb ht inX1 hown hK hP 49 CW_49 rfl 5 (by decide) (ht (.fieldLink RX1 33 "CloneVolumes$Forest" "machine" "LCloneVolumes$Machine;") fl_X1_33) (fun _ h9 => h9) rfl eX1_valueFor_5.2.2.1 ?_
  refine lv_aload_n hx hb eX1_valueFor_5.2.2.2.1 rfl (lv_at hl 0 rfl) ?_
  refine va_get (D := D) (ci := 1) (v := .ref (a 53)) (C := RX1) (T := TX1) (N := 9) hx hb ht inX1 hown hK hP 49 CW_49 rfl 0 (by decide) (ht (.fieldLink RX1 12 "CloneVolumes$Forest" "now" "LCloneVolumes$State;") fl_X1_12) (fun _ h9 => h9) rfl eX1_valueFor_5.2.2.2.2.1 ?_
  refine lv_iload_n hx hb eX1_valueFor_5.2.2.2.2.2.1 rfl (lv_at hl 1 rfl) ?_
  obtain ⟨r12, hc11, h⟩ := bn_e h
  refine ycV (r0 := i2 r12) (As := [.int (i2 p0)]) (rest := [.ref (a 80)]) (C := RX8) (n := 1) ⟨hx, hb, hml, hown, ht⟩ (k_x8_levelOf l D a p0 _ _ hc11) (zgV ml_X1_175 im_X8_levelOf se_X8_levelOf in_X8 co_X8_levelOf) rfl rfl (by decide +kernel) ⟨Nat.le_of_ble_eq_true rfl, Nat.le_of_ble_eq_true rfl⟩ hN hK hP hS 53 CW_53 rfl rfl rfl hl.1 rfl (Nat.le_of_ble_eq_true rfl) eX1_valueFor_5.2.2.2.2.2.2.1 ⟨Nat.le_of_ble_eq_true rfl, Nat.le_of_ble_eq_true rfl⟩ (fun H locs hP hS => ?_)
  refine ya_put (D := D) (ci := 3) (v := .int (i2 r12)) (ty := .int) (C := RX3) (T := TX3) (N := 10) hx hb ht inX3 tyX3 tyX3_ok nmX3 hown hK hP (hDD _) hS 80 CW_80 rfl 4 (by decide) (ht (.fieldLink RX1 153 "CloneVolumes$Machine" "level" "I") fl_X1_153) (fun _ h9 => h9) rfl (by decide +kernel) rfl rfl (Nat.le_of_ble_eq_true rfl) eX1_valueFor_5.2.2.2.2.2.2.2 (CW_w80_4 r12) (fun H locs hP hS => ?_)
  obtain ⟨s13, hs13, h⟩ := st_e h
  rw [hs13] at hP
  refine lv_aload_n hx hb eX1_valueFor_23.1 rfl (lv_at hl 0 rfl) ?_
  refine va_get (D := D) (ci := 1) (v := .ref (a 80)) (C := RX1) (T := TX1) (N := 9) hx hb ht inX1 hown hK hP 49 CW_49 rfl 5 (by decide) (ht (.fieldLink RX1 33 "CloneVolumes$Forest" "machine" "LCloneVolumes$Machine;") fl_X1_33) (fun _ h9 => h9) rfl eX1_valueFor_23.2.1 ?_
  refine lv_aload_n hx hb eX1_valueFor_23.2.2.1 rfl (lv_at hl 0 rfl) ?_
  refine va_get (D := D) (ci := 1) (v := .ref (a 53)) (C := RX1) (T := TX1) (N := 9) hx hb ht inX1 hown hK hP 49 CW_49 rfl 0 (by decide) (ht (.fieldLink RX1 12 "CloneVolumes$Forest" "now" "LCloneVolumes$State;") fl_X1_12) (fun _ h9 => h9) rfl eX1_valueFor_23.2.2.2.1 ?_
  refine lv_iload_n hx hb eX1_valueFor_23.2.2.2.2.1 rfl (lv_at hl 1 rfl) ?_
  obtain ⟨r15, hc14, h⟩ := bn_e h
  refine ycV (r0 := i2 r15) (As := [.int (i2 p0)]) (rest := [.ref (a 80)]) (C := RX8) (n := 1) ⟨hx, hb, hml, hown, ht⟩ (k_x8_sizeOf l D a p0 _ _ hc14) (zgV ml_X1_178 im_X8_sizeOf se_X8_sizeOf in_X8 co_X8_sizeOf) rfl rfl (by decide +kernel) ⟨Nat.le_of_ble_eq_true rfl, Nat.le_of_ble_eq_true rfl⟩ hN hK hP hS 53 CW_53 rfl rfl rfl hl.1 rfl (Nat.le_of_ble_eq_true rfl) eX1_valueFor_23.2.2.2.2.2.1 ⟨Nat.le_of_ble_eq_true rfl, Nat.le_of_ble_eq_true rfl⟩ (fun H locs hP hS => ?_)
  refine ya_put (D := D) (ci := 3) (v := .int (i2 r15)) (ty := .int) (C := RX3) (T := TX3) (N := 10) hx hb ht inX3 tyX3 tyX3_ok nmX3 hown hK hP (hDD _) hS 80 CW_80 rfl 5 (by decide) (ht (.fieldLink RX1 158 "CloneVolumes$Machine" "entries" "I") fl_X1_158) (fun _ h9 => h9) rfl (by decide +kernel) rfl rfl (Nat.le_of_ble_eq_true rfl) eX1_valueFor_23.2.2.2.2.2.2.1 (CW_w80_5 r15) (fun H locs hP hS => ?_)
  obtain ⟨s16, hs16, h⟩ := st_e h
  rw [hs16] at hP
  refine lv_aload_n hx hb eX1_valueFor_23.2.2.2.2.2.2.2 rfl (lv_at hl 0 rfl) ?_
  refine va_get (D := D) (ci := 1) (v := .ref (a 80)) (C := RX1) (T := TX1) (N := 9) hx hb ht inX1 hown hK hP 49 CW_49 rfl 5 (by decide) (ht (.fieldLink RX1 33 "CloneVolumes$Forest" "machine" "LCloneVolumes$Machine;") fl_X1_33) (fun _ h9 => h9) rfl eX1_valueFor_39.1 ?_
  refine lv_aload_n hx hb eX1_valueFor_39.2.1 rfl (lv_at hl 0 rfl) ?_
  refine va_get (D := D) (ci := 1) (v := .ref (a 53)) (C := RX1) (T := TX1) (N := 9) hx hb ht inX1 hown hK hP 49 CW_49 rfl 0 (by decide) (ht (.fieldLink RX1 12 "CloneVolumes$Forest" "now" "LCloneVolumes$State;") fl_X1_12) (fun _ h9 => h9) rfl eX1_valueFor_39.2.2.1 ?_
  refine va_get (D := D) (ci := 8) (v := .ref (a 54)) (C := RX8) (T := TX8) (N := 11) hx hb ht inX8 hown hK hP 53 CW_53 rfl 3 (by decide) (ht (.fieldLink RX1 181 "CloneVolumes$State" "count" "[I") fl_X1_181) (fun _ h9 => h9) rfl eX1_valueFor_39.2.2.2.1 ?_
  refine lv_iload_n hx hb eX1_valueFor_39.2.2.2.2.1 rfl (lv_at hl 1 rfl) ?_
  obtain ⟨y17, ey17, iy17, h⟩ := rdI_e h
  refine ya_iald (i := p0) hx hb hK hP 54 0 CW_54 rfl (by decide) ey17 iy17 eX1_valueFor_39.2.2.2.2.2.1 ?_
  refine ya_put (D := D) (ci := 3) (v := .int (i2 y17)) (ty := .int) (C := RX3) (T := TX3) (N := 10) hx hb ht inX3 tyX3 tyX3_ok nmX3 hown hK hP (hDD _) hS 80 CW_80 rfl 6 (by decide) (ht (.fieldLink RX1 184 "CloneVolumes$Machine" "count" "I") fl_X1_184) (fun _ h9 => h9) rfl (by decide +kernel) rfl rfl (Nat.le_of_ble_eq_true rfl) eX1_valueFor_39.2.2.2.2.2.2.1 (CW_w80_6 y17) (fun H locs hP hS => ?_)
  obtain ⟨s18, hs18, h⟩ := st_e h
  rw [hs18] at hP
  refine lv_aload_n hx hb eX1_valueFor_39.2.2.2.2.2.2.2 rfl (lv_at hl 0 rfl) ?_
  refine va_get (D := D) (ci := 1) (v := .ref (a 80)) (C := RX1) (T := TX1) (N := 9) hx hb ht inX1 hown hK hP 49 CW_49 rfl 5 (by decide) (ht (.fieldLink RX1 33 "CloneVolumes$Forest" "machine" "LCloneVolumes$Machine;") fl_X1_33) (fun _ h9 => h9) rfl eX1_valueFor_55.1 ?_
  refine lv_aload_n hx hb eX1_valueFor_55.2.1 rfl (lv_at hl 0 rfl) ?_
  refine va_get (D := D) (ci := 1) (v := .ref (a 53)) (C := RX1) (T := TX1) (N := 9) hx hb ht inX1 hown hK hP 49 CW_49 rfl 0 (by decide) (ht (.fieldLink RX1 12 "CloneVolumes$Forest" "now" "LCloneVolumes$State;") fl_X1_12) (fun _ h9 => h9) rfl eX1_valueFor_55.2.2.1 ?_
  refine lv_iload_n hx hb eX1_valueFor_55.2.2.2.1 rfl (lv_at hl 1 rfl) ?_
  obtain ⟨r20, hc19, h⟩ := bn_e h
  refine ycV (r0 := i2 r20) (As := [.int (i2 p0)]) (rest := [.ref (a 80)]) (C := RX8) (n := 1) ⟨hx, hb, hml, hown, ht⟩ (k_x8_isFresh l D a p0 _ _ hc19) (zgV ml_X1_186 im_X8_isFresh se_X8_isFresh in_X8 co_X8_isFresh) rfl rfl (by decide +kernel) ⟨Nat.le_of_ble_eq_true rfl, Nat.le_of_ble_eq_true rfl⟩ hN hK hP hS 53 CW_53 rfl rfl rfl hl.1 rfl (Nat.le_of_ble_eq_true rfl) eX1_valueFor_55.2.2.2.2.1 ⟨Nat.le_of_ble_eq_true rfl, Nat.le_of_ble_eq_true rfl⟩ (fun H locs hP hS => ?_)
  obtain ⟨hr21, h⟩ := rg_e h
  refine lv_if_eq (tgt := 73) hx hb eX1_valueFor_55.2.2.2.2.2.1 (by decide) (fun c22 => ?_) (fun c22 => ?_)
  · have h := if_t ((i2_eq (x := r20) (y := 0) hr21 (by decide)).mp c22) h
    refine lv_iconst (v := 0) hx hb eX1_valueFor_73.1 (by decide) ?_
    exact J74 (p0, 0, s18) _ _ _ ⟨hP, hS, lv_sub hl [0, 1, 2] rfl, h⟩
  · have h := if_f (mt (i2_eq (x := r20) (y := 0) hr21 (by decide)).mpr c22) h
    refine lv_iconst (v := 1) hx hb eX1_valueFor_55.2.2.2.2.2.2.1 (by decide) ?_
    refine lv_goto (tgt := 74) hx hb eX1_valueFor_55.2.2.2.2.2.2.2 (by decide) ?_
    exact J74 (p0, 1, s18) _ _ _ ⟨hP, hS, lv_sub hl [0, 1, 2] rfl, h⟩
set_option maxHeartbeats 4000000 in
set_option maxRecDepth 100000 in
theorem k_x11_answerTest (l : Launch) (D : va_G) (a : Nat → Nat) (p0 : Int) (sz : Nat) (s : MS) (o : (Int × MS)) (h : m_x11_answerTest p0 s = some o) : yWl l yX11_answerTest cX11_answerTest 5 (some .long) { frames := 4, cells := 0, slots := 0, locals := 240 } D sz [.ref (a 0), .int (i2 p0)] (CS D a s) (CS D a o.2) (i8 o.1) := by
  refine Met.ofW (cc := cX11_answerTest) (maxL := 5) (ret := (some .long)) (by decide) rfl ?_
  intro p e s₀ m args below meth c s₁ B hml hv
  obtain ⟨rfl, ⟨hsz, hP, hK, hD0⟩, hN⟩ := hv
  have hx := B.exec
  have hb := B.bytes
  have hr := B.returns
  have hts := atoms_spec (ws := wz yX11_answerTest cX11_answerTest 5 (some .long)) B.pre
  have ht : ∀ w ∈ lw_gd, w.before _ s₀ = true := fun w h => hts w (List.mem_cons_of_mem _ h)
  have hown : s₀.vm.findClass RX11 = some m.cls := findClass_of_methodNamed B.named
  have hlocks := B.notSynchronized
  subst hsz
  have hD := hD0.self (sz := s₀.heap.size)
  generalize hAe : va_A (CS D a s) s₀.heap.size = A at hD ⊢
  have hA : ∀ q : Nat, s₀.heap.size ≤ q → A q := fun q h => by rw [← hAe]; exact Or.inr h
  have hS : va_S A s₀.heap s₀.heap [] := va_S.rf
  have hDD : ∀ t : MS, va_D A (CS D a t) := fun t => CW_D t hD
  have hl := lv_entry ([.ref (a 0), .int (i2 p0)]) (n := 5) (Nat.le_of_ble_eq_true rfl)
  rw [lg_entry_eq]
  generalize (lg_sl ([.ref (a 0), .int (i2 p0)]) ++ List.replicate (5 - (lg_sl ([.ref (a 0), .int (i2 p0)])).length) Slot.unset).toArray = ls at hl ⊢
  have hl : lv_has ls 5 [(0, .ref (a 0)), (1, .int (i2 p0))] := hl
  unfold m_x11_answerTest at h
  refine y_head (pcJ := 76) (σ := Int × MS) (fun u H locs ls => va_P D vwCl (CS D a u.2) H ∧ va_S A s₀.heap H locs ∧ lv_has ls 5 [] ∧ m_x11_answerTest_J76 u.1 u.2 = some o) (fun u => [.long (i8 u.1)]) (fun u H locs ls hI => ?_) (fun J76 => ?_)
  · obtain ⟨hP, hS, hl, h⟩ := hI
    obtain ⟨z1, s2⟩ := u
    have hP : va_P D vwCl (CS D a s2) H := hP
    have hl : lv_has ls 5 [] := hl
    have h : m_x11_answerTest_J76 z1 s2 = some o := h
    unfold m_x11_answerTest_J76 at h
    obtain rfl := Option.some.inj h
    exact W.lret (v := (i8 z1)) hx hb hr (fun t ht hW => ⟨⟨_, (), rfl, rfl, by rw [ht]; exact hP, va_K.moved hW.alike hK, hDD _⟩, hS.F ht⟩) hS.2.2 eX11_answerTest_74.2.2.1
  refine y_loop (pcJ := 7) (σ := Int × Int × Int × Int × MS) (fun n u H locs ls => va_P D vwCl (CS D a u.2.2.2.2) H ∧ va_S A s₀.heap H locs ∧ lv_has ls 5 [(0, .ref (a 0)), (1, .int (i2 u.1)), (2, .int (i2 u.2.1)), (3, .int (i2 u.2.2.1)), (4, .int (i2 u.2.2.2.1))] ∧ m_x11_answerTest_L7 n u.1 u.2.1 u.2.2.1 u.2.2.2.1 u.2.2.2.2 = some o) (fun u => []) (fun u H locs ls hI => by obtain ⟨_, _, _, h⟩ := hI; cases h) (fun n7 ih7 u H locs ls hI => ?_) (fun J7 => ?_)
  · obtain ⟨hP, hS, hl, h⟩ := hI
    obtain ⟨x3, x4, x5, x6, s7⟩ := u
    have hP : va_P D vwCl (CS D a s7) H := hP
    have hl : lv_has ls 5 [(0, .ref (a 0)), (1, .int (i2 x3)), (2, .int (i2 x4)), (3, .int (i2 x5)), (4, .int (i2 x6))] := hl
    have h : m_x11_answerTest_b7 (m_x11_answerTest_L7 n7) x3 x4 x5 x6 s7 = some o := h
    unfold m_x11_answerTest_b7 at h
    refine y_head (pcJ := 57) (σ := Int × Int × Int × Int × MS) (fun u H locs ls => va_P D vwCl (CS D a u.2.2.2.2) H ∧ va_S A s₀.heap H locs ∧ lv_has ls 5 [(0, .ref (a 0)), (1, .int (i2 u.1)), (2, .int (i2 u.2.1)), (3, .int (i2 u.2.2.1)), (4, .int (i2 u.2.2.2.1))] ∧ m_x11_answerTest_J57 (m_x11_answerTest_L7 n7) u.1 u.2.1 u.2.2.1 u.2.2.2.1 u.2.2.2.2 = some o) (fun u => []) (fun u H locs ls hI => ?_) (fun J57 => ?_)
    · obtain ⟨hP, hS, hl, h⟩ := hI
      obtain ⟨x8, x9, x10, x11, s12⟩ := u
      have hP : va_P D vwCl (CS D a s12) H := hP
      have hl : lv_has ls 5 [(0, .ref (a 0)), (1, .int (i2 x8)), (2, .int (i2 x9)), (3, .int (i2 x10)), (4, .int (i2 x11))] := hl
      have h : m_x11_answerTest_J57 (m_x11_answerTest_L7 n7) x8 x9 x10 x11 s12 = some o := h
      unfold m_x11_answerTest_J57 at h
      refine lv_iinc (v := i2 (x11 + 1)) (lv' := [(4, .int (i2 (x11 + 1))), (0, .ref (a 0)), (1, .int (i2 x8)), (2, .int (i2 x9)), (3, .int (i2 x10))]) hx hb eX11_answerTest_57.1 hl (k := 4) rfl (i2_add x11 1) (by decide) rfl (fun ls hl => ?_)
      refine lv_goto (tgt := 7) hx hb eX11_answerTest_57.2.1 (by decide) ?_
      exact ih7 (x8, x9, x10, x11 + 1, s12) _ _ _ ⟨hP, hS, lv_sub hl [1, 2, 3, 4, 0] rfl, h⟩
    refine lv_iload hx hb eX11_answerTest_5.2.1 (lv_at hl 4 rfl) ?_
    refine lv_aload_n hx hb eX11_answerTest_5.2.2.1 rfl (lv_at hl 0 rfl) ?_
    refine va_get (D := D) (ci := 11) (v := .ref (a 49)) (C := RX11) (T := TX11) (N := 13) hx hb ht inX11 hown hK hP 0 CW_0 rfl 11 (by decide) (ht (.fieldLink RX11 79 "CloneVolumes" "forest" "LCloneVolumes$Forest;") fl_X11_79) (fun _ h9 => h9) rfl eX11_answerTest_5.2.2.2.1 ?_
    refine va_get (D := D) (ci := 1) (v := .ref (a 53)) (C := RX1) (T := TX1) (N := 9) hx hb ht inX1 hown hK hP 49 CW_49 rfl 0 (by decide) (ht (.fieldLink RX11 125 "CloneVolumes$Forest" "now" "LCloneVolumes$State;") fl_X11_125) (fun _ h9 => h9) rfl eX11_answerTest_5.2.2.2.2.1 ?_
    refine va_get (D := D) (ci := 8) (v := .int (i2 (gI s7 1060))) (C := RX8) (T := TX8) (N := 11) hx hb ht inX8 hown hK hP 53 CW_53 rfl 0 (by decide) (ht (.fieldLink RX11 129 "CloneVolumes$State" "blocks" "I") fl_X11_129) (fun _ h9 => h9) rfl eX11_answerTest_5.2.2.2.2.2.1 ?_
    obtain ⟨hr13, h⟩ := rg_e h
    obtain ⟨hr14, h⟩ := rg_e h
    refine lv_icmp_ge (tgt := 63) hx hb eX11_answerTest_5.2.2.2.2.2.2.1 (by decide) (fun c15 => ?_) (fun c15 => ?_)
    · have h := if_t ((i2_le (x := (gI s7 1060)) (y := x6) hr14 hr13).mp c15) h
      refine lv_iload_n hx hb eX11_answerTest_57.2.2.1 rfl (lv_at hl 1 rfl) ?_
      refine lv_bipush (v := 29) hx hb eX11_answerTest_57.2.2.2.1 (by decide) ?_
      obtain ⟨hr16, h⟩ := rg_e h
      refine lv_icmp_ne (tgt := 74) hx hb eX11_answerTest_57.2.2.2.2.1 (by decide) (fun c17 => ?_) (fun c17 => ?_)
      · have h := if_f (mt (i2_eq (x := x3) (y := 29) hr16 (by decide)).mpr c17) h
        refine lv_iload_n hx hb eX11_answerTest_74.1 rfl (lv_at hl 3 rfl) ?_
        obtain ⟨hr18, h⟩ := rg_e h
        refine lv_i2l (v := i8 x5) hx hb eX11_answerTest_74.2.1 (i2_l hr18) ?_
        exact J76 (x5, s7) _ _ _ ⟨hP, hS, lv_sub hl [] rfl, h⟩
      · have h := if_t ((i2_eq (x := x3) (y := 29) hr16 (by decide)).mp c17) h
        refine lv_iload_n hx hb eX11_answerTest_57.2.2.2.2.2.1 rfl (lv_at hl 2 rfl) ?_
        obtain ⟨hr19, h⟩ := rg_e h
        refine lv_i2l (v := i8 x4) hx hb eX11_answerTest_57.2.2.2.2.2.2.1 (i2_l hr19) ?_
        refine lv_goto (tgt := 76) hx hb eX11_answerTest_57.2.2.2.2.2.2.2 (by decide) ?_
        exact J76 (x4, s7) _ _ _ ⟨hP, hS, lv_sub hl [] rfl, h⟩
    · have h := if_f (mt (i2_le (x := (gI s7 1060)) (y := x6) hr14 hr13).mpr c15) h
      refine lv_aload_n hx hb eX11_answerTest_5.2.2.2.2.2.2.2 rfl (lv_at hl 0 rfl) ?_
      refine va_get (D := D) (ci := 11) (v := .ref (a 49)) (C := RX11) (T := TX11) (N := 13) hx hb ht inX11 hown hK hP 0 CW_0 rfl 11 (by decide) (ht (.fieldLink RX11 79 "CloneVolumes" "forest" "LCloneVolumes$Forest;") fl_X11_79) (fun _ h9 => h9) rfl eX11_answerTest_23.1 ?_
      refine lv_iload hx hb eX11_answerTest_23.2.1 (lv_at hl 4 rfl) ?_
      refine lv_aload_n hx hb eX11_answerTest_23.2.2.1 rfl (lv_at hl 0 rfl) ?_
      refine va_get (D := D) (ci := 11) (v := .ref (a 39)) (C := RX11) (T := TX11) (N := 13) hx hb ht inX11 hown hK hP 0 CW_0 rfl 10 (by decide) (ht (.fieldLink RX11 71 "CloneVolumes" "spare" "LCloneVolumes$Plan;") fl_X11_71) (fun _ h9 => h9) rfl eX11_answerTest_23.2.2.2.1 ?_
      refine va_get (D := D) (ci := 5) (v := .ref (a 47)) (C := RX5) (T := TX5) (N := 14) hx hb ht inX5 hown hK hP 39 CW_39 rfl 11 (by decide) (ht (.fieldLink RX11 321 "CloneVolumes$Plan" "code" "LCloneVolumes$Code;") fl_X11_321) (fun _ h9 => h9) rfl eX11_answerTest_23.2.2.2.2.1 ?_
      obtain ⟨⟨r22, s21⟩, hc20, h⟩ := bn_e h
      refine ywV (r0 := i2 r22) (As := [.int (i2 x6), .ref (a 47)]) (rest := []) (C := RX1) (n := 2) (ws' := CS D a s21) ⟨hx, hb, hml, hown, ht⟩ (k_x1_valueFor l D a x6 _ _ _ hc20) (zgV ml_X11_372 im_X1_valueFor se_X1_valueFor in_X1 co_X1_valueFor) rfl rfl (by decide +kernel) ⟨Nat.le_of_ble_eq_true rfl, Nat.le_of_ble_eq_true rfl⟩ hN hK hP (hDD _) hS hA 49 CW_49 rfl rfl rfl hl.1 rfl (Nat.le_of_ble_eq_true rfl) eX11_answerTest_23.2.2.2.2.2.1 ⟨Nat.le_of_ble_eq_true rfl, Nat.le_of_ble_eq_true rfl⟩ (fun H locs hP hS => ?_)
      obtain ⟨hr23, h⟩ := rg_e h
      refine lv_if_eq (tgt := 57) hx hb eX11_answerTest_23.2.2.2.2.2.2.1 (by decide) (fun c24 => ?_) (fun c24 => ?_)
      · have h := if_t ((i2_eq (x := r22) (y := 0) hr23 (by decide)).mp c24) h
        exact J57 (x3, x4, x5, x6, s21) _ _ _ ⟨hP, hS, lv_sub hl [0, 1, 2, 3, 4] rfl, h⟩
      · have h := if_f (mt (i2_eq (x := r22) (y := 0) hr23 (by decide)).mpr c24) h
        refine lv_iload_n hx hb eX11_answerTest_23.2.2.2.2.2.2.2 rfl (lv_at hl 1 rfl) ?_
        refine lv_bipush (v := 27) hx hb eX11_answerTest_42.1 (by decide) ?_
        obtain ⟨hr25, h⟩ := rg_e h
        refine lv_icmp_ne (tgt := 51) hx hb eX11_answerTest_42.2.1 (by decide) (fun c26 => ?_) (fun c26 => ?_)
        · have h := if_f (mt (i2_eq (x := x3) (y := 27) hr25 (by decide)).mpr c26) h
          refine lv_iinc (v := i2 (x4 + 1)) (lv' := [(2, .int (i2 (x4 + 1))), (0, .ref (a 0)), (1, .int (i2 x3)), (3, .int (i2 x5)), (4, .int (i2 x6))]) hx hb eX11_answerTest_42.2.2.2.2.2.1 hl (k := 2) rfl (i2_add x4 1) (by decide) rfl (fun ls hl => ?_)
          refine lv_iload hx hb eX11_answerTest_42.2.2.2.2.2.2.1 (lv_at hl 4 rfl) ?_
          refine lv_istore_n (lv' := [(3, .int (i2 x6)), (2, .int (i2 (x4 + 1))), (0, .ref (a 0)), (1, .int (i2 x3)), (4, .int (i2 x6))]) hx hb eX11_answerTest_42.2.2.2.2.2.2.2 rfl hl (by decide) rfl (fun ls hl => ?_)
          exact J57 (x3, x4 + 1, x6, x6, s21) _ _ _ ⟨hP, hS, lv_sub hl [2, 3, 1, 0, 4] rfl, h⟩
        · have h := if_t ((i2_eq (x := x3) (y := 27) hr25 (by decide)).mp c26) h
          refine lv_iload hx hb eX11_answerTest_42.2.2.1 (lv_at hl 4 rfl) ?_
          obtain ⟨hr27, h⟩ := rg_e h
          refine lv_i2l (v := i8 x6) hx hb eX11_answerTest_42.2.2.2.1 (i2_l hr27) ?_
          obtain rfl := Option.some.inj h
          exact W.lret (v := (i8 x6)) hx hb hr (fun t ht hW => ⟨⟨_, (), rfl, rfl, by rw [ht]; exact hP, va_K.moved hW.alike hK, hDD _⟩, hS.F ht⟩) hS.2.2 eX11_answerTest_42.2.2.2.2.1
  refine lv_iconst (v := 0) hx hb eX11_answerSum_98.2.2.2.1 (by decide) ?_
  refine lv_istore_n (lv' := [(2, .int 0), (0, .ref (a 0)), (1, .int (i2 p0))]) hx hb eX11_answerSum_98.2.2.2.2.1 rfl hl (by decide) rfl (fun ls hl => ?_)
  refine lv_iconst (v := (-1)) hx hb eX11_answerSum_98.2.2.2.2.2.1 (by decide) ?_
  refine lv_istore_n (lv' := [(3, .int (-1)), (2, .int 0), (0, .ref (a 0)), (1, .int (i2 p0))]) hx hb eX11_answerSum_98.2.2.2.2.2.2.1 rfl hl (by decide) rfl (fun ls hl => ?_)
  refine lv_iconst (v := 0) hx hb eX11_answerSum_98.2.2.2.2.2.2.2 (by decide) ?_
  refine lv_istore (lv' := [(4, .int 0), (3, .int (-1)), (2, .int 0), (0, .ref (a 0)), (1, .int (i2 p0))]) hx hb eX11_answerTest_5.1 hl (by decide) rfl (fun ls hl => ?_)
  exact J7 FU (p0, 0, (-1), 0, s) _ _ _ ⟨hP, hS, lv_sub hl [3, 4, 2, 1, 0] rfl, h⟩
set_option maxHeartbeats 4000000 in
set_option maxRecDepth 100000 in
theorem k_x6_begin (l : Launch) (D : va_G) (a : Nat → Nat) (sz : Nat) (s : MS) (o : MS) (h : m_x6_begin s = some o) : yWv l yX6_begin cX6_begin 2 none { frames := 2, cells := 0, slots := 0, locals := 120 } D sz [.ref (a 5), .ref (a 47)] (CS D a s) (CS D a o) := by
  refine Met.ofW (cc := cX6_begin) (maxL := 2) (ret := none) (by decide) rfl ?_
  intro p e s₀ m args below meth c s₁ B hml hv
  obtain ⟨rfl, ⟨hsz, hP, hK, hD0⟩, hN⟩ := hv
  have hx := B.exec
  have hb := B.bytes
  have hr := B.returns
  have hts := atoms_spec (ws := wz yX6_begin cX6_begin 2 none) B.pre
  have ht : ∀ w ∈ lw_gd, w.before _ s₀ = true := fun w h => hts w (List.mem_cons_of_mem _ h)
  have hown : s₀.vm.findClass RX6 = some m.cls := findClass_of_methodNamed B.named
  have hlocks := B.notSynchronized
  subst hsz
  have hD := hD0.self (sz := s₀.heap.size)
  generalize hAe : va_A (CS D a s) s₀.heap.size = A at hD ⊢
  have hA : ∀ q : Nat, s₀.heap.size ≤ q → A q := fun q h => by rw [← hAe]; exact Or.inr h
  have hS : va_S A s₀.heap s₀.heap [] := va_S.rf
  have hDD : ∀ t : MS, va_D A (CS D a t) := fun t => CW_D t hD
  have hl := lv_entry ([.ref (a 5), .ref (a 47)]) (n := 2) (Nat.le_of_ble_eq_true rfl)
  rw [lg_entry_eq]
  generalize (lg_sl ([.ref (a 5), .ref (a 47)]) ++ List.replicate (2 - (lg_sl ([.ref (a 5), .ref (a 47)])).length) Slot.unset).toArray = ls at hl ⊢
  have hl : lv_has ls 2 [(0, .ref (a 5)), (1, .ref (a 47))] := hl
  unfold m_x6_begin at h
  refine lv_aload_n hx hb eX6_begin_0.1 rfl (lv_at hl 0 rfl) ?_
  refine lv_aload_n hx hb eX6_begin_0.2.1 rfl (lv_at hl 1 rfl) ?_
  refine ya_put (D := D) (ci := 6) (v := .ref (a 47)) (ty := .object "CloneVolumes$Code") (C := RX6) (T := TX6) (N := 12) hx hb ht inX6 tyX6 tyX6_ok nmX6 hown hK hP (hDD _) hS 5 CW_5 rfl 4 (by decide) (ht (.fieldLink RX6 84 "CloneVolumes$Reader" "code" "LCloneVolumes$Code;") fl_X6_84) (fun _ h9 => h9) rfl (by decide +kernel) rfl rfl (Nat.le_of_ble_eq_true rfl) eX6_begin_0.2.2.1 (CW_w5_4) (fun H locs hP hS => ?_)
  obtain ⟨s1, hs1, h⟩ := st_e h
  rw [hs1] at hP
  refine lv_aload_n hx hb eX6_begin_0.2.2.2.1 rfl (lv_at hl 0 rfl) ?_
  refine lv_iconst (v := 0) hx hb eX6_begin_0.2.2.2.2.1 (by decide) ?_
  refine ya_put (D := D) (ci := 6) (v := .int 0) (ty := .int) (C := RX6) (T := TX6) (N := 12) hx hb ht inX6 tyX6 tyX6_ok nmX6 hown hK hP (hDD _) hS 5 CW_5 rfl 0 (by decide) (ht (.fieldLink RX6 61 "CloneVolumes$Reader" "fault" "I") fl_X6_61) (fun _ h9 => h9) rfl (by decide +kernel) rfl rfl (Nat.le_of_ble_eq_true rfl) eX6_begin_0.2.2.2.2.2.1 (CW_w5_0 0) (fun H locs hP hS => ?_)
  obtain ⟨s2, hs2, h⟩ := st_e h
  rw [hs2] at hP
  refine lv_aload_n hx hb eX6_begin_0.2.2.2.2.2.2.1 rfl (lv_at hl 0 rfl) ?_
  refine lv_iconst (v := (-1)) hx hb eX6_begin_0.2.2.2.2.2.2.2 (by decide) ?_
  refine ya_put (D := D) (ci := 6) (v := .int (-1)) (ty := .int) (C := RX6) (T := TX6) (N := 12) hx hb ht inX6 tyX6 tyX6_ok nmX6 hown hK hP (hDD _) hS 5 CW_5 rfl 1 (by decide) (ht (.fieldLink RX6 9 "CloneVolumes$Reader" "place" "I") fl_X6_9) (fun _ h9 => h9) rfl (by decide +kernel) rfl rfl (Nat.le_of_ble_eq_true rfl) eX6_begin_12.1 (CW_w5_1 (-1)) (fun H locs hP hS => ?_)
  obtain ⟨s3, hs3, h⟩ := st_e h
  rw [hs3] at hP
  refine lv_aload_n hx hb eX6_begin_12.2.1 rfl (lv_at hl 0 rfl) ?_
  refine lv_iconst (v := 0) hx hb eX6_begin_12.2.2.1 (by decide) ?_
  refine ya_put (D := D) (ci := 6) (v := .int 0) (ty := .int) (C := RX6) (T := TX6) (N := 12) hx hb ht inX6 tyX6 tyX6_ok nmX6 hown hK hP (hDD _) hS 5 CW_5 rfl 6 (by decide) (ht (.fieldLink RX6 85 "CloneVolumes$Reader" "open" "I") fl_X6_85) (fun _ h9 => h9) rfl (by decide +kernel) rfl rfl (Nat.le_of_ble_eq_true rfl) eX6_begin_12.2.2.2.1 (CW_w5_6 0) (fun H locs hP hS => ?_)
  obtain ⟨s4, hs4, h⟩ := st_e h
  rw [hs4] at hP
  refine lv_aload_n hx hb eX6_begin_12.2.2.2.2.1 rfl (lv_at hl 0 rfl) ?_
  refine lv_iconst (v := 0) hx hb eX6_begin_12.2.2.2.2.2.1 (by decide) ?_
  refine ya_put (D := D) (ci := 6) (v := .int 0) (ty := .int) (C := RX6) (T := TX6) (N := 12) hx hb ht inX6 tyX6 tyX6_ok nmX6 hown hK hP (hDD _) hS 5 CW_5 rfl 9 (by decide) (ht (.fieldLink RX6 88 "CloneVolumes$Reader" "stop" "I") fl_X6_88) (fun _ h9 => h9) rfl (by decide +kernel) rfl rfl (Nat.le_of_ble_eq_true rfl) eX6_begin_12.2.2.2.2.2.2.1 (CW_w5_9 0) (fun H locs hP hS => ?_)
  obtain ⟨s5, hs5, h⟩ := st_e h
  rw [hs5] at hP
  refine lv_aload_n hx hb eX6_begin_12.2.2.2.2.2.2.2 rfl (lv_at hl 0 rfl) ?_
  obtain ⟨s7, hc6, h⟩ := bn_e h
  refine ywVv (As := []) (rest := []) (C := RX6) (n := 0) (ws' := CS D a s7) ⟨hx, hb, hml, hown, ht⟩ (k_x6_advance l D a _ _ _ hc6) (zgV ml_X6_75 im_X6_advance se_X6_advance in_X6 co_X6_advance) rfl rfl (by decide +kernel) ⟨Nat.le_of_ble_eq_true rfl, Nat.le_of_ble_eq_true rfl⟩ hN hK hP (hDD _) hS hA 5 CW_5 rfl rfl rfl hl.1 rfl (Nat.le_of_ble_eq_true rfl) eX6_begin_26.1 ⟨Nat.le_of_ble_eq_true rfl, Nat.le_of_ble_eq_true rfl⟩ (fun H locs hP hS => ?_)
  obtain rfl := Option.some.inj h
  exact W.vret hx hb hr (fun t ht hW => ⟨⟨(), rfl, trivial, by rw [ht]; exact hP, va_K.moved hW.alike hK, hDD _⟩, hS.F ht⟩) hS.2.2 eX6_begin_26.2.1
set_option maxHeartbeats 4000000 in
set_option maxRecDepth 100000 in
theorem k_x6_readQuestion (l : Launch) (D : va_G) (a : Nat → Nat) (sz : Nat) (s : MS) (o : (Int × MS)) (h : m_x6_readQuestion s = some o) : yWi l yX6_readQuestion cX6_readQuestion 3 (some .int) { frames := 161, cells := 0, slots := 0, locals := 9660 } D sz [.ref (a 5), .ref (a 47)] (CS D a s) (CS D a o.2) (i2 o.1) := by
  refine Met.ofW (cc := cX6_readQuestion) (maxL := 3) (ret := (some .int)) (by decide) rfl ?_
  intro p e s₀ m args below meth c s₁ B hml hv
  obtain ⟨rfl, ⟨hsz, hP, hK, hD0⟩, hN⟩ := hv
  have hx := B.exec
  have hb := B.bytes
  have hr := B.returns
  have hts := atoms_spec (ws := wz yX6_readQuestion cX6_readQuestion 3 (some .int)) B.pre
  have ht : ∀ w ∈ lw_gd, w.before _ s₀ = true := fun w h => hts w (List.mem_cons_of_mem _ h)
  have hown : s₀.vm.findClass RX6 = some m.cls := findClass_of_methodNamed B.named
  have hlocks := B.notSynchronized
  subst hsz
  have hD := hD0.self (sz := s₀.heap.size)
  generalize hAe : va_A (CS D a s) s₀.heap.size = A at hD ⊢
  have hA : ∀ q : Nat, s₀.heap.size ≤ q → A q := fun q h => by rw [← hAe]; exact Or.inr h
  have hS : va_S A s₀.heap s₀.heap [] := va_S.rf
  have hDD : ∀ t : MS, va_D A (CS D a t) := fun t => CW_D t hD
  have hl := lv_entry ([.ref (a 5), .ref (a 47)]) (n := 3) (Nat.le_of_ble_eq_true rfl)
  rw [lg_entry_eq]
  generalize (lg_sl ([.ref (a 5), .ref (a 47)]) ++ List.replicate (3 - (lg_sl ([.ref (a 5), .ref (a 47)])).length) Slot.unset).toArray = ls at hl ⊢
  have hl : lv_has ls 3 [(0, .ref (a 5)), (1, .ref (a 47))] := hl
  unfold m_x6_readQuestion at h
  refine y_head (pcJ := 121) (σ := Int × MS) (fun u H locs ls => va_P D vwCl (CS D a u.2) H ∧ va_S A s₀.heap H locs ∧ lv_has ls 3 [(2, .int (i2 u.1))] ∧ m_x6_readQuestion_J121 u.1 u.2 = some o) (fun u => []) (fun u H locs ls hI => ?_) (fun J121 => ?_)
  · obtain ⟨hP, hS, hl, h⟩ := hI
    obtain ⟨x1, s2⟩ := u
    have hP : va_P D vwCl (CS D a s2) H := hP
    have hl : lv_has ls 3 [(2, .int (i2 x1))] := hl
    have h : m_x6_readQuestion_J121 x1 s2 = some o := h
    unfold m_x6_readQuestion_J121 at h
    refine lv_iload_n hx hb eX6_readQuestion_108.2.2.2.2.2.2.2 rfl (lv_at hl 0 rfl) ?_
    obtain rfl := Option.some.inj h
    exact W.iret (v := (i2 x1)) hx hb hr (fun t ht hW => ⟨⟨_, (), rfl, rfl, by rw [ht]; exact hP, va_K.moved hW.alike hK, hDD _⟩, hS.F ht⟩) hS.2.2 eX6_readQuestion_122.1
  refine y_head (pcJ := 104) (σ := Int × MS) (fun u H locs ls => va_P D vwCl (CS D a u.2) H ∧ va_S A s₀.heap H locs ∧ lv_has ls 3 [(0, .ref (a 5)), (2, .int (i2 u.1))] ∧ m_x6_readQuestion_J104 u.1 u.2 = some o) (fun u => []) (fun u H locs ls hI => ?_) (fun J104 => ?_)
  · obtain ⟨hP, hS, hl, h⟩ := hI
    obtain ⟨x3, s4⟩ := u
    have hP : va_P D vwCl (CS D a s4) H := hP
    have hl : lv_has ls 3 [(0, .ref (a 5)), (2, .int (i2 x3))] := hl
    have h : m_x6_readQuestion_J104 x3 s4 = some o := h
    unfold m_x6_readQuestion_J104 at h
    refine lv_aload_n hx hb eX6_readQuestion_94.2.2.2.2.2.2.1 rfl (lv_at hl 0 rfl) ?_
    refine va_get (D := D) (ci := 6) (v := .int (i2 (gI s4 107))) (C := RX6) (T := TX6) (N := 12) hx hb ht inX6 hown hK hP 5 CW_5 rfl 7 (by decide) (ht (.fieldLink RX6 44 "CloneVolumes$Reader" "kind" "I") fl_X6_44) (fun _ h9 => h9) rfl eX6_readQuestion_94.2.2.2.2.2.2.2 ?_
    obtain ⟨hr5, h⟩ := rg_e h
    refine lv_if_eq (tgt := 121) hx hb eX6_readQuestion_108.1 (by decide) (fun c6 => ?_) (fun c6 => ?_)
    · have h := if_t ((i2_eq (x := (gI s4 107)) (y := 0) hr5 (by decide)).mp c6) h
      exact J121 (x3, s4) _ _ _ ⟨hP, hS, lv_sub hl [1] rfl, h⟩
    · have h := if_f (mt (i2_eq (x := (gI s4 107)) (y := 0) hr5 (by decide)).mpr c6) h
      refine lv_aload_n hx hb eX6_readQuestion_108.2.1 rfl (lv_at hl 0 rfl) ?_
      refine lv_iconst (v := 1) hx hb eX6_readQuestion_108.2.2.1 (by decide) ?_
      refine lv_aload_n hx hb eX6_readQuestion_108.2.2.2.1 rfl (lv_at hl 0 rfl) ?_
      refine va_get (D := D) (ci := 6) (v := .int (i2 (gI s4 108))) (C := RX6) (T := TX6) (N := 12) hx hb ht inX6 hown hK hP 5 CW_5 rfl 8 (by decide) (ht (.fieldLink RX6 51 "CloneVolumes$Reader" "start" "I") fl_X6_51) (fun _ h9 => h9) rfl eX6_readQuestion_108.2.2.2.2.1 ?_
      obtain ⟨⟨r9, s8⟩, hc7, h⟩ := bn_e h
      refine ywV (r0 := i2 r9) (As := [.int 1, .int (i2 (gI s4 108))]) (rest := []) (C := RX6) (n := 2) (ws' := CS D a s8) ⟨hx, hb, hml, hown, ht⟩ (k_x6_fail l D a 1 (gI s4 108) _ _ _ hc7) (zgV ml_X6_54 im_X6_fail se_X6_fail in_X6 co_X6_fail) rfl rfl (by decide +kernel) ⟨Nat.le_of_ble_eq_true rfl, Nat.le_of_ble_eq_true rfl⟩ hN hK hP (hDD _) hS hA 5 CW_5 rfl rfl rfl hl.1 rfl (Nat.le_of_ble_eq_true rfl) eX6_readQuestion_108.2.2.2.2.2.1 ⟨Nat.le_of_ble_eq_true rfl, Nat.le_of_ble_eq_true rfl⟩ (fun H locs hP hS => ?_)
      refine lv_pop hx hb eX6_readQuestion_108.2.2.2.2.2.2.1 rfl ?_
      exact J121 (x3, s8) _ _ _ ⟨hP, hS, lv_sub hl [1] rfl, h⟩
  refine y_head (pcJ := 83) (σ := Int × MS) (fun u H locs ls => va_P D vwCl (CS D a u.2) H ∧ va_S A s₀.heap H locs ∧ lv_has ls 3 [(0, .ref (a 5)), (2, .int (i2 u.1))] ∧ m_x6_readQuestion_J83 u.1 u.2 = some o) (fun u => []) (fun u H locs ls hI => ?_) (fun J83 => ?_)
  · obtain ⟨hP, hS, hl, h⟩ := hI
    obtain ⟨x10, s11⟩ := u
    have hP : va_P D vwCl (CS D a s11) H := hP
    have hl : lv_has ls 3 [(0, .ref (a 5)), (2, .int (i2 x10))] := hl
    have h : m_x6_readQuestion_J83 x10 s11 = some o := h
    unfold m_x6_readQuestion_J83 at h
    refine lv_aload_n hx hb eX6_readQuestion_76.2.2.2.1 rfl (lv_at hl 0 rfl) ?_
    obtain ⟨s13, hc12, h⟩ := bn_e h
    refine ywVv (As := []) (rest := []) (C := RX6) (n := 0) (ws' := CS D a s13) ⟨hx, hb, hml, hown, ht⟩ (k_x6_advance l D a _ _ _ hc12) (zgV ml_X6_75 im_X6_advance se_X6_advance in_X6 co_X6_advance) rfl rfl (by decide +kernel) ⟨Nat.le_of_ble_eq_true rfl, Nat.le_of_ble_eq_true rfl⟩ hN hK hP (hDD _) hS hA 5 CW_5 rfl rfl rfl hl.1 rfl (Nat.le_of_ble_eq_true rfl) eX6_readQuestion_76.2.2.2.2.1 ⟨Nat.le_of_ble_eq_true rfl, Nat.le_of_ble_eq_true rfl⟩ (fun H locs hP hS => ?_)
    refine lv_aload_n hx hb eX6_readQuestion_76.2.2.2.2.2.1 rfl (lv_at hl 0 rfl) ?_
    obtain ⟨s15, hc14, h⟩ := bn_e h
    refine ywVv (As := []) (rest := []) (C := RX6) (n := 0) (ws' := CS D a s15) ⟨hx, hb, hml, hown, ht⟩ (k_x6_readSumC l D a _ _ _ hc14) (zgV ml_X6_81 im_X6_readSum se_X6_readSum in_X6 co_X6_readSum) rfl rfl (by decide +kernel) ⟨Nat.le_of_ble_eq_true rfl, Nat.le_of_ble_eq_true rfl⟩ hN hK hP (hDD _) hS hA 5 CW_5 rfl rfl rfl hl.1 rfl (Nat.le_of_ble_eq_true rfl) eX6_readQuestion_76.2.2.2.2.2.2.1 ⟨Nat.le_of_ble_eq_true rfl, Nat.le_of_ble_eq_true rfl⟩ (fun H locs hP hS => ?_)
    refine lv_goto (tgt := 104) hx hb eX6_readQuestion_76.2.2.2.2.2.2.2 (by decide) ?_
    exact J104 (x10, s15) _ _ _ ⟨hP, hS, lv_sub hl [0, 1] rfl, h⟩
  refine y_head (pcJ := 72) (σ := Int × MS) (fun u H locs ls => va_P D vwCl (CS D a u.2) H ∧ va_S A s₀.heap H locs ∧ lv_has ls 3 [(0, .ref (a 5)), (2, .int (i2 u.1))] ∧ m_x6_readQuestion_J72 u.1 u.2 = some o) (fun u => []) (fun u H locs ls hI => ?_) (fun J72 => ?_)
  · obtain ⟨hP, hS, hl, h⟩ := hI
    obtain ⟨x16, s17⟩ := u
    have hP : va_P D vwCl (CS D a s17) H := hP
    have hl : lv_has ls 3 [(0, .ref (a 5)), (2, .int (i2 x16))] := hl
    have h : m_x6_readQuestion_J72 x16 s17 = some o := h
    unfold m_x6_readQuestion_J72 at h
    refine lv_aload_n hx hb eX6_readQuestion_24.2.2.2.2.2.2.1 rfl (lv_at hl 0 rfl) ?_
    obtain ⟨s19, hc18, h⟩ := bn_e h
    refine ywVv (As := []) (rest := []) (C := RX6) (n := 0) (ws' := CS D a s19) ⟨hx, hb, hml, hown, ht⟩ (k_x6_advance l D a _ _ _ hc18) (zgV ml_X6_75 im_X6_advance se_X6_advance in_X6 co_X6_advance) rfl rfl (by decide +kernel) ⟨Nat.le_of_ble_eq_true rfl, Nat.le_of_ble_eq_true rfl⟩ hN hK hP (hDD _) hS hA 5 CW_5 rfl rfl rfl hl.1 rfl (Nat.le_of_ble_eq_true rfl) eX6_readQuestion_24.2.2.2.2.2.2.2 ⟨Nat.le_of_ble_eq_true rfl, Nat.le_of_ble_eq_true rfl⟩ (fun H locs hP hS => ?_)
    refine lv_aload_n hx hb eX6_readQuestion_76.1 rfl (lv_at hl 0 rfl) ?_
    obtain ⟨s21, hc20, h⟩ := bn_e h
    refine ywVv (As := []) (rest := []) (C := RX6) (n := 0) (ws' := CS D a s21) ⟨hx, hb, hml, hown, ht⟩ (k_x6_readTestC l D a _ _ _ hc20) (zgV ml_X6_78 im_X6_readTest se_X6_readTest in_X6 co_X6_readTest) rfl rfl (by decide +kernel) ⟨Nat.le_of_ble_eq_true rfl, Nat.le_of_ble_eq_true rfl⟩ hN hK hP (hDD _) hS hA 5 CW_5 rfl rfl rfl hl.1 rfl (Nat.le_of_ble_eq_true rfl) eX6_readQuestion_76.2.1 ⟨Nat.le_of_ble_eq_true rfl, Nat.le_of_ble_eq_true rfl⟩ (fun H locs hP hS => ?_)
    refine lv_goto (tgt := 104) hx hb eX6_readQuestion_76.2.2.1 (by decide) ?_
    exact J104 (x16, s21) _ _ _ ⟨hP, hS, lv_sub hl [0, 1] rfl, h⟩
  refine y_head (pcJ := 31) (σ := Int × MS) (fun u H locs ls => va_P D vwCl (CS D a u.2) H ∧ va_S A s₀.heap H locs ∧ lv_has ls 3 [(0, .ref (a 5))] ∧ m_x6_readQuestion_J31 u.1 u.2 = some o) (fun u => [.int (i2 u.1)]) (fun u H locs ls hI => ?_) (fun J31 => ?_)
  · obtain ⟨hP, hS, hl, h⟩ := hI
    obtain ⟨x22, s23⟩ := u
    have hP : va_P D vwCl (CS D a s23) H := hP
    have hl : lv_has ls 3 [(0, .ref (a 5))] := hl
    have h : m_x6_readQuestion_J31 x22 s23 = some o := h
    unfold m_x6_readQuestion_J31 at h
    refine lv_istore_n (lv' := [(2, .int (i2 x22)), (0, .ref (a 5))]) hx hb eX6_readQuestion_24.2.2.2.1 rfl hl (by decide) rfl (fun ls hl => ?_)
    refine lv_iload_n hx hb eX6_readQuestion_24.2.2.2.2.1 rfl (lv_at hl 0 rfl) ?_
    obtain ⟨hr24, h⟩ := rg_e h
    by_cases c25 : x22 = 27
    · have h := if_t c25 h
      refine lv_tableIn (off := 39) (tgt := 72) hx hb eX6_readQuestion_24.2.2.2.2.2.1 (by rw [c25]; decide) (by rw [c25]; decide) (by rw [c25]; decide) (by decide) ?_
      exact J72 (x22, s23) _ _ _ ⟨hP, hS, lv_sub hl [1, 0] rfl, h⟩
    · have h := if_f c25 h
      by_cases c26 : x22 = 28
      · have h := if_t c26 h
        refine lv_tableIn (off := 39) (tgt := 72) hx hb eX6_readQuestion_24.2.2.2.2.2.1 (by rw [c26]; decide) (by rw [c26]; decide) (by rw [c26]; decide) (by decide) ?_
        exact J72 (x22, s23) _ _ _ ⟨hP, hS, lv_sub hl [1, 0] rfl, h⟩
      · have h := if_f c26 h
        by_cases c27 : x22 = 29
        · have h := if_t c27 h
          refine lv_tableIn (off := 39) (tgt := 72) hx hb eX6_readQuestion_24.2.2.2.2.2.1 (by rw [c27]; decide) (by rw [c27]; decide) (by rw [c27]; decide) (by decide) ?_
          exact J72 (x22, s23) _ _ _ ⟨hP, hS, lv_sub hl [1, 0] rfl, h⟩
        · have h := if_f c27 h
          by_cases c28 : x22 = 30
          · have h := if_t c28 h
            refine lv_tableIn (off := 50) (tgt := 83) hx hb eX6_readQuestion_24.2.2.2.2.2.1 (by rw [c28]; decide) (by rw [c28]; decide) (by rw [c28]; decide) (by decide) ?_
            exact J83 (x22, s23) _ _ _ ⟨hP, hS, lv_sub hl [1, 0] rfl, h⟩
          · have h := if_f c28 h
            by_cases c29 : x22 = 31
            · have h := if_t c29 h
              refine lv_tableIn (off := 50) (tgt := 83) hx hb eX6_readQuestion_24.2.2.2.2.2.1 (by rw [c29]; decide) (by rw [c29]; decide) (by rw [c29]; decide) (by decide) ?_
              exact J83 (x22, s23) _ _ _ ⟨hP, hS, lv_sub hl [1, 0] rfl, h⟩
            · have h := if_f c29 h
              by_cases c30 : x22 = 32
              · have h := if_t c30 h
                refine lv_tableIn (off := 50) (tgt := 83) hx hb eX6_readQuestion_24.2.2.2.2.2.1 (by rw [c30]; decide) (by rw [c30]; decide) (by rw [c30]; decide) (by decide) ?_
                exact J83 (x22, s23) _ _ _ ⟨hP, hS, lv_sub hl [1, 0] rfl, h⟩
              · have h := if_f c30 h
                refine lv_tableOut (tgt := 94) hx hb eX6_readQuestion_24.2.2.2.2.2.1 (by rw [i2_t hr24]; omega) (by decide) ?_
                refine lv_aload_n hx hb eX6_readQuestion_94.1 rfl (lv_at hl 1 rfl) ?_
                refine lv_iconst (v := 1) hx hb eX6_readQuestion_94.2.1 (by decide) ?_
                refine lv_aload_n hx hb eX6_readQuestion_94.2.2.1 rfl (lv_at hl 1 rfl) ?_
                refine va_get (D := D) (ci := 6) (v := .int (i2 (gI s23 108))) (C := RX6) (T := TX6) (N := 12) hx hb ht inX6 hown hK hP 5 CW_5 rfl 8 (by decide) (ht (.fieldLink RX6 51 "CloneVolumes$Reader" "start" "I") fl_X6_51) (fun _ h9 => h9) rfl eX6_readQuestion_94.2.2.2.1 ?_
                obtain ⟨⟨r33, s32⟩, hc31, h⟩ := bn_e h
                refine ywV (r0 := i2 r33) (As := [.int 1, .int (i2 (gI s23 108))]) (rest := []) (C := RX6) (n := 2) (ws' := CS D a s32) ⟨hx, hb, hml, hown, ht⟩ (k_x6_fail l D a 1 (gI s23 108) _ _ _ hc31) (zgV ml_X6_54 im_X6_fail se_X6_fail in_X6 co_X6_fail) rfl rfl (by decide +kernel) ⟨Nat.le_of_ble_eq_true rfl, Nat.le_of_ble_eq_true rfl⟩ hN hK hP (hDD _) hS hA 5 CW_5 rfl rfl rfl hl.1 rfl (Nat.le_of_ble_eq_true rfl) eX6_readQuestion_94.2.2.2.2.1 ⟨Nat.le_of_ble_eq_true rfl, Nat.le_of_ble_eq_true rfl⟩ (fun H locs hP hS => ?_)
                refine lv_pop hx hb eX6_readQuestion_94.2.2.2.2.2.1 rfl ?_
                exact J104 (x22, s32) _ _ _ ⟨hP, hS, lv_sub hl [1, 0] rfl, h⟩
  refine lv_aload_n hx hb eX6_begin_26.2.2.1 rfl (lv_at hl 1 rfl) ?_
  refine lv_iconst (v := 0) hx hb eX6_begin_26.2.2.2.1 (by decide) ?_
  refine ya_put (D := D) (ci := 0) (v := .int 0) (ty := .int) (C := RX0) (T := TX0) (N := 2) hx hb ht inX0 tyX0 tyX0_ok nmX0 hown hK hP (hDD _) hS 47 CW_47 rfl 1 (by decide) (ht (.fieldLink RX6 64 "CloneVolumes$Code" "size" "I") fl_X6_64) (fun _ h9 => h9) rfl (by decide +kernel) rfl rfl (Nat.le_of_ble_eq_true rfl) eX6_begin_26.2.2.2.2.1 (CW_w47_1 0) (fun H locs hP hS => ?_)
  obtain ⟨s34, hs34, h⟩ := st_e h
  rw [hs34] at hP
  refine lv_aload_n hx hb eX6_begin_26.2.2.2.2.2.1 rfl (lv_at hl 0 rfl) ?_
  refine lv_aload_n hx hb eX6_begin_26.2.2.2.2.2.2.1 rfl (lv_at hl 1 rfl) ?_
  obtain ⟨s36, hc35, h⟩ := bn_e h
  refine ywVv (As := [.ref (a 47)]) (rest := []) (C := RX6) (n := 1) (ws' := CS D a s36) ⟨hx, hb, hml, hown, ht⟩ (k_x6_begin l D a _ _ _ hc35) (zgV ml_X6_40 im_X6_begin se_X6_begin in_X6 co_X6_begin) rfl rfl (by decide +kernel) ⟨Nat.le_of_ble_eq_true rfl, Nat.le_of_ble_eq_true rfl⟩ hN hK hP (hDD _) hS hA 5 CW_5 rfl rfl rfl hl.1 rfl (Nat.le_of_ble_eq_true rfl) eX6_begin_26.2.2.2.2.2.2.2 ⟨Nat.le_of_ble_eq_true rfl, Nat.le_of_ble_eq_true rfl⟩ (fun H locs hP hS => ?_)
  refine lv_aload_n hx hb eX6_readQuestion_10.1 rfl (lv_at hl 0 rfl) ?_
  refine lv_iconst (v := 3) hx hb eX6_readQuestion_10.2.1 (by decide) ?_
  refine ya_put (D := D) (ci := 6) (v := .int 3) (ty := .int) (C := RX6) (T := TX6) (N := 12) hx hb ht inX6 tyX6 tyX6_ok nmX6 hown hK hP (hDD _) hS 5 CW_5 rfl 5 (by decide) (ht (.fieldLink RX6 69 "CloneVolumes$Reader" "mode" "I") fl_X6_69) (fun _ h9 => h9) rfl (by decide +kernel) rfl rfl (Nat.le_of_ble_eq_true rfl) eX6_readQuestion_10.2.2.1 (CW_w5_5 3) (fun H locs hP hS => ?_)
  obtain ⟨s37, hs37, h⟩ := st_e h
  rw [hs37] at hP
  refine lv_aload_n hx hb eX6_readQuestion_10.2.2.2.1 rfl (lv_at hl 0 rfl) ?_
  refine va_get (D := D) (ci := 6) (v := .int (i2 (gI s37 107))) (C := RX6) (T := TX6) (N := 12) hx hb ht inX6 hown hK hP 5 CW_5 rfl 7 (by decide) (ht (.fieldLink RX6 44 "CloneVolumes$Reader" "kind" "I") fl_X6_44) (fun _ h9 => h9) rfl eX6_readQuestion_10.2.2.2.2.1 ?_
  refine lv_iconst (v := 1) hx hb eX6_readQuestion_10.2.2.2.2.2.1 (by decide) ?_
  obtain ⟨hr38, h⟩ := rg_e h
  refine lv_icmp_ne (tgt := 30) hx hb eX6_readQuestion_10.2.2.2.2.2.2.1 (by decide) (fun c39 => ?_) (fun c39 => ?_)
  · have h := if_f (mt (i2_eq (x := (gI s37 107)) (y := 1) hr38 (by decide)).mpr c39) h
    refine lv_iconst (v := (-1)) hx hb eX6_readQuestion_24.2.2.1 (by decide) ?_
    exact J31 ((-1), s37) _ _ _ ⟨hP, hS, lv_sub hl [0] rfl, h⟩
  · have h := if_t ((i2_eq (x := (gI s37 107)) (y := 1) hr38 (by decide)).mp c39) h
    refine lv_aload_n hx hb eX6_readQuestion_10.2.2.2.2.2.2.2 rfl (lv_at hl 0 rfl) ?_
    refine va_get (D := D) (ci := 6) (v := .int (i2 (gI s37 110))) (C := RX6) (T := TX6) (N := 12) hx hb ht inX6 hown hK hP 5 CW_5 rfl 10 (by decide) (ht (.fieldLink RX6 72 "CloneVolumes$Reader" "word" "I") fl_X6_72) (fun _ h9 => h9) rfl eX6_readQuestion_24.1 ?_
    refine lv_goto (tgt := 31) hx hb eX6_readQuestion_24.2.1 (by decide) ?_
    exact J31 (gI s37 110, s37) _ _ _ ⟨hP, hS, lv_sub hl [0] rfl, h⟩
set_option maxHeartbeats 4000000 in
set_option maxRecDepth 100000 in
theorem k_x11_answerSum (l : Launch) (D : va_G) (a : Nat → Nat) (p0 : Int) (sz : Nat) (s : MS) (o : (Int × MS)) (h : m_x11_answerSum p0 s = some o) : yWl l yX11_answerSum cX11_answerSum 8 (some .long) { frames := 4, cells := 0, slots := 0, locals := 240 } D sz [.ref (a 0), .int (i2 p0)] (CS D a s) (CS D a o.2) (i8 o.1) := by
  refine Met.ofW (cc := cX11_answerSum) (maxL := 8) (ret := (some .long)) (by decide) rfl ?_
  intro p e s₀ m args below meth c s₁ B hml hv
  obtain ⟨rfl, ⟨hsz, hP, hK, hD0⟩, hN⟩ := hv
  have hx := B.exec
  have hb := B.bytes
  have hr := B.returns
  have hts := atoms_spec (ws := wz yX11_answerSum cX11_answerSum 8 (some .long)) B.pre
  have ht : ∀ w ∈ lw_gd, w.before _ s₀ = true := fun w h => hts w (List.mem_cons_of_mem _ h)
  have hown : s₀.vm.findClass RX11 = some m.cls := findClass_of_methodNamed B.named
  have hlocks := B.notSynchronized
  subst hsz
  have hD := hD0.self (sz := s₀.heap.size)
  generalize hAe : va_A (CS D a s) s₀.heap.size = A at hD ⊢
  have hA : ∀ q : Nat, s₀.heap.size ≤ q → A q := fun q h => by rw [← hAe]; exact Or.inr h
  have hS : va_S A s₀.heap s₀.heap [] := va_S.rf
  have hDD : ∀ t : MS, va_D A (CS D a t) := fun t => CW_D t hD
  have hl := lv_entry ([.ref (a 0), .int (i2 p0)]) (n := 8) (Nat.le_of_ble_eq_true rfl)
  rw [lg_entry_eq]
  generalize (lg_sl ([.ref (a 0), .int (i2 p0)]) ++ List.replicate (8 - (lg_sl ([.ref (a 0), .int (i2 p0)])).length) Slot.unset).toArray = ls at hl ⊢
  have hl : lv_has ls 8 [(0, .ref (a 0)), (1, .int (i2 p0))] := hl
  unfold m_x11_answerSum at h
  refine y_head (pcJ := 101) (σ := Int × MS) (fun u H locs ls => va_P D vwCl (CS D a u.2) H ∧ va_S A s₀.heap H locs ∧ lv_has ls 8 [] ∧ m_x11_answerSum_J101 u.1 u.2 = some o) (fun u => [.long (i8 u.1)]) (fun u H locs ls hI => ?_) (fun J101 => ?_)
  · obtain ⟨hP, hS, hl, h⟩ := hI
    obtain ⟨z1, s2⟩ := u
    have hP : va_P D vwCl (CS D a s2) H := hP
    have hl : lv_has ls 8 [] := hl
    have h : m_x11_answerSum_J101 z1 s2 = some o := h
    unfold m_x11_answerSum_J101 at h
    obtain rfl := Option.some.inj h
    exact W.lret (v := (i8 z1)) hx hb hr (fun t ht hW => ⟨⟨_, (), rfl, rfl, by rw [ht]; exact hP, va_K.moved hW.alike hK, hDD _⟩, hS.F ht⟩) hS.2.2 eX11_answerSum_98.2.2.1
  refine y_loop (pcJ := 15) (σ := Int × Int × Int × Int × Int × MS) (fun n u H locs ls => va_P D vwCl (CS D a u.2.2.2.2.2) H ∧ va_S A s₀.heap H locs ∧ lv_has ls 8 [(0, .ref (a 0)), (1, .int (i2 u.1)), (2, .long (i8 u.2.1)), (4, .int (i2 u.2.2.1)), (5, .int (i2 u.2.2.2.1)), (6, .int (i2 u.2.2.2.2.1))] ∧ m_x11_answerSum_L15 n u.1 u.2.1 u.2.2.1 u.2.2.2.1 u.2.2.2.2.1 u.2.2.2.2.2 = some o) (fun u => []) (fun u H locs ls hI => by obtain ⟨_, _, _, h⟩ := hI; cases h) (fun n15 ih15 u H locs ls hI => ?_) (fun J15 => ?_)
  · obtain ⟨hP, hS, hl, h⟩ := hI
    obtain ⟨x3, z4, x5, x6, x7, s8⟩ := u
    have hP : va_P D vwCl (CS D a s8) H := hP
    have hl : lv_has ls 8 [(0, .ref (a 0)), (1, .int (i2 x3)), (2, .long (i8 z4)), (4, .int (i2 x5)), (5, .int (i2 x6)), (6, .int (i2 x7))] := hl
    have h : m_x11_answerSum_b15 (m_x11_answerSum_L15 n15) x3 z4 x5 x6 x7 s8 = some o := h
    unfold m_x11_answerSum_b15 at h
    refine lv_iload hx hb eX11_answerSum_15.1 (lv_at hl 5 rfl) ?_
    refine lv_aload_n hx hb eX11_answerSum_15.2.1 rfl (lv_at hl 0 rfl) ?_
    refine va_get (D := D) (ci := 11) (v := .ref (a 49)) (C := RX11) (T := TX11) (N := 13) hx hb ht inX11 hown hK hP 0 CW_0 rfl 11 (by decide) (ht (.fieldLink RX11 79 "CloneVolumes" "forest" "LCloneVolumes$Forest;") fl_X11_79) (fun _ h9 => h9) rfl eX11_answerSum_15.2.2.1 ?_
    refine va_get (D := D) (ci := 1) (v := .ref (a 53)) (C := RX1) (T := TX1) (N := 9) hx hb ht inX1 hown hK hP 49 CW_49 rfl 0 (by decide) (ht (.fieldLink RX11 125 "CloneVolumes$Forest" "now" "LCloneVolumes$State;") fl_X11_125) (fun _ h9 => h9) rfl eX11_answerSum_15.2.2.2.1 ?_
    refine va_get (D := D) (ci := 8) (v := .int (i2 (gI s8 1060))) (C := RX8) (T := TX8) (N := 11) hx hb ht inX8 hown hK hP 53 CW_53 rfl 0 (by decide) (ht (.fieldLink RX11 129 "CloneVolumes$State" "blocks" "I") fl_X11_129) (fun _ h9 => h9) rfl eX11_answerSum_15.2.2.2.2.1 ?_
    obtain ⟨hr9, h⟩ := rg_e h
    obtain ⟨hr10, h⟩ := rg_e h
    refine lv_icmp_ge (tgt := 78) hx hb eX11_answerSum_15.2.2.2.2.2.1 (by decide) (fun c11 => ?_) (fun c11 => ?_)
    · have h := if_t ((i2_le (x := (gI s8 1060)) (y := x7) hr10 hr9).mp c11) h
      refine lv_iload_n hx hb eX11_answerSum_65.2.2.2.2.2.1 rfl (lv_at hl 1 rfl) ?_
      refine lv_bipush (v := 30) hx hb eX11_answerSum_65.2.2.2.2.2.2.1 (by decide) ?_
      obtain ⟨hr12, h⟩ := rg_e h
      refine lv_icmp_ne (tgt := 86) hx hb eX11_answerSum_65.2.2.2.2.2.2.2 (by decide) (fun c13 => ?_) (fun c13 => ?_)
      · have h := if_f (mt (i2_eq (x := x3) (y := 30) hr12 (by decide)).mpr c13) h
        refine lv_iload_n hx hb eX11_answerSum_84.2.2.1 rfl (lv_at hl 1 rfl) ?_
        refine lv_bipush (v := 31) hx hb eX11_answerSum_84.2.2.2.1 (by decide) ?_
        obtain ⟨hr14, h⟩ := rg_e h
        refine lv_icmp_ne (tgt := 98) hx hb eX11_answerSum_84.2.2.2.2.1 (by decide) (fun c15 => ?_) (fun c15 => ?_)
        · have h := if_f (mt (i2_eq (x := x3) (y := 31) hr14 (by decide)).mpr c15) h
          refine lv_iload hx hb eX11_answerSum_98.1 (lv_at hl 4 rfl) ?_
          obtain ⟨hr16, h⟩ := rg_e h
          refine lv_i2l (v := i8 x6) hx hb eX11_answerSum_98.2.1 (i2_l hr16) ?_
          exact J101 (x6, s8) _ _ _ ⟨hP, hS, lv_sub hl [] rfl, h⟩
        · have h := if_t ((i2_eq (x := x3) (y := 31) hr14 (by decide)).mp c15) h
          refine lv_iload hx hb eX11_answerSum_84.2.2.2.2.2.1 (lv_at hl 3 rfl) ?_
          obtain ⟨hr17, h⟩ := rg_e h
          refine lv_i2l (v := i8 x5) hx hb eX11_answerSum_84.2.2.2.2.2.2.1 (i2_l hr17) ?_
          refine lv_goto (tgt := 101) hx hb eX11_answerSum_84.2.2.2.2.2.2.2 (by decide) ?_
          exact J101 (x5, s8) _ _ _ ⟨hP, hS, lv_sub hl [] rfl, h⟩
      · have h := if_t ((i2_eq (x := x3) (y := 30) hr12 (by decide)).mp c13) h
        refine lv_lload_n hx hb eX11_answerSum_84.1 rfl (lv_at hl 2 rfl) ?_
        obtain rfl := Option.some.inj h
        exact W.lret (v := (i8 z4)) hx hb hr (fun t ht hW => ⟨⟨_, (), rfl, rfl, by rw [ht]; exact hP, va_K.moved hW.alike hK, hDD _⟩, hS.F ht⟩) hS.2.2 eX11_answerSum_84.2.1
    · have h := if_f (mt (i2_le (x := (gI s8 1060)) (y := x7) hr10 hr9).mpr c11) h
      refine lv_aload_n hx hb eX11_answerSum_15.2.2.2.2.2.2.1 rfl (lv_at hl 0 rfl) ?_
      refine va_get (D := D) (ci := 11) (v := .ref (a 49)) (C := RX11) (T := TX11) (N := 13) hx hb ht inX11 hown hK hP 0 CW_0 rfl 11 (by decide) (ht (.fieldLink RX11 79 "CloneVolumes" "forest" "LCloneVolumes$Forest;") fl_X11_79) (fun _ h9 => h9) rfl eX11_answerSum_15.2.2.2.2.2.2.2 ?_
      refine lv_iload hx hb eX11_answerSum_34.1 (lv_at hl 5 rfl) ?_
      refine lv_aload_n hx hb eX11_answerSum_34.2.1 rfl (lv_at hl 0 rfl) ?_
      refine va_get (D := D) (ci := 11) (v := .ref (a 39)) (C := RX11) (T := TX11) (N := 13) hx hb ht inX11 hown hK hP 0 CW_0 rfl 10 (by decide) (ht (.fieldLink RX11 71 "CloneVolumes" "spare" "LCloneVolumes$Plan;") fl_X11_71) (fun _ h9 => h9) rfl eX11_answerSum_34.2.2.1 ?_
      refine va_get (D := D) (ci := 5) (v := .ref (a 47)) (C := RX5) (T := TX5) (N := 14) hx hb ht inX5 hown hK hP 39 CW_39 rfl 11 (by decide) (ht (.fieldLink RX11 321 "CloneVolumes$Plan" "code" "LCloneVolumes$Code;") fl_X11_321) (fun _ h9 => h9) rfl eX11_answerSum_34.2.2.2.1 ?_
      obtain ⟨⟨r20, s19⟩, hc18, h⟩ := bn_e h
      refine ywV (r0 := i2 r20) (As := [.int (i2 x7), .ref (a 47)]) (rest := []) (C := RX1) (n := 2) (ws' := CS D a s19) ⟨hx, hb, hml, hown, ht⟩ (k_x1_valueFor l D a x7 _ _ _ hc18) (zgV ml_X11_372 im_X1_valueFor se_X1_valueFor in_X1 co_X1_valueFor) rfl rfl (by decide +kernel) ⟨Nat.le_of_ble_eq_true rfl, Nat.le_of_ble_eq_true rfl⟩ hN hK hP (hDD _) hS hA 49 CW_49 rfl rfl rfl hl.1 rfl (Nat.le_of_ble_eq_true rfl) eX11_answerSum_34.2.2.2.2.1 ⟨Nat.le_of_ble_eq_true rfl, Nat.le_of_ble_eq_true rfl⟩ (fun H locs hP hS => ?_)
      refine lv_istore (lv' := [(7, .int (i2 r20)), (0, .ref (a 0)), (1, .int (i2 x3)), (2, .long (i8 z4)), (4, .int (i2 x5)), (5, .int (i2 x6)), (6, .int (i2 x7))]) hx hb eX11_answerSum_34.2.2.2.2.2.1 hl (by decide) rfl (fun ls hl => ?_)
      refine lv_lload_n hx hb eX11_answerSum_34.2.2.2.2.2.2.1 rfl (lv_at hl 3 rfl) ?_
      refine lv_iload hx hb eX11_answerSum_34.2.2.2.2.2.2.2 (lv_at hl 0 rfl) ?_
      obtain ⟨hr21, h⟩ := rg_e h
      refine lv_i2l (v := i8 r20) hx hb eX11_answerSum_51.1 (i2_l hr21) ?_
      refine lv_ladd hx hb eX11_answerSum_51.2.1 ?_
      refine z_topl (y := i8 (z4 + r20)) (i8_add z4 r20) ?_
      refine lv_lstore_n (lv' := [(2, .long (i8 (z4 + r20))), (7, .int (i2 r20)), (0, .ref (a 0)), (1, .int (i2 x3)), (4, .int (i2 x5)), (5, .int (i2 x6)), (6, .int (i2 x7))]) hx hb eX11_answerSum_51.2.2.1 rfl hl (by decide) rfl (fun ls hl => ?_)
      refine lv_iload hx hb eX11_answerSum_51.2.2.2.1 (lv_at hl 4 rfl) ?_
      refine lv_iload hx hb eX11_answerSum_51.2.2.2.2.1 (lv_at hl 1 rfl) ?_
      obtain ⟨hr22, h⟩ := rg_e h
      obtain ⟨hr23, h⟩ := rg_e h
      refine va_mmax hx hb (by rw [hml]; exact hl.1.symm) hown (ht _ ml_X11_378) (ht _ st_mmax) (ht _ in_math) (ht _ co_mmax) (Nat.le_of_ble_eq_true rfl) (Nat.le_of_ble_eq_true rfl) (Nat.le_of_ble_eq_true rfl) (Nat.le_of_ble_eq_true rfl) eX11_answerSum_51.2.2.2.2.2.1 ?_
      refine z_topi (y := i2 (maxZ x5 r20)) (i2_max (x := x5) (y := r20) hr22 hr23) ?_
      refine lv_istore (lv' := [(4, .int (i2 (maxZ x5 r20))), (2, .long (i8 (z4 + r20))), (7, .int (i2 r20)), (0, .ref (a 0)), (1, .int (i2 x3)), (5, .int (i2 x6)), (6, .int (i2 x7))]) hx hb eX11_answerSum_51.2.2.2.2.2.2.1 hl (by decide) rfl (fun ls hl => ?_)
      refine lv_iload hx hb eX11_answerSum_51.2.2.2.2.2.2.2 (lv_at hl 5 rfl) ?_
      refine lv_iload hx hb eX11_answerSum_65.1 (lv_at hl 2 rfl) ?_
      obtain ⟨hr24, h⟩ := rg_e h
      obtain ⟨hr25, h⟩ := rg_e h
      refine va_mmin hx hb (by rw [hml]; exact hl.1.symm) hown (ht _ ml_X11_367) (ht _ st_mmin) (ht _ in_math) (ht _ co_mmin) (Nat.le_of_ble_eq_true rfl) (Nat.le_of_ble_eq_true rfl) (Nat.le_of_ble_eq_true rfl) (Nat.le_of_ble_eq_true rfl) eX11_answerSum_65.2.1 ?_
      refine z_topi (y := i2 (minZ x6 r20)) (i2_min (x := x6) (y := r20) hr24 hr25) ?_
      refine lv_istore (lv' := [(5, .int (i2 (minZ x6 r20))), (4, .int (i2 (maxZ x5 r20))), (2, .long (i8 (z4 + r20))), (7, .int (i2 r20)), (0, .ref (a 0)), (1, .int (i2 x3)), (6, .int (i2 x7))]) hx hb eX11_answerSum_65.2.2.1 hl (by decide) rfl (fun ls hl => ?_)
      refine lv_iinc (v := i2 (x7 + 1)) (lv' := [(6, .int (i2 (x7 + 1))), (5, .int (i2 (minZ x6 r20))), (4, .int (i2 (maxZ x5 r20))), (2, .long (i8 (z4 + r20))), (7, .int (i2 r20)), (0, .ref (a 0)), (1, .int (i2 x3))]) hx hb eX11_answerSum_65.2.2.2.1 hl (k := 6) rfl (i2_add x7 1) (by decide) rfl (fun ls hl => ?_)
      refine lv_goto (tgt := 15) hx hb eX11_answerSum_65.2.2.2.2.1 (by decide) ?_
      exact ih15 (x3, z4 + r20, maxZ x5 r20, minZ x6 r20, x7 + 1, s19) _ _ _ ⟨hP, hS, lv_sub hl [5, 6, 3, 2, 1, 0] rfl, h⟩
  refine lv_lconst (v := 0) hx hb eX11_answerSum_0.1 (by decide) ?_
  refine lv_lstore_n (lv' := [(2, .long 0), (0, .ref (a 0)), (1, .int (i2 p0))]) hx hb eX11_answerSum_0.2.1 rfl hl (by decide) rfl (fun ls hl => ?_)
  refine lv_ldcw (own := RX11) (v := (-1000000)) hx hb hown (ht _ ck_X11_376) eX11_answerSum_0.2.2.1 ?_
  refine lv_istore (lv' := [(4, .int (-1000000)), (2, .long 0), (0, .ref (a 0)), (1, .int (i2 p0))]) hx hb eX11_answerSum_0.2.2.2.1 hl (by decide) rfl (fun ls hl => ?_)
  refine lv_ldcw (own := RX11) (v := 1000000) hx hb hown (ht _ ck_X11_377) eX11_answerSum_0.2.2.2.2.1 ?_
  refine lv_istore (lv' := [(5, .int 1000000), (4, .int (-1000000)), (2, .long 0), (0, .ref (a 0)), (1, .int (i2 p0))]) hx hb eX11_answerSum_0.2.2.2.2.2.1 hl (by decide) rfl (fun ls hl => ?_)
  refine lv_iconst (v := 0) hx hb eX11_answerSum_0.2.2.2.2.2.2.1 (by decide) ?_
  refine lv_istore (lv' := [(6, .int 0), (5, .int 1000000), (4, .int (-1000000)), (2, .long 0), (0, .ref (a 0)), (1, .int (i2 p0))]) hx hb eX11_answerSum_0.2.2.2.2.2.2.2 hl (by decide) rfl (fun ls hl => ?_)
  exact J15 FU (p0, 0, (-1000000), 1000000, 0, s) _ _ _ ⟨hP, hS, lv_sub hl [4, 5, 3, 2, 1, 0] rfl, h⟩
set_option maxHeartbeats 4000000 in
set_option maxRecDepth 100000 in
theorem k_x11_ask (l : Launch) (D : va_G) (a : Nat → Nat) (sz : Nat) (s : MS) (o : (Int × MS)) (h : m_x11_ask s = some o) : yWl l yX11_ask cX11_ask 2 (some .long) { frames := 162, cells := 0, slots := 0, locals := 9720 } D sz [.ref (a 0)] (CS D a s) (CS D a o.2) (i8 o.1) := by
  refine Met.ofW (cc := cX11_ask) (maxL := 2) (ret := (some .long)) (by decide) rfl ?_
  intro p e s₀ m args below meth c s₁ B hml hv
  obtain ⟨rfl, ⟨hsz, hP, hK, hD0⟩, hN⟩ := hv
  have hx := B.exec
  have hb := B.bytes
  have hr := B.returns
  have hts := atoms_spec (ws := wz yX11_ask cX11_ask 2 (some .long)) B.pre
  have ht : ∀ w ∈ lw_gd, w.before _ s₀ = true := fun w h => hts w (List.mem_cons_of_mem _ h)
  have hown : s₀.vm.findClass RX11 = some m.cls := findClass_of_methodNamed B.named
  have hlocks := B.notSynchronized
  subst hsz
  have hD := hD0.self (sz := s₀.heap.size)
  generalize hAe : va_A (CS D a s) s₀.heap.size = A at hD ⊢
  have hA : ∀ q : Nat, s₀.heap.size ≤ q → A q := fun q h => by rw [← hAe]; exact Or.inr h
  have hS : va_S A s₀.heap s₀.heap [] := va_S.rf
  have hDD : ∀ t : MS, va_D A (CS D a t) := fun t => CW_D t hD
  have hl := lv_entry ([.ref (a 0)]) (n := 2) (Nat.le_of_ble_eq_true rfl)
  rw [lg_entry_eq]
  generalize (lg_sl ([.ref (a 0)]) ++ List.replicate (2 - (lg_sl ([.ref (a 0)])).length) Slot.unset).toArray = ls at hl ⊢
  have hl : lv_has ls 2 [(0, .ref (a 0))] := hl
  unfold m_x11_ask at h
  refine y_head (pcJ := 84) (σ := Int × MS) (fun u H locs ls => va_P D vwCl (CS D a u.2) H ∧ va_S A s₀.heap H locs ∧ lv_has ls 2 [(0, .ref (a 0)), (1, .int (i2 u.1))] ∧ m_x11_ask_J84 u.1 u.2 = some o) (fun u => []) (fun u H locs ls hI => ?_) (fun J84 => ?_)
  · obtain ⟨hP, hS, hl, h⟩ := hI
    obtain ⟨x1, s2⟩ := u
    have hP : va_P D vwCl (CS D a s2) H := hP
    have hl : lv_has ls 2 [(0, .ref (a 0)), (1, .int (i2 x1))] := hl
    have h : m_x11_ask_J84 x1 s2 = some o := h
    unfold m_x11_ask_J84 at h
    refine lv_aload_n hx hb eX11_ask_43.2.2.2.2.2.2.2 rfl (lv_at hl 0 rfl) ?_
    refine lv_iload_n hx hb eX11_ask_85.1 rfl (lv_at hl 1 rfl) ?_
    obtain ⟨⟨rl5, s4⟩, hc3, h⟩ := bn_e h
    refine ywVl (r0 := i8 rl5) (As := [.int (i2 x1)]) (rest := []) (C := RX11) (n := 1) (ws' := CS D a s4) ⟨hx, hb, hml, hown, ht⟩ (k_x11_answerTest l D a x1 _ _ _ hc3) (zgV ml_X11_329 im_X11_answerTest se_X11_answerTest in_X11 co_X11_answerTest) rfl rfl (by decide +kernel) ⟨Nat.le_of_ble_eq_true rfl, Nat.le_of_ble_eq_true rfl⟩ hN hK hP (hDD _) hS hA 0 CW_0 rfl rfl rfl hl.1 rfl (Nat.le_of_ble_eq_true rfl) eX11_ask_85.2.1 ⟨Nat.le_of_ble_eq_true rfl, Nat.le_of_ble_eq_true rfl⟩ (fun H locs hP hS => ?_)
    obtain rfl := Option.some.inj h
    exact W.lret (v := (i8 rl5)) hx hb hr (fun t ht hW => ⟨⟨_, (), rfl, rfl, by rw [ht]; exact hP, va_K.moved hW.alike hK, hDD _⟩, hS.F ht⟩) hS.2.2 eX11_ask_85.2.2.1
  refine lv_aload_n hx hb eX11_answerTest_74.2.2.2.1 rfl (lv_at hl 0 rfl) ?_
  refine va_get (D := D) (ci := 11) (v := .int (i2 (gI s 12))) (C := RX11) (T := TX11) (N := 13) hx hb ht inX11 hown hK hP 0 CW_0 rfl 12 (by decide) (ht (.fieldLink RX11 112 "CloneVolumes" "told" "Z") fl_X11_112) (fun _ h9 => h9) rfl eX11_answerTest_74.2.2.2.2.1 ?_
  obtain ⟨hr6, h⟩ := rg_e h
  refine lv_if_ne (tgt := 19) hx hb eX11_answerTest_74.2.2.2.2.2.1 (by decide) (fun c7 => ?_) (fun c7 => ?_)
  · have h := if_f (mt (i2_eq (x := (gI s 12)) (y := 0) hr6 (by decide)).mpr c7) h
    refine lv_aload_n hx hb eX11_ask_11.2.2.2.2.1 rfl (lv_at hl 0 rfl) ?_
    refine va_get (D := D) (ci := 11) (v := .ref (a 5)) (C := RX11) (T := TX11) (N := 13) hx hb ht inX11 hown hK hP 0 CW_0 rfl 1 (by decide) (ht (.fieldLink RX11 21 "CloneVolumes" "reader" "LCloneVolumes$Reader;") fl_X11_21) (fun _ h9 => h9) rfl eX11_ask_11.2.2.2.2.2.1 ?_
    refine lv_aload_n hx hb eX11_ask_11.2.2.2.2.2.2.1 rfl (lv_at hl 0 rfl) ?_
    refine va_get (D := D) (ci := 11) (v := .ref (a 39)) (C := RX11) (T := TX11) (N := 13) hx hb ht inX11 hown hK hP 0 CW_0 rfl 10 (by decide) (ht (.fieldLink RX11 71 "CloneVolumes" "spare" "LCloneVolumes$Plan;") fl_X11_71) (fun _ h9 => h9) rfl eX11_ask_11.2.2.2.2.2.2.2 ?_
    refine va_get (D := D) (ci := 5) (v := .ref (a 47)) (C := RX5) (T := TX5) (N := 14) hx hb ht inX5 hown hK hP 39 CW_39 rfl 11 (by decide) (ht (.fieldLink RX11 321 "CloneVolumes$Plan" "code" "LCloneVolumes$Code;") fl_X11_321) (fun _ h9 => h9) rfl eX11_ask_27.1 ?_
    obtain ⟨⟨r10, s9⟩, hc8, h⟩ := bn_e h
    refine ywV (r0 := i2 r10) (As := [.ref (a 47)]) (rest := []) (C := RX6) (n := 1) (ws' := CS D a s9) ⟨hx, hb, hml, hown, ht⟩ (k_x6_readQuestion l D a _ _ _ hc8) (zgV ml_X11_325 im_X6_readQuestion se_X6_readQuestion in_X6 co_X6_readQuestion) rfl rfl (by decide +kernel) ⟨Nat.le_of_ble_eq_true rfl, Nat.le_of_ble_eq_true rfl⟩ hN hK hP (hDD _) hS hA 5 CW_5 rfl rfl rfl hl.1 rfl (Nat.le_of_ble_eq_true rfl) eX11_ask_27.2.1 ⟨Nat.le_of_ble_eq_true rfl, Nat.le_of_ble_eq_true rfl⟩ (fun H locs hP hS => ?_)
    refine lv_istore_n (lv' := [(1, .int (i2 r10)), (0, .ref (a 0))]) hx hb eX11_ask_27.2.2.1 rfl hl (by decide) rfl (fun ls hl => ?_)
    refine lv_aload_n hx hb eX11_ask_27.2.2.2.1 rfl (lv_at hl 1 rfl) ?_
    refine va_get (D := D) (ci := 11) (v := .ref (a 3)) (C := RX11) (T := TX11) (N := 13) hx hb ht inX11 hown hK hP 0 CW_0 rfl 0 (by decide) (ht (.fieldLink RX11 12 "CloneVolumes" "tape" "LCloneVolumes$Tape;") fl_X11_12) (fun _ h9 => h9) rfl eX11_ask_27.2.2.2.2.1 ?_
    refine lv_iconst (v := 0) hx hb eX11_ask_27.2.2.2.2.2.1 (by decide) ?_
    refine ya_put (D := D) (ci := 9) (v := .int 0) (ty := .int) (C := RX9) (T := TX9) (N := 2) hx hb ht inX9 tyX9 tyX9_ok nmX9 hown hK hP (hDD _) hS 3 CW_3 rfl 1 (by decide) (ht (.fieldLink RX11 95 "CloneVolumes$Tape" "length" "I") fl_X11_95) (fun _ h9 => h9) rfl (by decide +kernel) rfl rfl (Nat.le_of_ble_eq_true rfl) eX11_ask_27.2.2.2.2.2.2.1 (CW_w3_1 0) (fun H locs hP hS => ?_)
    obtain ⟨s11, hs11, h⟩ := st_e h
    rw [hs11] at hP
    refine lv_aload_n hx hb eX11_ask_27.2.2.2.2.2.2.2 rfl (lv_at hl 1 rfl) ?_
    refine va_get (D := D) (ci := 11) (v := .ref (a 5)) (C := RX11) (T := TX11) (N := 13) hx hb ht inX11 hown hK hP 0 CW_0 rfl 1 (by decide) (ht (.fieldLink RX11 21 "CloneVolumes" "reader" "LCloneVolumes$Reader;") fl_X11_21) (fun _ h9 => h9) rfl eX11_ask_43.1 ?_
    refine va_get (D := D) (ci := 6) (v := .int (i2 (gI s11 100))) (C := RX6) (T := TX6) (N := 12) hx hb ht inX6 hown hK hP 5 CW_5 rfl 0 (by decide) (ht (.fieldLink RX11 119 "CloneVolumes$Reader" "fault" "I") fl_X11_119) (fun _ h9 => h9) rfl eX11_ask_43.2.1 ?_
    obtain ⟨hr12, h⟩ := rg_e h
    refine lv_if_eq (tgt := 56) hx hb eX11_ask_43.2.2.1 (by decide) (fun c13 => ?_) (fun c13 => ?_)
    · have h := if_t ((i2_eq (x := (gI s11 100)) (y := 0) hr12 (by decide)).mp c13) h
      refine lv_iload_n hx hb eX11_ask_43.2.2.2.2.2.1 rfl (lv_at hl 0 rfl) ?_
      obtain ⟨hr14, h⟩ := rg_e h
      by_cases c15 : r10 = 27
      · have h := if_t c15 h
        refine lv_tableIn (off := 27) (tgt := 84) hx hb eX11_ask_43.2.2.2.2.2.2.1 (by rw [c15]; decide) (by rw [c15]; decide) (by rw [c15]; decide) (by decide) ?_
        exact J84 (r10, s11) _ _ _ ⟨hP, hS, lv_sub hl [1, 0] rfl, h⟩
      · have h := if_f c15 h
        by_cases c16 : r10 = 28
        · have h := if_t c16 h
          refine lv_tableIn (off := 27) (tgt := 84) hx hb eX11_ask_43.2.2.2.2.2.2.1 (by rw [c16]; decide) (by rw [c16]; decide) (by rw [c16]; decide) (by decide) ?_
          exact J84 (r10, s11) _ _ _ ⟨hP, hS, lv_sub hl [1, 0] rfl, h⟩
        · have h := if_f c16 h
          by_cases c17 : r10 = 29
          · have h := if_t c17 h
            refine lv_tableIn (off := 27) (tgt := 84) hx hb eX11_ask_43.2.2.2.2.2.2.1 (by rw [c17]; decide) (by rw [c17]; decide) (by rw [c17]; decide) (by decide) ?_
            exact J84 (r10, s11) _ _ _ ⟨hP, hS, lv_sub hl [1, 0] rfl, h⟩
          · have h := if_f c17 h
            refine lv_tableOut (tgt := 90) hx hb eX11_ask_43.2.2.2.2.2.2.1 (by rw [i2_t hr14]; omega) (by decide) ?_
            refine lv_aload_n hx hb eX11_ask_85.2.2.2.1 rfl (lv_at hl 1 rfl) ?_
            refine lv_iload_n hx hb eX11_ask_85.2.2.2.2.1 rfl (lv_at hl 0 rfl) ?_
            obtain ⟨⟨rl20, s19⟩, hc18, h⟩ := bn_e h
            refine ywVl (r0 := i8 rl20) (As := [.int (i2 r10)]) (rest := []) (C := RX11) (n := 1) (ws' := CS D a s19) ⟨hx, hb, hml, hown, ht⟩ (k_x11_answerSum l D a r10 _ _ _ hc18) (zgV ml_X11_333 im_X11_answerSum se_X11_answerSum in_X11 co_X11_answerSum) rfl rfl (by decide +kernel) ⟨Nat.le_of_ble_eq_true rfl, Nat.le_of_ble_eq_true rfl⟩ hN hK hP (hDD _) hS hA 0 CW_0 rfl rfl rfl hl.1 rfl (Nat.le_of_ble_eq_true rfl) eX11_ask_85.2.2.2.2.2.1 ⟨Nat.le_of_ble_eq_true rfl, Nat.le_of_ble_eq_true rfl⟩ (fun H locs hP hS => ?_)
            obtain rfl := Option.some.inj h
            exact W.lret (v := (i8 rl20)) hx hb hr (fun t ht hW => ⟨⟨_, (), rfl, rfl, by rw [ht]; exact hP, va_K.moved hW.alike hK, hDD _⟩, hS.F ht⟩) hS.2.2 eX11_ask_85.2.2.2.2.2.2.1
    · have h := if_f (mt (i2_eq (x := (gI s11 100)) (y := 0) hr12 (by decide)).mpr c13) h
      refine lv_ldc2 (own := RX11) (v := (-1000000000000000)) hx hb hown (ht _ cl_X11_319) eX11_ask_43.2.2.2.1 ?_
      obtain rfl := Option.some.inj h
      exact W.lret (v := (-1000000000000000)) hx hb hr (fun t ht hW => ⟨⟨_, (), rfl, rfl, by rw [ht]; exact hP, va_K.moved hW.alike hK, hDD _⟩, hS.F ht⟩) hS.2.2 eX11_ask_43.2.2.2.2.1
  · have h := if_t ((i2_eq (x := (gI s 12)) (y := 0) hr6 (by decide)).mp c7) h
    refine lv_aload_n hx hb eX11_answerTest_74.2.2.2.2.2.2.1 rfl (lv_at hl 0 rfl) ?_
    refine va_get (D := D) (ci := 11) (v := .ref (a 3)) (C := RX11) (T := TX11) (N := 13) hx hb ht inX11 hown hK hP 0 CW_0 rfl 0 (by decide) (ht (.fieldLink RX11 12 "CloneVolumes" "tape" "LCloneVolumes$Tape;") fl_X11_12) (fun _ h9 => h9) rfl eX11_answerTest_74.2.2.2.2.2.2.2 ?_
    refine lv_iconst (v := 0) hx hb eX11_ask_11.1 (by decide) ?_
    refine ya_put (D := D) (ci := 9) (v := .int 0) (ty := .int) (C := RX9) (T := TX9) (N := 2) hx hb ht inX9 tyX9 tyX9_ok nmX9 hown hK hP (hDD _) hS 3 CW_3 rfl 1 (by decide) (ht (.fieldLink RX11 95 "CloneVolumes$Tape" "length" "I") fl_X11_95) (fun _ h9 => h9) rfl (by decide +kernel) rfl rfl (Nat.le_of_ble_eq_true rfl) eX11_ask_11.2.1 (CW_w3_1 0) (fun H locs hP hS => ?_)
    obtain ⟨s21, hs21, h⟩ := st_e h
    rw [hs21] at hP
    refine lv_ldc2 (own := RX11) (v := (-1000000000000000)) hx hb hown (ht _ cl_X11_319) eX11_ask_11.2.2.1 ?_
    obtain rfl := Option.some.inj h
    exact W.lret (v := (-1000000000000000)) hx hb hr (fun t ht hW => ⟨⟨_, (), rfl, rfl, by rw [ht]; exact hP, va_K.moved hW.alike hK, hDD _⟩, hS.F ht⟩) hS.2.2 eX11_ask_11.2.2.2.1
set_option maxHeartbeats 4000000 in
set_option maxRecDepth 100000 in
theorem k_x4_seal (l : Launch) (D : va_G) (a : Nat → Nat) (p1 : Int) (s : MS) (o : Int) (h : m_x4_seal p1 s = some o) : yRi l yX4_seal cX4_seal 4 (some .int) { frames := 0, cells := 0, slots := 0, locals := 0 } D [.ref (a 17), .int (i2 p1)] (CS D a s) (i2 o) := by
  refine Met.ofW (cc := cX4_seal) (maxL := 4) (ret := (some .int)) (by decide) rfl ?_
  intro p e s₀ m args below meth c s₁ B hml hv
  obtain ⟨rfl, ⟨hP, hK⟩, hN⟩ := hv
  have hx := B.exec
  have hb := B.bytes
  have hr := B.returns
  have hts := atoms_spec (ws := wz yX4_seal cX4_seal 4 (some .int)) B.pre
  have ht : ∀ w ∈ lw_gd, w.before _ s₀ = true := fun w h => hts w (List.mem_cons_of_mem _ h)
  have hown : s₀.vm.findClass RX4 = some m.cls := findClass_of_methodNamed B.named
  have hlocks := B.notSynchronized
  have hS : va_S (fun _ => False) s₀.heap s₀.heap [] := va_S.rf
  have hl := lv_entry ([.ref (a 17), .int (i2 p1)]) (n := 4) (Nat.le_of_ble_eq_true rfl)
  rw [lg_entry_eq]
  generalize (lg_sl ([.ref (a 17), .int (i2 p1)]) ++ List.replicate (4 - (lg_sl ([.ref (a 17), .int (i2 p1)])).length) Slot.unset).toArray = ls at hl ⊢
  have hl : lv_has ls 4 [(0, .ref (a 17)), (1, .int (i2 p1))] := hl
  unfold m_x4_seal at h
  refine y_head (pcJ := 35) (σ := Int) (fun u H locs ls => va_P D vwCl (CS D a s) H ∧ va_S (fun _ => False) s₀.heap H locs ∧ lv_has ls 4 [(2, .int (i2 u))] ∧ m_x4_seal_J35 s u = some o) (fun u => []) (fun u H locs ls hI => ?_) (fun J35 => ?_)
  · obtain ⟨hP, hS, hl, h⟩ := hI
    obtain ⟨x1, rfl⟩ : ∃ z, z = u := ⟨u, rfl⟩
    have hP : va_P D vwCl (CS D a s) H := hP
    have hl : lv_has ls 4 [(2, .int (i2 x1))] := hl
    have h : m_x4_seal_J35 s x1 = some o := h
    unfold m_x4_seal_J35 at h
    refine lv_iload_n hx hb eX4_seal_23.2.2.2.2.2.2.1 rfl (lv_at hl 0 rfl) ?_
    obtain rfl := Option.some.inj h
    exact W.iret (v := (i2 x1)) hx hb hr (fun t ht hW => ⟨⟨_, (), rfl, rfl, trivial⟩, hS.F ht⟩) hS.2.2 eX4_seal_23.2.2.2.2.2.2.2
  refine y_loop (pcJ := 6) (σ := Int × Int × Int) (fun n u H locs ls => va_P D vwCl (CS D a s) H ∧ va_S (fun _ => False) s₀.heap H locs ∧ lv_has ls 4 [(0, .ref (a 17)), (1, .int (i2 u.1)), (2, .int (i2 u.2.1)), (3, .int (i2 u.2.2))] ∧ m_x4_seal_L6 s n u.1 u.2.1 u.2.2 = some o) (fun u => []) (fun u H locs ls hI => by obtain ⟨_, _, _, h⟩ := hI; cases h) (fun n6 ih6 u H locs ls hI => ?_) (fun J6 => ?_)
  · obtain ⟨hP, hS, hl, h⟩ := hI
    obtain ⟨x2, x3, x4⟩ := u
    have hP : va_P D vwCl (CS D a s) H := hP
    have hl : lv_has ls 4 [(0, .ref (a 17)), (1, .int (i2 x2)), (2, .int (i2 x3)), (3, .int (i2 x4))] := hl
    have h : m_x4_seal_b6 s (m_x4_seal_L6 s n6) x2 x3 x4 = some o := h
    unfold m_x4_seal_b6 at h
    refine lv_iload_n hx hb eX4_seal_3.2.2.2.1 rfl (lv_at hl 3 rfl) ?_
    refine lv_iload_n hx hb eX4_seal_3.2.2.2.2.1 rfl (lv_at hl 1 rfl) ?_
    obtain ⟨hr5, h⟩ := rg_e h
    obtain ⟨hr6, h⟩ := rg_e h
    refine lv_icmp_ge (tgt := 35) hx hb eX4_seal_3.2.2.2.2.2.1 (by decide) (fun c7 => ?_) (fun c7 => ?_)
    · have h := if_t ((i2_le (x := x2) (y := x4) hr6 hr5).mp c7) h
      exact J35 x3 _ _ _ ⟨hP, hS, lv_sub hl [2] rfl, h⟩
    · have h := if_f (mt (i2_le (x := x2) (y := x4) hr6 hr5).mpr c7) h
      refine lv_iload_n hx hb eX4_seal_3.2.2.2.2.2.2.1 rfl (lv_at hl 3 rfl) ?_
      refine lv_aload_n hx hb eX4_seal_3.2.2.2.2.2.2.2 rfl (lv_at hl 0 rfl) ?_
      refine va_alen (v := 1364) hx hb hK hP 17 0 CW_17 (ty := .int) rfl rfl eX4_seal_13.1 ?_
      obtain ⟨hr8, h⟩ := rg_e h
      refine lv_icmp_ge (tgt := 35) hx hb eX4_seal_13.2.1 (by decide) (fun c9 => ?_) (fun c9 => ?_)
      · have h := if_t ((i2_le (x := 1364) (y := x4) (by decide) hr8).mp c9) h
        exact J35 x3 _ _ _ ⟨hP, hS, lv_sub hl [2] rfl, h⟩
      · have h := if_f (mt (i2_le (x := 1364) (y := x4) (by decide) hr8).mpr c9) h
        refine lv_iconst (v := 3) hx hb eX4_seal_13.2.2.1 (by decide) ?_
        refine lv_iload_n hx hb eX4_seal_13.2.2.2.1 rfl (lv_at hl 2 rfl) ?_
        refine lv_imul hx hb eX4_seal_13.2.2.2.2.1 ?_
        refine z_topi (y := i2 (3 * x3)) (i2_mul 3 x3) ?_
        refine lv_aload_n hx hb eX4_seal_13.2.2.2.2.2.1 rfl (lv_at hl 0 rfl) ?_
        refine lv_iload_n hx hb eX4_seal_13.2.2.2.2.2.2.1 rfl (lv_at hl 3 rfl) ?_
        obtain ⟨y10, ey10, iy10, h⟩ := rdI_e h
        refine ya_iald (i := x4) hx hb hK hP 17 0 CW_17 rfl (by decide) ey10 iy10 eX4_seal_13.2.2.2.2.2.2.2 ?_
        refine lv_iadd hx hb eX4_seal_23.1 ?_
        refine z_topi (y := i2 ((3 * x3) + y10)) (i2_add (3 * x3) y10) ?_
        refine lv_sipush (v := 251) hx hb eX4_seal_23.2.1 (by decide) ?_
        obtain ⟨hn11, h⟩ := dv_e h
        refine lv_irem hx hb eX4_seal_23.2.2.1 (dv_nz hn11) ?_
        refine z_topi (y := i2 (Int.tmod ((3 * x3) + y10) 251)) (by rw [show (251 : Int32) = i2 251 from by decide +kernel]; exact dv_r hn11) ?_
        refine lv_istore_n (lv' := [(2, .int (i2 (Int.tmod ((3 * x3) + y10) 251))), (0, .ref (a 17)), (1, .int (i2 x2)), (3, .int (i2 x4))]) hx hb eX4_seal_23.2.2.2.1 rfl hl (by decide) rfl (fun ls hl => ?_)
        refine lv_iinc (v := i2 (x4 + 1)) (lv' := [(3, .int (i2 (x4 + 1))), (2, .int (i2 (Int.tmod ((3 * x3) + y10) 251))), (0, .ref (a 17)), (1, .int (i2 x2))]) hx hb eX4_seal_23.2.2.2.2.1 hl (k := 3) rfl (i2_add x4 1) (by decide) rfl (fun ls hl => ?_)
        refine lv_goto (tgt := 6) hx hb eX4_seal_23.2.2.2.2.2.1 (by decide) ?_
        exact ih6 (x2, Int.tmod ((3 * x3) + y10) 251, x4 + 1) _ _ _ ⟨hP, hS, lv_sub hl [2, 3, 1, 0] rfl, h⟩
  refine lv_sipush (v := 157) hx hb eX4_add_26.2.2.2.2.2.2.2 (by decide) ?_
  refine lv_istore_n (lv' := [(2, .int 157), (0, .ref (a 17)), (1, .int (i2 p1))]) hx hb eX4_seal_3.1 rfl hl (by decide) rfl (fun ls hl => ?_)
  refine lv_iconst (v := 0) hx hb eX4_seal_3.2.1 (by decide) ?_
  refine lv_istore_n (lv' := [(3, .int 0), (2, .int 157), (0, .ref (a 17)), (1, .int (i2 p1))]) hx hb eX4_seal_3.2.2.1 rfl hl (by decide) rfl (fun ls hl => ?_)
  exact J6 FU (p1, 157, 0) _ _ _ ⟨hP, hS, lv_sub hl [2, 3, 1, 0] rfl, h⟩
set_option maxHeartbeats 4000000 in
set_option maxRecDepth 100000 in
theorem k_x4_add (l : Launch) (D : va_G) (a : Nat → Nat) (p0 : Int) (sz : Nat) (s : MS) (o : MS) (h : m_x4_add p0 s = some o) : yWv l yX4_add cX4_add 2 none { frames := 0, cells := 0, slots := 0, locals := 0 } D sz [.ref (a 16), .int (i2 p0)] (CS D a s) (CS D a o) := by
  refine Met.ofW (cc := cX4_add) (maxL := 2) (ret := none) (by decide) rfl ?_
  intro p e s₀ m args below meth c s₁ B hml hv
  obtain ⟨rfl, ⟨hsz, hP, hK, hD0⟩, hN⟩ := hv
  have hx := B.exec
  have hb := B.bytes
  have hr := B.returns
  have hts := atoms_spec (ws := wz yX4_add cX4_add 2 none) B.pre
  have ht : ∀ w ∈ lw_gd, w.before _ s₀ = true := fun w h => hts w (List.mem_cons_of_mem _ h)
  have hown : s₀.vm.findClass RX4 = some m.cls := findClass_of_methodNamed B.named
  have hlocks := B.notSynchronized
  subst hsz
  have hD := hD0.self (sz := s₀.heap.size)
  generalize hAe : va_A (CS D a s) s₀.heap.size = A at hD ⊢
  have hA : ∀ q : Nat, s₀.heap.size ≤ q → A q := fun q h => by rw [← hAe]; exact Or.inr h
  have hS : va_S A s₀.heap s₀.heap [] := va_S.rf
  have hDD : ∀ t : MS, va_D A (CS D a t) := fun t => CW_D t hD
  have hl := lv_entry ([.ref (a 16), .int (i2 p0)]) (n := 2) (Nat.le_of_ble_eq_true rfl)
  rw [lg_entry_eq]
  generalize (lg_sl ([.ref (a 16), .int (i2 p0)]) ++ List.replicate (2 - (lg_sl ([.ref (a 16), .int (i2 p0)])).length) Slot.unset).toArray = ls at hl ⊢
  have hl : lv_has ls 2 [(0, .ref (a 16)), (1, .int (i2 p0))] := hl
  unfold m_x4_add at h
  refine y_head (pcJ := 36) (σ := MS) (fun u H locs ls => va_P D vwCl (CS D a u) H ∧ va_S A s₀.heap H locs ∧ lv_has ls 2 [] ∧ m_x4_add_J36 u = some o) (fun u => []) (fun u H locs ls hI => ?_) (fun J36 => ?_)
  · obtain ⟨hP, hS, hl, h⟩ := hI
    obtain ⟨s1, rfl⟩ : ∃ z, z = u := ⟨u, rfl⟩
    have hP : va_P D vwCl (CS D a s1) H := hP
    have hl : lv_has ls 2 [] := hl
    have h : m_x4_add_J36 s1 = some o := h
    unfold m_x4_add_J36 at h
    obtain rfl := Option.some.inj h
    exact W.vret hx hb hr (fun t ht hW => ⟨⟨(), rfl, trivial, by rw [ht]; exact hP, va_K.moved hW.alike hK, hDD _⟩, hS.F ht⟩) hS.2.2 eX4_add_26.2.2.2.2.2.2.1
  refine lv_aload_n hx hb eX1_valueFor_103.2.2.1 rfl (lv_at hl 0 rfl) ?_
  refine va_get (D := D) (ci := 4) (v := .int (i2 (gI s 321))) (C := RX4) (T := TX4) (N := 6) hx hb ht inX4 hown hK hP 16 CW_16 rfl 1 (by decide) (ht (.fieldLink RX4 24 "CloneVolumes$Picture" "size" "I") fl_X4_24) (fun _ h9 => h9) rfl eX1_valueFor_103.2.2.2.1 ?_
  refine lv_aload_n hx hb eX1_valueFor_103.2.2.2.2.1 rfl (lv_at hl 0 rfl) ?_
  refine va_get (D := D) (ci := 4) (v := .ref (a 17)) (C := RX4) (T := TX4) (N := 6) hx hb ht inX4 hown hK hP 16 CW_16 rfl 0 (by decide) (ht (.fieldLink RX4 11 "CloneVolumes$Picture" "bytes" "[I") fl_X4_11) (fun _ h9 => h9) rfl eX1_valueFor_103.2.2.2.2.2.1 ?_
  refine va_alen (v := 1364) hx hb hK hP 17 0 CW_17 (ty := .int) rfl rfl eX1_valueFor_103.2.2.2.2.2.2.1 ?_
  obtain ⟨hr2, h⟩ := rg_e h
  refine lv_icmp_ge (tgt := 36) hx hb eX1_valueFor_103.2.2.2.2.2.2.2 (by decide) (fun c3 => ?_) (fun c3 => ?_)
  · have h := if_t ((i2_le (x := 1364) (y := (gI s 321)) (by decide) hr2).mp c3) h
    exact J36 s _ _ _ ⟨hP, hS, lv_sub hl [] rfl, h⟩
  · have h := if_f (mt (i2_le (x := 1364) (y := (gI s 321)) (by decide) hr2).mpr c3) h
    refine lv_aload_n hx hb eX4_add_12.1 rfl (lv_at hl 0 rfl) ?_
    refine va_get (D := D) (ci := 4) (v := .ref (a 17)) (C := RX4) (T := TX4) (N := 6) hx hb ht inX4 hown hK hP 16 CW_16 rfl 0 (by decide) (ht (.fieldLink RX4 11 "CloneVolumes$Picture" "bytes" "[I") fl_X4_11) (fun _ h9 => h9) rfl eX4_add_12.2.1 ?_
    refine lv_aload_n hx hb eX4_add_12.2.2.1 rfl (lv_at hl 0 rfl) ?_
    refine va_get (D := D) (ci := 4) (v := .int (i2 (gI s 321))) (C := RX4) (T := TX4) (N := 6) hx hb ht inX4 hown hK hP 16 CW_16 rfl 1 (by decide) (ht (.fieldLink RX4 24 "CloneVolumes$Picture" "size" "I") fl_X4_24) (fun _ h9 => h9) rfl eX4_add_12.2.2.2.1 ?_
    refine lv_iload_n hx hb eX4_add_12.2.2.2.2.1 rfl (lv_at hl 1 rfl) ?_
    refine lv_sipush (v := 255) hx hb eX4_add_12.2.2.2.2.2.1 (by decide) ?_
    refine lv_iand hx hb eX4_add_12.2.2.2.2.2.2.1 ?_
    refine z_topi (y := i2 (andZ p0 255)) (i2_of (i2 p0 &&& i2 255)).symm ?_
    obtain ⟨hi4, h⟩ := inb_e h
    refine ya_iast (i := (gI s 321)) (x := (andZ p0 255)) hx hb hK hP (hDD _) hS 17 0 CW_17 rfl (by decide) hi4 eX4_add_12.2.2.2.2.2.2.2 (CW_w17 _) (fun H locs hP hS => ?_)
    obtain ⟨s5, hs5, h⟩ := st_e h
    rw [hs5] at hP
    refine lv_aload_n hx hb eX4_add_26.1 rfl (lv_at hl 0 rfl) ?_
    refine lv_dup hx hb eX4_add_26.2.1 rfl ?_
    refine va_get (D := D) (ci := 4) (v := .int (i2 (gI s5 321))) (C := RX4) (T := TX4) (N := 6) hx hb ht inX4 hown hK hP 16 CW_16 rfl 1 (by decide) (ht (.fieldLink RX4 24 "CloneVolumes$Picture" "size" "I") fl_X4_24) (fun _ h9 => h9) rfl eX4_add_26.2.2.1 ?_
    refine lv_iconst (v := 1) hx hb eX4_add_26.2.2.2.1 (by decide) ?_
    refine lv_iadd hx hb eX4_add_26.2.2.2.2.1 ?_
    refine z_topi (y := i2 ((gI s5 321) + 1)) (i2_add (gI s5 321) 1) ?_
    refine ya_put (D := D) (ci := 4) (v := .int (i2 ((gI s5 321) + 1))) (ty := .int) (C := RX4) (T := TX4) (N := 6) hx hb ht inX4 tyX4 tyX4_ok nmX4 hown hK hP (hDD _) hS 16 CW_16 rfl 1 (by decide) (ht (.fieldLink RX4 24 "CloneVolumes$Picture" "size" "I") fl_X4_24) (fun _ h9 => h9) rfl (by decide +kernel) rfl rfl (Nat.le_of_ble_eq_true rfl) eX4_add_26.2.2.2.2.2.1 (CW_w16_1 ((gI s5 321) + 1)) (fun H locs hP hS => ?_)
    obtain ⟨s6, hs6, h⟩ := st_e h
    rw [hs6] at hP
    exact J36 s6 _ _ _ ⟨hP, hS, lv_sub hl [] rfl, h⟩
