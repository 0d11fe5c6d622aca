theorem co_X7_agrees : Cond.code yX7_agrees cX7_agrees 4 (some .boolean) ∈ lw_gd := zm (lw_g_5 (List.mem_of_getElem? (i := 150) (by decide +kernel))) rfl
theorem co_X7_findFits : Cond.code yX7_findFits cX7_findFits 3 (some .int) ∈ lw_gd := zm (lw_g_5 (List.mem_of_getElem? (i := 145) (by decide +kernel))) rfl
theorem co_X7_mostLeft : Cond.code yX7_mostLeft cX7_mostLeft 7 (some .int) ∈ lw_gd := zm (lw_g_5 (List.mem_of_getElem? (i := 162) (by decide +kernel))) rfl
theorem co_X7_reading : Cond.code yX7_reading cX7_reading 4 (some .int) ∈ lw_gd := zm (lw_g_5 (List.mem_of_getElem? (i := 153) (by decide +kernel))) rfl
theorem co_X7_take : Cond.code yX7_take cX7_take 4 (some .boolean) ∈ lw_gd := zm (lw_g_5 (List.mem_of_getElem? (i := 132) (by decide +kernel))) rfl
theorem co_X8_keptBlocks : Cond.code yX8_keptBlocks cX8_keptBlocks 3 (some .int) ∈ lw_gd := zm (lw_g_5 (List.mem_of_getElem? (i := 120) (by decide +kernel))) rfl
theorem co_X9_pair : Cond.code yX9_pair cX9_pair 2 (some .int) ∈ lw_gd := zm (lw_g_5 (List.mem_of_getElem? (i := 136) (by decide +kernel))) rfl
theorem fl_X11_255 : Cond.fieldLink RX11 255 "CloneVolumes$State" "savedRoots" "[I" ∈ lw_gd := zm (lw_g_2 (List.mem_of_getElem? (i := 163) (by decide +kernel))) rfl
theorem fl_X11_266 : Cond.fieldLink RX11 266 "CloneVolumes$Sight" "fit" "[I" ∈ lw_gd := zm (lw_g_1 (List.mem_of_getElem? (i := 181) (by decide +kernel))) rfl
theorem fl_X7_24 : Cond.fieldLink RX7 24 "CloneVolumes$Tape" "length" "I" ∈ lw_gd := zm (lw_g_1 (List.mem_of_getElem? (i := 39) (by decide +kernel))) rfl
theorem fl_X7_34 : Cond.fieldLink RX7 34 "CloneVolumes$Sight" "rows" "I" ∈ lw_gd := zm (lw_g_1 (List.mem_of_getElem? (i := 176) (by decide +kernel))) rfl
theorem fl_X7_37 : Cond.fieldLink RX7 37 "CloneVolumes$Sight" "fits" "I" ∈ lw_gd := zm (lw_g_1 (List.mem_of_getElem? (i := 182) (by decide +kernel))) rfl
theorem fl_X7_60 : Cond.fieldLink RX7 60 "CloneVolumes$State" "roots" "[I" ∈ lw_gd := zm (lw_g_2 (List.mem_of_getElem? (i := 159) (by decide +kernel))) rfl
theorem im_X7_agrees : Cond.instanceMethod yX7_agrees ∈ lw_gd := zm (lw_g_5 (List.mem_of_getElem? (i := 149) (by decide +kernel))) rfl
theorem im_X7_findFits : Cond.instanceMethod yX7_findFits ∈ lw_gd := zm (lw_g_5 (List.mem_of_getElem? (i := 143) (by decide +kernel))) rfl
theorem im_X7_mostLeft : Cond.instanceMethod yX7_mostLeft ∈ lw_gd := zm (lw_g_5 (List.mem_of_getElem? (i := 160) (by decide +kernel))) rfl
theorem im_X7_take : Cond.instanceMethod yX7_take ∈ lw_gd := zm (lw_g_5 (List.mem_of_getElem? (i := 130) (by decide +kernel))) rfl
theorem im_X8_keptBlocks : Cond.instanceMethod yX8_keptBlocks ∈ lw_gd := zm (lw_g_5 (List.mem_of_getElem? (i := 118) (by decide +kernel))) rfl
theorem im_X9_pair : Cond.instanceMethod yX9_pair ∈ lw_gd := zm (lw_g_5 (List.mem_of_getElem? (i := 134) (by decide +kernel))) rfl
theorem ml_X11_252 : Cond.methodLink RX11 252 yX8_keptBlocks ∈ lw_gd := zm (lw_g_5 (List.mem_of_getElem? (i := 117) (by decide +kernel))) rfl
theorem ml_X11_258 : Cond.methodLink RX11 258 yX7_take ∈ lw_gd := zm (lw_g_5 (List.mem_of_getElem? (i := 129) (by decide +kernel))) rfl
theorem ml_X11_262 : Cond.methodLink RX11 262 yX7_findFits ∈ lw_gd := zm (lw_g_5 (List.mem_of_getElem? (i := 142) (by decide +kernel))) rfl
theorem ml_X11_269 : Cond.methodLink RX11 269 yX7_mostLeft ∈ lw_gd := zm (lw_g_5 (List.mem_of_getElem? (i := 159) (by decide +kernel))) rfl
theorem ml_X7_30 : Cond.methodLink RX7 30 yX9_pair ∈ lw_gd := zm (lw_g_5 (List.mem_of_getElem? (i := 133) (by decide +kernel))) rfl
theorem ml_X7_40 : Cond.methodLink RX7 40 yX8_isVolume ∈ lw_gd := zm (lw_g_5 (List.mem_of_getElem? (i := 146) (by decide +kernel))) rfl
theorem ml_X7_46 : Cond.methodLink RX7 46 yX7_agrees ∈ lw_gd := zm (lw_g_5 (List.mem_of_getElem? (i := 147) (by decide +kernel))) rfl
theorem ml_X7_50 : Cond.methodLink RX7 50 yX7_reading ∈ lw_gd := zm (lw_g_5 (List.mem_of_getElem? (i := 151) (by decide +kernel))) rfl
theorem ml_X7_54 : Cond.methodLink RX7 54 Lib.Math.max.name ∈ lw_gd := zm (lw_g_5 (List.mem_of_getElem? (i := 163) (by decide +kernel))) rfl
theorem ml_X7_63 : Cond.methodLink RX7 63 yX8_valueAt ∈ lw_gd := zm (lw_g_5 (List.mem_of_getElem? (i := 154) (by decide +kernel))) rfl
theorem ml_X9_19 : Cond.methodLink RX9 19 yX9_at ∈ lw_gd := zm (lw_g_5 (List.mem_of_getElem? (i := 137) (by decide +kernel))) rfl
theorem se_X7_agrees : Cond.selects RX7 yX7_agrees yX7_agrees ∈ lw_gd := zm (List.mem_of_getElem? (i := 52) (by decide +kernel)) rfl
theorem se_X7_findFits : Cond.selects RX7 yX7_findFits yX7_findFits ∈ lw_gd := zm (lw_g_5 (List.mem_of_getElem? (i := 144) (by decide +kernel))) rfl
theorem se_X7_mostLeft : Cond.selects RX7 yX7_mostLeft yX7_mostLeft ∈ lw_gd := zm (lw_g_5 (List.mem_of_getElem? (i := 161) (by decide +kernel))) rfl
theorem se_X7_take : Cond.selects RX7 yX7_take yX7_take ∈ lw_gd := zm (lw_g_5 (List.mem_of_getElem? (i := 131) (by decide +kernel))) rfl
theorem se_X8_keptBlocks : Cond.selects RX8 yX8_keptBlocks yX8_keptBlocks ∈ lw_gd := zm (lw_g_5 (List.mem_of_getElem? (i := 119) (by decide +kernel))) rfl
theorem se_X9_pair : Cond.selects RX9 yX9_pair yX9_pair ∈ lw_gd := zm (lw_g_5 (List.mem_of_getElem? (i := 135) (by decide +kernel))) rfl
theorem st_X7_reading : Cond.static yX7_reading ∈ lw_gd := zm (lw_g_5 (List.mem_of_getElem? (i := 152) (by decide +kernel))) rfl
theorem eX11_back_0 : decode cX11_back 0 = .ok (.aload_n 0, 1) ∧ decode cX11_back 1 = .ok (.getfield 79, 3) ∧ decode cX11_back 4 = .ok (.getfield 125, 3) ∧ decode cX11_back 7 = .ok (.astore_n 2, 1) ∧ decode cX11_back 8 = .ok (.aload_n 2, 1) ∧ decode cX11_back 9 = .ok (.iload_n 1, 1) ∧ decode cX11_back 10 = .ok (.invokevirtual 161, 3) ∧ decode cX11_back 13 = .ok (.ifCond .eq 14, 3) := by decide +kernel
theorem eX11_back_16 : decode cX11_back 16 = .ok (.aload_n 2, 1) ∧ decode cX11_back 17 = .ok (.getfield 255, 3) ∧ decode cX11_back 20 = .ok (.iload_n 1, 1) ∧ decode cX11_back 21 = .ok (.iaload, 1) ∧ decode cX11_back 22 = .ok (.bipush (-2), 2) ∧ decode cX11_back 24 = .ok (.if_icmp .ne 5, 3) ∧ decode cX11_back 27 = .ok (.iconst (-1), 1) ∧ decode cX11_back 28 = .ok (.ireturn, 1) := by decide +kernel
theorem eX11_back_29 : decode cX11_back 29 = .ok (.aload_n 0, 1) ∧ decode cX11_back 30 = .ok (.aload_n 2, 1) ∧ decode cX11_back 31 = .ok (.getfield 165, 3) ∧ decode cX11_back 34 = .ok (.iload_n 1, 1) ∧ decode cX11_back 35 = .ok (.iaload, 1) ∧ decode cX11_back 36 = .ok (.aload_n 2, 1) ∧ decode cX11_back 37 = .ok (.getfield 255, 3) ∧ decode cX11_back 40 = .ok (.iload_n 1, 1) := by decide +kernel
theorem eX11_back_41 : decode cX11_back 41 = .ok (.iaload, 1) ∧ decode cX11_back 42 = .ok (.iconst (-1), 1) ∧ decode cX11_back 43 = .ok (.invokevirtual 233, 3) ∧ decode cX11_back 46 = .ok (.ireturn, 1) ∧ decode cX11_fits 0 = .ok (.aload_n 0, 1) ∧ decode cX11_fits 1 = .ok (.getfield 35, 3) ∧ decode cX11_fits 4 = .ok (.aload_n 0, 1) ∧ decode cX11_fits 5 = .ok (.getfield 79, 3) := by decide +kernel
theorem eX11_fits_8 : decode cX11_fits 8 = .ok (.getfield 125, 3) ∧ decode cX11_fits 11 = .ok (.invokevirtual 262, 3) ∧ decode cX11_fits 14 = .ok (.istore_n 2, 1) ∧ decode cX11_fits 15 = .ok (.iload_n 1, 1) ∧ decode cX11_fits 16 = .ok (.iconst (-1), 1) ∧ decode cX11_fits 17 = .ok (.if_icmp .ne 5, 3) ∧ decode cX11_fits 20 = .ok (.iload_n 2, 1) ∧ decode cX11_fits 21 = .ok (.ireturn, 1) := by decide +kernel
theorem eX11_fits_22 : decode cX11_fits 22 = .ok (.iload_n 1, 1) ∧ decode cX11_fits 23 = .ok (.ifCond .lt 20, 3) ∧ decode cX11_fits 26 = .ok (.iload_n 1, 1) ∧ decode cX11_fits 27 = .ok (.iload_n 2, 1) ∧ decode cX11_fits 28 = .ok (.if_icmp .ge 15, 3) ∧ decode cX11_fits 31 = .ok (.aload_n 0, 1) ∧ decode cX11_fits 32 = .ok (.getfield 35, 3) ∧ decode cX11_fits 35 = .ok (.getfield 266, 3) := by decide +kernel
theorem eX11_fits_38 : decode cX11_fits 38 = .ok (.iload_n 1, 1) ∧ decode cX11_fits 39 = .ok (.iaload, 1) ∧ decode cX11_fits 40 = .ok (.goto 4, 3) ∧ decode cX11_fits 43 = .ok (.iconst (-1), 1) ∧ decode cX11_fits 44 = .ok (.ireturn, 1) ∧ decode cX11_room 0 = .ok (.aload_n 0, 1) ∧ decode cX11_room 1 = .ok (.getfield 79, 3) ∧ decode cX11_room 4 = .ok (.getfield 125, 3) := by decide +kernel
theorem eX11_room_7 : decode cX11_room 7 = .ok (.astore_n 2, 1) ∧ decode cX11_room 8 = .ok (.aload_n 0, 1) ∧ decode cX11_room 9 = .ok (.getfield 112, 3) ∧ decode cX11_room 12 = .ok (.ifCond .ne 5, 3) ∧ decode cX11_room 15 = .ok (.iconst (-1), 1) ∧ decode cX11_room 16 = .ok (.ireturn, 1) ∧ decode cX11_room 17 = .ok (.iload_n 1, 1) ∧ decode cX11_room 18 = .ok (.tableswitch 61 0 2 #[26, 41, 51], 26) := by decide +kernel
theorem eX11_room_44 : decode cX11_room 44 = .ok (.aload_n 2, 1) ∧ decode cX11_room 45 = .ok (.getfield 129, 3) ∧ decode cX11_room 48 = .ok (.aload_n 2, 1) ∧ decode cX11_room 49 = .ok (.invokevirtual 138, 3) ∧ decode cX11_room 52 = .ok (.isub, 1) ∧ decode cX11_room 53 = .ok (.aload_n 2, 1) ∧ decode cX11_room 54 = .ok (.invokevirtual 141, 3) ∧ decode cX11_room 57 = .ok (.isub, 1) := by decide +kernel
theorem eX11_room_58 : decode cX11_room 58 = .ok (.ireturn, 1) ∧ decode cX11_room 59 = .ok (.aload_n 2, 1) ∧ decode cX11_room 60 = .ok (.getfield 129, 3) ∧ decode cX11_room 63 = .ok (.aload_n 2, 1) ∧ decode cX11_room 64 = .ok (.invokevirtual 138, 3) ∧ decode cX11_room 67 = .ok (.isub, 1) ∧ decode cX11_room 68 = .ok (.ireturn, 1) ∧ decode cX11_room 69 = .ok (.aload_n 2, 1) := by decide +kernel
theorem eX11_room_70 : decode cX11_room 70 = .ok (.getfield 129, 3) ∧ decode cX11_room 73 = .ok (.aload_n 2, 1) ∧ decode cX11_room 74 = .ok (.invokevirtual 252, 3) ∧ decode cX11_room 77 = .ok (.isub, 1) ∧ decode cX11_room 78 = .ok (.ireturn, 1) ∧ decode cX11_room 79 = .ok (.iconst (-1), 1) ∧ decode cX11_room 80 = .ok (.ireturn, 1) ∧ decode cX11_see 0 = .ok (.aload_n 0, 1) := by decide +kernel
theorem eX11_see_1 : decode cX11_see 1 = .ok (.getfield 35, 3) ∧ decode cX11_see 4 = .ok (.aload_n 0, 1) ∧ decode cX11_see 5 = .ok (.getfield 12, 3) ∧ decode cX11_see 8 = .ok (.invokevirtual 258, 3) ∧ decode cX11_see 11 = .ok (.istore_n 1, 1) ∧ decode cX11_see 12 = .ok (.aload_n 0, 1) ∧ decode cX11_see 13 = .ok (.getfield 12, 3) ∧ decode cX11_see 16 = .ok (.iconst 0, 1) := by decide +kernel
theorem eX11_see_17 : decode cX11_see 17 = .ok (.putfield 95, 3) ∧ decode cX11_see 20 = .ok (.iload_n 1, 1) ∧ decode cX11_see 21 = .ok (.ifCond .eq 13, 3) ∧ decode cX11_see 24 = .ok (.aload_n 0, 1) ∧ decode cX11_see 25 = .ok (.getfield 35, 3) ∧ decode cX11_see 28 = .ok (.getfield 109, 3) ∧ decode cX11_see 31 = .ok (.goto 8, 3) ∧ decode cX11_see 34 = .ok (.aload_n 0, 1) := by decide +kernel
theorem eX11_see_35 : decode cX11_see 35 = .ok (.iconst 1, 1) ∧ decode cX11_see 36 = .ok (.invokevirtual 87, 3) ∧ decode cX11_see 39 = .ok (.ireturn, 1) ∧ decode cX11_tells 0 = .ok (.aload_n 0, 1) ∧ decode cX11_tells 1 = .ok (.getfield 35, 3) ∧ decode cX11_tells 4 = .ok (.aload_n 0, 1) ∧ decode cX11_tells 5 = .ok (.getfield 79, 3) ∧ decode cX11_tells 8 = .ok (.getfield 125, 3) := by decide +kernel
theorem eX11_tells_11 : decode cX11_tells 11 = .ok (.invokevirtual 262, 3) ∧ decode cX11_tells 14 = .ok (.ifCond .ne 5, 3) ∧ decode cX11_tells 17 = .ok (.iconst (-1), 1) ∧ decode cX11_tells 18 = .ok (.ireturn, 1) ∧ decode cX11_tells 19 = .ok (.iconst 0, 1) ∧ decode cX11_tells 20 = .ok (.istore_n 2, 1) ∧ decode cX11_tells 21 = .ok (.bipush 9, 2) ∧ decode cX11_tells 23 = .ok (.istore_n 3, 1) := by decide +kernel
theorem eX11_tells_24 : decode cX11_tells 24 = .ok (.iconst 0, 1) ∧ decode cX11_tells 25 = .ok (.istore 4, 2) ∧ decode cX11_tells 27 = .ok (.iload 4, 2) ∧ decode cX11_tells 29 = .ok (.bipush 100, 2) ∧ decode cX11_tells 31 = .ok (.if_icmp .ge 39, 3) ∧ decode cX11_tells 34 = .ok (.aload_n 0, 1) ∧ decode cX11_tells 35 = .ok (.getfield 35, 3) ∧ decode cX11_tells 38 = .ok (.aload_n 0, 1) := by decide +kernel
theorem eX11_tells_39 : decode cX11_tells 39 = .ok (.getfield 79, 3) ∧ decode cX11_tells 42 = .ok (.getfield 125, 3) ∧ decode cX11_tells 45 = .ok (.iload 4, 2) ∧ decode cX11_tells 47 = .ok (.invokevirtual 269, 3) ∧ decode cX11_tells 50 = .ok (.istore 5, 2) ∧ decode cX11_tells 52 = .ok (.iload 5, 2) ∧ decode cX11_tells 54 = .ok (.iload_n 3, 1) ∧ decode cX11_tells 55 = .ok (.if_icmp .ge 9, 3) := by decide +kernel
theorem eX11_tells_58 : decode cX11_tells 58 = .ok (.iload 5, 2) ∧ decode cX11_tells 60 = .ok (.istore_n 3, 1) ∧ decode cX11_tells 61 = .ok (.iload 4, 2) ∧ decode cX11_tells 63 = .ok (.istore_n 2, 1) ∧ decode cX11_tells 64 = .ok (.iinc 4 1, 3) ∧ decode cX11_tells 67 = .ok (.goto (-40), 3) ∧ decode cX11_tells 70 = .ok (.iload_n 1, 1) ∧ decode cX11_tells 71 = .ok (.iload_n 2, 1) := by decide +kernel
theorem eX11_tells_72 : decode cX11_tells 72 = .ok (.iload_n 3, 1) ∧ decode cX11_tells 73 = .ok (.invokestatic 249, 3) ∧ decode cX11_tells 76 = .ok (.ireturn, 1) ∧ decode cX11_victim 0 = .ok (.aload_n 0, 1) ∧ decode cX11_victim 1 = .ok (.getfield 79, 3) ∧ decode cX11_victim 4 = .ok (.getfield 125, 3) ∧ decode cX11_victim 7 = .ok (.astore_n 2, 1) ∧ decode cX11_victim 8 = .ok (.iconst (-1), 1) := by decide +kernel
theorem eX11_victim_9 : decode cX11_victim 9 = .ok (.istore_n 3, 1) ∧ decode cX11_victim 10 = .ok (.iconst (-1), 1) ∧ decode cX11_victim 11 = .ok (.istore 4, 2) ∧ decode cX11_victim 13 = .ok (.iconst 0, 1) ∧ decode cX11_victim 14 = .ok (.istore 5, 2) ∧ decode cX11_victim 16 = .ok (.iload 5, 2) ∧ decode cX11_victim 18 = .ok (.bipush 8, 2) ∧ decode cX11_victim 20 = .ok (.if_icmp .ge 52, 3) := by decide +kernel
theorem eX11_victim_23 : decode cX11_victim 23 = .ok (.aload_n 2, 1) ∧ decode cX11_victim 24 = .ok (.iload 5, 2) ∧ decode cX11_victim 26 = .ok (.invokevirtual 161, 3) ∧ decode cX11_victim 29 = .ok (.ifCond .eq 20, 3) ∧ decode cX11_victim 32 = .ok (.aload_n 0, 1) ∧ decode cX11_victim 33 = .ok (.getfield 79, 3) ∧ decode cX11_victim 36 = .ok (.aload_n 2, 1) ∧ decode cX11_victim 37 = .ok (.getfield 165, 3) := by decide +kernel
theorem eX11_victim_40 : decode cX11_victim 40 = .ok (.iload 5, 2) ∧ decode cX11_victim 42 = .ok (.iaload, 1) ∧ decode cX11_victim 43 = .ok (.invokevirtual 185, 3) ∧ decode cX11_victim 46 = .ok (.goto 4, 3) ∧ decode cX11_victim 49 = .ok (.iconst (-1), 1) ∧ decode cX11_victim 50 = .ok (.istore 6, 2) ∧ decode cX11_victim 52 = .ok (.iload 6, 2) ∧ decode cX11_victim 54 = .ok (.iload 4, 2) := by decide +kernel
theorem eX11_victim_56 : decode cX11_victim 56 = .ok (.if_icmp .le 10, 3) ∧ decode cX11_victim 59 = .ok (.iload 6, 2) ∧ decode cX11_victim 61 = .ok (.istore 4, 2) ∧ decode cX11_victim 63 = .ok (.iload 5, 2) ∧ decode cX11_victim 65 = .ok (.istore_n 3, 1) ∧ decode cX11_victim 66 = .ok (.iinc 5 1, 3) ∧ decode cX11_victim 69 = .ok (.goto (-53), 3) ∧ decode cX11_victim 72 = .ok (.iload_n 1, 1) := by decide +kernel
theorem eX11_victim_73 : decode cX11_victim 73 = .ok (.iload_n 3, 1) ∧ decode cX11_victim 74 = .ok (.iload 4, 2) ∧ decode cX11_victim 76 = .ok (.invokestatic 249, 3) ∧ decode cX11_victim 79 = .ok (.ireturn, 1) ∧ decode cX7_agrees 0 = .ok (.iconst 0, 1) ∧ decode cX7_agrees 1 = .ok (.istore_n 3, 1) ∧ decode cX7_agrees 2 = .ok (.iload_n 3, 1) ∧ decode cX7_agrees 3 = .ok (.aload_n 0, 1) := by decide +kernel
theorem eX7_agrees_4 : decode cX7_agrees 4 = .ok (.getfield 34, 3) ∧ decode cX7_agrees 7 = .ok (.if_icmp .ge 31, 3) ∧ decode cX7_agrees 10 = .ok (.aload_n 1, 1) ∧ decode cX7_agrees 11 = .ok (.iload_n 2, 1) ∧ decode cX7_agrees 12 = .ok (.aload_n 0, 1) ∧ decode cX7_agrees 13 = .ok (.getfield 9, 3) ∧ decode cX7_agrees 16 = .ok (.iload_n 3, 1) ∧ decode cX7_agrees 17 = .ok (.iaload, 1) := by decide +kernel
theorem eX7_agrees_18 : decode cX7_agrees 18 = .ok (.invokestatic 50, 3) ∧ decode cX7_agrees 21 = .ok (.aload_n 0, 1) ∧ decode cX7_agrees 22 = .ok (.getfield 15, 3) ∧ decode cX7_agrees 25 = .ok (.iload_n 3, 1) ∧ decode cX7_agrees 26 = .ok (.iaload, 1) ∧ decode cX7_agrees 27 = .ok (.if_icmp .eq 5, 3) ∧ decode cX7_agrees 30 = .ok (.iconst 0, 1) ∧ decode cX7_agrees 31 = .ok (.ireturn, 1) := by decide +kernel
theorem eX7_agrees_32 : decode cX7_agrees 32 = .ok (.iinc 3 1, 3) ∧ decode cX7_agrees 35 = .ok (.goto (-33), 3) ∧ decode cX7_agrees 38 = .ok (.iconst 1, 1) ∧ decode cX7_agrees 39 = .ok (.ireturn, 1) ∧ decode cX7_findFits 0 = .ok (.aload_n 0, 1) ∧ decode cX7_findFits 1 = .ok (.iconst 0, 1) ∧ decode cX7_findFits 2 = .ok (.putfield 37, 3) ∧ decode cX7_findFits 5 = .ok (.iconst 0, 1) := by decide +kernel
theorem eX7_findFits_6 : decode cX7_findFits 6 = .ok (.istore_n 2, 1) ∧ decode cX7_findFits 7 = .ok (.iload_n 2, 1) ∧ decode cX7_findFits 8 = .ok (.bipush 8, 2) ∧ decode cX7_findFits 10 = .ok (.if_icmp .ge 46, 3) ∧ decode cX7_findFits 13 = .ok (.aload_n 1, 1) ∧ decode cX7_findFits 14 = .ok (.iload_n 2, 1) ∧ decode cX7_findFits 15 = .ok (.invokevirtual 40, 3) ∧ decode cX7_findFits 18 = .ok (.ifCond .eq 32, 3) := by decide +kernel
theorem eX7_findFits_21 : decode cX7_findFits 21 = .ok (.aload_n 0, 1) ∧ decode cX7_findFits 22 = .ok (.aload_n 1, 1) ∧ decode cX7_findFits 23 = .ok (.iload_n 2, 1) ∧ decode cX7_findFits 24 = .ok (.invokevirtual 46, 3) ∧ decode cX7_findFits 27 = .ok (.ifCond .eq 23, 3) ∧ decode cX7_findFits 30 = .ok (.aload_n 0, 1) ∧ decode cX7_findFits 31 = .ok (.getfield 18, 3) ∧ decode cX7_findFits 34 = .ok (.aload_n 0, 1) := by decide +kernel
theorem eX7_findFits_35 : decode cX7_findFits 35 = .ok (.getfield 37, 3) ∧ decode cX7_findFits 38 = .ok (.iload_n 2, 1) ∧ decode cX7_findFits 39 = .ok (.iastore, 1) ∧ decode cX7_findFits 40 = .ok (.aload_n 0, 1) ∧ decode cX7_findFits 41 = .ok (.dup, 1) ∧ decode cX7_findFits 42 = .ok (.getfield 37, 3) ∧ decode cX7_findFits 45 = .ok (.iconst 1, 1) ∧ decode cX7_findFits 46 = .ok (.iadd, 1) := by decide +kernel
theorem eX7_findFits_47 : decode cX7_findFits 47 = .ok (.putfield 37, 3) ∧ decode cX7_findFits 50 = .ok (.iinc 2 1, 3) ∧ decode cX7_findFits 53 = .ok (.goto (-46), 3) ∧ decode cX7_findFits 56 = .ok (.aload_n 0, 1) ∧ decode cX7_findFits 57 = .ok (.getfield 37, 3) ∧ decode cX7_findFits 60 = .ok (.ireturn, 1) ∧ decode cX7_mostLeft 0 = .ok (.iconst 0, 1) ∧ decode cX7_mostLeft 1 = .ok (.istore_n 3, 1) := by decide +kernel
theorem eX7_mostLeft_2 : decode cX7_mostLeft 2 = .ok (.iconst 0, 1) ∧ decode cX7_mostLeft 3 = .ok (.istore 4, 2) ∧ decode cX7_mostLeft 5 = .ok (.iload 4, 2) ∧ decode cX7_mostLeft 7 = .ok (.aload_n 0, 1) ∧ decode cX7_mostLeft 8 = .ok (.getfield 37, 3) ∧ decode cX7_mostLeft 11 = .ok (.if_icmp .ge 81, 3) ∧ decode cX7_mostLeft 14 = .ok (.aload_n 0, 1) ∧ decode cX7_mostLeft 15 = .ok (.getfield 21, 3) := by decide +kernel
theorem eX7_mostLeft_18 : decode cX7_mostLeft 18 = .ok (.iload 4, 2) ∧ decode cX7_mostLeft 20 = .ok (.aload_n 1, 1) ∧ decode cX7_mostLeft 21 = .ok (.aload_n 0, 1) ∧ decode cX7_mostLeft 22 = .ok (.getfield 18, 3) ∧ decode cX7_mostLeft 25 = .ok (.iload 4, 2) ∧ decode cX7_mostLeft 27 = .ok (.iaload, 1) ∧ decode cX7_mostLeft 28 = .ok (.iload_n 2, 1) ∧ decode cX7_mostLeft 29 = .ok (.invokestatic 50, 3) := by decide +kernel
theorem eX7_mostLeft_32 : decode cX7_mostLeft 32 = .ok (.iastore, 1) ∧ decode cX7_mostLeft 33 = .ok (.iconst 0, 1) ∧ decode cX7_mostLeft 34 = .ok (.istore 5, 2) ∧ decode cX7_mostLeft 36 = .ok (.iconst 0, 1) ∧ decode cX7_mostLeft 37 = .ok (.istore 6, 2) ∧ decode cX7_mostLeft 39 = .ok (.iload 6, 2) ∧ decode cX7_mostLeft 41 = .ok (.iload 4, 2) ∧ decode cX7_mostLeft 43 = .ok (.if_icmp .gt 36, 3) := by decide +kernel
theorem eX7_mostLeft_46 : decode cX7_mostLeft 46 = .ok (.iload 5, 2) ∧ decode cX7_mostLeft 48 = .ok (.aload_n 0, 1) ∧ decode cX7_mostLeft 49 = .ok (.getfield 21, 3) ∧ decode cX7_mostLeft 52 = .ok (.iload 6, 2) ∧ decode cX7_mostLeft 54 = .ok (.iaload, 1) ∧ decode cX7_mostLeft 55 = .ok (.aload_n 0, 1) ∧ decode cX7_mostLeft 56 = .ok (.getfield 21, 3) ∧ decode cX7_mostLeft 59 = .ok (.iload 4, 2) := by decide +kernel
theorem eX7_mostLeft_61 : decode cX7_mostLeft 61 = .ok (.iaload, 1) ∧ decode cX7_mostLeft 62 = .ok (.if_icmp .ne 7, 3) ∧ decode cX7_mostLeft 65 = .ok (.iconst 1, 1) ∧ decode cX7_mostLeft 66 = .ok (.goto 4, 3) ∧ decode cX7_mostLeft 69 = .ok (.iconst 0, 1) ∧ decode cX7_mostLeft 70 = .ok (.iadd, 1) ∧ decode cX7_mostLeft 71 = .ok (.istore 5, 2) ∧ decode cX7_mostLeft 73 = .ok (.iinc 6 1, 3) := by decide +kernel
theorem eX7_mostLeft_76 : decode cX7_mostLeft 76 = .ok (.goto (-37), 3) ∧ decode cX7_mostLeft 79 = .ok (.iload_n 3, 1) ∧ decode cX7_mostLeft 80 = .ok (.iload 5, 2) ∧ decode cX7_mostLeft 82 = .ok (.invokestatic 54, 3) ∧ decode cX7_mostLeft 85 = .ok (.istore_n 3, 1) ∧ decode cX7_mostLeft 86 = .ok (.iinc 4 1, 3) ∧ decode cX7_mostLeft 89 = .ok (.goto (-84), 3) ∧ decode cX7_mostLeft 92 = .ok (.iload_n 3, 1) := by decide +kernel
theorem eX7_mostLeft_93 : decode cX7_mostLeft 93 = .ok (.ireturn, 1) ∧ decode cX7_reading 0 = .ok (.aload_n 0, 1) ∧ decode cX7_reading 1 = .ok (.aload_n 0, 1) ∧ decode cX7_reading 2 = .ok (.getfield 60, 3) ∧ decode cX7_reading 5 = .ok (.iload_n 1, 1) ∧ decode cX7_reading 6 = .ok (.iaload, 1) ∧ decode cX7_reading 7 = .ok (.iload_n 2, 1) ∧ decode cX7_reading 8 = .ok (.invokevirtual 63, 3) := by decide +kernel
theorem eX7_reading_11 : decode cX7_reading 11 = .ok (.istore_n 3, 1) ∧ decode cX7_reading 12 = .ok (.iload_n 3, 1) ∧ decode cX7_reading 13 = .ok (.iconst (-1), 1) ∧ decode cX7_reading 14 = .ok (.if_icmp .ne 9, 3) ∧ decode cX7_reading 17 = .ok (.sipush 1000, 3) ∧ decode cX7_reading 20 = .ok (.goto 4, 3) ∧ decode cX7_reading 23 = .ok (.iload_n 3, 1) ∧ decode cX7_reading 24 = .ok (.ireturn, 1) := by decide +kernel
theorem eX7_take_0 : decode cX7_take 0 = .ok (.aload_n 1, 1) ∧ decode cX7_take 1 = .ok (.getfield 24, 3) ∧ decode cX7_take 4 = .ok (.iconst 4, 1) ∧ decode cX7_take 5 = .ok (.idiv, 1) ∧ decode cX7_take 6 = .ok (.istore_n 2, 1) ∧ decode cX7_take 7 = .ok (.aload_n 1, 1) ∧ decode cX7_take 8 = .ok (.getfield 24, 3) ∧ decode cX7_take 11 = .ok (.iconst 4, 1) := by decide +kernel
theorem eX7_take_12 : decode cX7_take 12 = .ok (.irem, 1) ∧ decode cX7_take 13 = .ok (.ifCond .ne 14, 3) ∧ decode cX7_take 16 = .ok (.iload_n 2, 1) ∧ decode cX7_take 17 = .ok (.iconst 1, 1) ∧ decode cX7_take 18 = .ok (.if_icmp .lt 9, 3) ∧ decode cX7_take 21 = .ok (.iload_n 2, 1) ∧ decode cX7_take 22 = .ok (.bipush 12, 2) ∧ decode cX7_take 24 = .ok (.if_icmp .le 5, 3) := by decide +kernel
theorem eX7_take_27 : decode cX7_take 27 = .ok (.iconst 0, 1) ∧ decode cX7_take 28 = .ok (.ireturn, 1) ∧ decode cX7_take 29 = .ok (.iconst 0, 1) ∧ decode cX7_take 30 = .ok (.istore_n 3, 1) ∧ decode cX7_take 31 = .ok (.iload_n 3, 1) ∧ decode cX7_take 32 = .ok (.iload_n 2, 1) ∧ decode cX7_take 33 = .ok (.if_icmp .ge 39, 3) ∧ decode cX7_take 36 = .ok (.aload_n 1, 1) := by decide +kernel
theorem eX7_take_37 : decode cX7_take 37 = .ok (.iload_n 3, 1) ∧ decode cX7_take 38 = .ok (.iconst 4, 1) ∧ decode cX7_take 39 = .ok (.imul, 1) ∧ decode cX7_take 40 = .ok (.invokevirtual 30, 3) ∧ decode cX7_take 43 = .ok (.sipush 999, 3) ∧ decode cX7_take 46 = .ok (.if_icmp .gt 18, 3) ∧ decode cX7_take 49 = .ok (.aload_n 1, 1) ∧ decode cX7_take 50 = .ok (.iload_n 3, 1) := by decide +kernel
theorem eX7_take_51 : decode cX7_take 51 = .ok (.iconst 4, 1) ∧ decode cX7_take 52 = .ok (.imul, 1) ∧ decode cX7_take 53 = .ok (.iconst 2, 1) ∧ decode cX7_take 54 = .ok (.iadd, 1) ∧ decode cX7_take 55 = .ok (.invokevirtual 30, 3) ∧ decode cX7_take 58 = .ok (.sipush 1000, 3) ∧ decode cX7_take 61 = .ok (.if_icmp .le 5, 3) ∧ decode cX7_take 64 = .ok (.iconst 0, 1) := by decide +kernel
theorem eX7_take_65 : decode cX7_take 65 = .ok (.ireturn, 1) ∧ decode cX7_take 66 = .ok (.iinc 3 1, 3) ∧ decode cX7_take 69 = .ok (.goto (-38), 3) ∧ decode cX7_take 72 = .ok (.iconst 0, 1) ∧ decode cX7_take 73 = .ok (.istore_n 3, 1) ∧ decode cX7_take 74 = .ok (.iload_n 3, 1) ∧ decode cX7_take 75 = .ok (.iload_n 2, 1) ∧ decode cX7_take 76 = .ok (.if_icmp .ge 37, 3) := by decide +kernel
theorem eX7_take_79 : decode cX7_take 79 = .ok (.aload_n 0, 1) ∧ decode cX7_take 80 = .ok (.getfield 9, 3) ∧ decode cX7_take 83 = .ok (.iload_n 3, 1) ∧ decode cX7_take 84 = .ok (.aload_n 1, 1) ∧ decode cX7_take 85 = .ok (.iload_n 3, 1) ∧ decode cX7_take 86 = .ok (.iconst 4, 1) ∧ decode cX7_take 87 = .ok (.imul, 1) ∧ decode cX7_take 88 = .ok (.invokevirtual 30, 3) := by decide +kernel
theorem eX7_take_91 : decode cX7_take 91 = .ok (.iastore, 1) ∧ decode cX7_take 92 = .ok (.aload_n 0, 1) ∧ decode cX7_take 93 = .ok (.getfield 15, 3) ∧ decode cX7_take 96 = .ok (.iload_n 3, 1) ∧ decode cX7_take 97 = .ok (.aload_n 1, 1) ∧ decode cX7_take 98 = .ok (.iload_n 3, 1) ∧ decode cX7_take 99 = .ok (.iconst 4, 1) ∧ decode cX7_take 100 = .ok (.imul, 1) := by decide +kernel
theorem eX7_take_101 : decode cX7_take 101 = .ok (.iconst 2, 1) ∧ decode cX7_take 102 = .ok (.iadd, 1) ∧ decode cX7_take 103 = .ok (.invokevirtual 30, 3) ∧ decode cX7_take 106 = .ok (.iastore, 1) ∧ decode cX7_take 107 = .ok (.iinc 3 1, 3) ∧ decode cX7_take 110 = .ok (.goto (-36), 3) ∧ decode cX7_take 113 = .ok (.aload_n 0, 1) ∧ decode cX7_take 114 = .ok (.iload_n 2, 1) := by decide +kernel
theorem eX7_take_115 : decode cX7_take 115 = .ok (.putfield 34, 3) ∧ decode cX7_take 118 = .ok (.iconst 1, 1) ∧ decode cX7_take 119 = .ok (.ireturn, 1) ∧ decode cX8_keptBlocks 0 = .ok (.iconst 0, 1) ∧ decode cX8_keptBlocks 1 = .ok (.istore_n 1, 1) ∧ decode cX8_keptBlocks 2 = .ok (.iconst 0, 1) ∧ decode cX8_keptBlocks 3 = .ok (.istore_n 2, 1) ∧ decode cX8_keptBlocks 4 = .ok (.iload_n 2, 1) := by decide +kernel
theorem eX8_keptBlocks_5 : decode cX8_keptBlocks 5 = .ok (.aload_n 0, 1) ∧ decode cX8_keptBlocks 6 = .ok (.getfield 40, 3) ∧ decode cX8_keptBlocks 9 = .ok (.if_icmp .ge 26, 3) ∧ decode cX8_keptBlocks 12 = .ok (.iload_n 1, 1) ∧ decode cX8_keptBlocks 13 = .ok (.aload_n 0, 1) ∧ decode cX8_keptBlocks 14 = .ok (.getfield 15, 3) ∧ decode cX8_keptBlocks 17 = .ok (.iload_n 2, 1) ∧ decode cX8_keptBlocks 18 = .ok (.iaload, 1) := by decide +kernel
theorem eX8_keptBlocks_19 : decode cX8_keptBlocks 19 = .ok (.ifCond .le 7, 3) ∧ decode cX8_keptBlocks 22 = .ok (.iconst 1, 1) ∧ decode cX8_keptBlocks 23 = .ok (.goto 4, 3) ∧ decode cX8_keptBlocks 26 = .ok (.iconst 0, 1) ∧ decode cX8_keptBlocks 27 = .ok (.iadd, 1) ∧ decode cX8_keptBlocks 28 = .ok (.istore_n 1, 1) ∧ decode cX8_keptBlocks 29 = .ok (.iinc 2 1, 3) ∧ decode cX8_keptBlocks 32 = .ok (.goto (-28), 3) := by decide +kernel
theorem eX8_keptBlocks_35 : decode cX8_keptBlocks 35 = .ok (.iload_n 1, 1) ∧ decode cX8_keptBlocks 36 = .ok (.ireturn, 1) ∧ decode cX9_pair 0 = .ok (.aload_n 0, 1) ∧ decode cX9_pair 1 = .ok (.iload_n 1, 1) ∧ decode cX9_pair 2 = .ok (.invokevirtual 19, 3) ∧ decode cX9_pair 5 = .ok (.sipush 256, 3) ∧ decode cX9_pair 8 = .ok (.imul, 1) ∧ decode cX9_pair 9 = .ok (.aload_n 0, 1) := by decide +kernel
theorem eX9_pair_10 : decode cX9_pair 10 = .ok (.iload_n 1, 1) ∧ decode cX9_pair 11 = .ok (.iconst 1, 1) ∧ decode cX9_pair 12 = .ok (.iadd, 1) ∧ decode cX9_pair 13 = .ok (.invokevirtual 19, 3) ∧ decode cX9_pair 16 = .ok (.iadd, 1) ∧ decode cX9_pair 17 = .ok (.ireturn, 1) := by decide +kernel
set_option maxHeartbeats 4000000 in
set_option maxRecDepth 100000 in
theorem k_x11_victim (l : Launch) (D : va_G) (a : Nat → Nat) (p0 : Int) (sz : Nat) (s : MS) (o : (Int × MS)) (h : m_x11_victim p0 s = some o) : yWi l yX11_victim cX11_victim 7 (some .int) { frames := 3, cells := 0, slots := 0, locals := 180 } D sz [.ref (a 0), .int (i2 p0)] (CS D a s) (CS D a o.2) (i2 o.1) := by
  refine Met.ofW (cc := cX11_victim) (maxL := 7) (ret := (some .int)) (by decide) rfl ?_
  intro p e s₀ m args below meth c s₁ B hml hv
  obtain ⟨rfl, ⟨hsz, hP, hK, hD0⟩, hN⟩ := hv
  have hx := B.exec
  have hb := B.bytes
  have hr := B.returns
  have hts := atoms_spec (ws := wz yX11_victim cX11_victim 7 (some .int)) B.pre
  have ht : ∀ w ∈ lw_gd, w.before _ s₀ = true := fun w h => hts w (List.mem_cons_of_mem _ h)
  have hown : s₀.vm.findClass RX11 = some m.cls := findClass_of_methodNamed B.named
  have hlocks := B.notSynchronized
  subst hsz
  have hD := hD0.self (sz := s₀.heap.size)
  generalize hAe : va_A (CS D a s) s₀.heap.size = A at hD ⊢
  have hA : ∀ q : Nat, s₀.heap.size ≤ q → A q := fun q h => by rw [← hAe]; exact Or.inr h
  have hS : va_S A s₀.heap s₀.heap [] := va_S.rf
  have hDD : ∀ t : MS, va_D A (CS D a t) := fun t => CW_D t hD
  have hl := lv_entry ([.ref (a 0), .int (i2 p0)]) (n := 7) (Nat.le_of_ble_eq_true rfl)
  rw [lg_entry_eq]
  generalize (lg_sl ([.ref (a 0), .int (i2 p0)]) ++ List.replicate (7 - (lg_sl ([.ref (a 0), .int (i2 p0)])).length) Slot.unset).toArray = ls at hl ⊢
  have hl : lv_has ls 7 [(0, .ref (a 0)), (1, .int (i2 p0))] := hl
  unfold m_x11_victim at h
  refine y_loop (pcJ := 16) (σ := Int × Int × Int × Int × MS) (fun n u H locs ls => va_P D vwCl (CS D a u.2.2.2.2) H ∧ va_S A s₀.heap H locs ∧ lv_has ls 7 [(0, .ref (a 0)), (1, .int (i2 u.1)), (2, .ref (a 53)), (3, .int (i2 u.2.1)), (4, .int (i2 u.2.2.1)), (5, .int (i2 u.2.2.2.1))] ∧ m_x11_victim_L16 n u.1 u.2.1 u.2.2.1 u.2.2.2.1 u.2.2.2.2 = some o) (fun u => []) (fun u H locs ls hI => by obtain ⟨_, _, _, h⟩ := hI; cases h) (fun n16 ih16 u H locs ls hI => ?_) (fun J16 => ?_)
  · obtain ⟨hP, hS, hl, h⟩ := hI
    obtain ⟨x1, x2, x3, x4, s5⟩ := u
    have hP : va_P D vwCl (CS D a s5) H := hP
    have hl : lv_has ls 7 [(0, .ref (a 0)), (1, .int (i2 x1)), (2, .ref (a 53)), (3, .int (i2 x2)), (4, .int (i2 x3)), (5, .int (i2 x4))] := hl
    have h : m_x11_victim_b16 (m_x11_victim_L16 n16) x1 x2 x3 x4 s5 = some o := h
    unfold m_x11_victim_b16 at h
    refine y_head (pcJ := 66) (σ := Int × Int × Int × Int × MS) (fun u H locs ls => va_P D vwCl (CS D a u.2.2.2.2) H ∧ va_S A s₀.heap H locs ∧ lv_has ls 7 [(0, .ref (a 0)), (1, .int (i2 u.1)), (2, .ref (a 53)), (3, .int (i2 u.2.1)), (4, .int (i2 u.2.2.1)), (5, .int (i2 u.2.2.2.1))] ∧ m_x11_victim_J66 (m_x11_victim_L16 n16) u.1 u.2.1 u.2.2.1 u.2.2.2.1 u.2.2.2.2 = some o) (fun u => []) (fun u H locs ls hI => ?_) (fun J66 => ?_)
    · obtain ⟨hP, hS, hl, h⟩ := hI
      obtain ⟨x6, x7, x8, x9, s10⟩ := u
      have hP : va_P D vwCl (CS D a s10) H := hP
      have hl : lv_has ls 7 [(0, .ref (a 0)), (1, .int (i2 x6)), (2, .ref (a 53)), (3, .int (i2 x7)), (4, .int (i2 x8)), (5, .int (i2 x9))] := hl
      have h : m_x11_victim_J66 (m_x11_victim_L16 n16) x6 x7 x8 x9 s10 = some o := h
      unfold m_x11_victim_J66 at h
      refine lv_iinc (v := i2 (x9 + 1)) (lv' := [(5, .int (i2 (x9 + 1))), (0, .ref (a 0)), (1, .int (i2 x6)), (2, .ref (a 53)), (3, .int (i2 x7)), (4, .int (i2 x8))]) hx hb eX11_victim_56.2.2.2.2.2.1 hl (k := 5) rfl (i2_add x9 1) (by decide) rfl (fun ls hl => ?_)
      refine lv_goto (tgt := 16) hx hb eX11_victim_56.2.2.2.2.2.2.1 (by decide) ?_
      exact ih16 (x6, x7, x8, x9 + 1, s10) _ _ _ ⟨hP, hS, lv_sub hl [1, 2, 3, 4, 5, 0] rfl, h⟩
    refine y_head (pcJ := 50) (σ := Int × Int × Int × Int × Int × MS) (fun u H locs ls => va_P D vwCl (CS D a u.2.2.2.2.2) H ∧ va_S A s₀.heap H locs ∧ lv_has ls 7 [(0, .ref (a 0)), (1, .int (i2 u.1)), (2, .ref (a 53)), (3, .int (i2 u.2.1)), (4, .int (i2 u.2.2.1)), (5, .int (i2 u.2.2.2.1))] ∧ m_x11_victim_J50 (m_x11_victim_L16 n16) u.1 u.2.1 u.2.2.1 u.2.2.2.1 u.2.2.2.2.1 u.2.2.2.2.2 = some o) (fun u => [.int (i2 u.2.2.2.2.1)]) (fun u H locs ls hI => ?_) (fun J50 => ?_)
    · obtain ⟨hP, hS, hl, h⟩ := hI
      obtain ⟨x11, x12, x13, x14, x15, s16⟩ := u
      have hP : va_P D vwCl (CS D a s16) H := hP
      have hl : lv_has ls 7 [(0, .ref (a 0)), (1, .int (i2 x11)), (2, .ref (a 53)), (3, .int (i2 x12)), (4, .int (i2 x13)), (5, .int (i2 x14))] := hl
      have h : m_x11_victim_J50 (m_x11_victim_L16 n16) x11 x12 x13 x14 x15 s16 = some o := h
      unfold m_x11_victim_J50 at h
      refine lv_istore (lv' := [(6, .int (i2 x15)), (0, .ref (a 0)), (1, .int (i2 x11)), (2, .ref (a 53)), (3, .int (i2 x12)), (4, .int (i2 x13)), (5, .int (i2 x14))]) hx hb eX11_victim_40.2.2.2.2.2.1 hl (by decide) rfl (fun ls hl => ?_)
      refine lv_iload hx hb eX11_victim_40.2.2.2.2.2.2.1 (lv_at hl 0 rfl) ?_
      refine lv_iload hx hb eX11_victim_40.2.2.2.2.2.2.2 (lv_at hl 5 rfl) ?_
      obtain ⟨hr17, h⟩ := rg_e h
      obtain ⟨hr18, h⟩ := rg_e h
      refine lv_icmp_le (tgt := 66) hx hb eX11_victim_56.1 (by decide) (fun c19 => ?_) (fun c19 => ?_)
      · have h := if_t ((i2_le (x := x15) (y := x13) hr17 hr18).mp c19) h
        exact J66 (x11, x12, x13, x14, s16) _ _ _ ⟨hP, hS, lv_sub hl [1, 2, 3, 4, 5, 6] rfl, h⟩
      · have h := if_f (mt (i2_le (x := x15) (y := x13) hr17 hr18).mpr c19) h
        refine lv_iload hx hb eX11_victim_56.2.1 (lv_at hl 0 rfl) ?_
        refine lv_istore (lv' := [(4, .int (i2 x15)), (6, .int (i2 x15)), (0, .ref (a 0)), (1, .int (i2 x11)), (2, .ref (a 53)), (3, .int (i2 x12)), (5, .int (i2 x14))]) hx hb eX11_victim_56.2.2.1 hl (by decide) rfl (fun ls hl => ?_)
        refine lv_iload hx hb eX11_victim_56.2.2.2.1 (lv_at hl 6 rfl) ?_
        refine lv_istore_n (lv' := [(3, .int (i2 x14)), (4, .int (i2 x15)), (6, .int (i2 x15)), (0, .ref (a 0)), (1, .int (i2 x11)), (2, .ref (a 53)), (5, .int (i2 x14))]) hx hb eX11_victim_56.2.2.2.2.1 rfl hl (by decide) rfl (fun ls hl => ?_)
        exact J66 (x11, x14, x15, x14, s16) _ _ _ ⟨hP, hS, lv_sub hl [3, 4, 5, 0, 1, 6] rfl, h⟩
    refine lv_iload hx hb eX11_victim_9.2.2.2.2.2.1 (lv_at hl 5 rfl) ?_
    refine lv_bipush (v := 8) hx hb eX11_victim_9.2.2.2.2.2.2.1 (by decide) ?_
    obtain ⟨hr20, h⟩ := rg_e h
    refine lv_icmp_ge (tgt := 72) hx hb eX11_victim_9.2.2.2.2.2.2.2 (by decide) (fun c21 => ?_) (fun c21 => ?_)
    · have h := if_t ((i2_le (x := 8) (y := x4) (by decide) hr20).mp c21) h
      refine lv_iload_n hx hb eX11_victim_56.2.2.2.2.2.2.2 rfl (lv_at hl 1 rfl) ?_
      refine lv_iload_n hx hb eX11_victim_73.1 rfl (lv_at hl 3 rfl) ?_
      refine lv_iload hx hb eX11_victim_73.2.1 (lv_at hl 4 rfl) ?_
      obtain ⟨r23, hc22, h⟩ := bn_e h
      refine ycS (r0 := i2 r23) (As := [.int (i2 x1), .int (i2 x2), .int (i2 x3)]) (rest := []) (n := 3) ⟨hx, hb, hml, hown, ht⟩ (k_x11_oneOf l D a x1 x2 x3 _ _ hc22) (zgT ml_X11_249 st_X11_oneOf in_X11 co_X11_oneOf) rfl rfl (by decide +kernel) ⟨Nat.le_of_ble_eq_true rfl, Nat.le_of_ble_eq_true rfl⟩ hN hK hP hS rfl hl.1 rfl (Nat.le_of_ble_eq_true rfl) eX11_victim_73.2.2.1 ⟨Nat.le_of_ble_eq_true rfl, Nat.le_of_ble_eq_true rfl⟩ (fun H locs hP hS => ?_)
      obtain rfl := Option.some.inj h
      exact W.iret (v := (i2 r23)) hx hb hr (fun t ht hW => ⟨⟨_, (), rfl, rfl, by rw [ht]; exact hP, va_K.moved hW.alike hK, hDD _⟩, hS.F ht⟩) hS.2.2 eX11_victim_73.2.2.2.1
    · have h := if_f (mt (i2_le (x := 8) (y := x4) (by decide) hr20).mpr c21) h
      refine lv_aload_n hx hb eX11_victim_23.1 rfl (lv_at hl 2 rfl) ?_
      refine lv_iload hx hb eX11_victim_23.2.1 (lv_at hl 5 rfl) ?_
      obtain ⟨r25, hc24, h⟩ := bn_e h
      refine ycV (r0 := i2 r25) (As := [.int (i2 x4)]) (rest := []) (C := RX8) (n := 1) ⟨hx, hb, hml, hown, ht⟩ (k_x8_isVolume l D a x4 _ _ hc24) (zgV ml_X11_161 im_X8_isVolume se_X8_isVolume in_X8 co_X8_isVolume) rfl rfl (by decide +kernel) ⟨Nat.le_of_ble_eq_true rfl, Nat.le_of_ble_eq_true rfl⟩ hN hK hP hS 53 CW_53 rfl rfl rfl hl.1 rfl (Nat.le_of_ble_eq_true rfl) eX11_victim_23.2.2.1 ⟨Nat.le_of_ble_eq_true rfl, Nat.le_of_ble_eq_true rfl⟩ (fun H locs hP hS => ?_)
      obtain ⟨hr26, h⟩ := rg_e h
      refine lv_if_eq (tgt := 49) hx hb eX11_victim_23.2.2.2.1 (by decide) (fun c27 => ?_) (fun c27 => ?_)
      · have h := if_t ((i2_eq (x := r25) (y := 0) hr26 (by decide)).mp c27) h
        refine lv_iconst (v := (-1)) hx hb eX11_victim_40.2.2.2.2.1 (by decide) ?_
        exact J50 (x1, x2, x3, x4, (-1), s5) _ _ _ ⟨hP, hS, lv_sub hl [0, 1, 2, 3, 4, 5] rfl, h⟩
      · have h := if_f (mt (i2_eq (x := r25) (y := 0) hr26 (by decide)).mpr c27) h
        refine lv_aload_n hx hb eX11_victim_23.2.2.2.2.1 rfl (lv_at hl 0 rfl) ?_
        refine va_get (D := D) (ci := 11) (v := .ref (a 49)) (C := RX11) (T := TX11) (N := 13) hx hb ht inX11 hown hK hP 0 CW_0 rfl 11 (by decide) (ht (.fieldLink RX11 79 "CloneVolumes" "forest" "LCloneVolumes$Forest;") fl_X11_79) (fun _ h9 => h9) rfl eX11_victim_23.2.2.2.2.2.1 ?_
        refine lv_aload_n hx hb eX11_victim_23.2.2.2.2.2.2.1 rfl (lv_at hl 2 rfl) ?_
        refine va_get (D := D) (ci := 8) (v := .ref (a 60)) (C := RX8) (T := TX8) (N := 11) hx hb ht inX8 hown hK hP 53 CW_53 rfl 9 (by decide) (ht (.fieldLink RX11 165 "CloneVolumes$State" "roots" "[I") fl_X11_165) (fun _ h9 => h9) rfl eX11_victim_23.2.2.2.2.2.2.2 ?_
        refine lv_iload hx hb eX11_victim_40.1 (lv_at hl 5 rfl) ?_
        obtain ⟨y28, ey28, iy28, h⟩ := rdI_e h
        refine ya_iald (i := x4) hx hb hK hP 60 0 CW_60 rfl (by decide) ey28 iy28 eX11_victim_40.2.1 ?_
        obtain ⟨⟨r31, s30⟩, hc29, h⟩ := bn_e h
        refine ywV (r0 := i2 r31) (As := [.int (i2 y28)]) (rest := []) (C := RX1) (n := 1) (ws' := CS D a s30) ⟨hx, hb, hml, hown, ht⟩ (k_x1_freedWith l D a y28 _ _ _ hc29) (zgV ml_X11_185 im_X1_freedWith se_X1_freedWith in_X1 co_X1_freedWith) rfl rfl (by decide +kernel) ⟨Nat.le_of_ble_eq_true rfl, Nat.le_of_ble_eq_true rfl⟩ hN hK hP (hDD _) hS hA 49 CW_49 rfl rfl rfl hl.1 rfl (Nat.le_of_ble_eq_true rfl) eX11_victim_40.2.2.1 ⟨Nat.le_of_ble_eq_true rfl, Nat.le_of_ble_eq_true rfl⟩ (fun H locs hP hS => ?_)
        refine lv_goto (tgt := 50) hx hb eX11_victim_40.2.2.2.1 (by decide) ?_
        exact J50 (x1, x2, x3, x4, r31, s30) _ _ _ ⟨hP, hS, lv_sub hl [0, 1, 2, 3, 4, 5] rfl, h⟩
  refine lv_aload_n hx hb eX11_tells_72.2.2.2.1 rfl (lv_at hl 0 rfl) ?_
  refine va_get (D := D) (ci := 11) (v := .ref (a 49)) (C := RX11) (T := TX11) (N := 13) hx hb ht inX11 hown hK hP 0 CW_0 rfl 11 (by decide) (ht (.fieldLink RX11 79 "CloneVolumes" "forest" "LCloneVolumes$Forest;") fl_X11_79) (fun _ h9 => h9) rfl eX11_tells_72.2.2.2.2.1 ?_
  refine va_get (D := D) (ci := 1) (v := .ref (a 53)) (C := RX1) (T := TX1) (N := 9) hx hb ht inX1 hown hK hP 49 CW_49 rfl 0 (by decide) (ht (.fieldLink RX11 125 "CloneVolumes$Forest" "now" "LCloneVolumes$State;") fl_X11_125) (fun _ h9 => h9) rfl eX11_tells_72.2.2.2.2.2.1 ?_
  refine lv_astore_n (lv' := [(2, .ref (a 53)), (0, .ref (a 0)), (1, .int (i2 p0))]) hx hb eX11_tells_72.2.2.2.2.2.2.1 rfl hl (by decide) rfl (fun ls hl => ?_)
  refine lv_iconst (v := (-1)) hx hb eX11_tells_72.2.2.2.2.2.2.2 (by decide) ?_
  refine lv_istore_n (lv' := [(3, .int (-1)), (2, .ref (a 53)), (0, .ref (a 0)), (1, .int (i2 p0))]) hx hb eX11_victim_9.1 rfl hl (by decide) rfl (fun ls hl => ?_)
  refine lv_iconst (v := (-1)) hx hb eX11_victim_9.2.1 (by decide) ?_
  refine lv_istore (lv' := [(4, .int (-1)), (3, .int (-1)), (2, .ref (a 53)), (0, .ref (a 0)), (1, .int (i2 p0))]) hx hb eX11_victim_9.2.2.1 hl (by decide) rfl (fun ls hl => ?_)
  refine lv_iconst (v := 0) hx hb eX11_victim_9.2.2.2.1 (by decide) ?_
  refine lv_istore (lv' := [(5, .int 0), (4, .int (-1)), (3, .int (-1)), (2, .ref (a 53)), (0, .ref (a 0)), (1, .int (i2 p0))]) hx hb eX11_victim_9.2.2.2.2.1 hl (by decide) rfl (fun ls hl => ?_)
  exact J16 FU (p0, (-1), (-1), 0, s) _ _ _ ⟨hP, hS, lv_sub hl [4, 5, 3, 2, 1, 0] rfl, h⟩
set_option maxHeartbeats 4000000 in
set_option maxRecDepth 100000 in
theorem k_x8_keptBlocks (l : Launch) (D : va_G) (a : Nat → Nat) (s : MS) (o : Int) (h : m_x8_keptBlocks s = some o) : yRi l yX8_keptBlocks cX8_keptBlocks 3 (some .int) { frames := 0, cells := 0, slots := 0, locals := 0 } D [.ref (a 53)] (CS D a s) (i2 o) := by
  refine Met.ofW (cc := cX8_keptBlocks) (maxL := 3) (ret := (some .int)) (by decide) rfl ?_
  intro p e s₀ m args below meth c s₁ B hml hv
  obtain ⟨rfl, ⟨hP, hK⟩, hN⟩ := hv
  have hx := B.exec
  have hb := B.bytes
  have hr := B.returns
  have hts := atoms_spec (ws := wz yX8_keptBlocks cX8_keptBlocks 3 (some .int)) B.pre
  have ht : ∀ w ∈ lw_gd, w.before _ s₀ = true := fun w h => hts w (List.mem_cons_of_mem _ h)
  have hown : s₀.vm.findClass RX8 = some m.cls := findClass_of_methodNamed B.named
  have hlocks := B.notSynchronized
  have hS : va_S (fun _ => False) s₀.heap s₀.heap [] := va_S.rf
  have hl := lv_entry ([.ref (a 53)]) (n := 3) (Nat.le_of_ble_eq_true rfl)
  rw [lg_entry_eq]
  generalize (lg_sl ([.ref (a 53)]) ++ List.replicate (3 - (lg_sl ([.ref (a 53)])).length) Slot.unset).toArray = ls at hl ⊢
  have hl : lv_has ls 3 [(0, .ref (a 53))] := hl
  unfold m_x8_keptBlocks at h
  refine y_loop (pcJ := 4) (σ := Int × Int) (fun n u H locs ls => va_P D vwCl (CS D a s) H ∧ va_S (fun _ => False) s₀.heap H locs ∧ lv_has ls 3 [(0, .ref (a 53)), (1, .int (i2 u.1)), (2, .int (i2 u.2))] ∧ m_x8_keptBlocks_L4 s n u.1 u.2 = some o) (fun u => []) (fun u H locs ls hI => by obtain ⟨_, _, _, h⟩ := hI; cases h) (fun n4 ih4 u H locs ls hI => ?_) (fun J4 => ?_)
  · obtain ⟨hP, hS, hl, h⟩ := hI
    obtain ⟨x1, x2⟩ := u
    have hP : va_P D vwCl (CS D a s) H := hP
    have hl : lv_has ls 3 [(0, .ref (a 53)), (1, .int (i2 x1)), (2, .int (i2 x2))] := hl
    have h : m_x8_keptBlocks_b4 s (m_x8_keptBlocks_L4 s n4) x1 x2 = some o := h
    unfold m_x8_keptBlocks_b4 at h
    refine y_head (pcJ := 27) (σ := Int × Int × Int) (fun u H locs ls => va_P D vwCl (CS D a s) H ∧ va_S (fun _ => False) s₀.heap H locs ∧ lv_has ls 3 [(0, .ref (a 53)), (2, .int (i2 u.1))] ∧ m_x8_keptBlocks_J27 s (m_x8_keptBlocks_L4 s n4) u.1 u.2.1 u.2.2 = some o) (fun u => [.int (i2 u.2.1), .int (i2 u.2.2)]) (fun u H locs ls hI => ?_) (fun J27 => ?_)
    · obtain ⟨hP, hS, hl, h⟩ := hI
      obtain ⟨x3, x4, x5⟩ := u
      have hP : va_P D vwCl (CS D a s) H := hP
      have hl : lv_has ls 3 [(0, .ref (a 53)), (2, .int (i2 x3))] := hl
      have h : m_x8_keptBlocks_J27 s (m_x8_keptBlocks_L4 s n4) x3 x4 x5 = some o := h
      unfold m_x8_keptBlocks_J27 at h
      refine lv_iadd hx hb eX8_keptBlocks_19.2.2.2.2.1 ?_
      refine z_topi (y := i2 (x5 + x4)) (i2_add x5 x4) ?_
      refine lv_istore_n (lv' := [(1, .int (i2 (x5 + x4))), (0, .ref (a 53)), (2, .int (i2 x3))]) hx hb eX8_keptBlocks_19.2.2.2.2.2.1 rfl hl (by decide) rfl (fun ls hl => ?_)
      refine lv_iinc (v := i2 (x3 + 1)) (lv' := [(2, .int (i2 (x3 + 1))), (1, .int (i2 (x5 + x4))), (0, .ref (a 53))]) hx hb eX8_keptBlocks_19.2.2.2.2.2.2.1 hl (k := 2) rfl (i2_add x3 1) (by decide) rfl (fun ls hl => ?_)
      refine lv_goto (tgt := 4) hx hb eX8_keptBlocks_19.2.2.2.2.2.2.2 (by decide) ?_
      exact ih4 (x5 + x4, x3 + 1) _ _ _ ⟨hP, hS, lv_sub hl [2, 1, 0] rfl, h⟩
    refine lv_iload_n hx hb eX7_take_115.2.2.2.2.2.2.2 rfl (lv_at hl 2 rfl) ?_
    refine lv_aload_n hx hb eX8_keptBlocks_5.1 rfl (lv_at hl 0 rfl) ?_
    refine va_get (D := D) (ci := 8) (v := .int (i2 (gI s 1060))) (C := RX8) (T := TX8) (N := 11) hx hb ht inX8 hown hK hP 53 CW_53 rfl 0 (by decide) (ht (.fieldLink RX8 40 "CloneVolumes$State" "blocks" "I") fl_X8_40) (fun _ h9 => h9) rfl eX8_keptBlocks_5.2.1 ?_
    obtain ⟨hr6, h⟩ := rg_e h
    obtain ⟨hr7, h⟩ := rg_e h
    refine lv_icmp_ge (tgt := 35) hx hb eX8_keptBlocks_5.2.2.1 (by decide) (fun c8 => ?_) (fun c8 => ?_)
    · have h := if_t ((i2_le (x := (gI s 1060)) (y := x2) hr7 hr6).mp c8) h
      refine lv_iload_n hx hb eX8_keptBlocks_35.1 rfl (lv_at hl 1 rfl) ?_
      obtain rfl := Option.some.inj h
      exact W.iret (v := (i2 x1)) hx hb hr (fun t ht hW => ⟨⟨_, (), rfl, rfl, trivial⟩, hS.F ht⟩) hS.2.2 eX8_keptBlocks_35.2.1
    · have h := if_f (mt (i2_le (x := (gI s 1060)) (y := x2) hr7 hr6).mpr c8) h
      refine lv_iload_n hx hb eX8_keptBlocks_5.2.2.2.1 rfl (lv_at hl 1 rfl) ?_
      refine lv_aload_n hx hb eX8_keptBlocks_5.2.2.2.2.1 rfl (lv_at hl 0 rfl) ?_
      refine va_get (D := D) (ci := 8) (v := .ref (a 55)) (C := RX8) (T := TX8) (N := 11) hx hb ht inX8 hown hK hP 53 CW_53 rfl 4 (by decide) (ht (.fieldLink RX8 15 "CloneVolumes$State" "saved" "[I") fl_X8_15) (fun _ h9 => h9) rfl eX8_keptBlocks_5.2.2.2.2.2.1 ?_
      refine lv_iload_n hx hb eX8_keptBlocks_5.2.2.2.2.2.2.1 rfl (lv_at hl 2 rfl) ?_
      obtain ⟨y9, ey9, iy9, h⟩ := rdI_e h
      refine ya_iald (i := x2) hx hb hK hP 55 0 CW_55 rfl (by decide) ey9 iy9 eX8_keptBlocks_5.2.2.2.2.2.2.2 ?_
      obtain ⟨hr10, h⟩ := rg_e h
      refine lv_if_le (tgt := 26) hx hb eX8_keptBlocks_19.1 (by decide) (fun c11 => ?_) (fun c11 => ?_)
      · have h := if_t ((i2_le (x := y9) (y := 0) hr10 (by decide)).mp c11) h
        refine lv_iconst (v := 0) hx hb eX8_keptBlocks_19.2.2.2.1 (by decide) ?_
        exact J27 (x2, 0, x1) _ _ _ ⟨hP, hS, lv_sub hl [0, 2] rfl, h⟩
      · have h := if_f (mt (i2_le (x := y9) (y := 0) hr10 (by decide)).mpr c11) h
        refine lv_iconst (v := 1) hx hb eX8_keptBlocks_19.2.1 (by decide) ?_
        refine lv_goto (tgt := 27) hx hb eX8_keptBlocks_19.2.2.1 (by decide) ?_
        exact J27 (x2, 1, x1) _ _ _ ⟨hP, hS, lv_sub hl [0, 2] rfl, h⟩
  refine lv_iconst (v := 0) hx hb eX7_take_115.2.2.2.1 (by decide) ?_
  refine lv_istore_n (lv' := [(1, .int 0), (0, .ref (a 53))]) hx hb eX7_take_115.2.2.2.2.1 rfl hl (by decide) rfl (fun ls hl => ?_)
  refine lv_iconst (v := 0) hx hb eX7_take_115.2.2.2.2.2.1 (by decide) ?_
  refine lv_istore_n (lv' := [(2, .int 0), (1, .int 0), (0, .ref (a 53))]) hx hb eX7_take_115.2.2.2.2.2.2.1 rfl hl (by decide) rfl (fun ls hl => ?_)
  exact J4 FU (0, 0) _ _ _ ⟨hP, hS, lv_sub hl [2, 1, 0] rfl, h⟩
set_option maxHeartbeats 4000000 in
set_option maxRecDepth 100000 in
theorem k_x11_room (l : Launch) (D : va_G) (a : Nat → Nat) (p0 : Int) (s : MS) (o : Int) (h : m_x11_room p0 s = some o) : yRi l yX11_room cX11_room 3 (some .int) { frames := 3, cells := 0, slots := 0, locals := 180 } D [.ref (a 0), .int (i2 p0)] (CS D a s) (i2 o) := by
  refine Met.ofW (cc := cX11_room) (maxL := 3) (ret := (some .int)) (by decide) rfl ?_
  intro p e s₀ m args below meth c s₁ B hml hv
  obtain ⟨rfl, ⟨hP, hK⟩, hN⟩ := hv
  have hx := B.exec
  have hb := B.bytes
  have hr := B.returns
  have hts := atoms_spec (ws := wz yX11_room cX11_room 3 (some .int)) B.pre
  have ht : ∀ w ∈ lw_gd, w.before _ s₀ = true := fun w h => hts w (List.mem_cons_of_mem _ h)
  have hown : s₀.vm.findClass RX11 = some m.cls := findClass_of_methodNamed B.named
  have hlocks := B.notSynchronized
  have hS : va_S (fun _ => False) s₀.heap s₀.heap [] := va_S.rf
  have hl := lv_entry ([.ref (a 0), .int (i2 p0)]) (n := 3) (Nat.le_of_ble_eq_true rfl)
  rw [lg_entry_eq]
  generalize (lg_sl ([.ref (a 0), .int (i2 p0)]) ++ List.replicate (3 - (lg_sl ([.ref (a 0), .int (i2 p0)])).length) Slot.unset).toArray = ls at hl ⊢
  have hl : lv_has ls 3 [(0, .ref (a 0)), (1, .int (i2 p0))] := hl
  unfold m_x11_room at h
  refine lv_aload_n hx hb eX11_fits_38.2.2.2.2.2.1 rfl (lv_at hl 0 rfl) ?_
  refine va_get (D := D) (ci := 11) (v := .ref (a 49)) (C := RX11) (T := TX11) (N := 13) hx hb ht inX11 hown hK hP 0 CW_0 rfl 11 (by decide) (ht (.fieldLink RX11 79 "CloneVolumes" "forest" "LCloneVolumes$Forest;") fl_X11_79) (fun _ h9 => h9) rfl eX11_fits_38.2.2.2.2.2.2.1 ?_
  refine va_get (D := D) (ci := 1) (v := .ref (a 53)) (C := RX1) (T := TX1) (N := 9) hx hb ht inX1 hown hK hP 49 CW_49 rfl 0 (by decide) (ht (.fieldLink RX11 125 "CloneVolumes$Forest" "now" "LCloneVolumes$State;") fl_X11_125) (fun _ h9 => h9) rfl eX11_fits_38.2.2.2.2.2.2.2 ?_
  refine lv_astore_n (lv' := [(2, .ref (a 53)), (0, .ref (a 0)), (1, .int (i2 p0))]) hx hb eX11_room_7.1 rfl hl (by decide) rfl (fun ls hl => ?_)
  refine lv_aload_n hx hb eX11_room_7.2.1 rfl (lv_at hl 1 rfl) ?_
  refine va_get (D := D) (ci := 11) (v := .int (i2 (gI s 12))) (C := RX11) (T := TX11) (N := 13) hx hb ht inX11 hown hK hP 0 CW_0 rfl 12 (by decide) (ht (.fieldLink RX11 112 "CloneVolumes" "told" "Z") fl_X11_112) (fun _ h9 => h9) rfl eX11_room_7.2.2.1 ?_
  obtain ⟨hr1, h⟩ := rg_e h
  refine lv_if_ne (tgt := 17) hx hb eX11_room_7.2.2.2.1 (by decide) (fun c2 => ?_) (fun c2 => ?_)
  · have h := if_f (mt (i2_eq (x := (gI s 12)) (y := 0) hr1 (by decide)).mpr c2) h
    refine lv_iload_n hx hb eX11_room_7.2.2.2.2.2.2.1 rfl (lv_at hl 2 rfl) ?_
    obtain ⟨hr3, h⟩ := rg_e h
    by_cases c4 : p0 = 0
    · have h := if_t c4 h
      refine lv_tableIn (off := 26) (tgt := 44) hx hb eX11_room_7.2.2.2.2.2.2.2 (by rw [c4]; decide) (by rw [c4]; decide) (by rw [c4]; decide) (by decide) ?_
      refine lv_aload_n hx hb eX11_room_44.1 rfl (lv_at hl 0 rfl) ?_
      refine va_get (D := D) (ci := 8) (v := .int (i2 (gI s 1060))) (C := RX8) (T := TX8) (N := 11) hx hb ht inX8 hown hK hP 53 CW_53 rfl 0 (by decide) (ht (.fieldLink RX11 129 "CloneVolumes$State" "blocks" "I") fl_X11_129) (fun _ h9 => h9) rfl eX11_room_44.2.1 ?_
      refine lv_aload_n hx hb eX11_room_44.2.2.1 rfl (lv_at hl 0 rfl) ?_
      obtain ⟨r6, hc5, h⟩ := bn_e h
      refine ycV (r0 := i2 r6) (As := []) (rest := [.int (i2 (gI s 1060))]) (C := RX8) (n := 0) ⟨hx, hb, hml, hown, ht⟩ (k_x8_used l D a _ _ hc5) (zgV ml_X11_138 im_X8_used se_X8_used in_X8 co_X8_used) rfl rfl (by decide +kernel) ⟨Nat.le_of_ble_eq_true rfl, Nat.le_of_ble_eq_true rfl⟩ hN hK hP hS 53 CW_53 rfl rfl rfl hl.1 rfl (Nat.le_of_ble_eq_true rfl) eX11_room_44.2.2.2.1 ⟨Nat.le_of_ble_eq_true rfl, Nat.le_of_ble_eq_true rfl⟩ (fun H locs hP hS => ?_)
      refine lv_isub hx hb eX11_room_44.2.2.2.2.1 ?_
      refine z_topi (y := i2 ((gI s 1060) - r6)) (i2_sub (gI s 1060) r6) ?_
      refine lv_aload_n hx hb eX11_room_44.2.2.2.2.2.1 rfl (lv_at hl 0 rfl) ?_
      obtain ⟨r8, hc7, h⟩ := bn_e h
      refine ycV (r0 := i2 r8) (As := []) (rest := [.int (i2 ((gI s 1060) - r6))]) (C := RX8) (n := 0) ⟨hx, hb, hml, hown, ht⟩ (k_x8_held l D a _ _ hc7) (zgV ml_X11_141 im_X8_held se_X8_held in_X8 co_X8_held) rfl rfl (by decide +kernel) ⟨Nat.le_of_ble_eq_true rfl, Nat.le_of_ble_eq_true rfl⟩ hN hK hP hS 53 CW_53 rfl rfl rfl hl.1 rfl (Nat.le_of_ble_eq_true rfl) eX11_room_44.2.2.2.2.2.2.1 ⟨Nat.le_of_ble_eq_true rfl, Nat.le_of_ble_eq_true rfl⟩ (fun H locs hP hS => ?_)
      refine lv_isub hx hb eX11_room_44.2.2.2.2.2.2.2 ?_
      refine z_topi (y := i2 (((gI s 1060) - r6) - r8)) (i2_sub ((gI s 1060) - r6) r8) ?_
      obtain rfl := Option.some.inj h
      exact W.iret (v := (i2 (((gI s 1060) - r6) - r8))) hx hb hr (fun t ht hW => ⟨⟨_, (), rfl, rfl, trivial⟩, hS.F ht⟩) hS.2.2 eX11_room_58.1
    · have h := if_f c4 h
      by_cases c9 : p0 = 1
      · have h := if_t c9 h
        refine lv_tableIn (off := 41) (tgt := 59) hx hb eX11_room_7.2.2.2.2.2.2.2 (by rw [c9]; decide) (by rw [c9]; decide) (by rw [c9]; decide) (by decide) ?_
        refine lv_aload_n hx hb eX11_room_58.2.1 rfl (lv_at hl 0 rfl) ?_
        refine va_get (D := D) (ci := 8) (v := .int (i2 (gI s 1060))) (C := RX8) (T := TX8) (N := 11) hx hb ht inX8 hown hK hP 53 CW_53 rfl 0 (by decide) (ht (.fieldLink RX11 129 "CloneVolumes$State" "blocks" "I") fl_X11_129) (fun _ h9 => h9) rfl eX11_room_58.2.2.1 ?_
        refine lv_aload_n hx hb eX11_room_58.2.2.2.1 rfl (lv_at hl 0 rfl) ?_
        obtain ⟨r11, hc10, h⟩ := bn_e h
        refine ycV (r0 := i2 r11) (As := []) (rest := [.int (i2 (gI s 1060))]) (C := RX8) (n := 0) ⟨hx, hb, hml, hown, ht⟩ (k_x8_used l D a _ _ hc10) (zgV ml_X11_138 im_X8_used se_X8_used in_X8 co_X8_used) rfl rfl (by decide +kernel) ⟨Nat.le_of_ble_eq_true rfl, Nat.le_of_ble_eq_true rfl⟩ hN hK hP hS 53 CW_53 rfl rfl rfl hl.1 rfl (Nat.le_of_ble_eq_true rfl) eX11_room_58.2.2.2.2.1 ⟨Nat.le_of_ble_eq_true rfl, Nat.le_of_ble_eq_true rfl⟩ (fun H locs hP hS => ?_)
        refine lv_isub hx hb eX11_room_58.2.2.2.2.2.1 ?_
        refine z_topi (y := i2 ((gI s 1060) - r11)) (i2_sub (gI s 1060) r11) ?_
        obtain rfl := Option.some.inj h
        exact W.iret (v := (i2 ((gI s 1060) - r11))) hx hb hr (fun t ht hW => ⟨⟨_, (), rfl, rfl, trivial⟩, hS.F ht⟩) hS.2.2 eX11_room_58.2.2.2.2.2.2.1
      · have h := if_f c9 h
        by_cases c12 : p0 = 2
        · have h := if_t c12 h
          refine lv_tableIn (off := 51) (tgt := 69) hx hb eX11_room_7.2.2.2.2.2.2.2 (by rw [c12]; decide) (by rw [c12]; decide) (by rw [c12]; decide) (by decide) ?_
          refine lv_aload_n hx hb eX11_room_58.2.2.2.2.2.2.2 rfl (lv_at hl 0 rfl) ?_
          refine va_get (D := D) (ci := 8) (v := .int (i2 (gI s 1060))) (C := RX8) (T := TX8) (N := 11) hx hb ht inX8 hown hK hP 53 CW_53 rfl 0 (by decide) (ht (.fieldLink RX11 129 "CloneVolumes$State" "blocks" "I") fl_X11_129) (fun _ h9 => h9) rfl eX11_room_70.1 ?_
          refine lv_aload_n hx hb eX11_room_70.2.1 rfl (lv_at hl 0 rfl) ?_
          obtain ⟨r14, hc13, h⟩ := bn_e h
          refine ycV (r0 := i2 r14) (As := []) (rest := [.int (i2 (gI s 1060))]) (C := RX8) (n := 0) ⟨hx, hb, hml, hown, ht⟩ (k_x8_keptBlocks l D a _ _ hc13) (zgV ml_X11_252 im_X8_keptBlocks se_X8_keptBlocks in_X8 co_X8_keptBlocks) rfl rfl (by decide +kernel) ⟨Nat.le_of_ble_eq_true rfl, Nat.le_of_ble_eq_true rfl⟩ hN hK hP hS 53 CW_53 rfl rfl rfl hl.1 rfl (Nat.le_of_ble_eq_true rfl) eX11_room_70.2.2.1 ⟨Nat.le_of_ble_eq_true rfl, Nat.le_of_ble_eq_true rfl⟩ (fun H locs hP hS => ?_)
          refine lv_isub hx hb eX11_room_70.2.2.2.1 ?_
          refine z_topi (y := i2 ((gI s 1060) - r14)) (i2_sub (gI s 1060) r14) ?_
          obtain rfl := Option.some.inj h
          exact W.iret (v := (i2 ((gI s 1060) - r14))) hx hb hr (fun t ht hW => ⟨⟨_, (), rfl, rfl, trivial⟩, hS.F ht⟩) hS.2.2 eX11_room_70.2.2.2.2.1
        · have h := if_f c12 h
          refine lv_tableOut (tgt := 79) hx hb eX11_room_7.2.2.2.2.2.2.2 (by rw [i2_t hr3]; omega) (by decide) ?_
          refine lv_iconst (v := (-1)) hx hb eX11_room_70.2.2.2.2.2.1 (by decide) ?_
          obtain rfl := Option.some.inj h
          exact W.iret (v := (-1)) hx hb hr (fun t ht hW => ⟨⟨_, (), rfl, rfl, trivial⟩, hS.F ht⟩) hS.2.2 eX11_room_70.2.2.2.2.2.2.1
  · have h := if_t ((i2_eq (x := (gI s 12)) (y := 0) hr1 (by decide)).mp c2) h
    refine lv_iconst (v := (-1)) hx hb eX11_room_7.2.2.2.2.1 (by decide) ?_
    obtain rfl := Option.some.inj h
    exact W.iret (v := (-1)) hx hb hr (fun t ht hW => ⟨⟨_, (), rfl, rfl, trivial⟩, hS.F ht⟩) hS.2.2 eX11_room_7.2.2.2.2.2.1
set_option maxHeartbeats 4000000 in
set_option maxRecDepth 100000 in
theorem k_x11_back (l : Launch) (D : va_G) (a : Nat → Nat) (p0 : Int) (sz : Nat) (s : MS) (o : (Int × MS)) (h : m_x11_back p0 s = some o) : yWi l yX11_back cX11_back 3 (some .int) { frames := 4, cells := 0, slots := 0, locals := 240 } D sz [.ref (a 0), .int (i2 p0)] (CS D a s) (CS D a o.2) (i2 o.1) := by
  refine Met.ofW (cc := cX11_back) (maxL := 3) (ret := (some .int)) (by decide) rfl ?_
  intro p e s₀ m args below meth c s₁ B hml hv
  obtain ⟨rfl, ⟨hsz, hP, hK, hD0⟩, hN⟩ := hv
  have hx := B.exec
  have hb := B.bytes
  have hr := B.returns
  have hts := atoms_spec (ws := wz yX11_back cX11_back 3 (some .int)) B.pre
  have ht : ∀ w ∈ lw_gd, w.before _ s₀ = true := fun w h => hts w (List.mem_cons_of_mem _ h)
  have hown : s₀.vm.findClass RX11 = some m.cls := findClass_of_methodNamed B.named
  have hlocks := B.notSynchronized
  subst hsz
  have hD := hD0.self (sz := s₀.heap.size)
  generalize hAe : va_A (CS D a s) s₀.heap.size = A at hD ⊢
  have hA : ∀ q : Nat, s₀.heap.size ≤ q → A q := fun q h => by rw [← hAe]; exact Or.inr h
  have hS : va_S A s₀.heap s₀.heap [] := va_S.rf
  have hDD : ∀ t : MS, va_D A (CS D a t) := fun t => CW_D t hD
  have hl := lv_entry ([.ref (a 0), .int (i2 p0)]) (n := 3) (Nat.le_of_ble_eq_true rfl)
  rw [lg_entry_eq]
  generalize (lg_sl ([.ref (a 0), .int (i2 p0)]) ++ List.replicate (3 - (lg_sl ([.ref (a 0), .int (i2 p0)])).length) Slot.unset).toArray = ls at hl ⊢
  have hl : lv_has ls 3 [(0, .ref (a 0)), (1, .int (i2 p0))] := hl
  unfold m_x11_back at h
  refine y_head (pcJ := 27) (σ := MS) (fun u H locs ls => va_P D vwCl (CS D a u) H ∧ va_S A s₀.heap H locs ∧ lv_has ls 3 [] ∧ m_x11_back_J27 u = some o) (fun u => []) (fun u H locs ls hI => ?_) (fun J27 => ?_)
  · obtain ⟨hP, hS, hl, h⟩ := hI
    obtain ⟨s1, rfl⟩ : ∃ z, z = u := ⟨u, rfl⟩
    have hP : va_P D vwCl (CS D a s1) H := hP
    have hl : lv_has ls 3 [] := hl
    have h : m_x11_back_J27 s1 = some o := h
    unfold m_x11_back_J27 at h
    refine lv_iconst (v := (-1)) hx hb eX11_back_16.2.2.2.2.2.2.1 (by decide) ?_
    obtain rfl := Option.some.inj h
    exact W.iret (v := (-1)) hx hb hr (fun t ht hW => ⟨⟨_, (), rfl, rfl, by rw [ht]; exact hP, va_K.moved hW.alike hK, hDD _⟩, hS.F ht⟩) hS.2.2 eX11_back_16.2.2.2.2.2.2.2
  refine lv_aload_n hx hb eX11_back_0.1 rfl (lv_at hl 0 rfl) ?_
  refine va_get (D := D) (ci := 11) (v := .ref (a 49)) (C := RX11) (T := TX11) (N := 13) hx hb ht inX11 hown hK hP 0 CW_0 rfl 11 (by decide) (ht (.fieldLink RX11 79 "CloneVolumes" "forest" "LCloneVolumes$Forest;") fl_X11_79) (fun _ h9 => h9) rfl eX11_back_0.2.1 ?_
  refine va_get (D := D) (ci := 1) (v := .ref (a 53)) (C := RX1) (T := TX1) (N := 9) hx hb ht inX1 hown hK hP 49 CW_49 rfl 0 (by decide) (ht (.fieldLink RX11 125 "CloneVolumes$Forest" "now" "LCloneVolumes$State;") fl_X11_125) (fun _ h9 => h9) rfl eX11_back_0.2.2.1 ?_
  refine lv_astore_n (lv' := [(2, .ref (a 53)), (0, .ref (a 0)), (1, .int (i2 p0))]) hx hb eX11_back_0.2.2.2.1 rfl hl (by decide) rfl (fun ls hl => ?_)
  refine lv_aload_n hx hb eX11_back_0.2.2.2.2.1 rfl (lv_at hl 0 rfl) ?_
  refine lv_iload_n hx hb eX11_back_0.2.2.2.2.2.1 rfl (lv_at hl 2 rfl) ?_
  obtain ⟨r3, hc2, h⟩ := bn_e h
  refine ycV (r0 := i2 r3) (As := [.int (i2 p0)]) (rest := []) (C := RX8) (n := 1) ⟨hx, hb, hml, hown, ht⟩ (k_x8_isVolume l D a p0 _ _ hc2) (zgV ml_X11_161 im_X8_isVolume se_X8_isVolume in_X8 co_X8_isVolume) rfl rfl (by decide +kernel) ⟨Nat.le_of_ble_eq_true rfl, Nat.le_of_ble_eq_true rfl⟩ hN hK hP hS 53 CW_53 rfl rfl rfl hl.1 rfl (Nat.le_of_ble_eq_true rfl) eX11_back_0.2.2.2.2.2.2.1 ⟨Nat.le_of_ble_eq_true rfl, Nat.le_of_ble_eq_true rfl⟩ (fun H locs hP hS => ?_)
  obtain ⟨hr4, h⟩ := rg_e h
  refine lv_if_eq (tgt := 27) hx hb eX11_back_0.2.2.2.2.2.2.2 (by decide) (fun c5 => ?_) (fun c5 => ?_)
  · have h := if_t ((i2_eq (x := r3) (y := 0) hr4 (by decide)).mp c5) h
    exact J27 s _ _ _ ⟨hP, hS, lv_sub hl [] rfl, h⟩
  · have h := if_f (mt (i2_eq (x := r3) (y := 0) hr4 (by decide)).mpr c5) h
    refine lv_aload_n hx hb eX11_back_16.1 rfl (lv_at hl 0 rfl) ?_
    refine va_get (D := D) (ci := 8) (v := .ref (a 61)) (C := RX8) (T := TX8) (N := 11) hx hb ht inX8 hown hK hP 53 CW_53 rfl 10 (by decide) (ht (.fieldLink RX11 255 "CloneVolumes$State" "savedRoots" "[I") fl_X11_255) (fun _ h9 => h9) rfl eX11_back_16.2.1 ?_
    refine lv_iload_n hx hb eX11_back_16.2.2.1 rfl (lv_at hl 2 rfl) ?_
    obtain ⟨y6, ey6, iy6, h⟩ := rdI_e h
    refine ya_iald (i := p0) hx hb hK hP 61 0 CW_61 rfl (by decide) ey6 iy6 eX11_back_16.2.2.2.1 ?_
    refine lv_bipush (v := (-2)) hx hb eX11_back_16.2.2.2.2.1 (by decide) ?_
    obtain ⟨hr7, h⟩ := rg_e h
    refine lv_icmp_ne (tgt := 29) hx hb eX11_back_16.2.2.2.2.2.1 (by decide) (fun c8 => ?_) (fun c8 => ?_)
    · rw [show ((-2) : Int32) = i2 (-2) from by decide] at c8
      have h := if_f (mt (i2_eq (x := y6) (y := (-2)) hr7 (by decide)).mpr c8) h
      refine lv_aload_n hx hb eX11_back_29.1 rfl (lv_at hl 1 rfl) ?_
      refine lv_aload_n hx hb eX11_back_29.2.1 rfl (lv_at hl 0 rfl) ?_
      refine va_get (D := D) (ci := 8) (v := .ref (a 60)) (C := RX8) (T := TX8) (N := 11) hx hb ht inX8 hown hK hP 53 CW_53 rfl 9 (by decide) (ht (.fieldLink RX11 165 "CloneVolumes$State" "roots" "[I") fl_X11_165) (fun _ h9 => h9) rfl eX11_back_29.2.2.1 ?_
      refine lv_iload_n hx hb eX11_back_29.2.2.2.1 rfl (lv_at hl 2 rfl) ?_
      obtain ⟨y9, ey9, iy9, h⟩ := rdI_e h
      refine ya_iald (i := p0) hx hb hK hP 60 0 CW_60 rfl (by decide) ey9 iy9 eX11_back_29.2.2.2.2.1 ?_
      refine lv_aload_n hx hb eX11_back_29.2.2.2.2.2.1 rfl (lv_at hl 0 rfl) ?_
      refine va_get (D := D) (ci := 8) (v := .ref (a 61)) (C := RX8) (T := TX8) (N := 11) hx hb ht inX8 hown hK hP 53 CW_53 rfl 10 (by decide) (ht (.fieldLink RX11 255 "CloneVolumes$State" "savedRoots" "[I") fl_X11_255) (fun _ h9 => h9) rfl eX11_back_29.2.2.2.2.2.2.1 ?_
      refine lv_iload_n hx hb eX11_back_29.2.2.2.2.2.2.2 rfl (lv_at hl 2 rfl) ?_
      obtain ⟨y10, ey10, iy10, h⟩ := rdI_e h
      refine ya_iald (i := p0) hx hb hK hP 61 0 CW_61 rfl (by decide) ey10 iy10 eX11_back_41.1 ?_
      refine lv_iconst (v := (-1)) hx hb eX11_back_41.2.1 (by decide) ?_
      obtain ⟨⟨r13, s12⟩, hc11, h⟩ := bn_e h
      refine ywV (r0 := i2 r13) (As := [.int (i2 y9), .int (i2 y10), .int (-1)]) (rest := []) (C := RX11) (n := 3) (ws' := CS D a s12) ⟨hx, hb, hml, hown, ht⟩ (k_x11_unlike l D a y9 y10 (-1) _ _ _ hc11) (zgV ml_X11_233 im_X11_unlike se_X11_unlike in_X11 co_X11_unlike) rfl rfl (by decide +kernel) ⟨Nat.le_of_ble_eq_true rfl, Nat.le_of_ble_eq_true rfl⟩ hN hK hP (hDD _) hS hA 0 CW_0 rfl rfl rfl hl.1 rfl (Nat.le_of_ble_eq_true rfl) eX11_back_41.2.2.1 ⟨Nat.le_of_ble_eq_true rfl, Nat.le_of_ble_eq_true rfl⟩ (fun H locs hP hS => ?_)
      obtain rfl := Option.some.inj h
      exact W.iret (v := (i2 r13)) hx hb hr (fun t ht hW => ⟨⟨_, (), rfl, rfl, by rw [ht]; exact hP, va_K.moved hW.alike hK, hDD _⟩, hS.F ht⟩) hS.2.2 eX11_back_41.2.2.2.1
    · rw [show ((-2) : Int32) = i2 (-2) from by decide] at c8
      have h := if_t ((i2_eq (x := y6) (y := (-2)) hr7 (by decide)).mp c8) h
      exact J27 s _ _ _ ⟨hP, hS, lv_sub hl [] rfl, h⟩
set_option maxHeartbeats 4000000 in
set_option maxRecDepth 100000 in
theorem k_x9_pair (l : Launch) (D : va_G) (a : Nat → Nat) (p0 : Int) (s : MS) (o : Int) (h : m_x9_pair p0 s = some o) : yRi l yX9_pair cX9_pair 2 (some .int) { frames := 1, cells := 0, slots := 0, locals := 60 } D [.ref (a 3), .int (i2 p0)] (CS D a s) (i2 o) := by
  refine Met.ofW (cc := cX9_pair) (maxL := 2) (ret := (some .int)) (by decide) rfl ?_
  intro p e s₀ m args below meth c s₁ B hml hv
  obtain ⟨rfl, ⟨hP, hK⟩, hN⟩ := hv
  have hx := B.exec
  have hb := B.bytes
  have hr := B.returns
  have hts := atoms_spec (ws := wz yX9_pair cX9_pair 2 (some .int)) B.pre
  have ht : ∀ w ∈ lw_gd, w.before _ s₀ = true := fun w h => hts w (List.mem_cons_of_mem _ h)
  have hown : s₀.vm.findClass RX9 = some m.cls := findClass_of_methodNamed B.named
  have hlocks := B.notSynchronized
  have hS : va_S (fun _ => False) s₀.heap s₀.heap [] := va_S.rf
  have hl := lv_entry ([.ref (a 3), .int (i2 p0)]) (n := 2) (Nat.le_of_ble_eq_true rfl)
  rw [lg_entry_eq]
  generalize (lg_sl ([.ref (a 3), .int (i2 p0)]) ++ List.replicate (2 - (lg_sl ([.ref (a 3), .int (i2 p0)])).length) Slot.unset).toArray = ls at hl ⊢
  have hl : lv_has ls 2 [(0, .ref (a 3)), (1, .int (i2 p0))] := hl
  unfold m_x9_pair at h
  refine lv_aload_n hx hb eX8_keptBlocks_35.2.2.1 rfl (lv_at hl 0 rfl) ?_
  refine lv_iload_n hx hb eX8_keptBlocks_35.2.2.2.1 rfl (lv_at hl 1 rfl) ?_
  obtain ⟨r2, hc1, h⟩ := bn_e h
  refine ycV (r0 := i2 r2) (As := [.int (i2 p0)]) (rest := []) (C := RX9) (n := 1) ⟨hx, hb, hml, hown, ht⟩ (k_x9_at l D a p0 _ _ hc1) (zgV ml_X9_19 im_X9_at se_X9_at in_X9 co_X9_at) rfl rfl (by decide +kernel) ⟨Nat.le_of_ble_eq_true rfl, Nat.le_of_ble_eq_true rfl⟩ hN hK hP hS 3 CW_3 rfl rfl rfl hl.1 rfl (Nat.le_of_ble_eq_true rfl) eX8_keptBlocks_35.2.2.2.2.1 ⟨Nat.le_of_ble_eq_true rfl, Nat.le_of_ble_eq_true rfl⟩ (fun H locs hP hS => ?_)
  refine lv_sipush (v := 256) hx hb eX8_keptBlocks_35.2.2.2.2.2.1 (by decide) ?_
  refine lv_imul hx hb eX8_keptBlocks_35.2.2.2.2.2.2.1 ?_
  refine z_topi (y := i2 (r2 * 256)) (i2_mul r2 256) ?_
  refine lv_aload_n hx hb eX8_keptBlocks_35.2.2.2.2.2.2.2 rfl (lv_at hl 0 rfl) ?_
  refine lv_iload_n hx hb eX9_pair_10.1 rfl (lv_at hl 1 rfl) ?_
  refine lv_iconst (v := 1) hx hb eX9_pair_10.2.1 (by decide) ?_
  refine lv_iadd hx hb eX9_pair_10.2.2.1 ?_
  refine z_topi (y := i2 (p0 + 1)) (i2_add p0 1) ?_
  obtain ⟨r4, hc3, h⟩ := bn_e h
  refine ycV (r0 := i2 r4) (As := [.int (i2 (p0 + 1))]) (rest := [.int (i2 (r2 * 256))]) (C := RX9) (n := 1) ⟨hx, hb, hml, hown, ht⟩ (k_x9_at l D a (p0 + 1) _ _ hc3) (zgV ml_X9_19 im_X9_at se_X9_at in_X9 co_X9_at) rfl rfl (by decide +kernel) ⟨Nat.le_of_ble_eq_true rfl, Nat.le_of_ble_eq_true rfl⟩ hN hK hP hS 3 CW_3 rfl rfl rfl hl.1 rfl (Nat.le_of_ble_eq_true rfl) eX9_pair_10.2.2.2.1 ⟨Nat.le_of_ble_eq_true rfl, Nat.le_of_ble_eq_true rfl⟩ (fun H locs hP hS => ?_)
  refine lv_iadd hx hb eX9_pair_10.2.2.2.2.1 ?_
  refine z_topi (y := i2 ((r2 * 256) + r4)) (i2_add (r2 * 256) r4) ?_
  obtain rfl := Option.some.inj h
  exact W.iret (v := (i2 ((r2 * 256) + r4))) hx hb hr (fun t ht hW => ⟨⟨_, (), rfl, rfl, trivial⟩, hS.F ht⟩) hS.2.2 eX9_pair_10.2.2.2.2.2
set_option maxHeartbeats 4000000 in
set_option maxRecDepth 100000 in
theorem k_x7_take (l : Launch) (D : va_G) (a : Nat → Nat) (sz : Nat) (s : MS) (o : (Int × MS)) (h : m_x7_take s = some o) : yWi l yX7_take cX7_take 4 (some .boolean) { frames := 2, cells := 0, slots := 0, locals := 120 } D sz [.ref (a 11), .ref (a 3)] (CS D a s) (CS D a o.2) (i2 o.1) := by
  refine Met.ofW (cc := cX7_take) (maxL := 4) (ret := (some .boolean)) (by decide) rfl ?_
  intro p e s₀ m args below meth c s₁ B hml hv
  obtain ⟨rfl, ⟨hsz, hP, hK, hD0⟩, hN⟩ := hv
  have hx := B.exec
  have hb := B.bytes
  have hr := B.returns
  have hts := atoms_spec (ws := wz yX7_take cX7_take 4 (some .boolean)) B.pre
  have ht : ∀ w ∈ lw_gd, w.before _ s₀ = true := fun w h => hts w (List.mem_cons_of_mem _ h)
  have hown : s₀.vm.findClass RX7 = some m.cls := findClass_of_methodNamed B.named
  have hlocks := B.notSynchronized
  subst hsz
  have hD := hD0.self (sz := s₀.heap.size)
  generalize hAe : va_A (CS D a s) s₀.heap.size = A at hD ⊢
  have hA : ∀ q : Nat, s₀.heap.size ≤ q → A q := fun q h => by rw [← hAe]; exact Or.inr h
  have hS : va_S A s₀.heap s₀.heap [] := va_S.rf
  have hDD : ∀ t : MS, va_D A (CS D a t) := fun t => CW_D t hD
  have hl := lv_entry ([.ref (a 11), .ref (a 3)]) (n := 4) (Nat.le_of_ble_eq_true rfl)
  rw [lg_entry_eq]
  generalize (lg_sl ([.ref (a 11), .ref (a 3)]) ++ List.replicate (4 - (lg_sl ([.ref (a 11), .ref (a 3)])).length) Slot.unset).toArray = ls at hl ⊢
  have hl : lv_has ls 4 [(0, .ref (a 11)), (1, .ref (a 3))] := hl
  unfold m_x7_take at h
  refine y_loop (pcJ := 74) (σ := Int × Int × MS) (fun n u H locs ls => va_P D vwCl (CS D a u.2.2) H ∧ va_S A s₀.heap H locs ∧ lv_has ls 4 [(0, .ref (a 11)), (1, .ref (a 3)), (2, .int (i2 u.1)), (3, .int (i2 u.2.1))] ∧ m_x7_take_L74 n u.1 u.2.1 u.2.2 = some o) (fun u => []) (fun u H locs ls hI => by obtain ⟨_, _, _, h⟩ := hI; cases h) (fun n74 ih74 u H locs ls hI => ?_) (fun J74 => ?_)
  · obtain ⟨hP, hS, hl, h⟩ := hI
    obtain ⟨x1, x2, s3⟩ := u
    have hP : va_P D vwCl (CS D a s3) H := hP
    have hl : lv_has ls 4 [(0, .ref (a 11)), (1, .ref (a 3)), (2, .int (i2 x1)), (3, .int (i2 x2))] := hl
    have h : m_x7_take_b74 (m_x7_take_L74 n74) x1 x2 s3 = some o := h
    unfold m_x7_take_b74 at h
    refine lv_iload_n hx hb eX7_take_65.2.2.2.2.2.1 rfl (lv_at hl 3 rfl) ?_
    refine lv_iload_n hx hb eX7_take_65.2.2.2.2.2.2.1 rfl (lv_at hl 2 rfl) ?_
    obtain ⟨hr4, h⟩ := rg_e h
    obtain ⟨hr5, h⟩ := rg_e h
    refine lv_icmp_ge (tgt := 113) hx hb eX7_take_65.2.2.2.2.2.2.2 (by decide) (fun c6 => ?_) (fun c6 => ?_)
    · have h := if_t ((i2_le (x := x1) (y := x2) hr5 hr4).mp c6) h
      refine lv_aload_n hx hb eX7_take_101.2.2.2.2.2.2.1 rfl (lv_at hl 0 rfl) ?_
      refine lv_iload_n hx hb eX7_take_101.2.2.2.2.2.2.2 rfl (lv_at hl 2 rfl) ?_
      refine ya_put (D := D) (ci := 7) (v := .int (i2 x1)) (ty := .int) (C := RX7) (T := TX7) (N := 6) hx hb ht inX7 tyX7 tyX7_ok nmX7 hown hK hP (hDD _) hS 11 CW_11 rfl 0 (by decide) (ht (.fieldLink RX7 34 "CloneVolumes$Sight" "rows" "I") fl_X7_34) (fun _ h9 => h9) rfl (by decide +kernel) rfl rfl (Nat.le_of_ble_eq_true rfl) eX7_take_115.1 (CW_w11_0 x1) (fun H locs hP hS => ?_)
      obtain ⟨s7, hs7, h⟩ := st_e h
      rw [hs7] at hP
      refine lv_iconst (v := 1) hx hb eX7_take_115.2.1 (by decide) ?_
      obtain rfl := Option.some.inj h
      exact W.zret (v := 1) hx hb hr (by decide) (fun t ht hW => ⟨⟨_, (), rfl, rfl, by rw [ht]; exact hP, va_K.moved hW.alike hK, hDD _⟩, hS.F ht⟩) hS.2.2 eX7_take_115.2.2.1
    · have h := if_f (mt (i2_le (x := x1) (y := x2) hr5 hr4).mpr c6) h
      refine lv_aload_n hx hb eX7_take_79.1 rfl (lv_at hl 0 rfl) ?_
      refine va_get (D := D) (ci := 7) (v := .ref (a 12)) (C := RX7) (T := TX7) (N := 6) hx hb ht inX7 hown hK hP 11 CW_11 rfl 1 (by decide) (ht (.fieldLink RX7 9 "CloneVolumes$Sight" "keys" "[I") fl_X7_9) (fun _ h9 => h9) rfl eX7_take_79.2.1 ?_
      refine lv_iload_n hx hb eX7_take_79.2.2.1 rfl (lv_at hl 3 rfl) ?_
      refine lv_aload_n hx hb eX7_take_79.2.2.2.1 rfl (lv_at hl 1 rfl) ?_
      refine lv_iload_n hx hb eX7_take_79.2.2.2.2.1 rfl (lv_at hl 3 rfl) ?_
      refine lv_iconst (v := 4) hx hb eX7_take_79.2.2.2.2.2.1 (by decide) ?_
      refine lv_imul hx hb eX7_take_79.2.2.2.2.2.2.1 ?_
      refine z_topi (y := i2 (x2 * 4)) (i2_mul x2 4) ?_
      obtain ⟨r9, hc8, h⟩ := bn_e h
      refine ycV (r0 := i2 r9) (As := [.int (i2 (x2 * 4))]) (rest := [.int (i2 x2), .ref (a 12)]) (C := RX9) (n := 1) ⟨hx, hb, hml, hown, ht⟩ (k_x9_pair l D a (x2 * 4) _ _ hc8) (zgV ml_X7_30 im_X9_pair se_X9_pair in_X9 co_X9_pair) rfl rfl (by decide +kernel) ⟨Nat.le_of_ble_eq_true rfl, Nat.le_of_ble_eq_true rfl⟩ hN hK hP hS 3 CW_3 rfl rfl rfl hl.1 rfl (Nat.le_of_ble_eq_true rfl) eX7_take_79.2.2.2.2.2.2.2 ⟨Nat.le_of_ble_eq_true rfl, Nat.le_of_ble_eq_true rfl⟩ (fun H locs hP hS => ?_)
      obtain ⟨hi10, h⟩ := inb_e h
      refine ya_iast (i := x2) (x := r9) hx hb hK hP (hDD _) hS 12 0 CW_12 rfl (by decide) hi10 eX7_take_91.1 (CW_w12 _) (fun H locs hP hS => ?_)
      obtain ⟨s11, hs11, h⟩ := st_e h
      rw [hs11] at hP
      refine lv_aload_n hx hb eX7_take_91.2.1 rfl (lv_at hl 0 rfl) ?_
      refine va_get (D := D) (ci := 7) (v := .ref (a 13)) (C := RX7) (T := TX7) (N := 6) hx hb ht inX7 hown hK hP 11 CW_11 rfl 2 (by decide) (ht (.fieldLink RX7 15 "CloneVolumes$Sight" "values" "[I") fl_X7_15) (fun _ h9 => h9) rfl eX7_take_91.2.2.1 ?_
      refine lv_iload_n hx hb eX7_take_91.2.2.2.1 rfl (lv_at hl 3 rfl) ?_
      refine lv_aload_n hx hb eX7_take_91.2.2.2.2.1 rfl (lv_at hl 1 rfl) ?_
      refine lv_iload_n hx hb eX7_take_91.2.2.2.2.2.1 rfl (lv_at hl 3 rfl) ?_
      refine lv_iconst (v := 4) hx hb eX7_take_91.2.2.2.2.2.2.1 (by decide) ?_
      refine lv_imul hx hb eX7_take_91.2.2.2.2.2.2.2 ?_
      refine z_topi (y := i2 (x2 * 4)) (i2_mul x2 4) ?_
      refine lv_iconst (v := 2) hx hb eX7_take_101.1 (by decide) ?_
      refine lv_iadd hx hb eX7_take_101.2.1 ?_
      refine z_topi (y := i2 ((x2 * 4) + 2)) (i2_add (x2 * 4) 2) ?_
      obtain ⟨r13, hc12, h⟩ := bn_e h
      refine ycV (r0 := i2 r13) (As := [.int (i2 ((x2 * 4) + 2))]) (rest := [.int (i2 x2), .ref (a 13)]) (C := RX9) (n := 1) ⟨hx, hb, hml, hown, ht⟩ (k_x9_pair l D a ((x2 * 4) + 2) _ _ hc12) (zgV ml_X7_30 im_X9_pair se_X9_pair in_X9 co_X9_pair) rfl rfl (by decide +kernel) ⟨Nat.le_of_ble_eq_true rfl, Nat.le_of_ble_eq_true rfl⟩ hN hK hP hS 3 CW_3 rfl rfl rfl hl.1 rfl (Nat.le_of_ble_eq_true rfl) eX7_take_101.2.2.1 ⟨Nat.le_of_ble_eq_true rfl, Nat.le_of_ble_eq_true rfl⟩ (fun H locs hP hS => ?_)
      obtain ⟨hi14, h⟩ := inb_e h
      refine ya_iast (i := x2) (x := r13) hx hb hK hP (hDD _) hS 13 0 CW_13 rfl (by decide) hi14 eX7_take_101.2.2.2.1 (CW_w13 _) (fun H locs hP hS => ?_)
      obtain ⟨s15, hs15, h⟩ := st_e h
      rw [hs15] at hP
      refine lv_iinc (v := i2 (x2 + 1)) (lv' := [(3, .int (i2 (x2 + 1))), (0, .ref (a 11)), (1, .ref (a 3)), (2, .int (i2 x1))]) hx hb eX7_take_101.2.2.2.2.1 hl (k := 3) rfl (i2_add x2 1) (by decide) rfl (fun ls hl => ?_)
      refine lv_goto (tgt := 74) hx hb eX7_take_101.2.2.2.2.2.1 (by decide) ?_
      exact ih74 (x1, x2 + 1, s15) _ _ _ ⟨hP, hS, lv_sub hl [1, 2, 3, 0] rfl, h⟩
  refine y_head (pcJ := 64) (σ := MS) (fun u H locs ls => va_P D vwCl (CS D a u) H ∧ va_S A s₀.heap H locs ∧ lv_has ls 4 [] ∧ m_x7_take_J64 u = some o) (fun u => []) (fun u H locs ls hI => ?_) (fun J64 => ?_)
  · obtain ⟨hP, hS, hl, h⟩ := hI
    obtain ⟨s16, rfl⟩ : ∃ z, z = u := ⟨u, rfl⟩
    have hP : va_P D vwCl (CS D a s16) H := hP
    have hl : lv_has ls 4 [] := hl
    have h : m_x7_take_J64 s16 = some o := h
    unfold m_x7_take_J64 at h
    refine lv_iconst (v := 0) hx hb eX7_take_51.2.2.2.2.2.2.2 (by decide) ?_
    obtain rfl := Option.some.inj h
    exact W.zret (v := 0) hx hb hr (by decide) (fun t ht hW => ⟨⟨_, (), rfl, rfl, by rw [ht]; exact hP, va_K.moved hW.alike hK, hDD _⟩, hS.F ht⟩) hS.2.2 eX7_take_65.1
  refine y_loop (pcJ := 31) (σ := Int × Int × MS) (fun n u H locs ls => va_P D vwCl (CS D a u.2.2) H ∧ va_S A s₀.heap H locs ∧ lv_has ls 4 [(0, .ref (a 11)), (1, .ref (a 3)), (2, .int (i2 u.1)), (3, .int (i2 u.2.1))] ∧ m_x7_take_L31 n u.1 u.2.1 u.2.2 = some o) (fun u => []) (fun u H locs ls hI => by obtain ⟨_, _, _, h⟩ := hI; cases h) (fun n31 ih31 u H locs ls hI => ?_) (fun J31 => ?_)
  · obtain ⟨hP, hS, hl, h⟩ := hI
    obtain ⟨x17, x18, s19⟩ := u
    have hP : va_P D vwCl (CS D a s19) H := hP
    have hl : lv_has ls 4 [(0, .ref (a 11)), (1, .ref (a 3)), (2, .int (i2 x17)), (3, .int (i2 x18))] := hl
    have h : m_x7_take_b31 (m_x7_take_L31 n31) x17 x18 s19 = some o := h
    unfold m_x7_take_b31 at h
    refine lv_iload_n hx hb eX7_take_27.2.2.2.2.1 rfl (lv_at hl 3 rfl) ?_
    refine lv_iload_n hx hb eX7_take_27.2.2.2.2.2.1 rfl (lv_at hl 2 rfl) ?_
    obtain ⟨hr20, h⟩ := rg_e h
    obtain ⟨hr21, h⟩ := rg_e h
    refine lv_icmp_ge (tgt := 72) hx hb eX7_take_27.2.2.2.2.2.2.1 (by decide) (fun c22 => ?_) (fun c22 => ?_)
    · have h := if_t ((i2_le (x := x17) (y := x18) hr21 hr20).mp c22) h
      refine lv_iconst (v := 0) hx hb eX7_take_65.2.2.2.1 (by decide) ?_
      refine lv_istore_n (lv' := [(3, .int 0), (0, .ref (a 11)), (1, .ref (a 3)), (2, .int (i2 x17))]) hx hb eX7_take_65.2.2.2.2.1 rfl hl (by decide) rfl (fun ls hl => ?_)
      exact J74 FU (x17, 0, s19) _ _ _ ⟨hP, hS, lv_sub hl [1, 2, 3, 0] rfl, h⟩
    · have h := if_f (mt (i2_le (x := x17) (y := x18) hr21 hr20).mpr c22) h
      refine lv_aload_n hx hb eX7_take_27.2.2.2.2.2.2.2 rfl (lv_at hl 1 rfl) ?_
      refine lv_iload_n hx hb eX7_take_37.1 rfl (lv_at hl 3 rfl) ?_
      refine lv_iconst (v := 4) hx hb eX7_take_37.2.1 (by decide) ?_
      refine lv_imul hx hb eX7_take_37.2.2.1 ?_
      refine z_topi (y := i2 (x18 * 4)) (i2_mul x18 4) ?_
      obtain ⟨r24, hc23, h⟩ := bn_e h
      refine ycV (r0 := i2 r24) (As := [.int (i2 (x18 * 4))]) (rest := []) (C := RX9) (n := 1) ⟨hx, hb, hml, hown, ht⟩ (k_x9_pair l D a (x18 * 4) _ _ hc23) (zgV ml_X7_30 im_X9_pair se_X9_pair in_X9 co_X9_pair) rfl rfl (by decide +kernel) ⟨Nat.le_of_ble_eq_true rfl, Nat.le_of_ble_eq_true rfl⟩ hN hK hP hS 3 CW_3 rfl rfl rfl hl.1 rfl (Nat.le_of_ble_eq_true rfl) eX7_take_37.2.2.2.1 ⟨Nat.le_of_ble_eq_true rfl, Nat.le_of_ble_eq_true rfl⟩ (fun H locs hP hS => ?_)
      refine lv_sipush (v := 999) hx hb eX7_take_37.2.2.2.2.1 (by decide) ?_
      obtain ⟨hr25, h⟩ := rg_e h
      refine lv_icmp_gt (tgt := 64) hx hb eX7_take_37.2.2.2.2.2.1 (by decide) (fun c26 => ?_) (fun c26 => ?_)
      · have h := if_t ((i2_lt (x := 999) (y := r24) (by decide) hr25).mp c26) h
        exact J64 s19 _ _ _ ⟨hP, hS, lv_sub hl [] rfl, h⟩
      · have h := if_f (mt (i2_lt (x := 999) (y := r24) (by decide) hr25).mpr c26) h
        refine lv_aload_n hx hb eX7_take_37.2.2.2.2.2.2.1 rfl (lv_at hl 1 rfl) ?_
        refine lv_iload_n hx hb eX7_take_37.2.2.2.2.2.2.2 rfl (lv_at hl 3 rfl) ?_
        refine lv_iconst (v := 4) hx hb eX7_take_51.1 (by decide) ?_
        refine lv_imul hx hb eX7_take_51.2.1 ?_
        refine z_topi (y := i2 (x18 * 4)) (i2_mul x18 4) ?_
        refine lv_iconst (v := 2) hx hb eX7_take_51.2.2.1 (by decide) ?_
        refine lv_iadd hx hb eX7_take_51.2.2.2.1 ?_
        refine z_topi (y := i2 ((x18 * 4) + 2)) (i2_add (x18 * 4) 2) ?_
        obtain ⟨r28, hc27, h⟩ := bn_e h
        refine ycV (r0 := i2 r28) (As := [.int (i2 ((x18 * 4) + 2))]) (rest := []) (C := RX9) (n := 1) ⟨hx, hb, hml, hown, ht⟩ (k_x9_pair l D a ((x18 * 4) + 2) _ _ hc27) (zgV ml_X7_30 im_X9_pair se_X9_pair in_X9 co_X9_pair) rfl rfl (by decide +kernel) ⟨Nat.le_of_ble_eq_true rfl, Nat.le_of_ble_eq_true rfl⟩ hN hK hP hS 3 CW_3 rfl rfl rfl hl.1 rfl (Nat.le_of_ble_eq_true rfl) eX7_take_51.2.2.2.2.1 ⟨Nat.le_of_ble_eq_true rfl, Nat.le_of_ble_eq_true rfl⟩ (fun H locs hP hS => ?_)
        refine lv_sipush (v := 1000) hx hb eX7_take_51.2.2.2.2.2.1 (by decide) ?_
        obtain ⟨hr29, h⟩ := rg_e h
        refine lv_icmp_le (tgt := 66) hx hb eX7_take_51.2.2.2.2.2.2.1 (by decide) (fun c30 => ?_) (fun c30 => ?_)
        · have h := if_t ((i2_le (x := r28) (y := 1000) hr29 (by decide)).mp c30) h
          refine lv_iinc (v := i2 (x18 + 1)) (lv' := [(3, .int (i2 (x18 + 1))), (0, .ref (a 11)), (1, .ref (a 3)), (2, .int (i2 x17))]) hx hb eX7_take_65.2.1 hl (k := 3) rfl (i2_add x18 1) (by decide) rfl (fun ls hl => ?_)
          refine lv_goto (tgt := 31) hx hb eX7_take_65.2.2.1 (by decide) ?_
          exact ih31 (x17, x18 + 1, s19) _ _ _ ⟨hP, hS, lv_sub hl [1, 2, 3, 0] rfl, h⟩
        · have h := if_f (mt (i2_le (x := r28) (y := 1000) hr29 (by decide)).mpr c30) h
          exact J64 s19 _ _ _ ⟨hP, hS, lv_sub hl [] rfl, h⟩
  refine y_head (pcJ := 27) (σ := MS) (fun u H locs ls => va_P D vwCl (CS D a u) H ∧ va_S A s₀.heap H locs ∧ lv_has ls 4 [] ∧ m_x7_take_J27 u = some o) (fun u => []) (fun u H locs ls hI => ?_) (fun J27 => ?_)
  · obtain ⟨hP, hS, hl, h⟩ := hI
    obtain ⟨s31, rfl⟩ : ∃ z, z = u := ⟨u, rfl⟩
    have hP : va_P D vwCl (CS D a s31) H := hP
    have hl : lv_has ls 4 [] := hl
    have h : m_x7_take_J27 s31 = some o := h
    unfold m_x7_take_J27 at h
    refine lv_iconst (v := 0) hx hb eX7_take_27.1 (by decide) ?_
    obtain rfl := Option.some.inj h
    exact W.zret (v := 0) hx hb hr (by decide) (fun t ht hW => ⟨⟨_, (), rfl, rfl, by rw [ht]; exact hP, va_K.moved hW.alike hK, hDD _⟩, hS.F ht⟩) hS.2.2 eX7_take_27.2.1
  refine lv_aload_n hx hb eX7_take_0.1 rfl (lv_at hl 1 rfl) ?_
  refine va_get (D := D) (ci := 9) (v := .int (i2 (gI s 61))) (C := RX9) (T := TX9) (N := 2) hx hb ht inX9 hown hK hP 3 CW_3 rfl 1 (by decide) (ht (.fieldLink RX7 24 "CloneVolumes$Tape" "length" "I") fl_X7_24) (fun _ h9 => h9) rfl eX7_take_0.2.1 ?_
  refine lv_iconst (v := 4) hx hb eX7_take_0.2.2.1 (by decide) ?_
  obtain ⟨hn32, h⟩ := dv_e h
  refine lv_idiv hx hb eX7_take_0.2.2.2.1 (dv_nz hn32) ?_
  refine z_topi (y := i2 (Int.tdiv (gI s 61) 4)) (by rw [show (4 : Int32) = i2 4 from by decide +kernel]; exact dv_d hn32) ?_
  refine lv_istore_n (lv' := [(2, .int (i2 (Int.tdiv (gI s 61) 4))), (0, .ref (a 11)), (1, .ref (a 3))]) hx hb eX7_take_0.2.2.2.2.1 rfl hl (by decide) rfl (fun ls hl => ?_)
  refine lv_aload_n hx hb eX7_take_0.2.2.2.2.2.1 rfl (lv_at hl 2 rfl) ?_
  refine va_get (D := D) (ci := 9) (v := .int (i2 (gI s 61))) (C := RX9) (T := TX9) (N := 2) hx hb ht inX9 hown hK hP 3 CW_3 rfl 1 (by decide) (ht (.fieldLink RX7 24 "CloneVolumes$Tape" "length" "I") fl_X7_24) (fun _ h9 => h9) rfl eX7_take_0.2.2.2.2.2.2.1 ?_
  refine lv_iconst (v := 4) hx hb eX7_take_0.2.2.2.2.2.2.2 (by decide) ?_
  obtain ⟨hn33, h⟩ := dv_e h
  refine lv_irem hx hb eX7_take_12.1 (dv_nz hn33) ?_
  refine z_topi (y := i2 (Int.tmod (gI s 61) 4)) (by rw [show (4 : Int32) = i2 4 from by decide +kernel]; exact dv_r hn33) ?_
  obtain ⟨hr34, h⟩ := rg_e h
  refine lv_if_ne (tgt := 27) hx hb eX7_take_12.2.1 (by decide) (fun c35 => ?_) (fun c35 => ?_)
  · have h := if_f (mt (i2_eq (x := (Int.tmod (gI s 61) 4)) (y := 0) hr34 (by decide)).mpr c35) h
    exact J27 s _ _ _ ⟨hP, hS, lv_sub hl [] rfl, h⟩
  · have h := if_t ((i2_eq (x := (Int.tmod (gI s 61) 4)) (y := 0) hr34 (by decide)).mp c35) h
    refine lv_iload_n hx hb eX7_take_12.2.2.1 rfl (lv_at hl 0 rfl) ?_
    refine lv_iconst (v := 1) hx hb eX7_take_12.2.2.2.1 (by decide) ?_
    obtain ⟨hr36, h⟩ := rg_e h
    refine lv_icmp_lt (tgt := 27) hx hb eX7_take_12.2.2.2.2.1 (by decide) (fun c37 => ?_) (fun c37 => ?_)
    · have h := if_t ((i2_lt (x := (Int.tdiv (gI s 61) 4)) (y := 1) hr36 (by decide)).mp c37) h
      exact J27 s _ _ _ ⟨hP, hS, lv_sub hl [] rfl, h⟩
    · have h := if_f (mt (i2_lt (x := (Int.tdiv (gI s 61) 4)) (y := 1) hr36 (by decide)).mpr c37) h
      refine lv_iload_n hx hb eX7_take_12.2.2.2.2.2.1 rfl (lv_at hl 0 rfl) ?_
      refine lv_bipush (v := 12) hx hb eX7_take_12.2.2.2.2.2.2.1 (by decide) ?_
      obtain ⟨hr38, h⟩ := rg_e h
      refine lv_icmp_le (tgt := 29) hx hb eX7_take_12.2.2.2.2.2.2.2 (by decide) (fun c39 => ?_) (fun c39 => ?_)
      · have h := if_t ((i2_le (x := (Int.tdiv (gI s 61) 4)) (y := 12) hr38 (by decide)).mp c39) h
        refine lv_iconst (v := 0) hx hb eX7_take_27.2.2.1 (by decide) ?_
        refine lv_istore_n (lv' := [(3, .int 0), (2, .int (i2 (Int.tdiv (gI s 61) 4))), (0, .ref (a 11)), (1, .ref (a 3))]) hx hb eX7_take_27.2.2.2.1 rfl hl (by decide) rfl (fun ls hl => ?_)
        exact J31 FU (Int.tdiv (gI s 61) 4, 0, s) _ _ _ ⟨hP, hS, lv_sub hl [2, 3, 1, 0] rfl, h⟩
      · have h := if_f (mt (i2_le (x := (Int.tdiv (gI s 61) 4)) (y := 12) hr38 (by decide)).mpr c39) h
        exact J27 s _ _ _ ⟨hP, hS, lv_sub hl [] rfl, h⟩
set_option maxHeartbeats 4000000 in
set_option maxRecDepth 100000 in
theorem k_x11_see (l : Launch) (D : va_G) (a : Nat → Nat) (sz : Nat) (s : MS) (o : (Int × MS)) (h : m_x11_see s = some o) : yWi l yX11_see cX11_see 2 (some .int) { frames := 3, cells := 0, slots := 0, locals := 180 } D sz [.ref (a 0)] (CS D a s) (CS D a o.2) (i2 o.1) := by
  refine Met.ofW (cc := cX11_see) (maxL := 2) (ret := (some .int)) (by decide) rfl ?_
  intro p e s₀ m args below meth c s₁ B hml hv
  obtain ⟨rfl, ⟨hsz, hP, hK, hD0⟩, hN⟩ := hv
  have hx := B.exec
  have hb := B.bytes
  have hr := B.returns
  have hts := atoms_spec (ws := wz yX11_see cX11_see 2 (some .int)) B.pre
  have ht : ∀ w ∈ lw_gd, w.before _ s₀ = true := fun w h => hts w (List.mem_cons_of_mem _ h)
  have hown : s₀.vm.findClass RX11 = some m.cls := findClass_of_methodNamed B.named
  have hlocks := B.notSynchronized
  subst hsz
  have hD := hD0.self (sz := s₀.heap.size)
  generalize hAe : va_A (CS D a s) s₀.heap.size = A at hD ⊢
  have hA : ∀ q : Nat, s₀.heap.size ≤ q → A q := fun q h => by rw [← hAe]; exact Or.inr h
  have hS : va_S A s₀.heap s₀.heap [] := va_S.rf
  have hDD : ∀ t : MS, va_D A (CS D a t) := fun t => CW_D t hD
  have hl := lv_entry ([.ref (a 0)]) (n := 2) (Nat.le_of_ble_eq_true rfl)
  rw [lg_entry_eq]
  generalize (lg_sl ([.ref (a 0)]) ++ List.replicate (2 - (lg_sl ([.ref (a 0)])).length) Slot.unset).toArray = ls at hl ⊢
  have hl : lv_has ls 2 [(0, .ref (a 0))] := hl
  unfold m_x11_see at h
  refine y_head (pcJ := 39) (σ := Int × MS) (fun u H locs ls => va_P D vwCl (CS D a u.2) H ∧ va_S A s₀.heap H locs ∧ lv_has ls 2 [] ∧ m_x11_see_J39 u.1 u.2 = some o) (fun u => [.int (i2 u.1)]) (fun u H locs ls hI => ?_) (fun J39 => ?_)
  · obtain ⟨hP, hS, hl, h⟩ := hI
    obtain ⟨x1, s2⟩ := u
    have hP : va_P D vwCl (CS D a s2) H := hP
    have hl : lv_has ls 2 [] := hl
    have h : m_x11_see_J39 x1 s2 = some o := h
    unfold m_x11_see_J39 at h
    obtain rfl := Option.some.inj h
    exact W.iret (v := (i2 x1)) hx hb hr (fun t ht hW => ⟨⟨_, (), rfl, rfl, by rw [ht]; exact hP, va_K.moved hW.alike hK, hDD _⟩, hS.F ht⟩) hS.2.2 eX11_see_35.2.2.1
  refine lv_aload_n hx hb eX11_room_70.2.2.2.2.2.2.2 rfl (lv_at hl 0 rfl) ?_
  refine va_get (D := D) (ci := 11) (v := .ref (a 11)) (C := RX11) (T := TX11) (N := 13) hx hb ht inX11 hown hK hP 0 CW_0 rfl 3 (by decide) (ht (.fieldLink RX11 35 "CloneVolumes" "sight" "LCloneVolumes$Sight;") fl_X11_35) (fun _ h9 => h9) rfl eX11_see_1.1 ?_
  refine lv_aload_n hx hb eX11_see_1.2.1 rfl (lv_at hl 0 rfl) ?_
  refine va_get (D := D) (ci := 11) (v := .ref (a 3)) (C := RX11) (T := TX11) (N := 13) hx hb ht inX11 hown hK hP 0 CW_0 rfl 0 (by decide) (ht (.fieldLink RX11 12 "CloneVolumes" "tape" "LCloneVolumes$Tape;") fl_X11_12) (fun _ h9 => h9) rfl eX11_see_1.2.2.1 ?_
  obtain ⟨⟨r5, s4⟩, hc3, h⟩ := bn_e h
  refine ywV (r0 := i2 r5) (As := [.ref (a 3)]) (rest := []) (C := RX7) (n := 1) (ws' := CS D a s4) ⟨hx, hb, hml, hown, ht⟩ (k_x7_take l D a _ _ _ hc3) (zgV ml_X11_258 im_X7_take se_X7_take in_X7 co_X7_take) rfl rfl (by decide +kernel) ⟨Nat.le_of_ble_eq_true rfl, Nat.le_of_ble_eq_true rfl⟩ hN hK hP (hDD _) hS hA 11 CW_11 rfl rfl rfl hl.1 rfl (Nat.le_of_ble_eq_true rfl) eX11_see_1.2.2.2.1 ⟨Nat.le_of_ble_eq_true rfl, Nat.le_of_ble_eq_true rfl⟩ (fun H locs hP hS => ?_)
  refine lv_istore_n (lv' := [(1, .int (i2 r5)), (0, .ref (a 0))]) hx hb eX11_see_1.2.2.2.2.1 rfl hl (by decide) rfl (fun ls hl => ?_)
  refine lv_aload_n hx hb eX11_see_1.2.2.2.2.2.1 rfl (lv_at hl 1 rfl) ?_
  refine va_get (D := D) (ci := 11) (v := .ref (a 3)) (C := RX11) (T := TX11) (N := 13) hx hb ht inX11 hown hK hP 0 CW_0 rfl 0 (by decide) (ht (.fieldLink RX11 12 "CloneVolumes" "tape" "LCloneVolumes$Tape;") fl_X11_12) (fun _ h9 => h9) rfl eX11_see_1.2.2.2.2.2.2.1 ?_
  refine lv_iconst (v := 0) hx hb eX11_see_1.2.2.2.2.2.2.2 (by decide) ?_
  refine ya_put (D := D) (ci := 9) (v := .int 0) (ty := .int) (C := RX9) (T := TX9) (N := 2) hx hb ht inX9 tyX9 tyX9_ok nmX9 hown hK hP (hDD _) hS 3 CW_3 rfl 1 (by decide) (ht (.fieldLink RX11 95 "CloneVolumes$Tape" "length" "I") fl_X11_95) (fun _ h9 => h9) rfl (by decide +kernel) rfl rfl (Nat.le_of_ble_eq_true rfl) eX11_see_17.1 (CW_w3_1 0) (fun H locs hP hS => ?_)
  obtain ⟨s6, hs6, h⟩ := st_e h
  rw [hs6] at hP
  refine lv_iload_n hx hb eX11_see_17.2.1 rfl (lv_at hl 0 rfl) ?_
  obtain ⟨hr7, h⟩ := rg_e h
  refine lv_if_eq (tgt := 34) hx hb eX11_see_17.2.2.1 (by decide) (fun c8 => ?_) (fun c8 => ?_)
  · have h := if_t ((i2_eq (x := r5) (y := 0) hr7 (by decide)).mp c8) h
    refine lv_aload_n hx hb eX11_see_17.2.2.2.2.2.2.2 rfl (lv_at hl 1 rfl) ?_
    refine lv_iconst (v := 1) hx hb eX11_see_35.1 (by decide) ?_
    obtain ⟨⟨r11, s10⟩, hc9, h⟩ := bn_e h
    refine ywV (r0 := i2 r11) (As := [.int 1]) (rest := []) (C := RX11) (n := 1) (ws' := CS D a s10) ⟨hx, hb, hml, hown, ht⟩ (k_x11_refuse l D a 1 _ _ _ hc9) (zgV ml_X11_87 im_X11_refuse se_X11_refuse in_X11 co_X11_refuse) rfl rfl (by decide +kernel) ⟨Nat.le_of_ble_eq_true rfl, Nat.le_of_ble_eq_true rfl⟩ hN hK hP (hDD _) hS hA 0 CW_0 rfl rfl rfl hl.1 rfl (Nat.le_of_ble_eq_true rfl) eX11_see_35.2.1 ⟨Nat.le_of_ble_eq_true rfl, Nat.le_of_ble_eq_true rfl⟩ (fun H locs hP hS => ?_)
    exact J39 (r11, s10) _ _ _ ⟨hP, hS, lv_sub hl [] rfl, h⟩
  · have h := if_f (mt (i2_eq (x := r5) (y := 0) hr7 (by decide)).mpr c8) h
    refine lv_aload_n hx hb eX11_see_17.2.2.2.1 rfl (lv_at hl 1 rfl) ?_
    refine va_get (D := D) (ci := 11) (v := .ref (a 11)) (C := RX11) (T := TX11) (N := 13) hx hb ht inX11 hown hK hP 0 CW_0 rfl 3 (by decide) (ht (.fieldLink RX11 35 "CloneVolumes" "sight" "LCloneVolumes$Sight;") fl_X11_35) (fun _ h9 => h9) rfl eX11_see_17.2.2.2.2.1 ?_
    refine va_get (D := D) (ci := 7) (v := .int (i2 (gI s6 220))) (C := RX7) (T := TX7) (N := 6) hx hb ht inX7 hown hK hP 11 CW_11 rfl 0 (by decide) (ht (.fieldLink RX11 109 "CloneVolumes$Sight" "rows" "I") fl_X11_109) (fun _ h9 => h9) rfl eX11_see_17.2.2.2.2.2.1 ?_
    refine lv_goto (tgt := 39) hx hb eX11_see_17.2.2.2.2.2.2.1 (by decide) ?_
    exact J39 (gI s6 220, s6) _ _ _ ⟨hP, hS, lv_sub hl [] rfl, h⟩
set_option maxHeartbeats 4000000 in
set_option maxRecDepth 100000 in
theorem k_x7_reading (l : Launch) (D : va_G) (a : Nat → Nat) (p1 : Int) (p2 : Int) (s : MS) (o : Int) (h : m_x7_reading p1 p2 s = some o) : yRi l yX7_reading cX7_reading 4 (some .int) { frames := 4, cells := 0, slots := 0, locals := 240 } D [.ref (a 53), .int (i2 p1), .int (i2 p2)] (CS D a s) (i2 o) := by
  refine Met.ofW (cc := cX7_reading) (maxL := 4) (ret := (some .int)) (by decide) rfl ?_
  intro p e s₀ m args below meth c s₁ B hml hv
  obtain ⟨rfl, ⟨hP, hK⟩, hN⟩ := hv
  have hx := B.exec
  have hb := B.bytes
  have hr := B.returns
  have hts := atoms_spec (ws := wz yX7_reading cX7_reading 4 (some .int)) B.pre
  have ht : ∀ w ∈ lw_gd, w.before _ s₀ = true := fun w h => hts w (List.mem_cons_of_mem _ h)
  have hown : s₀.vm.findClass RX7 = some m.cls := findClass_of_methodNamed B.named
  have hlocks := B.notSynchronized
  have hS : va_S (fun _ => False) s₀.heap s₀.heap [] := va_S.rf
  have hl := lv_entry ([.ref (a 53), .int (i2 p1), .int (i2 p2)]) (n := 4) (Nat.le_of_ble_eq_true rfl)
  rw [lg_entry_eq]
  generalize (lg_sl ([.ref (a 53), .int (i2 p1), .int (i2 p2)]) ++ List.replicate (4 - (lg_sl ([.ref (a 53), .int (i2 p1), .int (i2 p2)])).length) Slot.unset).toArray = ls at hl ⊢
  have hl : lv_has ls 4 [(0, .ref (a 53)), (1, .int (i2 p1)), (2, .int (i2 p2))] := hl
  unfold m_x7_reading at h
  refine y_head (pcJ := 24) (σ := Int) (fun u H locs ls => va_P D vwCl (CS D a s) H ∧ va_S (fun _ => False) s₀.heap H locs ∧ lv_has ls 4 [] ∧ m_x7_reading_J24 s u = some o) (fun u => [.int (i2 u)]) (fun u H locs ls hI => ?_) (fun J24 => ?_)
  · obtain ⟨hP, hS, hl, h⟩ := hI
    obtain ⟨x1, rfl⟩ : ∃ z, z = u := ⟨u, rfl⟩
    have hP : va_P D vwCl (CS D a s) H := hP
    have hl : lv_has ls 4 [] := hl
    have h : m_x7_reading_J24 s x1 = some o := h
    unfold m_x7_reading_J24 at h
    obtain rfl := Option.some.inj h
    exact W.iret (v := (i2 x1)) hx hb hr (fun t ht hW => ⟨⟨_, (), rfl, rfl, trivial⟩, hS.F ht⟩) hS.2.2 eX7_reading_11.2.2.2.2.2.2.2
  refine lv_aload_n hx hb eX7_mostLeft_93.2.1 rfl (lv_at hl 0 rfl) ?_
  refine lv_aload_n hx hb eX7_mostLeft_93.2.2.1 rfl (lv_at hl 0 rfl) ?_
  refine va_get (D := D) (ci := 8) (v := .ref (a 60)) (C := RX8) (T := TX8) (N := 11) hx hb ht inX8 hown hK hP 53 CW_53 rfl 9 (by decide) (ht (.fieldLink RX7 60 "CloneVolumes$State" "roots" "[I") fl_X7_60) (fun _ h9 => h9) rfl eX7_mostLeft_93.2.2.2.1 ?_
  refine lv_iload_n hx hb eX7_mostLeft_93.2.2.2.2.1 rfl (lv_at hl 1 rfl) ?_
  obtain ⟨y2, ey2, iy2, h⟩ := rdI_e h
  refine ya_iald (i := p1) hx hb hK hP 60 0 CW_60 rfl (by decide) ey2 iy2 eX7_mostLeft_93.2.2.2.2.2.1 ?_
  refine lv_iload_n hx hb eX7_mostLeft_93.2.2.2.2.2.2.1 rfl (lv_at hl 2 rfl) ?_
  obtain ⟨r4, hc3, h⟩ := bn_e h
  refine ycV (r0 := i2 r4) (As := [.int (i2 y2), .int (i2 p2)]) (rest := []) (C := RX8) (n := 2) ⟨hx, hb, hml, hown, ht⟩ (k_x8_valueAt l D a y2 p2 _ _ hc3) (zgV ml_X7_63 im_X8_valueAt se_X8_valueAt in_X8 co_X8_valueAt) rfl rfl (by decide +kernel) ⟨Nat.le_of_ble_eq_true rfl, Nat.le_of_ble_eq_true rfl⟩ hN hK hP hS 53 CW_53 rfl rfl rfl hl.1 rfl (Nat.le_of_ble_eq_true rfl) eX7_mostLeft_93.2.2.2.2.2.2.2 ⟨Nat.le_of_ble_eq_true rfl, Nat.le_of_ble_eq_true rfl⟩ (fun H locs hP hS => ?_)
  refine lv_istore_n (lv' := [(3, .int (i2 r4)), (0, .ref (a 53)), (1, .int (i2 p1)), (2, .int (i2 p2))]) hx hb eX7_reading_11.1 rfl hl (by decide) rfl (fun ls hl => ?_)
  refine lv_iload_n hx hb eX7_reading_11.2.1 rfl (lv_at hl 0 rfl) ?_
  refine lv_iconst (v := (-1)) hx hb eX7_reading_11.2.2.1 (by decide) ?_
  obtain ⟨hr5, h⟩ := rg_e h
  refine lv_icmp_ne (tgt := 23) hx hb eX7_reading_11.2.2.2.1 (by decide) (fun c6 => ?_) (fun c6 => ?_)
  · rw [show ((-1) : Int32) = i2 (-1) from by decide] at c6
    have h := if_f (mt (i2_eq (x := r4) (y := (-1)) hr5 (by decide)).mpr c6) h
    refine lv_iload_n hx hb eX7_reading_11.2.2.2.2.2.2.1 rfl (lv_at hl 0 rfl) ?_
    exact J24 r4 _ _ _ ⟨hP, hS, lv_sub hl [] rfl, h⟩
  · rw [show ((-1) : Int32) = i2 (-1) from by decide] at c6
    have h := if_t ((i2_eq (x := r4) (y := (-1)) hr5 (by decide)).mp c6) h
    refine lv_sipush (v := 1000) hx hb eX7_reading_11.2.2.2.2.1 (by decide) ?_
    refine lv_goto (tgt := 24) hx hb eX7_reading_11.2.2.2.2.2.1 (by decide) ?_
    exact J24 1000 _ _ _ ⟨hP, hS, lv_sub hl [] rfl, h⟩
set_option maxHeartbeats 4000000 in
set_option maxRecDepth 100000 in
theorem k_x7_agrees (l : Launch) (D : va_G) (a : Nat → Nat) (p1 : Int) (s : MS) (o : Int) (h : m_x7_agrees p1 s = some o) : yRi l yX7_agrees cX7_agrees 4 (some .boolean) { frames := 5, cells := 0, slots := 0, locals := 300 } D [.ref (a 11), .ref (a 53), .int (i2 p1)] (CS D a s) (i2 o) := by
  refine Met.ofW (cc := cX7_agrees) (maxL := 4) (ret := (some .boolean)) (by decide) rfl ?_
  intro p e s₀ m args below meth c s₁ B hml hv
  obtain ⟨rfl, ⟨hP, hK⟩, hN⟩ := hv
  have hx := B.exec
  have hb := B.bytes
  have hr := B.returns
  have hts := atoms_spec (ws := wz yX7_agrees cX7_agrees 4 (some .boolean)) B.pre
  have ht : ∀ w ∈ lw_gd, w.before _ s₀ = true := fun w h => hts w (List.mem_cons_of_mem _ h)
  have hown : s₀.vm.findClass RX7 = some m.cls := findClass_of_methodNamed B.named
  have hlocks := B.notSynchronized
  have hS : va_S (fun _ => False) s₀.heap s₀.heap [] := va_S.rf
  have hl := lv_entry ([.ref (a 11), .ref (a 53), .int (i2 p1)]) (n := 4) (Nat.le_of_ble_eq_true rfl)
  rw [lg_entry_eq]
  generalize (lg_sl ([.ref (a 11), .ref (a 53), .int (i2 p1)]) ++ List.replicate (4 - (lg_sl ([.ref (a 11), .ref (a 53), .int (i2 p1)])).length) Slot.unset).toArray = ls at hl ⊢
  have hl : lv_has ls 4 [(0, .ref (a 11)), (1, .ref (a 53)), (2, .int (i2 p1))] := hl
  unfold m_x7_agrees at h
  refine y_loop (pcJ := 2) (σ := Int × Int) (fun n u H locs ls => va_P D vwCl (CS D a s) H ∧ va_S (fun _ => False) s₀.heap H locs ∧ lv_has ls 4 [(0, .ref (a 11)), (1, .ref (a 53)), (2, .int (i2 u.1)), (3, .int (i2 u.2))] ∧ m_x7_agrees_L2 s n u.1 u.2 = some o) (fun u => []) (fun u H locs ls hI => by obtain ⟨_, _, _, h⟩ := hI; cases h) (fun n2 ih2 u H locs ls hI => ?_) (fun J2 => ?_)
  · obtain ⟨hP, hS, hl, h⟩ := hI
    obtain ⟨x1, x2⟩ := u
    have hP : va_P D vwCl (CS D a s) H := hP
    have hl : lv_has ls 4 [(0, .ref (a 11)), (1, .ref (a 53)), (2, .int (i2 x1)), (3, .int (i2 x2))] := hl
    have h : m_x7_agrees_b2 s (m_x7_agrees_L2 s n2) x1 x2 = some o := h
    unfold m_x7_agrees_b2 at h
    refine lv_iload_n hx hb eX11_victim_73.2.2.2.2.2.2.1 rfl (lv_at hl 3 rfl) ?_
    refine lv_aload_n hx hb eX11_victim_73.2.2.2.2.2.2.2 rfl (lv_at hl 0 rfl) ?_
    refine va_get (D := D) (ci := 7) (v := .int (i2 (gI s 220))) (C := RX7) (T := TX7) (N := 6) hx hb ht inX7 hown hK hP 11 CW_11 rfl 0 (by decide) (ht (.fieldLink RX7 34 "CloneVolumes$Sight" "rows" "I") fl_X7_34) (fun _ h9 => h9) rfl eX7_agrees_4.1 ?_
    obtain ⟨hr3, h⟩ := rg_e h
    obtain ⟨hr4, h⟩ := rg_e h
    refine lv_icmp_ge (tgt := 38) hx hb eX7_agrees_4.2.1 (by decide) (fun c5 => ?_) (fun c5 => ?_)
    · have h := if_t ((i2_le (x := (gI s 220)) (y := x2) hr4 hr3).mp c5) h
      refine lv_iconst (v := 1) hx hb eX7_agrees_32.2.2.1 (by decide) ?_
      obtain rfl := Option.some.inj h
      exact W.zret (v := 1) hx hb hr (by decide) (fun t ht hW => ⟨⟨_, (), rfl, rfl, trivial⟩, hS.F ht⟩) hS.2.2 eX7_agrees_32.2.2.2.1
    · have h := if_f (mt (i2_le (x := (gI s 220)) (y := x2) hr4 hr3).mpr c5) h
      refine lv_aload_n hx hb eX7_agrees_4.2.2.1 rfl (lv_at hl 1 rfl) ?_
      refine lv_iload_n hx hb eX7_agrees_4.2.2.2.1 rfl (lv_at hl 2 rfl) ?_
      refine lv_aload_n hx hb eX7_agrees_4.2.2.2.2.1 rfl (lv_at hl 0 rfl) ?_
      refine va_get (D := D) (ci := 7) (v := .ref (a 12)) (C := RX7) (T := TX7) (N := 6) hx hb ht inX7 hown hK hP 11 CW_11 rfl 1 (by decide) (ht (.fieldLink RX7 9 "CloneVolumes$Sight" "keys" "[I") fl_X7_9) (fun _ h9 => h9) rfl eX7_agrees_4.2.2.2.2.2.1 ?_
      refine lv_iload_n hx hb eX7_agrees_4.2.2.2.2.2.2.1 rfl (lv_at hl 3 rfl) ?_
      obtain ⟨y6, ey6, iy6, h⟩ := rdI_e h
      refine ya_iald (i := x2) hx hb hK hP 12 0 CW_12 rfl (by decide) ey6 iy6 eX7_agrees_4.2.2.2.2.2.2.2 ?_
      obtain ⟨r8, hc7, h⟩ := bn_e h
      refine ycS (r0 := i2 r8) (As := [.ref (a 53), .int (i2 x1), .int (i2 y6)]) (rest := []) (n := 3) ⟨hx, hb, hml, hown, ht⟩ (k_x7_reading l D a x1 y6 _ _ hc7) (zgT ml_X7_50 st_X7_reading in_X7 co_X7_reading) rfl rfl (by decide +kernel) ⟨Nat.le_of_ble_eq_true rfl, Nat.le_of_ble_eq_true rfl⟩ hN hK hP hS rfl hl.1 rfl (Nat.le_of_ble_eq_true rfl) eX7_agrees_18.1 ⟨Nat.le_of_ble_eq_true rfl, Nat.le_of_ble_eq_true rfl⟩ (fun H locs hP hS => ?_)
      refine lv_aload_n hx hb eX7_agrees_18.2.1 rfl (lv_at hl 0 rfl) ?_
      refine va_get (D := D) (ci := 7) (v := .ref (a 13)) (C := RX7) (T := TX7) (N := 6) hx hb ht inX7 hown hK hP 11 CW_11 rfl 2 (by decide) (ht (.fieldLink RX7 15 "CloneVolumes$Sight" "values" "[I") fl_X7_15) (fun _ h9 => h9) rfl eX7_agrees_18.2.2.1 ?_
      refine lv_iload_n hx hb eX7_agrees_18.2.2.2.1 rfl (lv_at hl 3 rfl) ?_
      obtain ⟨y9, ey9, iy9, h⟩ := rdI_e h
      refine ya_iald (i := x2) hx hb hK hP 13 0 CW_13 rfl (by decide) ey9 iy9 eX7_agrees_18.2.2.2.2.1 ?_
      obtain ⟨hr10, h⟩ := rg_e h
      obtain ⟨hr11, h⟩ := rg_e h
      refine lv_icmp_eq (tgt := 32) hx hb eX7_agrees_18.2.2.2.2.2.1 (by decide) (fun c12 => ?_) (fun c12 => ?_)
      · have h := if_t ((i2_eq (x := r8) (y := y9) hr10 hr11).mp c12) h
        refine lv_iinc (v := i2 (x2 + 1)) (lv' := [(3, .int (i2 (x2 + 1))), (0, .ref (a 11)), (1, .ref (a 53)), (2, .int (i2 x1))]) hx hb eX7_agrees_32.1 hl (k := 3) rfl (i2_add x2 1) (by decide) rfl (fun ls hl => ?_)
        refine lv_goto (tgt := 2) hx hb eX7_agrees_32.2.1 (by decide) ?_
        exact ih2 (x1, x2 + 1) _ _ _ ⟨hP, hS, lv_sub hl [1, 2, 3, 0] rfl, h⟩
      · have h := if_f (mt (i2_eq (x := r8) (y := y9) hr10 hr11).mpr c12) h
        refine lv_iconst (v := 0) hx hb eX7_agrees_18.2.2.2.2.2.2.1 (by decide) ?_
        obtain rfl := Option.some.inj h
        exact W.zret (v := 0) hx hb hr (by decide) (fun t ht hW => ⟨⟨_, (), rfl, rfl, trivial⟩, hS.F ht⟩) hS.2.2 eX7_agrees_18.2.2.2.2.2.2.2
  refine lv_iconst (v := 0) hx hb eX11_victim_73.2.2.2.2.1 (by decide) ?_
  refine lv_istore_n (lv' := [(3, .int 0), (0, .ref (a 11)), (1, .ref (a 53)), (2, .int (i2 p1))]) hx hb eX11_victim_73.2.2.2.2.2.1 rfl hl (by decide) rfl (fun ls hl => ?_)
  exact J2 FU (p1, 0) _ _ _ ⟨hP, hS, lv_sub hl [1, 2, 3, 0] rfl, h⟩
set_option maxHeartbeats 4000000 in
set_option maxRecDepth 100000 in
theorem k_x7_findFits (l : Launch) (D : va_G) (a : Nat → Nat) (sz : Nat) (s : MS) (o : (Int × MS)) (h : m_x7_findFits s = some o) : yWi l yX7_findFits cX7_findFits 3 (some .int) { frames := 6, cells := 0, slots := 0, locals := 360 } D sz [.ref (a 11), .ref (a 53)] (CS D a s) (CS D a o.2) (i2 o.1) := by
  refine Met.ofW (cc := cX7_findFits) (maxL := 3) (ret := (some .int)) (by decide) rfl ?_
  intro p e s₀ m args below meth c s₁ B hml hv
  obtain ⟨rfl, ⟨hsz, hP, hK, hD0⟩, hN⟩ := hv
  have hx := B.exec
  have hb := B.bytes
  have hr := B.returns
  have hts := atoms_spec (ws := wz yX7_findFits cX7_findFits 3 (some .int)) B.pre
  have ht : ∀ w ∈ lw_gd, w.before _ s₀ = true := fun w h => hts w (List.mem_cons_of_mem _ h)
  have hown : s₀.vm.findClass RX7 = some m.cls := findClass_of_methodNamed B.named
  have hlocks := B.notSynchronized
  subst hsz
  have hD := hD0.self (sz := s₀.heap.size)
  generalize hAe : va_A (CS D a s) s₀.heap.size = A at hD ⊢
  have hA : ∀ q : Nat, s₀.heap.size ≤ q → A q := fun q h => by rw [← hAe]; exact Or.inr h
  have hS : va_S A s₀.heap s₀.heap [] := va_S.rf
  have hDD : ∀ t : MS, va_D A (CS D a t) := fun t => CW_D t hD
  have hl := lv_entry ([.ref (a 11), .ref (a 53)]) (n := 3) (Nat.le_of_ble_eq_true rfl)
  rw [lg_entry_eq]
  generalize (lg_sl ([.ref (a 11), .ref (a 53)]) ++ List.replicate (3 - (lg_sl ([.ref (a 11), .ref (a 53)])).length) Slot.unset).toArray = ls at hl ⊢
  have hl : lv_has ls 3 [(0, .ref (a 11)), (1, .ref (a 53))] := hl
  unfold m_x7_findFits at h
  refine y_loop (pcJ := 7) (σ := Int × MS) (fun n u H locs ls => va_P D vwCl (CS D a u.2) H ∧ va_S A s₀.heap H locs ∧ lv_has ls 3 [(0, .ref (a 11)), (1, .ref (a 53)), (2, .int (i2 u.1))] ∧ m_x7_findFits_L7 n u.1 u.2 = some o) (fun u => []) (fun u H locs ls hI => by obtain ⟨_, _, _, h⟩ := hI; cases h) (fun n7 ih7 u H locs ls hI => ?_) (fun J7 => ?_)
  · obtain ⟨hP, hS, hl, h⟩ := hI
    obtain ⟨x1, s2⟩ := u
    have hP : va_P D vwCl (CS D a s2) H := hP
    have hl : lv_has ls 3 [(0, .ref (a 11)), (1, .ref (a 53)), (2, .int (i2 x1))] := hl
    have h : m_x7_findFits_b7 (m_x7_findFits_L7 n7) x1 s2 = some o := h
    unfold m_x7_findFits_b7 at h
    refine y_head (pcJ := 50) (σ := Int × MS) (fun u H locs ls => va_P D vwCl (CS D a u.2) H ∧ va_S A s₀.heap H locs ∧ lv_has ls 3 [(0, .ref (a 11)), (1, .ref (a 53)), (2, .int (i2 u.1))] ∧ m_x7_findFits_J50 (m_x7_findFits_L7 n7) u.1 u.2 = some o) (fun u => []) (fun u H locs ls hI => ?_) (fun J50 => ?_)
    · obtain ⟨hP, hS, hl, h⟩ := hI
      obtain ⟨x3, s4⟩ := u
      have hP : va_P D vwCl (CS D a s4) H := hP
      have hl : lv_has ls 3 [(0, .ref (a 11)), (1, .ref (a 53)), (2, .int (i2 x3))] := hl
      have h : m_x7_findFits_J50 (m_x7_findFits_L7 n7) x3 s4 = some o := h
      unfold m_x7_findFits_J50 at h
      refine lv_iinc (v := i2 (x3 + 1)) (lv' := [(2, .int (i2 (x3 + 1))), (0, .ref (a 11)), (1, .ref (a 53))]) hx hb eX7_findFits_47.2.1 hl (k := 2) rfl (i2_add x3 1) (by decide) rfl (fun ls hl => ?_)
      refine lv_goto (tgt := 7) hx hb eX7_findFits_47.2.2.1 (by decide) ?_
      exact ih7 (x3 + 1, s4) _ _ _ ⟨hP, hS, lv_sub hl [1, 2, 0] rfl, h⟩
    refine lv_iload_n hx hb eX7_findFits_6.2.1 rfl (lv_at hl 2 rfl) ?_
    refine lv_bipush (v := 8) hx hb eX7_findFits_6.2.2.1 (by decide) ?_
    obtain ⟨hr5, h⟩ := rg_e h
    refine lv_icmp_ge (tgt := 56) hx hb eX7_findFits_6.2.2.2.1 (by decide) (fun c6 => ?_) (fun c6 => ?_)
    · have h := if_t ((i2_le (x := 8) (y := x1) (by decide) hr5).mp c6) h
      refine lv_aload_n hx hb eX7_findFits_47.2.2.2.1 rfl (lv_at hl 0 rfl) ?_
      refine va_get (D := D) (ci := 7) (v := .int (i2 (gI s2 224))) (C := RX7) (T := TX7) (N := 6) hx hb ht inX7 hown hK hP 11 CW_11 rfl 4 (by decide) (ht (.fieldLink RX7 37 "CloneVolumes$Sight" "fits" "I") fl_X7_37) (fun _ h9 => h9) rfl eX7_findFits_47.2.2.2.2.1 ?_
      obtain rfl := Option.some.inj h
      exact W.iret (v := (i2 (gI s2 224))) hx hb hr (fun t ht hW => ⟨⟨_, (), rfl, rfl, by rw [ht]; exact hP, va_K.moved hW.alike hK, hDD _⟩, hS.F ht⟩) hS.2.2 eX7_findFits_47.2.2.2.2.2.1
    · have h := if_f (mt (i2_le (x := 8) (y := x1) (by decide) hr5).mpr c6) h
      refine lv_aload_n hx hb eX7_findFits_6.2.2.2.2.1 rfl (lv_at hl 1 rfl) ?_
      refine lv_iload_n hx hb eX7_findFits_6.2.2.2.2.2.1 rfl (lv_at hl 2 rfl) ?_
      obtain ⟨r8, hc7, h⟩ := bn_e h
      refine ycV (r0 := i2 r8) (As := [.int (i2 x1)]) (rest := []) (C := RX8) (n := 1) ⟨hx, hb, hml, hown, ht⟩ (k_x8_isVolume l D a x1 _ _ hc7) (zgV ml_X7_40 im_X8_isVolume se_X8_isVolume in_X8 co_X8_isVolume) rfl rfl (by decide +kernel) ⟨Nat.le_of_ble_eq_true rfl, Nat.le_of_ble_eq_true rfl⟩ hN hK hP hS 53 CW_53 rfl rfl rfl hl.1 rfl (Nat.le_of_ble_eq_true rfl) eX7_findFits_6.2.2.2.2.2.2.1 ⟨Nat.le_of_ble_eq_true rfl, Nat.le_of_ble_eq_true rfl⟩ (fun H locs hP hS => ?_)
      obtain ⟨hr9, h⟩ := rg_e h
      refine lv_if_eq (tgt := 50) hx hb eX7_findFits_6.2.2.2.2.2.2.2 (by decide) (fun c10 => ?_) (fun c10 => ?_)
      · have h := if_t ((i2_eq (x := r8) (y := 0) hr9 (by decide)).mp c10) h
        exact J50 (x1, s2) _ _ _ ⟨hP, hS, lv_sub hl [0, 1, 2] rfl, h⟩
      · have h := if_f (mt (i2_eq (x := r8) (y := 0) hr9 (by decide)).mpr c10) h
        refine lv_aload_n hx hb eX7_findFits_21.1 rfl (lv_at hl 0 rfl) ?_
        refine lv_aload_n hx hb eX7_findFits_21.2.1 rfl (lv_at hl 1 rfl) ?_
        refine lv_iload_n hx hb eX7_findFits_21.2.2.1 rfl (lv_at hl 2 rfl) ?_
        obtain ⟨r12, hc11, h⟩ := bn_e h
        refine ycV (r0 := i2 r12) (As := [.ref (a 53), .int (i2 x1)]) (rest := []) (C := RX7) (n := 2) ⟨hx, hb, hml, hown, ht⟩ (k_x7_agrees l D a x1 _ _ hc11) (zgV ml_X7_46 im_X7_agrees se_X7_agrees in_X7 co_X7_agrees) rfl rfl (by decide +kernel) ⟨Nat.le_of_ble_eq_true rfl, Nat.le_of_ble_eq_true rfl⟩ hN hK hP hS 11 CW_11 rfl rfl rfl hl.1 rfl (Nat.le_of_ble_eq_true rfl) eX7_findFits_21.2.2.2.1 ⟨Nat.le_of_ble_eq_true rfl, Nat.le_of_ble_eq_true rfl⟩ (fun H locs hP hS => ?_)
        obtain ⟨hr13, h⟩ := rg_e h
        refine lv_if_eq (tgt := 50) hx hb eX7_findFits_21.2.2.2.2.1 (by decide) (fun c14 => ?_) (fun c14 => ?_)
        · have h := if_t ((i2_eq (x := r12) (y := 0) hr13 (by decide)).mp c14) h
          exact J50 (x1, s2) _ _ _ ⟨hP, hS, lv_sub hl [0, 1, 2] rfl, h⟩
        · have h := if_f (mt (i2_eq (x := r12) (y := 0) hr13 (by decide)).mpr c14) h
          refine lv_aload_n hx hb eX7_findFits_21.2.2.2.2.2.1 rfl (lv_at hl 0 rfl) ?_
          refine va_get (D := D) (ci := 7) (v := .ref (a 14)) (C := RX7) (T := TX7) (N := 6) hx hb ht inX7 hown hK hP 11 CW_11 rfl 3 (by decide) (ht (.fieldLink RX7 18 "CloneVolumes$Sight" "fit" "[I") fl_X7_18) (fun _ h9 => h9) rfl eX7_findFits_21.2.2.2.2.2.2.1 ?_
          refine lv_aload_n hx hb eX7_findFits_21.2.2.2.2.2.2.2 rfl (lv_at hl 0 rfl) ?_
          refine va_get (D := D) (ci := 7) (v := .int (i2 (gI s2 224))) (C := RX7) (T := TX7) (N := 6) hx hb ht inX7 hown hK hP 11 CW_11 rfl 4 (by decide) (ht (.fieldLink RX7 37 "CloneVolumes$Sight" "fits" "I") fl_X7_37) (fun _ h9 => h9) rfl eX7_findFits_35.1 ?_
          refine lv_iload_n hx hb eX7_findFits_35.2.1 rfl (lv_at hl 2 rfl) ?_
          obtain ⟨hi15, h⟩ := inb_e h
          refine ya_iast (i := (gI s2 224)) (x := x1) hx hb hK hP (hDD _) hS 14 0 CW_14 rfl (by decide) hi15 eX7_findFits_35.2.2.1 (CW_w14 _) (fun H locs hP hS => ?_)
          obtain ⟨s16, hs16, h⟩ := st_e h
          rw [hs16] at hP
          refine lv_aload_n hx hb eX7_findFits_35.2.2.2.1 rfl (lv_at hl 0 rfl) ?_
          refine lv_dup hx hb eX7_findFits_35.2.2.2.2.1 rfl ?_
          refine va_get (D := D) (ci := 7) (v := .int (i2 (gI s16 224))) (C := RX7) (T := TX7) (N := 6) hx hb ht inX7 hown hK hP 11 CW_11 rfl 4 (by decide) (ht (.fieldLink RX7 37 "CloneVolumes$Sight" "fits" "I") fl_X7_37) (fun _ h9 => h9) rfl eX7_findFits_35.2.2.2.2.2.1 ?_
          refine lv_iconst (v := 1) hx hb eX7_findFits_35.2.2.2.2.2.2.1 (by decide) ?_
          refine lv_iadd hx hb eX7_findFits_35.2.2.2.2.2.2.2 ?_
          refine z_topi (y := i2 ((gI s16 224) + 1)) (i2_add (gI s16 224) 1) ?_
          refine ya_put (D := D) (ci := 7) (v := .int (i2 ((gI s16 224) + 1))) (ty := .int) (C := RX7) (T := TX7) (N := 6) hx hb ht inX7 tyX7 tyX7_ok nmX7 hown hK hP (hDD _) hS 11 CW_11 rfl 4 (by decide) (ht (.fieldLink RX7 37 "CloneVolumes$Sight" "fits" "I") fl_X7_37) (fun _ h9 => h9) rfl (by decide +kernel) rfl rfl (Nat.le_of_ble_eq_true rfl) eX7_findFits_47.1 (CW_w11_4 ((gI s16 224) + 1)) (fun H locs hP hS => ?_)
          obtain ⟨s17, hs17, h⟩ := st_e h
          rw [hs17] at hP
          exact J50 (x1, s17) _ _ _ ⟨hP, hS, lv_sub hl [0, 1, 2] rfl, h⟩
  refine lv_aload_n hx hb eX7_agrees_32.2.2.2.2.1 rfl (lv_at hl 0 rfl) ?_
  refine lv_iconst (v := 0) hx hb eX7_agrees_32.2.2.2.2.2.1 (by decide) ?_
  refine ya_put (D := D) (ci := 7) (v := .int 0) (ty := .int) (C := RX7) (T := TX7) (N := 6) hx hb ht inX7 tyX7 tyX7_ok nmX7 hown hK hP (hDD _) hS 11 CW_11 rfl 4 (by decide) (ht (.fieldLink RX7 37 "CloneVolumes$Sight" "fits" "I") fl_X7_37) (fun _ h9 => h9) rfl (by decide +kernel) rfl rfl (Nat.le_of_ble_eq_true rfl) eX7_agrees_32.2.2.2.2.2.2.1 (CW_w11_4 0) (fun H locs hP hS => ?_)
  obtain ⟨s18, hs18, h⟩ := st_e h
  rw [hs18] at hP
  refine lv_iconst (v := 0) hx hb eX7_agrees_32.2.2.2.2.2.2.2 (by decide) ?_
  refine lv_istore_n (lv' := [(2, .int 0), (0, .ref (a 11)), (1, .ref (a 53))]) hx hb eX7_findFits_6.1 rfl hl (by decide) rfl (fun ls hl => ?_)
  exact J7 FU (0, s18) _ _ _ ⟨hP, hS, lv_sub hl [1, 2, 0] rfl, h⟩
set_option maxHeartbeats 4000000 in
set_option maxRecDepth 100000 in
theorem k_x11_fits (l : Launch) (D : va_G) (a : Nat → Nat) (p0 : Int) (sz : Nat) (s : MS) (o : (Int × MS)) (h : m_x11_fits p0 s = some o) : yWi l yX11_fits cX11_fits 3 (some .int) { frames := 7, cells := 0, slots := 0, locals := 420 } D sz [.ref (a 0), .int (i2 p0)] (CS D a s) (CS D a o.2) (i2 o.1) := by
  refine Met.ofW (cc := cX11_fits) (maxL := 3) (ret := (some .int)) (by decide) rfl ?_
  intro p e s₀ m args below meth c s₁ B hml hv
  obtain ⟨rfl, ⟨hsz, hP, hK, hD0⟩, hN⟩ := hv
  have hx := B.exec
  have hb := B.bytes
  have hr := B.returns
  have hts := atoms_spec (ws := wz yX11_fits cX11_fits 3 (some .int)) B.pre
  have ht : ∀ w ∈ lw_gd, w.before _ s₀ = true := fun w h => hts w (List.mem_cons_of_mem _ h)
  have hown : s₀.vm.findClass RX11 = some m.cls := findClass_of_methodNamed B.named
  have hlocks := B.notSynchronized
  subst hsz
  have hD := hD0.self (sz := s₀.heap.size)
  generalize hAe : va_A (CS D a s) s₀.heap.size = A at hD ⊢
  have hA : ∀ q : Nat, s₀.heap.size ≤ q → A q := fun q h => by rw [← hAe]; exact Or.inr h
  have hS : va_S A s₀.heap s₀.heap [] := va_S.rf
  have hDD : ∀ t : MS, va_D A (CS D a t) := fun t => CW_D t hD
  have hl := lv_entry ([.ref (a 0), .int (i2 p0)]) (n := 3) (Nat.le_of_ble_eq_true rfl)
  rw [lg_entry_eq]
  generalize (lg_sl ([.ref (a 0), .int (i2 p0)]) ++ List.replicate (3 - (lg_sl ([.ref (a 0), .int (i2 p0)])).length) Slot.unset).toArray = ls at hl ⊢
  have hl : lv_has ls 3 [(0, .ref (a 0)), (1, .int (i2 p0))] := hl
  unfold m_x11_fits at h
  refine y_head (pcJ := 44) (σ := Int × MS) (fun u H locs ls => va_P D vwCl (CS D a u.2) H ∧ va_S A s₀.heap H locs ∧ lv_has ls 3 [] ∧ m_x11_fits_J44 u.1 u.2 = some o) (fun u => [.int (i2 u.1)]) (fun u H locs ls hI => ?_) (fun J44 => ?_)
  · obtain ⟨hP, hS, hl, h⟩ := hI
    obtain ⟨x1, s2⟩ := u
    have hP : va_P D vwCl (CS D a s2) H := hP
    have hl : lv_has ls 3 [] := hl
    have h : m_x11_fits_J44 x1 s2 = some o := h
    unfold m_x11_fits_J44 at h
    obtain rfl := Option.some.inj h
    exact W.iret (v := (i2 x1)) hx hb hr (fun t ht hW => ⟨⟨_, (), rfl, rfl, by rw [ht]; exact hP, va_K.moved hW.alike hK, hDD _⟩, hS.F ht⟩) hS.2.2 eX11_fits_38.2.2.2.2.1
  refine y_head (pcJ := 43) (σ := MS) (fun u H locs ls => va_P D vwCl (CS D a u) H ∧ va_S A s₀.heap H locs ∧ lv_has ls 3 [] ∧ m_x11_fits_J43 u = some o) (fun u => []) (fun u H locs ls hI => ?_) (fun J43 => ?_)
  · obtain ⟨hP, hS, hl, h⟩ := hI
    obtain ⟨s3, rfl⟩ : ∃ z, z = u := ⟨u, rfl⟩
    have hP : va_P D vwCl (CS D a s3) H := hP
    have hl : lv_has ls 3 [] := hl
    have h : m_x11_fits_J43 s3 = some o := h
    unfold m_x11_fits_J43 at h
    refine lv_iconst (v := (-1)) hx hb eX11_fits_38.2.2.2.1 (by decide) ?_
    exact J44 ((-1), s3) _ _ _ ⟨hP, hS, lv_sub hl [] rfl, h⟩
  refine lv_aload_n hx hb eX11_back_41.2.2.2.2.1 rfl (lv_at hl 0 rfl) ?_
  refine va_get (D := D) (ci := 11) (v := .ref (a 11)) (C := RX11) (T := TX11) (N := 13) hx hb ht inX11 hown hK hP 0 CW_0 rfl 3 (by decide) (ht (.fieldLink RX11 35 "CloneVolumes" "sight" "LCloneVolumes$Sight;") fl_X11_35) (fun _ h9 => h9) rfl eX11_back_41.2.2.2.2.2.1 ?_
  refine lv_aload_n hx hb eX11_back_41.2.2.2.2.2.2.1 rfl (lv_at hl 0 rfl) ?_
  refine va_get (D := D) (ci := 11) (v := .ref (a 49)) (C := RX11) (T := TX11) (N := 13) hx hb ht inX11 hown hK hP 0 CW_0 rfl 11 (by decide) (ht (.fieldLink RX11 79 "CloneVolumes" "forest" "LCloneVolumes$Forest;") fl_X11_79) (fun _ h9 => h9) rfl eX11_back_41.2.2.2.2.2.2.2 ?_
  refine va_get (D := D) (ci := 1) (v := .ref (a 53)) (C := RX1) (T := TX1) (N := 9) hx hb ht inX1 hown hK hP 49 CW_49 rfl 0 (by decide) (ht (.fieldLink RX11 125 "CloneVolumes$Forest" "now" "LCloneVolumes$State;") fl_X11_125) (fun _ h9 => h9) rfl eX11_fits_8.1 ?_
  obtain ⟨⟨r6, s5⟩, hc4, h⟩ := bn_e h
  refine ywV (r0 := i2 r6) (As := [.ref (a 53)]) (rest := []) (C := RX7) (n := 1) (ws' := CS D a s5) ⟨hx, hb, hml, hown, ht⟩ (k_x7_findFits l D a _ _ _ hc4) (zgV ml_X11_262 im_X7_findFits se_X7_findFits in_X7 co_X7_findFits) rfl rfl (by decide +kernel) ⟨Nat.le_of_ble_eq_true rfl, Nat.le_of_ble_eq_true rfl⟩ hN hK hP (hDD _) hS hA 11 CW_11 rfl rfl rfl hl.1 rfl (Nat.le_of_ble_eq_true rfl) eX11_fits_8.2.1 ⟨Nat.le_of_ble_eq_true rfl, Nat.le_of_ble_eq_true rfl⟩ (fun H locs hP hS => ?_)
  refine lv_istore_n (lv' := [(2, .int (i2 r6)), (0, .ref (a 0)), (1, .int (i2 p0))]) hx hb eX11_fits_8.2.2.1 rfl hl (by decide) rfl (fun ls hl => ?_)
  refine lv_iload_n hx hb eX11_fits_8.2.2.2.1 rfl (lv_at hl 2 rfl) ?_
  refine lv_iconst (v := (-1)) hx hb eX11_fits_8.2.2.2.2.1 (by decide) ?_
  obtain ⟨hr7, h⟩ := rg_e h
  refine lv_icmp_ne (tgt := 22) hx hb eX11_fits_8.2.2.2.2.2.1 (by decide) (fun c8 => ?_) (fun c8 => ?_)
  · rw [show ((-1) : Int32) = i2 (-1) from by decide] at c8
    have h := if_f (mt (i2_eq (x := p0) (y := (-1)) hr7 (by decide)).mpr c8) h
    refine lv_iload_n hx hb eX11_fits_22.1 rfl (lv_at hl 2 rfl) ?_
    obtain ⟨hr9, h⟩ := rg_e h
    refine lv_if_lt (tgt := 43) hx hb eX11_fits_22.2.1 (by decide) (fun c10 => ?_) (fun c10 => ?_)
    · have h := if_t ((i2_lt (x := p0) (y := 0) hr9 (by decide)).mp c10) h
      exact J43 s5 _ _ _ ⟨hP, hS, lv_sub hl [] rfl, h⟩
    · have h := if_f (mt (i2_lt (x := p0) (y := 0) hr9 (by decide)).mpr c10) h
      refine lv_iload_n hx hb eX11_fits_22.2.2.1 rfl (lv_at hl 2 rfl) ?_
      refine lv_iload_n hx hb eX11_fits_22.2.2.2.1 rfl (lv_at hl 0 rfl) ?_
      obtain ⟨hr11, h⟩ := rg_e h
      obtain ⟨hr12, h⟩ := rg_e h
      refine lv_icmp_ge (tgt := 43) hx hb eX11_fits_22.2.2.2.2.1 (by decide) (fun c13 => ?_) (fun c13 => ?_)
      · have h := if_t ((i2_le (x := r6) (y := p0) hr12 hr11).mp c13) h
        exact J43 s5 _ _ _ ⟨hP, hS, lv_sub hl [] rfl, h⟩
      · have h := if_f (mt (i2_le (x := r6) (y := p0) hr12 hr11).mpr c13) h
        refine lv_aload_n hx hb eX11_fits_22.2.2.2.2.2.1 rfl (lv_at hl 1 rfl) ?_
        refine va_get (D := D) (ci := 11) (v := .ref (a 11)) (C := RX11) (T := TX11) (N := 13) hx hb ht inX11 hown hK hP 0 CW_0 rfl 3 (by decide) (ht (.fieldLink RX11 35 "CloneVolumes" "sight" "LCloneVolumes$Sight;") fl_X11_35) (fun _ h9 => h9) rfl eX11_fits_22.2.2.2.2.2.2.1 ?_
        refine va_get (D := D) (ci := 7) (v := .ref (a 14)) (C := RX7) (T := TX7) (N := 6) hx hb ht inX7 hown hK hP 11 CW_11 rfl 3 (by decide) (ht (.fieldLink RX11 266 "CloneVolumes$Sight" "fit" "[I") fl_X11_266) (fun _ h9 => h9) rfl eX11_fits_22.2.2.2.2.2.2.2 ?_
        refine lv_iload_n hx hb eX11_fits_38.1 rfl (lv_at hl 2 rfl) ?_
        obtain ⟨y14, ey14, iy14, h⟩ := rdI_e h
        refine ya_iald (i := p0) hx hb hK hP 14 0 CW_14 rfl (by decide) ey14 iy14 eX11_fits_38.2.1 ?_
        refine lv_goto (tgt := 44) hx hb eX11_fits_38.2.2.1 (by decide) ?_
        exact J44 (y14, s5) _ _ _ ⟨hP, hS, lv_sub hl [] rfl, h⟩
  · rw [show ((-1) : Int32) = i2 (-1) from by decide] at c8
    have h := if_t ((i2_eq (x := p0) (y := (-1)) hr7 (by decide)).mp c8) h
    refine lv_iload_n hx hb eX11_fits_8.2.2.2.2.2.2.1 rfl (lv_at hl 0 rfl) ?_
    obtain rfl := Option.some.inj h
    exact W.iret (v := (i2 r6)) hx hb hr (fun t ht hW => ⟨⟨_, (), rfl, rfl, by rw [ht]; exact hP, va_K.moved hW.alike hK, hDD _⟩, hS.F ht⟩) hS.2.2 eX11_fits_8.2.2.2.2.2.2.2
set_option maxHeartbeats 4000000 in
set_option maxRecDepth 100000 in
theorem k_x7_mostLeft (l : Launch) (D : va_G) (a : Nat → Nat) (p1 : Int) (sz : Nat) (s : MS) (o : (Int × MS)) (h : m_x7_mostLeft p1 s = some o) : yWi l yX7_mostLeft cX7_mostLeft 7 (some .int) { frames := 5, cells := 0, slots := 0, locals := 300 } D sz [.ref (a 11), .ref (a 53), .int (i2 p1)] (CS D a s) (CS D a o.2) (i2 o.1) := by
  refine Met.ofW (cc := cX7_mostLeft) (maxL := 7) (ret := (some .int)) (by decide) rfl ?_
  intro p e s₀ m args below meth c s₁ B hml hv
  obtain ⟨rfl, ⟨hsz, hP, hK, hD0⟩, hN⟩ := hv
  have hx := B.exec
  have hb := B.bytes
  have hr := B.returns
  have hts := atoms_spec (ws := wz yX7_mostLeft cX7_mostLeft 7 (some .int)) B.pre
  have ht : ∀ w ∈ lw_gd, w.before _ s₀ = true := fun w h => hts w (List.mem_cons_of_mem _ h)
  have hown : s₀.vm.findClass RX7 = some m.cls := findClass_of_methodNamed B.named
  have hlocks := B.notSynchronized
  subst hsz
  have hD := hD0.self (sz := s₀.heap.size)
  generalize hAe : va_A (CS D a s) s₀.heap.size = A at hD ⊢
  have hA : ∀ q : Nat, s₀.heap.size ≤ q → A q := fun q h => by rw [← hAe]; exact Or.inr h
  have hS : va_S A s₀.heap s₀.heap [] := va_S.rf
  have hDD : ∀ t : MS, va_D A (CS D a t) := fun t => CW_D t hD
  have hl := lv_entry ([.ref (a 11), .ref (a 53), .int (i2 p1)]) (n := 7) (Nat.le_of_ble_eq_true rfl)
  rw [lg_entry_eq]
  generalize (lg_sl ([.ref (a 11), .ref (a 53), .int (i2 p1)]) ++ List.replicate (7 - (lg_sl ([.ref (a 11), .ref (a 53), .int (i2 p1)])).length) Slot.unset).toArray = ls at hl ⊢
  have hl : lv_has ls 7 [(0, .ref (a 11)), (1, .ref (a 53)), (2, .int (i2 p1))] := hl
  unfold m_x7_mostLeft at h
  refine y_loop (pcJ := 5) (σ := Int × Int × Int × MS) (fun n u H locs ls => va_P D vwCl (CS D a u.2.2.2) H ∧ va_S A s₀.heap H locs ∧ lv_has ls 7 [(0, .ref (a 11)), (1, .ref (a 53)), (2, .int (i2 u.1)), (3, .int (i2 u.2.1)), (4, .int (i2 u.2.2.1))] ∧ m_x7_mostLeft_L5 n u.1 u.2.1 u.2.2.1 u.2.2.2 = some o) (fun u => []) (fun u H locs ls hI => by obtain ⟨_, _, _, h⟩ := hI; cases h) (fun n5 ih5 u H locs ls hI => ?_) (fun J5 => ?_)
  · obtain ⟨hP, hS, hl, h⟩ := hI
    obtain ⟨x1, x2, x3, s4⟩ := u
    have hP : va_P D vwCl (CS D a s4) H := hP
    have hl : lv_has ls 7 [(0, .ref (a 11)), (1, .ref (a 53)), (2, .int (i2 x1)), (3, .int (i2 x2)), (4, .int (i2 x3))] := hl
    have h : m_x7_mostLeft_b5 (m_x7_mostLeft_L5 n5) x1 x2 x3 s4 = some o := h
    unfold m_x7_mostLeft_b5 at h
    refine y_loop (pcJ := 39) (σ := Int × Int × Int × Int × Int × MS) (fun n u H locs ls => va_P D vwCl (CS D a u.2.2.2.2.2) H ∧ va_S A s₀.heap H locs ∧ lv_has ls 7 [(0, .ref (a 11)), (1, .ref (a 53)), (2, .int (i2 u.1)), (3, .int (i2 u.2.1)), (4, .int (i2 u.2.2.1)), (5, .int (i2 u.2.2.2.1)), (6, .int (i2 u.2.2.2.2.1))] ∧ m_x7_mostLeft_L39 (m_x7_mostLeft_L5 n5) n u.1 u.2.1 u.2.2.1 u.2.2.2.1 u.2.2.2.2.1 u.2.2.2.2.2 = some o) (fun u => []) (fun u H locs ls hI => by obtain ⟨_, _, _, h⟩ := hI; cases h) (fun n39 ih39 u H locs ls hI => ?_) (fun J39 => ?_)
    · obtain ⟨hP, hS, hl, h⟩ := hI
      obtain ⟨x5, x6, x7, x8, x9, s10⟩ := u
      have hP : va_P D vwCl (CS D a s10) H := hP
      have hl : lv_has ls 7 [(0, .ref (a 11)), (1, .ref (a 53)), (2, .int (i2 x5)), (3, .int (i2 x6)), (4, .int (i2 x7)), (5, .int (i2 x8)), (6, .int (i2 x9))] := hl
      have h : m_x7_mostLeft_b39 (m_x7_mostLeft_L5 n5) (m_x7_mostLeft_L39 (m_x7_mostLeft_L5 n5) n39) x5 x6 x7 x8 x9 s10 = some o := h
      unfold m_x7_mostLeft_b39 at h
      refine y_head (pcJ := 70) (σ := Int × Int × Int × Int × Int × Int × MS) (fun u H locs ls => va_P D vwCl (CS D a u.2.2.2.2.2.2) H ∧ va_S A s₀.heap H locs ∧ lv_has ls 7 [(0, .ref (a 11)), (1, .ref (a 53)), (2, .int (i2 u.1)), (3, .int (i2 u.2.1)), (4, .int (i2 u.2.2.1)), (6, .int (i2 u.2.2.2.1))] ∧ m_x7_mostLeft_J70 (m_x7_mostLeft_L5 n5) (m_x7_mostLeft_L39 (m_x7_mostLeft_L5 n5) n39) u.1 u.2.1 u.2.2.1 u.2.2.2.1 u.2.2.2.2.1 u.2.2.2.2.2.1 u.2.2.2.2.2.2 = some o) (fun u => [.int (i2 u.2.2.2.2.1), .int (i2 u.2.2.2.2.2.1)]) (fun u H locs ls hI => ?_) (fun J70 => ?_)
      · obtain ⟨hP, hS, hl, h⟩ := hI
        obtain ⟨x11, x12, x13, x14, x15, x16, s17⟩ := u
        have hP : va_P D vwCl (CS D a s17) H := hP
        have hl : lv_has ls 7 [(0, .ref (a 11)), (1, .ref (a 53)), (2, .int (i2 x11)), (3, .int (i2 x12)), (4, .int (i2 x13)), (6, .int (i2 x14))] := hl
        have h : m_x7_mostLeft_J70 (m_x7_mostLeft_L5 n5) (m_x7_mostLeft_L39 (m_x7_mostLeft_L5 n5) n39) x11 x12 x13 x14 x15 x16 s17 = some o := h
        unfold m_x7_mostLeft_J70 at h
        refine lv_iadd hx hb eX7_mostLeft_61.2.2.2.2.2.1 ?_
        refine z_topi (y := i2 (x16 + x15)) (i2_add x16 x15) ?_
        refine lv_istore (lv' := [(5, .int (i2 (x16 + x15))), (0, .ref (a 11)), (1, .ref (a 53)), (2, .int (i2 x11)), (3, .int (i2 x12)), (4, .int (i2 x13)), (6, .int (i2 x14))]) hx hb eX7_mostLeft_61.2.2.2.2.2.2.1 hl (by decide) rfl (fun ls hl => ?_)
        refine lv_iinc (v := i2 (x14 + 1)) (lv' := [(6, .int (i2 (x14 + 1))), (5, .int (i2 (x16 + x15))), (0, .ref (a 11)), (1, .ref (a 53)), (2, .int (i2 x11)), (3, .int (i2 x12)), (4, .int (i2 x13))]) hx hb eX7_mostLeft_61.2.2.2.2.2.2.2 hl (k := 6) rfl (i2_add x14 1) (by decide) rfl (fun ls hl => ?_)
        refine lv_goto (tgt := 39) hx hb eX7_mostLeft_76.1 (by decide) ?_
        exact ih39 (x11, x12, x13, x16 + x15, x14 + 1, s17) _ _ _ ⟨hP, hS, lv_sub hl [2, 3, 4, 5, 6, 1, 0] rfl, h⟩
      refine lv_iload hx hb eX7_mostLeft_32.2.2.2.2.2.1 (lv_at hl 6 rfl) ?_
      refine lv_iload hx hb eX7_mostLeft_32.2.2.2.2.2.2.1 (lv_at hl 4 rfl) ?_
      obtain ⟨hr18, h⟩ := rg_e h
      obtain ⟨hr19, h⟩ := rg_e h
      refine lv_icmp_gt (tgt := 79) hx hb eX7_mostLeft_32.2.2.2.2.2.2.2 (by decide) (fun c20 => ?_) (fun c20 => ?_)
      · have h := if_t ((i2_lt (x := x7) (y := x9) hr19 hr18).mp c20) h
        refine lv_iload_n hx hb eX7_mostLeft_76.2.1 rfl (lv_at hl 3 rfl) ?_
        refine lv_iload hx hb eX7_mostLeft_76.2.2.1 (lv_at hl 5 rfl) ?_
        obtain ⟨hr21, h⟩ := rg_e h
        obtain ⟨hr22, h⟩ := rg_e h
        refine va_mmax hx hb (by rw [hml]; exact hl.1.symm) hown (ht _ ml_X7_54) (ht _ st_mmax) (ht _ in_math) (ht _ co_mmax) (Nat.le_of_ble_eq_true rfl) (Nat.le_of_ble_eq_true rfl) (Nat.le_of_ble_eq_true rfl) (Nat.le_of_ble_eq_true rfl) eX7_mostLeft_76.2.2.2.1 ?_
        refine z_topi (y := i2 (maxZ x6 x8)) (i2_max (x := x6) (y := x8) hr21 hr22) ?_
        refine lv_istore_n (lv' := [(3, .int (i2 (maxZ x6 x8))), (0, .ref (a 11)), (1, .ref (a 53)), (2, .int (i2 x5)), (4, .int (i2 x7)), (5, .int (i2 x8)), (6, .int (i2 x9))]) hx hb eX7_mostLeft_76.2.2.2.2.1 rfl hl (by decide) rfl (fun ls hl => ?_)
        refine lv_iinc (v := i2 (x7 + 1)) (lv' := [(4, .int (i2 (x7 + 1))), (3, .int (i2 (maxZ x6 x8))), (0, .ref (a 11)), (1, .ref (a 53)), (2, .int (i2 x5)), (5, .int (i2 x8)), (6, .int (i2 x9))]) hx hb eX7_mostLeft_76.2.2.2.2.2.1 hl (k := 4) rfl (i2_add x7 1) (by decide) rfl (fun ls hl => ?_)
        refine lv_goto (tgt := 5) hx hb eX7_mostLeft_76.2.2.2.2.2.2.1 (by decide) ?_
        exact ih5 (x5, maxZ x6 x8, x7 + 1, s10) _ _ _ ⟨hP, hS, lv_sub hl [2, 3, 4, 1, 0] rfl, h⟩
      · have h := if_f (mt (i2_lt (x := x7) (y := x9) hr19 hr18).mpr c20) h
        refine lv_iload hx hb eX7_mostLeft_46.1 (lv_at hl 5 rfl) ?_
        refine lv_aload_n hx hb eX7_mostLeft_46.2.1 rfl (lv_at hl 0 rfl) ?_
        refine va_get (D := D) (ci := 7) (v := .ref (a 15)) (C := RX7) (T := TX7) (N := 6) hx hb ht inX7 hown hK hP 11 CW_11 rfl 5 (by decide) (ht (.fieldLink RX7 21 "CloneVolumes$Sight" "readings" "[I") fl_X7_21) (fun _ h9 => h9) rfl eX7_mostLeft_46.2.2.1 ?_
        refine lv_iload hx hb eX7_mostLeft_46.2.2.2.1 (lv_at hl 6 rfl) ?_
        obtain ⟨y23, ey23, iy23, h⟩ := rdI_e h
        refine ya_iald (i := x9) hx hb hK hP 15 0 CW_15 rfl (by decide) ey23 iy23 eX7_mostLeft_46.2.2.2.2.1 ?_
        refine lv_aload_n hx hb eX7_mostLeft_46.2.2.2.2.2.1 rfl (lv_at hl 0 rfl) ?_
        refine va_get (D := D) (ci := 7) (v := .ref (a 15)) (C := RX7) (T := TX7) (N := 6) hx hb ht inX7 hown hK hP 11 CW_11 rfl 5 (by decide) (ht (.fieldLink RX7 21 "CloneVolumes$Sight" "readings" "[I") fl_X7_21) (fun _ h9 => h9) rfl eX7_mostLeft_46.2.2.2.2.2.2.1 ?_
        refine lv_iload hx hb eX7_mostLeft_46.2.2.2.2.2.2.2 (lv_at hl 4 rfl) ?_
        obtain ⟨y24, ey24, iy24, h⟩ := rdI_e h
        refine ya_iald (i := x7) hx hb hK hP 15 0 CW_15 rfl (by decide) ey24 iy24 eX7_mostLeft_61.1 ?_
        obtain ⟨hr25, h⟩ := rg_e h
        obtain ⟨hr26, h⟩ := rg_e h
        refine lv_icmp_ne (tgt := 69) hx hb eX7_mostLeft_61.2.1 (by decide) (fun c27 => ?_) (fun c27 => ?_)
        · have h := if_f (mt (i2_eq (x := y23) (y := y24) hr25 hr26).mpr c27) h
          refine lv_iconst (v := 0) hx hb eX7_mostLeft_61.2.2.2.2.1 (by decide) ?_
          exact J70 (x5, x6, x7, x9, 0, x8, s10) _ _ _ ⟨hP, hS, lv_sub hl [0, 1, 2, 3, 4, 6] rfl, h⟩
        · have h := if_t ((i2_eq (x := y23) (y := y24) hr25 hr26).mp c27) h
          refine lv_iconst (v := 1) hx hb eX7_mostLeft_61.2.2.1 (by decide) ?_
          refine lv_goto (tgt := 70) hx hb eX7_mostLeft_61.2.2.2.1 (by decide) ?_
          exact J70 (x5, x6, x7, x9, 1, x8, s10) _ _ _ ⟨hP, hS, lv_sub hl [0, 1, 2, 3, 4, 6] rfl, h⟩
    refine lv_iload hx hb eX7_mostLeft_2.2.2.1 (lv_at hl 4 rfl) ?_
    refine lv_aload_n hx hb eX7_mostLeft_2.2.2.2.1 rfl (lv_at hl 0 rfl) ?_
    refine va_get (D := D) (ci := 7) (v := .int (i2 (gI s4 224))) (C := RX7) (T := TX7) (N := 6) hx hb ht inX7 hown hK hP 11 CW_11 rfl 4 (by decide) (ht (.fieldLink RX7 37 "CloneVolumes$Sight" "fits" "I") fl_X7_37) (fun _ h9 => h9) rfl eX7_mostLeft_2.2.2.2.2.1 ?_
    obtain ⟨hr28, h⟩ := rg_e h
    obtain ⟨hr29, h⟩ := rg_e h
    refine lv_icmp_ge (tgt := 92) hx hb eX7_mostLeft_2.2.2.2.2.2.1 (by decide) (fun c30 => ?_) (fun c30 => ?_)
    · have h := if_t ((i2_le (x := (gI s4 224)) (y := x3) hr29 hr28).mp c30) h
      refine lv_iload_n hx hb eX7_mostLeft_76.2.2.2.2.2.2.2 rfl (lv_at hl 3 rfl) ?_
      obtain rfl := Option.some.inj h
      exact W.iret (v := (i2 x2)) hx hb hr (fun t ht hW => ⟨⟨_, (), rfl, rfl, by rw [ht]; exact hP, va_K.moved hW.alike hK, hDD _⟩, hS.F ht⟩) hS.2.2 eX7_mostLeft_93.1
    · have h := if_f (mt (i2_le (x := (gI s4 224)) (y := x3) hr29 hr28).mpr c30) h
      refine lv_aload_n hx hb eX7_mostLeft_2.2.2.2.2.2.2.1 rfl (lv_at hl 0 rfl) ?_
      refine va_get (D := D) (ci := 7) (v := .ref (a 15)) (C := RX7) (T := TX7) (N := 6) hx hb ht inX7 hown hK hP 11 CW_11 rfl 5 (by decide) (ht (.fieldLink RX7 21 "CloneVolumes$Sight" "readings" "[I") fl_X7_21) (fun _ h9 => h9) rfl eX7_mostLeft_2.2.2.2.2.2.2.2 ?_
      refine lv_iload hx hb eX7_mostLeft_18.1 (lv_at hl 4 rfl) ?_
      refine lv_aload_n hx hb eX7_mostLeft_18.2.1 rfl (lv_at hl 1 rfl) ?_
      refine lv_aload_n hx hb eX7_mostLeft_18.2.2.1 rfl (lv_at hl 0 rfl) ?_
      refine va_get (D := D) (ci := 7) (v := .ref (a 14)) (C := RX7) (T := TX7) (N := 6) hx hb ht inX7 hown hK hP 11 CW_11 rfl 3 (by decide) (ht (.fieldLink RX7 18 "CloneVolumes$Sight" "fit" "[I") fl_X7_18) (fun _ h9 => h9) rfl eX7_mostLeft_18.2.2.2.1 ?_
      refine lv_iload hx hb eX7_mostLeft_18.2.2.2.2.1 (lv_at hl 4 rfl) ?_
      obtain ⟨y31, ey31, iy31, h⟩ := rdI_e h
      refine ya_iald (i := x3) hx hb hK hP 14 0 CW_14 rfl (by decide) ey31 iy31 eX7_mostLeft_18.2.2.2.2.2.1 ?_
      refine lv_iload_n hx hb eX7_mostLeft_18.2.2.2.2.2.2.1 rfl (lv_at hl 2 rfl) ?_
      obtain ⟨r33, hc32, h⟩ := bn_e h
      refine ycS (r0 := i2 r33) (As := [.ref (a 53), .int (i2 y31), .int (i2 x1)]) (rest := [.int (i2 x3), .ref (a 15)]) (n := 3) ⟨hx, hb, hml, hown, ht⟩ (k_x7_reading l D a y31 x1 _ _ hc32) (zgT ml_X7_50 st_X7_reading in_X7 co_X7_reading) rfl rfl (by decide +kernel) ⟨Nat.le_of_ble_eq_true rfl, Nat.le_of_ble_eq_true rfl⟩ hN hK hP hS rfl hl.1 rfl (Nat.le_of_ble_eq_true rfl) eX7_mostLeft_18.2.2.2.2.2.2.2 ⟨Nat.le_of_ble_eq_true rfl, Nat.le_of_ble_eq_true rfl⟩ (fun H locs hP hS => ?_)
      obtain ⟨hi34, h⟩ := inb_e h
      refine ya_iast (i := x3) (x := r33) hx hb hK hP (hDD _) hS 15 0 CW_15 rfl (by decide) hi34 eX7_mostLeft_32.1 (CW_w15 _) (fun H locs hP hS => ?_)
      obtain ⟨s35, hs35, h⟩ := st_e h
      rw [hs35] at hP
      refine lv_iconst (v := 0) hx hb eX7_mostLeft_32.2.1 (by decide) ?_
      refine lv_istore (lv' := [(5, .int 0), (0, .ref (a 11)), (1, .ref (a 53)), (2, .int (i2 x1)), (3, .int (i2 x2)), (4, .int (i2 x3))]) hx hb eX7_mostLeft_32.2.2.1 hl (by decide) rfl (fun ls hl => ?_)
      refine lv_iconst (v := 0) hx hb eX7_mostLeft_32.2.2.2.1 (by decide) ?_
      refine lv_istore (lv' := [(6, .int 0), (5, .int 0), (0, .ref (a 11)), (1, .ref (a 53)), (2, .int (i2 x1)), (3, .int (i2 x2)), (4, .int (i2 x3))]) hx hb eX7_mostLeft_32.2.2.2.2.1 hl (by decide) rfl (fun ls hl => ?_)
      exact J39 FU (x1, x2, x3, 0, 0, s35) _ _ _ ⟨hP, hS, lv_sub hl [2, 3, 4, 5, 6, 1, 0] rfl, h⟩
  refine lv_iconst (v := 0) hx hb eX7_findFits_47.2.2.2.2.2.2.1 (by decide) ?_
  refine lv_istore_n (lv' := [(3, .int 0), (0, .ref (a 11)), (1, .ref (a 53)), (2, .int (i2 p1))]) hx hb eX7_findFits_47.2.2.2.2.2.2.2 rfl hl (by decide) rfl (fun ls hl => ?_)
  refine lv_iconst (v := 0) hx hb eX7_mostLeft_2.1 (by decide) ?_
  refine lv_istore (lv' := [(4, .int 0), (3, .int 0), (0, .ref (a 11)), (1, .ref (a 53)), (2, .int (i2 p1))]) hx hb eX7_mostLeft_2.2.1 hl (by decide) rfl (fun ls hl => ?_)
  exact J5 FU (p1, 0, 0, s) _ _ _ ⟨hP, hS, lv_sub hl [2, 3, 4, 1, 0] rfl, h⟩
set_option maxHeartbeats 4000000 in
set_option maxRecDepth 100000 in
theorem k_x11_tells (l : Launch) (D : va_G) (a : Nat → Nat) (p0 : Int) (sz : Nat) (s : MS) (o : (Int × MS)) (h : m_x11_tells p0 s = some o) : yWi l yX11_tells cX11_tells 6 (some .int) { frames := 7, cells := 0, slots := 0, locals := 420 } D sz [.ref (a 0), .int (i2 p0)] (CS D a s) (CS D a o.2) (i2 o.1) := by
  refine Met.ofW (cc := cX11_tells) (maxL := 6) (ret := (some .int)) (by decide) rfl ?_
  intro p e s₀ m args below meth c s₁ B hml hv
  obtain ⟨rfl, ⟨hsz, hP, hK, hD0⟩, hN⟩ := hv
  have hx := B.exec
  have hb := B.bytes
  have hr := B.returns
  have hts := atoms_spec (ws := wz yX11_tells cX11_tells 6 (some .int)) B.pre
  have ht : ∀ w ∈ lw_gd, w.before _ s₀ = true := fun w h => hts w (List.mem_cons_of_mem _ h)
  have hown : s₀.vm.findClass RX11 = some m.cls := findClass_of_methodNamed B.named
  have hlocks := B.notSynchronized
  subst hsz
  have hD := hD0.self (sz := s₀.heap.size)
  generalize hAe : va_A (CS D a s) s₀.heap.size = A at hD ⊢
  have hA : ∀ q : Nat, s₀.heap.size ≤ q → A q := fun q h => by rw [← hAe]; exact Or.inr h
  have hS : va_S A s₀.heap s₀.heap [] := va_S.rf
  have hDD : ∀ t : MS, va_D A (CS D a t) := fun t => CW_D t hD
  have hl := lv_entry ([.ref (a 0), .int (i2 p0)]) (n := 6) (Nat.le_of_ble_eq_true rfl)
  rw [lg_entry_eq]
  generalize (lg_sl ([.ref (a 0), .int (i2 p0)]) ++ List.replicate (6 - (lg_sl ([.ref (a 0), .int (i2 p0)])).length) Slot.unset).toArray = ls at hl ⊢
  have hl : lv_has ls 6 [(0, .ref (a 0)), (1, .int (i2 p0))] := hl
  unfold m_x11_tells at h
  refine y_loop (pcJ := 27) (σ := Int × Int × Int × Int × MS) (fun n u H locs ls => va_P D vwCl (CS D a u.2.2.2.2) H ∧ va_S A s₀.heap H locs ∧ lv_has ls 6 [(0, .ref (a 0)), (1, .int (i2 u.1)), (2, .int (i2 u.2.1)), (3, .int (i2 u.2.2.1)), (4, .int (i2 u.2.2.2.1))] ∧ m_x11_tells_L27 n u.1 u.2.1 u.2.2.1 u.2.2.2.1 u.2.2.2.2 = some o) (fun u => []) (fun u H locs ls hI => by obtain ⟨_, _, _, h⟩ := hI; cases h) (fun n27 ih27 u H locs ls hI => ?_) (fun J27 => ?_)
  · obtain ⟨hP, hS, hl, h⟩ := hI
    obtain ⟨x1, x2, x3, x4, s5⟩ := u
    have hP : va_P D vwCl (CS D a s5) H := hP
    have hl : lv_has ls 6 [(0, .ref (a 0)), (1, .int (i2 x1)), (2, .int (i2 x2)), (3, .int (i2 x3)), (4, .int (i2 x4))] := hl
    have h : m_x11_tells_b27 (m_x11_tells_L27 n27) x1 x2 x3 x4 s5 = some o := h
    unfold m_x11_tells_b27 at h
    refine y_head (pcJ := 64) (σ := Int × Int × Int × Int × MS) (fun u H locs ls => va_P D vwCl (CS D a u.2.2.2.2) H ∧ va_S A s₀.heap H locs ∧ lv_has ls 6 [(0, .ref (a 0)), (1, .int (i2 u.1)), (2, .int (i2 u.2.1)), (3, .int (i2 u.2.2.1)), (4, .int (i2 u.2.2.2.1))] ∧ m_x11_tells_J64 (m_x11_tells_L27 n27) u.1 u.2.1 u.2.2.1 u.2.2.2.1 u.2.2.2.2 = some o) (fun u => []) (fun u H locs ls hI => ?_) (fun J64 => ?_)
    · obtain ⟨hP, hS, hl, h⟩ := hI
      obtain ⟨x6, x7, x8, x9, s10⟩ := u
      have hP : va_P D vwCl (CS D a s10) H := hP
      have hl : lv_has ls 6 [(0, .ref (a 0)), (1, .int (i2 x6)), (2, .int (i2 x7)), (3, .int (i2 x8)), (4, .int (i2 x9))] := hl
      have h : m_x11_tells_J64 (m_x11_tells_L27 n27) x6 x7 x8 x9 s10 = some o := h
      unfold m_x11_tells_J64 at h
      refine lv_iinc (v := i2 (x9 + 1)) (lv' := [(4, .int (i2 (x9 + 1))), (0, .ref (a 0)), (1, .int (i2 x6)), (2, .int (i2 x7)), (3, .int (i2 x8))]) hx hb eX11_tells_58.2.2.2.2.1 hl (k := 4) rfl (i2_add x9 1) (by decide) rfl (fun ls hl => ?_)
      refine lv_goto (tgt := 27) hx hb eX11_tells_58.2.2.2.2.2.1 (by decide) ?_
      exact ih27 (x6, x7, x8, x9 + 1, s10) _ _ _ ⟨hP, hS, lv_sub hl [1, 2, 3, 4, 0] rfl, h⟩
    refine lv_iload hx hb eX11_tells_24.2.2.1 (lv_at hl 4 rfl) ?_
    refine lv_bipush (v := 100) hx hb eX11_tells_24.2.2.2.1 (by decide) ?_
    obtain ⟨hr11, h⟩ := rg_e h
    refine lv_icmp_ge (tgt := 70) hx hb eX11_tells_24.2.2.2.2.1 (by decide) (fun c12 => ?_) (fun c12 => ?_)
    · have h := if_t ((i2_le (x := 100) (y := x4) (by decide) hr11).mp c12) h
      refine lv_iload_n hx hb eX11_tells_58.2.2.2.2.2.2.1 rfl (lv_at hl 1 rfl) ?_
      refine lv_iload_n hx hb eX11_tells_58.2.2.2.2.2.2.2 rfl (lv_at hl 2 rfl) ?_
      refine lv_iload_n hx hb eX11_tells_72.1 rfl (lv_at hl 3 rfl) ?_
      obtain ⟨r14, hc13, h⟩ := bn_e h
      refine ycS (r0 := i2 r14) (As := [.int (i2 x1), .int (i2 x2), .int (i2 x3)]) (rest := []) (n := 3) ⟨hx, hb, hml, hown, ht⟩ (k_x11_oneOf l D a x1 x2 x3 _ _ hc13) (zgT ml_X11_249 st_X11_oneOf in_X11 co_X11_oneOf) rfl rfl (by decide +kernel) ⟨Nat.le_of_ble_eq_true rfl, Nat.le_of_ble_eq_true rfl⟩ hN hK hP hS rfl hl.1 rfl (Nat.le_of_ble_eq_true rfl) eX11_tells_72.2.1 ⟨Nat.le_of_ble_eq_true rfl, Nat.le_of_ble_eq_true rfl⟩ (fun H locs hP hS => ?_)
      obtain rfl := Option.some.inj h
      exact W.iret (v := (i2 r14)) hx hb hr (fun t ht hW => ⟨⟨_, (), rfl, rfl, by rw [ht]; exact hP, va_K.moved hW.alike hK, hDD _⟩, hS.F ht⟩) hS.2.2 eX11_tells_72.2.2.1
    · have h := if_f (mt (i2_le (x := 100) (y := x4) (by decide) hr11).mpr c12) h
      refine lv_aload_n hx hb eX11_tells_24.2.2.2.2.2.1 rfl (lv_at hl 0 rfl) ?_
      refine va_get (D := D) (ci := 11) (v := .ref (a 11)) (C := RX11) (T := TX11) (N := 13) hx hb ht inX11 hown hK hP 0 CW_0 rfl 3 (by decide) (ht (.fieldLink RX11 35 "CloneVolumes" "sight" "LCloneVolumes$Sight;") fl_X11_35) (fun _ h9 => h9) rfl eX11_tells_24.2.2.2.2.2.2.1 ?_
      refine lv_aload_n hx hb eX11_tells_24.2.2.2.2.2.2.2 rfl (lv_at hl 0 rfl) ?_
      refine va_get (D := D) (ci := 11) (v := .ref (a 49)) (C := RX11) (T := TX11) (N := 13) hx hb ht inX11 hown hK hP 0 CW_0 rfl 11 (by decide) (ht (.fieldLink RX11 79 "CloneVolumes" "forest" "LCloneVolumes$Forest;") fl_X11_79) (fun _ h9 => h9) rfl eX11_tells_39.1 ?_
      refine va_get (D := D) (ci := 1) (v := .ref (a 53)) (C := RX1) (T := TX1) (N := 9) hx hb ht inX1 hown hK hP 49 CW_49 rfl 0 (by decide) (ht (.fieldLink RX11 125 "CloneVolumes$Forest" "now" "LCloneVolumes$State;") fl_X11_125) (fun _ h9 => h9) rfl eX11_tells_39.2.1 ?_
      refine lv_iload hx hb eX11_tells_39.2.2.1 (lv_at hl 4 rfl) ?_
      obtain ⟨⟨r17, s16⟩, hc15, h⟩ := bn_e h
      refine ywV (r0 := i2 r17) (As := [.ref (a 53), .int (i2 x4)]) (rest := []) (C := RX7) (n := 2) (ws' := CS D a s16) ⟨hx, hb, hml, hown, ht⟩ (k_x7_mostLeft l D a x4 _ _ _ hc15) (zgV ml_X11_269 im_X7_mostLeft se_X7_mostLeft in_X7 co_X7_mostLeft) rfl rfl (by decide +kernel) ⟨Nat.le_of_ble_eq_true rfl, Nat.le_of_ble_eq_true rfl⟩ hN hK hP (hDD _) hS hA 11 CW_11 rfl rfl rfl hl.1 rfl (Nat.le_of_ble_eq_true rfl) eX11_tells_39.2.2.2.1 ⟨Nat.le_of_ble_eq_true rfl, Nat.le_of_ble_eq_true rfl⟩ (fun H locs hP hS => ?_)
      refine lv_istore (lv' := [(5, .int (i2 r17)), (0, .ref (a 0)), (1, .int (i2 x1)), (2, .int (i2 x2)), (3, .int (i2 x3)), (4, .int (i2 x4))]) hx hb eX11_tells_39.2.2.2.2.1 hl (by decide) rfl (fun ls hl => ?_)
      refine lv_iload hx hb eX11_tells_39.2.2.2.2.2.1 (lv_at hl 0 rfl) ?_
      refine lv_iload_n hx hb eX11_tells_39.2.2.2.2.2.2.1 rfl (lv_at hl 4 rfl) ?_
      obtain ⟨hr18, h⟩ := rg_e h
      obtain ⟨hr19, h⟩ := rg_e h
      refine lv_icmp_ge (tgt := 64) hx hb eX11_tells_39.2.2.2.2.2.2.2 (by decide) (fun c20 => ?_) (fun c20 => ?_)
      · have h := if_t ((i2_le (x := x3) (y := r17) hr19 hr18).mp c20) h
        exact J64 (x1, x2, x3, x4, s16) _ _ _ ⟨hP, hS, lv_sub hl [1, 2, 3, 4, 5] rfl, h⟩
      · have h := if_f (mt (i2_le (x := x3) (y := r17) hr19 hr18).mpr c20) h
        refine lv_iload hx hb eX11_tells_58.1 (lv_at hl 0 rfl) ?_
        refine lv_istore_n (lv' := [(3, .int (i2 r17)), (5, .int (i2 r17)), (0, .ref (a 0)), (1, .int (i2 x1)), (2, .int (i2 x2)), (4, .int (i2 x4))]) hx hb eX11_tells_58.2.1 rfl hl (by decide) rfl (fun ls hl => ?_)
        refine lv_iload hx hb eX11_tells_58.2.2.1 (lv_at hl 5 rfl) ?_
        refine lv_istore_n (lv' := [(2, .int (i2 x4)), (3, .int (i2 r17)), (5, .int (i2 r17)), (0, .ref (a 0)), (1, .int (i2 x1)), (4, .int (i2 x4))]) hx hb eX11_tells_58.2.2.2.1 rfl hl (by decide) rfl (fun ls hl => ?_)
        exact J64 (x1, x4, r17, x4, s16) _ _ _ ⟨hP, hS, lv_sub hl [3, 4, 0, 1, 5] rfl, h⟩
  refine lv_aload_n hx hb eX11_see_35.2.2.2.1 rfl (lv_at hl 0 rfl) ?_
  refine va_get (D := D) (ci := 11) (v := .ref (a 11)) (C := RX11) (T := TX11) (N := 13) hx hb ht inX11 hown hK hP 0 CW_0 rfl 3 (by decide) (ht (.fieldLink RX11 35 "CloneVolumes" "sight" "LCloneVolumes$Sight;") fl_X11_35) (fun _ h9 => h9) rfl eX11_see_35.2.2.2.2.1 ?_
  refine lv_aload_n hx hb eX11_see_35.2.2.2.2.2.1 rfl (lv_at hl 0 rfl) ?_
  refine va_get (D := D) (ci := 11) (v := .ref (a 49)) (C := RX11) (T := TX11) (N := 13) hx hb ht inX11 hown hK hP 0 CW_0 rfl 11 (by decide) (ht (.fieldLink RX11 79 "CloneVolumes" "forest" "LCloneVolumes$Forest;") fl_X11_79) (fun _ h9 => h9) rfl eX11_see_35.2.2.2.2.2.2.1 ?_
  refine va_get (D := D) (ci := 1) (v := .ref (a 53)) (C := RX1) (T := TX1) (N := 9) hx hb ht inX1 hown hK hP 49 CW_49 rfl 0 (by decide) (ht (.fieldLink RX11 125 "CloneVolumes$Forest" "now" "LCloneVolumes$State;") fl_X11_125) (fun _ h9 => h9) rfl eX11_see_35.2.2.2.2.2.2.2 ?_
  obtain ⟨⟨r23, s22⟩, hc21, h⟩ := bn_e h
  refine ywV (r0 := i2 r23) (As := [.ref (a 53)]) (rest := []) (C := RX7) (n := 1) (ws' := CS D a s22) ⟨hx, hb, hml, hown, ht⟩ (k_x7_findFits l D a _ _ _ hc21) (zgV ml_X11_262 im_X7_findFits se_X7_findFits in_X7 co_X7_findFits) rfl rfl (by decide +kernel) ⟨Nat.le_of_ble_eq_true rfl, Nat.le_of_ble_eq_true rfl⟩ hN hK hP (hDD _) hS hA 11 CW_11 rfl rfl rfl hl.1 rfl (Nat.le_of_ble_eq_true rfl) eX11_tells_11.1 ⟨Nat.le_of_ble_eq_true rfl, Nat.le_of_ble_eq_true rfl⟩ (fun H locs hP hS => ?_)
  obtain ⟨hr24, h⟩ := rg_e h
  refine lv_if_ne (tgt := 19) hx hb eX11_tells_11.2.1 (by decide) (fun c25 => ?_) (fun c25 => ?_)
  · have h := if_f (mt (i2_eq (x := r23) (y := 0) hr24 (by decide)).mpr c25) h
    refine lv_iconst (v := 0) hx hb eX11_tells_11.2.2.2.2.1 (by decide) ?_
    refine lv_istore_n (lv' := [(2, .int 0), (0, .ref (a 0)), (1, .int (i2 p0))]) hx hb eX11_tells_11.2.2.2.2.2.1 rfl hl (by decide) rfl (fun ls hl => ?_)
    refine lv_bipush (v := 9) hx hb eX11_tells_11.2.2.2.2.2.2.1 (by decide) ?_
    refine lv_istore_n (lv' := [(3, .int 9), (2, .int 0), (0, .ref (a 0)), (1, .int (i2 p0))]) hx hb eX11_tells_11.2.2.2.2.2.2.2 rfl hl (by decide) rfl (fun ls hl => ?_)
    refine lv_iconst (v := 0) hx hb eX11_tells_24.1 (by decide) ?_
    refine lv_istore (lv' := [(4, .int 0), (3, .int 9), (2, .int 0), (0, .ref (a 0)), (1, .int (i2 p0))]) hx hb eX11_tells_24.2.1 hl (by decide) rfl (fun ls hl => ?_)
    exact J27 FU (p0, 0, 9, 0, s22) _ _ _ ⟨hP, hS, lv_sub hl [3, 4, 2, 1, 0] rfl, h⟩
  · have h := if_t ((i2_eq (x := r23) (y := 0) hr24 (by decide)).mp c25) h
    refine lv_iconst (v := (-1)) hx hb eX11_tells_11.2.2.1 (by decide) ?_
    obtain rfl := Option.some.inj h
    exact W.iret (v := (-1)) hx hb hr (fun t ht hW => ⟨⟨_, (), rfl, rfl, by rw [ht]; exact hP, va_K.moved hW.alike hK, hDD _⟩, hS.F ht⟩) hS.2.2 eX11_tells_11.2.2.2.1
set_option maxHeartbeats 4000000 in
set_option maxRecDepth 100000 in
theorem k_x8_become_v3 (l : Launch) (D : va_G) (a : Nat → Nat) (sz : Nat) (s : MS) (o : MS) (h : m_x8_become_v3 s = some o) : yWv l yX8_become cX8_become 2 none { frames := 1, cells := 0, slots := 0, locals := 60 } D sz [.ref (a 71), .ref (a 53)] (CS D a s) (CS D a o) := by
  refine Met.ofW (cc := cX8_become) (maxL := 2) (ret := none) (by decide) rfl ?_
  intro p e s₀ m args below meth c s₁ B hml hv
  obtain ⟨rfl, ⟨hsz, hP, hK, hD0⟩, hN⟩ := hv
  have hx := B.exec
  have hb := B.bytes
  have hr := B.returns
  have hts := atoms_spec (ws := wz yX8_become cX8_become 2 none) B.pre
  have ht : ∀ w ∈ lw_gd, w.before _ s₀ = true := fun w h => hts w (List.mem_cons_of_mem _ h)
  have hown : s₀.vm.findClass RX8 = some m.cls := findClass_of_methodNamed B.named
  have hlocks := B.notSynchronized
  subst hsz
  have hD := hD0.self (sz := s₀.heap.size)
  generalize hAe : va_A (CS D a s) s₀.heap.size = A at hD ⊢
  have hA : ∀ q : Nat, s₀.heap.size ≤ q → A q := fun q h => by rw [← hAe]; exact Or.inr h
  have hS : va_S A s₀.heap s₀.heap [] := va_S.rf
  have hDD : ∀ t : MS, va_D A (CS D a t) := fun t => CW_D t hD
  have hl := lv_entry ([.ref (a 71), .ref (a 53)]) (n := 2) (Nat.le_of_ble_eq_true rfl)
  rw [lg_entry_eq]
  generalize (lg_sl ([.ref (a 71), .ref (a 53)]) ++ List.replicate (2 - (lg_sl ([.ref (a 71), .ref (a 53)])).length) Slot.unset).toArray = ls at hl ⊢
  have hl : lv_has ls 2 [(0, .ref (a 71)), (1, .ref (a 53))] := hl
  unfold m_x8_become_v3 at h
  refine lv_aload_n hx hb eX11_unlike_229.2.2.2.2.2.2.2 rfl (lv_at hl 0 rfl) ?_
  refine lv_aload_n hx hb eX8_become_1.1 rfl (lv_at hl 1 rfl) ?_
  refine va_get (D := D) (ci := 8) (v := .int (i2 (gI s 1060))) (C := RX8) (T := TX8) (N := 11) hx hb ht inX8 hown hK hP 53 CW_53 rfl 0 (by decide) (ht (.fieldLink RX8 40 "CloneVolumes$State" "blocks" "I") fl_X8_40) (fun _ h9 => h9) rfl eX8_become_1.2.1 ?_
  refine ya_put (D := D) (ci := 8) (v := .int (i2 (gI s 1060))) (ty := .int) (C := RX8) (T := TX8) (N := 11) hx hb ht inX8 tyX8 tyX8_ok nmX8 hown hK hP (hDD _) hS 71 CW_71 rfl 0 (by decide) (ht (.fieldLink RX8 40 "CloneVolumes$State" "blocks" "I") fl_X8_40) (fun _ h9 => h9) rfl (by decide +kernel) rfl rfl (Nat.le_of_ble_eq_true rfl) eX8_become_1.2.2.1 (CW_w71_0 (gI s 1060)) (fun H locs hP hS => ?_)
  obtain ⟨s1, hs1, h⟩ := st_e h
  rw [hs1] at hP
  refine lv_aload_n hx hb eX8_become_1.2.2.2.1 rfl (lv_at hl 0 rfl) ?_
  refine lv_aload_n hx hb eX8_become_1.2.2.2.2.1 rfl (lv_at hl 1 rfl) ?_
  refine va_get (D := D) (ci := 8) (v := .int (i2 (gI s1 1061))) (C := RX8) (T := TX8) (N := 11) hx hb ht inX8 hown hK hP 53 CW_53 rfl 1 (by decide) (ht (.fieldLink RX8 44 "CloneVolumes$State" "spent" "I") fl_X8_44) (fun _ h9 => h9) rfl eX8_become_1.2.2.2.2.2.1 ?_
  refine ya_put (D := D) (ci := 8) (v := .int (i2 (gI s1 1061))) (ty := .int) (C := RX8) (T := TX8) (N := 11) hx hb ht inX8 tyX8 tyX8_ok nmX8 hown hK hP (hDD _) hS 71 CW_71 rfl 1 (by decide) (ht (.fieldLink RX8 44 "CloneVolumes$State" "spent" "I") fl_X8_44) (fun _ h9 => h9) rfl (by decide +kernel) rfl rfl (Nat.le_of_ble_eq_true rfl) eX8_become_1.2.2.2.2.2.2.1 (CW_w71_1 (gI s1 1061)) (fun H locs hP hS => ?_)
  obtain ⟨s2, hs2, h⟩ := st_e h
  rw [hs2] at hP
  refine lv_aload_n hx hb eX8_become_1.2.2.2.2.2.2.2 rfl (lv_at hl 0 rfl) ?_
  refine lv_aload_n hx hb eX8_become_17.1 rfl (lv_at hl 1 rfl) ?_
  refine va_get (D := D) (ci := 8) (v := .long (i8 (gL s2 1062))) (C := RX8) (T := TX8) (N := 11) hx hb ht inX8 hown hK hP 53 CW_53 rfl 2 (by decide) (ht (.fieldLink RX8 47 "CloneVolumes$State" "written" "J") fl_X8_47) (fun _ h9 => h9) rfl eX8_become_17.2.1 ?_
  refine ya_put (D := D) (ci := 8) (v := .long (i8 (gL s2 1062))) (ty := .long) (C := RX8) (T := TX8) (N := 11) hx hb ht inX8 tyX8 tyX8_ok nmX8 hown hK hP (hDD _) hS 71 CW_71 rfl 2 (by decide) (ht (.fieldLink RX8 47 "CloneVolumes$State" "written" "J") fl_X8_47) (fun _ h9 => h9) rfl (by decide +kernel) rfl rfl (Nat.le_of_ble_eq_true rfl) eX8_become_17.2.2.1 (CW_w71_2 (gL s2 1062)) (fun H locs hP hS => ?_)
  obtain ⟨s3, hs3, h⟩ := st_e h
  rw [hs3] at hP
  refine lv_aload_n hx hb eX8_become_17.2.2.2.1 rfl (lv_at hl 1 rfl) ?_
  refine va_get (D := D) (ci := 8) (v := .ref (a 54)) (C := RX8) (T := TX8) (N := 11) hx hb ht inX8 hown hK hP 53 CW_53 rfl 3 (by decide) (ht (.fieldLink RX8 9 "CloneVolumes$State" "count" "[I") fl_X8_9) (fun _ h9 => h9) rfl eX8_become_17.2.2.2.2.1 ?_
  refine lv_iconst (v := 0) hx hb eX8_become_17.2.2.2.2.2.1 (by decide) ?_
  refine lv_aload_n hx hb eX8_become_17.2.2.2.2.2.2.1 rfl (lv_at hl 0 rfl) ?_
  refine va_get (D := D) (ci := 8) (v := .ref (a 72)) (C := RX8) (T := TX8) (N := 11) hx hb ht inX8 hown hK hP 71 CW_71 rfl 3 (by decide) (ht (.fieldLink RX8 9 "CloneVolumes$State" "count" "[I") fl_X8_9) (fun _ h9 => h9) rfl eX8_become_17.2.2.2.2.2.2.2 ?_
  refine lv_iconst (v := 0) hx hb eX8_become_33.1 (by decide) ?_
  refine lv_bipush (v := 48) hx hb eX8_become_33.2.1 (by decide) ?_
  obtain ⟨hc4, h⟩ := cpg_e h
  refine ya_copyi (sp := 0) (dp := 0) (n := 48) hx hb (by rw [hml]; exact hl.1.symm) hown (ht _ ml_X8_51) (ht _ na_cpy) (ht _ st_cpy) (ht _ in_sys) hK hP (hDD _) hS 54 72 CW_54 CW_72 (by decide) (by decide) hc4 (Nat.le_of_ble_eq_true rfl) (Nat.le_of_ble_eq_true rfl) eX8_become_33.2.2.1 (CW_w72 _) (fun H locs hP hS => ?_)
  obtain ⟨s5, hs5, h⟩ := st_e h
  rw [hs5] at hP
  refine lv_aload_n hx hb eX8_become_33.2.2.2.1 rfl (lv_at hl 1 rfl) ?_
  refine va_get (D := D) (ci := 8) (v := .ref (a 55)) (C := RX8) (T := TX8) (N := 11) hx hb ht inX8 hown hK hP 53 CW_53 rfl 4 (by decide) (ht (.fieldLink RX8 15 "CloneVolumes$State" "saved" "[I") fl_X8_15) (fun _ h9 => h9) rfl eX8_become_33.2.2.2.2.1 ?_
  refine lv_iconst (v := 0) hx hb eX8_become_33.2.2.2.2.2.1 (by decide) ?_
  refine lv_aload_n hx hb eX8_become_33.2.2.2.2.2.2.1 rfl (lv_at hl 0 rfl) ?_
  refine va_get (D := D) (ci := 8) (v := .ref (a 73)) (C := RX8) (T := TX8) (N := 11) hx hb ht inX8 hown hK hP 71 CW_71 rfl 4 (by decide) (ht (.fieldLink RX8 15 "CloneVolumes$State" "saved" "[I") fl_X8_15) (fun _ h9 => h9) rfl eX8_become_33.2.2.2.2.2.2.2 ?_
  refine lv_iconst (v := 0) hx hb eX8_become_48.1 (by decide) ?_
  refine lv_bipush (v := 48) hx hb eX8_become_48.2.1 (by decide) ?_
  obtain ⟨hc6, h⟩ := cpg_e h
  refine ya_copyi (sp := 0) (dp := 0) (n := 48) hx hb (by rw [hml]; exact hl.1.symm) hown (ht _ ml_X8_51) (ht _ na_cpy) (ht _ st_cpy) (ht _ in_sys) hK hP (hDD _) hS 55 73 CW_55 CW_73 (by decide) (by decide) hc6 (Nat.le_of_ble_eq_true rfl) (Nat.le_of_ble_eq_true rfl) eX8_become_48.2.2.1 (CW_w73 _) (fun H locs hP hS => ?_)
  obtain ⟨s7, hs7, h⟩ := st_e h
  rw [hs7] at hP
  refine lv_aload_n hx hb eX8_become_48.2.2.2.1 rfl (lv_at hl 1 rfl) ?_
  refine va_get (D := D) (ci := 8) (v := .ref (a 56)) (C := RX8) (T := TX8) (N := 11) hx hb ht inX8 hown hK hP 53 CW_53 rfl 5 (by decide) (ht (.fieldLink RX8 18 "CloneVolumes$State" "level" "[I") fl_X8_18) (fun _ h9 => h9) rfl eX8_become_48.2.2.2.2.1 ?_
  refine lv_iconst (v := 0) hx hb eX8_become_48.2.2.2.2.2.1 (by decide) ?_
  refine lv_aload_n hx hb eX8_become_48.2.2.2.2.2.2.1 rfl (lv_at hl 0 rfl) ?_
  refine va_get (D := D) (ci := 8) (v := .ref (a 74)) (C := RX8) (T := TX8) (N := 11) hx hb ht inX8 hown hK hP 71 CW_71 rfl 5 (by decide) (ht (.fieldLink RX8 18 "CloneVolumes$State" "level" "[I") fl_X8_18) (fun _ h9 => h9) rfl eX8_become_48.2.2.2.2.2.2.2 ?_
  refine lv_iconst (v := 0) hx hb eX8_become_63.1 (by decide) ?_
  refine lv_bipush (v := 48) hx hb eX8_become_63.2.1 (by decide) ?_
  obtain ⟨hc8, h⟩ := cpg_e h
  refine ya_copyi (sp := 0) (dp := 0) (n := 48) hx hb (by rw [hml]; exact hl.1.symm) hown (ht _ ml_X8_51) (ht _ na_cpy) (ht _ st_cpy) (ht _ in_sys) hK hP (hDD _) hS 56 74 CW_56 CW_74 (by decide) (by decide) hc8 (Nat.le_of_ble_eq_true rfl) (Nat.le_of_ble_eq_true rfl) eX8_become_63.2.2.1 (CW_w74 _) (fun H locs hP hS => ?_)
  obtain ⟨s9, hs9, h⟩ := st_e h
  rw [hs9] at hP
  refine lv_aload_n hx hb eX8_become_63.2.2.2.1 rfl (lv_at hl 1 rfl) ?_
  refine va_get (D := D) (ci := 8) (v := .ref (a 57)) (C := RX8) (T := TX8) (N := 11) hx hb ht inX8 hown hK hP 53 CW_53 rfl 6 (by decide) (ht (.fieldLink RX8 21 "CloneVolumes$State" "size" "[I") fl_X8_21) (fun _ h9 => h9) rfl eX8_become_63.2.2.2.2.1 ?_
  refine lv_iconst (v := 0) hx hb eX8_become_63.2.2.2.2.2.1 (by decide) ?_
  refine lv_aload_n hx hb eX8_become_63.2.2.2.2.2.2.1 rfl (lv_at hl 0 rfl) ?_
  refine va_get (D := D) (ci := 8) (v := .ref (a 75)) (C := RX8) (T := TX8) (N := 11) hx hb ht inX8 hown hK hP 71 CW_71 rfl 6 (by decide) (ht (.fieldLink RX8 21 "CloneVolumes$State" "size" "[I") fl_X8_21) (fun _ h9 => h9) rfl eX8_become_63.2.2.2.2.2.2.2 ?_
  refine lv_iconst (v := 0) hx hb eX8_become_78.1 (by decide) ?_
  refine lv_bipush (v := 48) hx hb eX8_become_78.2.1 (by decide) ?_
  obtain ⟨hc10, h⟩ := cpg_e h
  refine ya_copyi (sp := 0) (dp := 0) (n := 48) hx hb (by rw [hml]; exact hl.1.symm) hown (ht _ ml_X8_51) (ht _ na_cpy) (ht _ st_cpy) (ht _ in_sys) hK hP (hDD _) hS 57 75 CW_57 CW_75 (by decide) (by decide) hc10 (Nat.le_of_ble_eq_true rfl) (Nat.le_of_ble_eq_true rfl) eX8_become_78.2.2.1 (CW_w75 _) (fun H locs hP hS => ?_)
  obtain ⟨s11, hs11, h⟩ := st_e h
  rw [hs11] at hP
  refine lv_aload_n hx hb eX8_become_78.2.2.2.1 rfl (lv_at hl 1 rfl) ?_
  refine va_get (D := D) (ci := 8) (v := .ref (a 58)) (C := RX8) (T := TX8) (N := 11) hx hb ht inX8 hown hK hP 53 CW_53 rfl 7 (by decide) (ht (.fieldLink RX8 24 "CloneVolumes$State" "keys" "[I") fl_X8_24) (fun _ h9 => h9) rfl eX8_become_78.2.2.2.2.1 ?_
  refine lv_iconst (v := 0) hx hb eX8_become_78.2.2.2.2.2.1 (by decide) ?_
  refine lv_aload_n hx hb eX8_become_78.2.2.2.2.2.2.1 rfl (lv_at hl 0 rfl) ?_
  refine va_get (D := D) (ci := 8) (v := .ref (a 76)) (C := RX8) (T := TX8) (N := 11) hx hb ht inX8 hown hK hP 71 CW_71 rfl 7 (by decide) (ht (.fieldLink RX8 24 "CloneVolumes$State" "keys" "[I") fl_X8_24) (fun _ h9 => h9) rfl eX8_become_78.2.2.2.2.2.2.2 ?_
  refine lv_iconst (v := 0) hx hb eX8_become_93.1 (by decide) ?_
  refine lv_sipush (v := 288) hx hb eX8_become_93.2.1 (by decide) ?_
  obtain ⟨hc12, h⟩ := cpg_e h
  refine ya_copyi (sp := 0) (dp := 0) (n := 288) hx hb (by rw [hml]; exact hl.1.symm) hown (ht _ ml_X8_51) (ht _ na_cpy) (ht _ st_cpy) (ht _ in_sys) hK hP (hDD _) hS 58 76 CW_58 CW_76 (by decide) (by decide) hc12 (Nat.le_of_ble_eq_true rfl) (Nat.le_of_ble_eq_true rfl) eX8_become_93.2.2.1 (CW_w76 _) (fun H locs hP hS => ?_)
  obtain ⟨s13, hs13, h⟩ := st_e h
  rw [hs13] at hP
  refine lv_aload_n hx hb eX8_become_93.2.2.2.1 rfl (lv_at hl 1 rfl) ?_
  refine va_get (D := D) (ci := 8) (v := .ref (a 59)) (C := RX8) (T := TX8) (N := 11) hx hb ht inX8 hown hK hP 53 CW_53 rfl 8 (by decide) (ht (.fieldLink RX8 27 "CloneVolumes$State" "values" "[I") fl_X8_27) (fun _ h9 => h9) rfl eX8_become_93.2.2.2.2.1 ?_
  refine lv_iconst (v := 0) hx hb eX8_become_93.2.2.2.2.2.1 (by decide) ?_
  refine lv_aload_n hx hb eX8_become_93.2.2.2.2.2.2.1 rfl (lv_at hl 0 rfl) ?_
  refine va_get (D := D) (ci := 8) (v := .ref (a 77)) (C := RX8) (T := TX8) (N := 11) hx hb ht inX8 hown hK hP 71 CW_71 rfl 8 (by decide) (ht (.fieldLink RX8 27 "CloneVolumes$State" "values" "[I") fl_X8_27) (fun _ h9 => h9) rfl eX8_become_93.2.2.2.2.2.2.2 ?_
  refine lv_iconst (v := 0) hx hb eX8_become_109.1 (by decide) ?_
  refine lv_sipush (v := 288) hx hb eX8_become_109.2.1 (by decide) ?_
  obtain ⟨hc14, h⟩ := cpg_e h
  refine ya_copyi (sp := 0) (dp := 0) (n := 288) hx hb (by rw [hml]; exact hl.1.symm) hown (ht _ ml_X8_51) (ht _ na_cpy) (ht _ st_cpy) (ht _ in_sys) hK hP (hDD _) hS 59 77 CW_59 CW_77 (by decide) (by decide) hc14 (Nat.le_of_ble_eq_true rfl) (Nat.le_of_ble_eq_true rfl) eX8_become_109.2.2.1 (CW_w77 _) (fun H locs hP hS => ?_)
  obtain ⟨s15, hs15, h⟩ := st_e h
  rw [hs15] at hP
  refine lv_aload_n hx hb eX8_become_109.2.2.2.1 rfl (lv_at hl 1 rfl) ?_
  refine va_get (D := D) (ci := 8) (v := .ref (a 60)) (C := RX8) (T := TX8) (N := 11) hx hb ht inX8 hown hK hP 53 CW_53 rfl 9 (by decide) (ht (.fieldLink RX8 30 "CloneVolumes$State" "roots" "[I") fl_X8_30) (fun _ h9 => h9) rfl eX8_become_109.2.2.2.2.1 ?_
  refine lv_iconst (v := 0) hx hb eX8_become_109.2.2.2.2.2.1 (by decide) ?_
  refine lv_aload_n hx hb eX8_become_109.2.2.2.2.2.2.1 rfl (lv_at hl 0 rfl) ?_
  refine va_get (D := D) (ci := 8) (v := .ref (a 78)) (C := RX8) (T := TX8) (N := 11) hx hb ht inX8 hown hK hP 71 CW_71 rfl 9 (by decide) (ht (.fieldLink RX8 30 "CloneVolumes$State" "roots" "[I") fl_X8_30) (fun _ h9 => h9) rfl eX8_become_109.2.2.2.2.2.2.2 ?_
  refine lv_iconst (v := 0) hx hb eX8_become_125.1 (by decide) ?_
  refine lv_bipush (v := 8) hx hb eX8_become_125.2.1 (by decide) ?_
  obtain ⟨hc16, h⟩ := cpg_e h
  refine ya_copyi (sp := 0) (dp := 0) (n := 8) hx hb (by rw [hml]; exact hl.1.symm) hown (ht _ ml_X8_51) (ht _ na_cpy) (ht _ st_cpy) (ht _ in_sys) hK hP (hDD _) hS 60 78 CW_60 CW_78 (by decide) (by decide) hc16 (Nat.le_of_ble_eq_true rfl) (Nat.le_of_ble_eq_true rfl) eX8_become_125.2.2.1 (CW_w78 _) (fun H locs hP hS => ?_)
  obtain ⟨s17, hs17, h⟩ := st_e h
  rw [hs17] at hP
  refine lv_aload_n hx hb eX8_become_125.2.2.2.1 rfl (lv_at hl 1 rfl) ?_
  refine va_get (D := D) (ci := 8) (v := .ref (a 61)) (C := RX8) (T := TX8) (N := 11) hx hb ht inX8 hown hK hP 53 CW_53 rfl 10 (by decide) (ht (.fieldLink RX8 33 "CloneVolumes$State" "savedRoots" "[I") fl_X8_33) (fun _ h9 => h9) rfl eX8_become_125.2.2.2.2.1 ?_
  refine lv_iconst (v := 0) hx hb eX8_become_125.2.2.2.2.2.1 (by decide) ?_
  refine lv_aload_n hx hb eX8_become_125.2.2.2.2.2.2.1 rfl (lv_at hl 0 rfl) ?_
  refine va_get (D := D) (ci := 8) (v := .ref (a 79)) (C := RX8) (T := TX8) (N := 11) hx hb ht inX8 hown hK hP 71 CW_71 rfl 10 (by decide) (ht (.fieldLink RX8 33 "CloneVolumes$State" "savedRoots" "[I") fl_X8_33) (fun _ h9 => h9) rfl eX8_become_125.2.2.2.2.2.2.2 ?_
  refine lv_iconst (v := 0) hx hb eX8_become_140.1 (by decide) ?_
  refine lv_bipush (v := 8) hx hb eX8_become_140.2.1 (by decide) ?_
  obtain ⟨hc18, h⟩ := cpg_e h
  refine ya_copyi (sp := 0) (dp := 0) (n := 8) hx hb (by rw [hml]; exact hl.1.symm) hown (ht _ ml_X8_51) (ht _ na_cpy) (ht _ st_cpy) (ht _ in_sys) hK hP (hDD _) hS 61 79 CW_61 CW_79 (by decide) (by decide) hc18 (Nat.le_of_ble_eq_true rfl) (Nat.le_of_ble_eq_true rfl) eX8_become_140.2.2.1 (CW_w79 _) (fun H locs hP hS => ?_)
  obtain ⟨s19, hs19, h⟩ := st_e h
  rw [hs19] at hP
  obtain rfl := Option.some.inj h
  exact W.vret hx hb hr (fun t ht hW => ⟨⟨(), rfl, trivial, by rw [ht]; exact hP, va_K.moved hW.alike hK, hDD _⟩, hS.F ht⟩) hS.2.2 eX8_become_140.2.2.2.1
