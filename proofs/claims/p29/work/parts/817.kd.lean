theorem cl_J13_314 : Cond.constantLong RJ13 314 6148914691236517205 ∈ lw_gd := zm (lw_g_4 (List.mem_of_getElem? (i := 211) (by decide +kernel))) rfl
theorem cl_J13_316 : Cond.constantLong RJ13 316 3689348814741910323 ∈ lw_gd := zm (lw_g_4 (List.mem_of_getElem? (i := 212) (by decide +kernel))) rfl
theorem cl_J13_318 : Cond.constantLong RJ13 318 1085102592571150095 ∈ lw_gd := zm (lw_g_4 (List.mem_of_getElem? (i := 213) (by decide +kernel))) rfl
theorem co_J13_bitCount_95d88 : Cond.code yJ13_bitCount_95d88 cJ13_bitCount_95d88 2 (some .int) ∈ lw_gd := zm (lw_g_4 (List.mem_of_getElem? (i := 210) (by decide +kernel))) rfl
theorem co_X10_gather : Cond.code yX10_gather cX10_gather 7 (some .int) ∈ lw_gd := zm (lw_g_4 (List.mem_of_getElem? (i := 201) (by decide +kernel))) rfl
theorem co_X10_tree : Cond.code yX10_tree cX10_tree 8 (some .long) ∈ lw_gd := zm (lw_g_4 (List.mem_of_getElem? (i := 205) (by decide +kernel))) rfl
theorem co_X1_freedWith : Cond.code yX1_freedWith cX1_freedWith 2 (some .int) ∈ lw_gd := zm (lw_g_4 (List.mem_of_getElem? (i := 217) (by decide +kernel))) rfl
theorem co_X1_release : Cond.code yX1_release cX1_release 8 (some .int) ∈ lw_gd := zm (lw_g_4 (List.mem_of_getElem? (i := 81) (by decide +kernel))) rfl
theorem co_X8_inUse : Cond.code yX8_inUse cX8_inUse 2 (some .boolean) ∈ lw_gd := zm (lw_g_4 (List.mem_of_getElem? (i := 230) (by decide +kernel))) rfl
theorem fl_X10_42 : Cond.fieldLink RX10 42 "CloneVolumes$State" "keys" "[I" ∈ lw_gd := zm (lw_g_2 (List.mem_of_getElem? (i := 147) (by decide +kernel))) rfl
theorem fl_X11_165 : Cond.fieldLink RX11 165 "CloneVolumes$State" "roots" "[I" ∈ lw_gd := zm (lw_g_2 (List.mem_of_getElem? (i := 160) (by decide +kernel))) rfl
theorem fl_X11_172 : Cond.fieldLink RX11 172 "CloneVolumes$State" "level" "[I" ∈ lw_gd := zm (lw_g_2 (List.mem_of_getElem? (i := 139) (by decide +kernel))) rfl
theorem fl_X1_150 : Cond.fieldLink RX1 150 "CloneVolumes$State" "level" "[I" ∈ lw_gd := zm (lw_g_2 (List.mem_of_getElem? (i := 140) (by decide +kernel))) rfl
theorem fl_X1_155 : Cond.fieldLink RX1 155 "CloneVolumes$State" "size" "[I" ∈ lw_gd := zm (lw_g_2 (List.mem_of_getElem? (i := 144) (by decide +kernel))) rfl
theorem fl_X1_181 : Cond.fieldLink RX1 181 "CloneVolumes$State" "count" "[I" ∈ lw_gd := zm (lw_g_2 (List.mem_of_getElem? (i := 131) (by decide +kernel))) rfl
theorem fl_X1_217 : Cond.fieldLink RX1 217 "CloneVolumes$State" "values" "[I" ∈ lw_gd := zm (lw_g_2 (List.mem_of_getElem? (i := 155) (by decide +kernel))) rfl
theorem im_X10_gather : Cond.instanceMethod yX10_gather ∈ lw_gd := zm (lw_g_4 (List.mem_of_getElem? (i := 199) (by decide +kernel))) rfl
theorem im_X10_tree : Cond.instanceMethod yX10_tree ∈ lw_gd := zm (lw_g_4 (List.mem_of_getElem? (i := 203) (by decide +kernel))) rfl
theorem im_X1_freedWith : Cond.instanceMethod yX1_freedWith ∈ lw_gd := zm (lw_g_4 (List.mem_of_getElem? (i := 215) (by decide +kernel))) rfl
theorem im_X1_release : Cond.instanceMethod yX1_release ∈ lw_gd := zm (lw_g_4 (List.mem_of_getElem? (i := 80) (by decide +kernel))) rfl
theorem im_X8_inUse : Cond.instanceMethod yX8_inUse ∈ lw_gd := zm (lw_g_4 (List.mem_of_getElem? (i := 228) (by decide +kernel))) rfl
theorem in_J13 : Cond.initialized RJ13 ∈ lw_gd := zm (lw_g_1 (List.mem_of_getElem? (i := 20) (by decide +kernel))) rfl
theorem in_sys : Cond.initialized "java/lang/System" ∈ lw_gd := zm (lw_g_1 (List.mem_of_getElem? (i := 18) (by decide +kernel))) rfl
theorem ml_X10_38 : Cond.methodLink RX10 38 yX10_tree ∈ lw_gd := zm (lw_g_4 (List.mem_of_getElem? (i := 202) (by decide +kernel))) rfl
theorem ml_X11_161 : Cond.methodLink RX11 161 yX8_isVolume ∈ lw_gd := zm (lw_g_4 (List.mem_of_getElem? (i := 197) (by decide +kernel))) rfl
theorem ml_X11_168 : Cond.methodLink RX11 168 yX10_gather ∈ lw_gd := zm (lw_g_4 (List.mem_of_getElem? (i := 198) (by decide +kernel))) rfl
theorem ml_X11_175 : Cond.methodLink RX11 175 yX10_tree ∈ lw_gd := zm (lw_g_4 (List.mem_of_getElem? (i := 207) (by decide +kernel))) rfl
theorem ml_X11_179 : Cond.methodLink RX11 179 yJ13_bitCount_95d88 ∈ lw_gd := zm (lw_g_4 (List.mem_of_getElem? (i := 208) (by decide +kernel))) rfl
theorem ml_X11_185 : Cond.methodLink RX11 185 yX1_freedWith ∈ lw_gd := zm (lw_g_4 (List.mem_of_getElem? (i := 214) (by decide +kernel))) rfl
theorem ml_X1_220 : Cond.methodLink RX1 220 yX8_slot ∈ lw_gd := zm (lw_g_4 (List.mem_of_getElem? (i := 73) (by decide +kernel))) rfl
theorem ml_X1_223 : Cond.methodLink RX1 223 yX1_release ∈ lw_gd := zm (lw_g_4 (List.mem_of_getElem? (i := 78) (by decide +kernel))) rfl
theorem ml_X1_230 : Cond.methodLink RX1 230 arraycopyName ∈ lw_gd := zm (lw_g_4 (List.mem_of_getElem? (i := 77) (by decide +kernel))) rfl
theorem ml_X8_61 : Cond.methodLink RX8 61 yX8_inUse ∈ lw_gd := zm (lw_g_4 (List.mem_of_getElem? (i := 227) (by decide +kernel))) rfl
theorem na_cpy : Cond.native arraycopyName ∈ lw_gd := zm (lw_g_4 (List.mem_of_getElem? (i := 13) (by decide +kernel))) rfl
theorem se_X10_gather : Cond.selects RX10 yX10_gather yX10_gather ∈ lw_gd := zm (lw_g_4 (List.mem_of_getElem? (i := 200) (by decide +kernel))) rfl
theorem se_X10_tree : Cond.selects RX10 yX10_tree yX10_tree ∈ lw_gd := zm (lw_g_4 (List.mem_of_getElem? (i := 204) (by decide +kernel))) rfl
theorem se_X1_freedWith : Cond.selects RX1 yX1_freedWith yX1_freedWith ∈ lw_gd := zm (lw_g_4 (List.mem_of_getElem? (i := 216) (by decide +kernel))) rfl
theorem se_X1_release : Cond.selects RX1 yX1_release yX1_release ∈ lw_gd := zm (List.mem_of_getElem? (i := 36) (by decide +kernel)) rfl
theorem se_X8_inUse : Cond.selects RX8 yX8_inUse yX8_inUse ∈ lw_gd := zm (lw_g_4 (List.mem_of_getElem? (i := 229) (by decide +kernel))) rfl
theorem st_J13_bitCount_95d88 : Cond.static yJ13_bitCount_95d88 ∈ lw_gd := zm (lw_g_4 (List.mem_of_getElem? (i := 209) (by decide +kernel))) rfl
theorem st_cpy : Cond.static arraycopyName ∈ lw_gd := zm (lw_g_4 (List.mem_of_getElem? (i := 12) (by decide +kernel))) rfl
theorem eJ13_bitCount_95d88_0 : decode cJ13_bitCount_95d88 0 = .ok (.lload_n 0, 1) ∧ decode cJ13_bitCount_95d88 1 = .ok (.lload_n 0, 1) ∧ decode cJ13_bitCount_95d88 2 = .ok (.iconst 1, 1) ∧ decode cJ13_bitCount_95d88 3 = .ok (.lushr, 1) ∧ decode cJ13_bitCount_95d88 4 = .ok (.ldc2_w 314, 3) ∧ decode cJ13_bitCount_95d88 7 = .ok (.land, 1) ∧ decode cJ13_bitCount_95d88 8 = .ok (.lsub, 1) ∧ decode cJ13_bitCount_95d88 9 = .ok (.lstore_n 0, 1) := by decide +kernel
theorem eJ13_bitCount_95d88_10 : decode cJ13_bitCount_95d88 10 = .ok (.lload_n 0, 1) ∧ decode cJ13_bitCount_95d88 11 = .ok (.ldc2_w 316, 3) ∧ decode cJ13_bitCount_95d88 14 = .ok (.land, 1) ∧ decode cJ13_bitCount_95d88 15 = .ok (.lload_n 0, 1) ∧ decode cJ13_bitCount_95d88 16 = .ok (.iconst 2, 1) ∧ decode cJ13_bitCount_95d88 17 = .ok (.lushr, 1) ∧ decode cJ13_bitCount_95d88 18 = .ok (.ldc2_w 316, 3) ∧ decode cJ13_bitCount_95d88 21 = .ok (.land, 1) := by decide +kernel
theorem eJ13_bitCount_95d88_22 : decode cJ13_bitCount_95d88 22 = .ok (.ladd, 1) ∧ decode cJ13_bitCount_95d88 23 = .ok (.lstore_n 0, 1) ∧ decode cJ13_bitCount_95d88 24 = .ok (.lload_n 0, 1) ∧ decode cJ13_bitCount_95d88 25 = .ok (.lload_n 0, 1) ∧ decode cJ13_bitCount_95d88 26 = .ok (.iconst 4, 1) ∧ decode cJ13_bitCount_95d88 27 = .ok (.lushr, 1) ∧ decode cJ13_bitCount_95d88 28 = .ok (.ladd, 1) ∧ decode cJ13_bitCount_95d88 29 = .ok (.ldc2_w 318, 3) := by decide +kernel
theorem eJ13_bitCount_95d88_32 : decode cJ13_bitCount_95d88 32 = .ok (.land, 1) ∧ decode cJ13_bitCount_95d88 33 = .ok (.lstore_n 0, 1) ∧ decode cJ13_bitCount_95d88 34 = .ok (.lload_n 0, 1) ∧ decode cJ13_bitCount_95d88 35 = .ok (.lload_n 0, 1) ∧ decode cJ13_bitCount_95d88 36 = .ok (.bipush 8, 2) ∧ decode cJ13_bitCount_95d88 38 = .ok (.lushr, 1) ∧ decode cJ13_bitCount_95d88 39 = .ok (.ladd, 1) ∧ decode cJ13_bitCount_95d88 40 = .ok (.lstore_n 0, 1) := by decide +kernel
theorem eJ13_bitCount_95d88_41 : decode cJ13_bitCount_95d88 41 = .ok (.lload_n 0, 1) ∧ decode cJ13_bitCount_95d88 42 = .ok (.lload_n 0, 1) ∧ decode cJ13_bitCount_95d88 43 = .ok (.bipush 16, 2) ∧ decode cJ13_bitCount_95d88 45 = .ok (.lushr, 1) ∧ decode cJ13_bitCount_95d88 46 = .ok (.ladd, 1) ∧ decode cJ13_bitCount_95d88 47 = .ok (.lstore_n 0, 1) ∧ decode cJ13_bitCount_95d88 48 = .ok (.lload_n 0, 1) ∧ decode cJ13_bitCount_95d88 49 = .ok (.lload_n 0, 1) := by decide +kernel
theorem eJ13_bitCount_95d88_50 : decode cJ13_bitCount_95d88 50 = .ok (.bipush 32, 2) ∧ decode cJ13_bitCount_95d88 52 = .ok (.lushr, 1) ∧ decode cJ13_bitCount_95d88 53 = .ok (.ladd, 1) ∧ decode cJ13_bitCount_95d88 54 = .ok (.lstore_n 0, 1) ∧ decode cJ13_bitCount_95d88 55 = .ok (.lload_n 0, 1) ∧ decode cJ13_bitCount_95d88 56 = .ok (.l2i, 1) ∧ decode cJ13_bitCount_95d88 57 = .ok (.bipush 127, 2) ∧ decode cJ13_bitCount_95d88 59 = .ok (.iand, 1) := by decide +kernel
theorem eJ13_bitCount_95d88_60 : decode cJ13_bitCount_95d88 60 = .ok (.ireturn, 1) ∧ decode cX10_gather 0 = .ok (.aload_n 0, 1) ∧ decode cX10_gather 1 = .ok (.aload_n 1, 1) ∧ decode cX10_gather 2 = .ok (.iload_n 2, 1) ∧ decode cX10_gather 3 = .ok (.invokevirtual 38, 3) ∧ decode cX10_gather 6 = .ok (.pop2, 1) ∧ decode cX10_gather 7 = .ok (.iconst 0, 1) ∧ decode cX10_gather 8 = .ok (.istore_n 3, 1) := by decide +kernel
theorem eX10_gather_9 : decode cX10_gather 9 = .ok (.iconst 0, 1) ∧ decode cX10_gather 10 = .ok (.istore 4, 2) ∧ decode cX10_gather 12 = .ok (.iload 4, 2) ∧ decode cX10_gather 14 = .ok (.aload_n 0, 1) ∧ decode cX10_gather 15 = .ok (.getfield 21, 3) ∧ decode cX10_gather 18 = .ok (.if_icmp .ge 116, 3) ∧ decode cX10_gather 21 = .ok (.aload_n 1, 1) ∧ decode cX10_gather 22 = .ok (.getfield 25, 3) := by decide +kernel
theorem eX10_gather_25 : decode cX10_gather 25 = .ok (.aload_n 0, 1) ∧ decode cX10_gather 26 = .ok (.getfield 9, 3) ∧ decode cX10_gather 29 = .ok (.iload 4, 2) ∧ decode cX10_gather 31 = .ok (.iaload, 1) ∧ decode cX10_gather 32 = .ok (.iaload, 1) ∧ decode cX10_gather 33 = .ok (.ifCond .ne 18, 3) ∧ decode cX10_gather 36 = .ok (.aload_n 1, 1) ∧ decode cX10_gather 37 = .ok (.getfield 30, 3) := by decide +kernel
theorem eX10_gather_40 : decode cX10_gather 40 = .ok (.aload_n 0, 1) ∧ decode cX10_gather 41 = .ok (.getfield 9, 3) ∧ decode cX10_gather 44 = .ok (.iload 4, 2) ∧ decode cX10_gather 46 = .ok (.iaload, 1) ∧ decode cX10_gather 47 = .ok (.iaload, 1) ∧ decode cX10_gather 48 = .ok (.goto 4, 3) ∧ decode cX10_gather 51 = .ok (.iconst 0, 1) ∧ decode cX10_gather 52 = .ok (.istore 5, 2) := by decide +kernel
theorem eX10_gather_54 : decode cX10_gather 54 = .ok (.iconst 0, 1) ∧ decode cX10_gather 55 = .ok (.istore 6, 2) ∧ decode cX10_gather 57 = .ok (.iload 6, 2) ∧ decode cX10_gather 59 = .ok (.iload 5, 2) ∧ decode cX10_gather 61 = .ok (.if_icmp .ge 67, 3) ∧ decode cX10_gather 64 = .ok (.iload_n 3, 1) ∧ decode cX10_gather 65 = .ok (.sipush 288, 3) ∧ decode cX10_gather 68 = .ok (.if_icmp .ge 60, 3) := by decide +kernel
theorem eX10_gather_71 : decode cX10_gather 71 = .ok (.aload_n 0, 1) ∧ decode cX10_gather 72 = .ok (.getfield 15, 3) ∧ decode cX10_gather 75 = .ok (.iload_n 3, 1) ∧ decode cX10_gather 76 = .ok (.aload_n 1, 1) ∧ decode cX10_gather 77 = .ok (.getfield 42, 3) ∧ decode cX10_gather 80 = .ok (.aload_n 1, 1) ∧ decode cX10_gather 81 = .ok (.aload_n 0, 1) ∧ decode cX10_gather 82 = .ok (.getfield 9, 3) := by decide +kernel
theorem eX10_gather_85 : decode cX10_gather 85 = .ok (.iload 4, 2) ∧ decode cX10_gather 87 = .ok (.iaload, 1) ∧ decode cX10_gather 88 = .ok (.iload 6, 2) ∧ decode cX10_gather 90 = .ok (.invokevirtual 34, 3) ∧ decode cX10_gather 93 = .ok (.iaload, 1) ∧ decode cX10_gather 94 = .ok (.iastore, 1) ∧ decode cX10_gather 95 = .ok (.aload_n 0, 1) ∧ decode cX10_gather 96 = .ok (.getfield 18, 3) := by decide +kernel
theorem eX10_gather_99 : decode cX10_gather 99 = .ok (.iload_n 3, 1) ∧ decode cX10_gather 100 = .ok (.aload_n 1, 1) ∧ decode cX10_gather 101 = .ok (.getfield 33, 3) ∧ decode cX10_gather 104 = .ok (.aload_n 1, 1) ∧ decode cX10_gather 105 = .ok (.aload_n 0, 1) ∧ decode cX10_gather 106 = .ok (.getfield 9, 3) ∧ decode cX10_gather 109 = .ok (.iload 4, 2) ∧ decode cX10_gather 111 = .ok (.iaload, 1) := by decide +kernel
theorem eX10_gather_112 : decode cX10_gather 112 = .ok (.iload 6, 2) ∧ decode cX10_gather 114 = .ok (.invokevirtual 34, 3) ∧ decode cX10_gather 117 = .ok (.iaload, 1) ∧ decode cX10_gather 118 = .ok (.iastore, 1) ∧ decode cX10_gather 119 = .ok (.iinc 3 1, 3) ∧ decode cX10_gather 122 = .ok (.iinc 6 1, 3) ∧ decode cX10_gather 125 = .ok (.goto (-68), 3) ∧ decode cX10_gather 128 = .ok (.iinc 4 1, 3) := by decide +kernel
theorem eX10_gather_131 : decode cX10_gather 131 = .ok (.goto (-119), 3) ∧ decode cX10_gather 134 = .ok (.iload_n 3, 1) ∧ decode cX10_gather 135 = .ok (.ireturn, 1) ∧ decode cX11_volume 0 = .ok (.aload_n 0, 1) ∧ decode cX11_volume 1 = .ok (.getfield 79, 3) ∧ decode cX11_volume 4 = .ok (.getfield 125, 3) ∧ decode cX11_volume 7 = .ok (.astore_n 3, 1) ∧ decode cX11_volume 8 = .ok (.aload_n 3, 1) := by decide +kernel
theorem eX11_volume_9 : decode cX11_volume 9 = .ok (.iload_n 1, 1) ∧ decode cX11_volume 10 = .ok (.invokevirtual 161, 3) ∧ decode cX11_volume 13 = .ok (.ifCond .ne 5, 3) ∧ decode cX11_volume 16 = .ok (.iconst (-1), 1) ∧ decode cX11_volume 17 = .ok (.ireturn, 1) ∧ decode cX11_volume 18 = .ok (.aload_n 3, 1) ∧ decode cX11_volume 19 = .ok (.getfield 165, 3) ∧ decode cX11_volume 22 = .ok (.iload_n 1, 1) := by decide +kernel
theorem eX11_volume_23 : decode cX11_volume 23 = .ok (.iaload, 1) ∧ decode cX11_volume 24 = .ok (.istore 4, 2) ∧ decode cX11_volume 26 = .ok (.iload_n 2, 1) ∧ decode cX11_volume 27 = .ok (.tableswitch 91 0 4 #[33, 36, 47, 67, 81], 33) ∧ decode cX11_volume 60 = .ok (.iload 4, 2) ∧ decode cX11_volume 62 = .ok (.ireturn, 1) ∧ decode cX11_volume 63 = .ok (.aload_n 0, 1) ∧ decode cX11_volume 64 = .ok (.getfield 49, 3) := by decide +kernel
theorem eX11_volume_67 : decode cX11_volume 67 = .ok (.aload_n 3, 1) ∧ decode cX11_volume 68 = .ok (.iload 4, 2) ∧ decode cX11_volume 70 = .ok (.invokevirtual 168, 3) ∧ decode cX11_volume 73 = .ok (.ireturn, 1) ∧ decode cX11_volume 74 = .ok (.iload 4, 2) ∧ decode cX11_volume 76 = .ok (.iconst (-1), 1) ∧ decode cX11_volume 77 = .ok (.if_icmp .ne 7, 3) ∧ decode cX11_volume 80 = .ok (.iconst 0, 1) := by decide +kernel
theorem eX11_volume_81 : decode cX11_volume 81 = .ok (.goto 12, 3) ∧ decode cX11_volume 84 = .ok (.aload_n 3, 1) ∧ decode cX11_volume 85 = .ok (.getfield 172, 3) ∧ decode cX11_volume 88 = .ok (.iload 4, 2) ∧ decode cX11_volume 90 = .ok (.iaload, 1) ∧ decode cX11_volume 91 = .ok (.iconst 1, 1) ∧ decode cX11_volume 92 = .ok (.iadd, 1) ∧ decode cX11_volume 93 = .ok (.ireturn, 1) := by decide +kernel
theorem eX11_volume_94 : decode cX11_volume 94 = .ok (.aload_n 0, 1) ∧ decode cX11_volume 95 = .ok (.getfield 49, 3) ∧ decode cX11_volume 98 = .ok (.aload_n 3, 1) ∧ decode cX11_volume 99 = .ok (.iload 4, 2) ∧ decode cX11_volume 101 = .ok (.invokevirtual 175, 3) ∧ decode cX11_volume 104 = .ok (.invokestatic 179, 3) ∧ decode cX11_volume 107 = .ok (.ireturn, 1) ∧ decode cX11_volume 108 = .ok (.aload_n 0, 1) := by decide +kernel
theorem eX11_volume_109 : decode cX11_volume 109 = .ok (.getfield 79, 3) ∧ decode cX11_volume 112 = .ok (.iload 4, 2) ∧ decode cX11_volume 114 = .ok (.invokevirtual 185, 3) ∧ decode cX11_volume 117 = .ok (.ireturn, 1) ∧ decode cX11_volume 118 = .ok (.iconst (-1), 1) ∧ decode cX11_volume 119 = .ok (.ireturn, 1) ∧ decode cX1_freedWith 0 = .ok (.iload_n 1, 1) ∧ decode cX1_freedWith 1 = .ok (.iconst (-1), 1) := by decide +kernel
theorem eX1_freedWith_2 : decode cX1_freedWith 2 = .ok (.if_icmp .ne 5, 3) ∧ decode cX1_freedWith 5 = .ok (.iconst 0, 1) ∧ decode cX1_freedWith 6 = .ok (.ireturn, 1) ∧ decode cX1_freedWith 7 = .ok (.aload_n 0, 1) ∧ decode cX1_freedWith 8 = .ok (.getfield 12, 3) ∧ decode cX1_freedWith 11 = .ok (.getfield 181, 3) ∧ decode cX1_freedWith 14 = .ok (.iconst 0, 1) ∧ decode cX1_freedWith 15 = .ok (.aload_n 0, 1) := by decide +kernel
theorem eX1_freedWith_16 : decode cX1_freedWith 16 = .ok (.getfield 44, 3) ∧ decode cX1_freedWith 19 = .ok (.iconst 0, 1) ∧ decode cX1_freedWith 20 = .ok (.bipush 48, 2) ∧ decode cX1_freedWith 22 = .ok (.invokestatic 230, 3) ∧ decode cX1_freedWith 25 = .ok (.aload_n 0, 1) ∧ decode cX1_freedWith 26 = .ok (.iload_n 1, 1) ∧ decode cX1_freedWith 27 = .ok (.aload_n 0, 1) ∧ decode cX1_freedWith 28 = .ok (.getfield 44, 3) := by decide +kernel
theorem eX1_freedWith_31 : decode cX1_freedWith 31 = .ok (.invokevirtual 223, 3) ∧ decode cX1_freedWith 34 = .ok (.ireturn, 1) ∧ decode cX1_release 0 = .ok (.iconst 0, 1) ∧ decode cX1_release 1 = .ok (.istore_n 3, 1) ∧ decode cX1_release 2 = .ok (.aload_n 2, 1) ∧ decode cX1_release 3 = .ok (.iload_n 1, 1) ∧ decode cX1_release 4 = .ok (.dup2, 1) ∧ decode cX1_release 5 = .ok (.iaload, 1) := by decide +kernel
theorem eX1_release_6 : decode cX1_release 6 = .ok (.iconst 1, 1) ∧ decode cX1_release 7 = .ok (.isub, 1) ∧ decode cX1_release 8 = .ok (.iastore, 1) ∧ decode cX1_release 9 = .ok (.aload_n 2, 1) ∧ decode cX1_release 10 = .ok (.iload_n 1, 1) ∧ decode cX1_release 11 = .ok (.iaload, 1) ∧ decode cX1_release 12 = .ok (.ifCond .ne 13, 3) ∧ decode cX1_release 15 = .ok (.aload_n 0, 1) := by decide +kernel
theorem eX1_release_16 : decode cX1_release 16 = .ok (.getfield 37, 3) ∧ decode cX1_release 19 = .ok (.iload_n 3, 1) ∧ decode cX1_release 20 = .ok (.iload_n 1, 1) ∧ decode cX1_release 21 = .ok (.iastore, 1) ∧ decode cX1_release 22 = .ok (.iinc 3 1, 3) ∧ decode cX1_release 25 = .ok (.iconst 0, 1) ∧ decode cX1_release 26 = .ok (.istore 4, 2) ∧ decode cX1_release 28 = .ok (.iload 4, 2) := by decide +kernel
theorem eX1_release_30 : decode cX1_release 30 = .ok (.iload_n 3, 1) ∧ decode cX1_release 31 = .ok (.if_icmp .ge 129, 3) ∧ decode cX1_release 34 = .ok (.iload 4, 2) ∧ decode cX1_release 36 = .ok (.bipush 48, 2) ∧ decode cX1_release 38 = .ok (.if_icmp .ge 122, 3) ∧ decode cX1_release 41 = .ok (.aload_n 0, 1) ∧ decode cX1_release 42 = .ok (.getfield 12, 3) ∧ decode cX1_release 45 = .ok (.getfield 150, 3) := by decide +kernel
theorem eX1_release_48 : decode cX1_release 48 = .ok (.aload_n 0, 1) ∧ decode cX1_release 49 = .ok (.getfield 37, 3) ∧ decode cX1_release 52 = .ok (.iload 4, 2) ∧ decode cX1_release 54 = .ok (.iaload, 1) ∧ decode cX1_release 55 = .ok (.iaload, 1) ∧ decode cX1_release 56 = .ok (.ifCond .le 21, 3) ∧ decode cX1_release 59 = .ok (.aload_n 0, 1) ∧ decode cX1_release 60 = .ok (.getfield 12, 3) := by decide +kernel
theorem eX1_release_63 : decode cX1_release 63 = .ok (.getfield 155, 3) ∧ decode cX1_release 66 = .ok (.aload_n 0, 1) ∧ decode cX1_release 67 = .ok (.getfield 37, 3) ∧ decode cX1_release 70 = .ok (.iload 4, 2) ∧ decode cX1_release 72 = .ok (.iaload, 1) ∧ decode cX1_release 73 = .ok (.iaload, 1) ∧ decode cX1_release 74 = .ok (.goto 4, 3) ∧ decode cX1_release 77 = .ok (.iconst 0, 1) := by decide +kernel
theorem eX1_release_78 : decode cX1_release 78 = .ok (.istore 5, 2) ∧ decode cX1_release 80 = .ok (.iconst 0, 1) ∧ decode cX1_release 81 = .ok (.istore 6, 2) ∧ decode cX1_release 83 = .ok (.iload 6, 2) ∧ decode cX1_release 85 = .ok (.iload 5, 2) ∧ decode cX1_release 87 = .ok (.if_icmp .ge 67, 3) ∧ decode cX1_release 90 = .ok (.aload_n 0, 1) ∧ decode cX1_release 91 = .ok (.getfield 12, 3) := by decide +kernel
theorem eX1_release_94 : decode cX1_release 94 = .ok (.getfield 217, 3) ∧ decode cX1_release 97 = .ok (.aload_n 0, 1) ∧ decode cX1_release 98 = .ok (.getfield 12, 3) ∧ decode cX1_release 101 = .ok (.aload_n 0, 1) ∧ decode cX1_release 102 = .ok (.getfield 37, 3) ∧ decode cX1_release 105 = .ok (.iload 4, 2) ∧ decode cX1_release 107 = .ok (.iaload, 1) ∧ decode cX1_release 108 = .ok (.iload 6, 2) := by decide +kernel
theorem eX1_release_110 : decode cX1_release 110 = .ok (.invokevirtual 220, 3) ∧ decode cX1_release 113 = .ok (.iaload, 1) ∧ decode cX1_release 114 = .ok (.istore 7, 2) ∧ decode cX1_release 116 = .ok (.aload_n 2, 1) ∧ decode cX1_release 117 = .ok (.iload 7, 2) ∧ decode cX1_release 119 = .ok (.dup2, 1) ∧ decode cX1_release 120 = .ok (.iaload, 1) ∧ decode cX1_release 121 = .ok (.iconst 1, 1) := by decide +kernel
theorem eX1_release_122 : decode cX1_release 122 = .ok (.isub, 1) ∧ decode cX1_release 123 = .ok (.iastore, 1) ∧ decode cX1_release 124 = .ok (.aload_n 2, 1) ∧ decode cX1_release 125 = .ok (.iload 7, 2) ∧ decode cX1_release 127 = .ok (.iaload, 1) ∧ decode cX1_release 128 = .ok (.ifCond .ne 20, 3) ∧ decode cX1_release 131 = .ok (.iload_n 3, 1) ∧ decode cX1_release 132 = .ok (.bipush 48, 2) := by decide +kernel
theorem eX1_release_134 : decode cX1_release 134 = .ok (.if_icmp .ge 14, 3) ∧ decode cX1_release 137 = .ok (.aload_n 0, 1) ∧ decode cX1_release 138 = .ok (.getfield 37, 3) ∧ decode cX1_release 141 = .ok (.iload_n 3, 1) ∧ decode cX1_release 142 = .ok (.iload 7, 2) ∧ decode cX1_release 144 = .ok (.iastore, 1) ∧ decode cX1_release 145 = .ok (.iinc 3 1, 3) ∧ decode cX1_release 148 = .ok (.iinc 6 1, 3) := by decide +kernel
theorem eX1_release_151 : decode cX1_release 151 = .ok (.goto (-68), 3) ∧ decode cX1_release 154 = .ok (.iinc 4 1, 3) ∧ decode cX1_release 157 = .ok (.goto (-129), 3) ∧ decode cX1_release 160 = .ok (.iload_n 3, 1) ∧ decode cX1_release 161 = .ok (.ireturn, 1) ∧ decode cX8_inUse 0 = .ok (.aload_n 0, 1) ∧ decode cX8_inUse 1 = .ok (.iload_n 1, 1) ∧ decode cX8_inUse 2 = .ok (.invokevirtual 57, 3) := by decide +kernel
theorem eX8_inUse_5 : decode cX8_inUse 5 = .ok (.ifCond .eq 16, 3) ∧ decode cX8_inUse 8 = .ok (.aload_n 0, 1) ∧ decode cX8_inUse 9 = .ok (.getfield 9, 3) ∧ decode cX8_inUse 12 = .ok (.iload_n 1, 1) ∧ decode cX8_inUse 13 = .ok (.iaload, 1) ∧ decode cX8_inUse 14 = .ok (.ifCond .le 7, 3) ∧ decode cX8_inUse 17 = .ok (.iconst 1, 1) ∧ decode cX8_inUse 18 = .ok (.goto 4, 3) := by decide +kernel
theorem eX8_inUse_21 : decode cX8_inUse 21 = .ok (.iconst 0, 1) ∧ decode cX8_inUse 22 = .ok (.ireturn, 1) ∧ decode cX8_levelOf 0 = .ok (.aload_n 0, 1) ∧ decode cX8_levelOf 1 = .ok (.iload_n 1, 1) ∧ decode cX8_levelOf 2 = .ok (.invokevirtual 61, 3) ∧ decode cX8_levelOf 5 = .ok (.ifCond .ne 11, 3) ∧ decode cX8_levelOf 8 = .ok (.aload_n 0, 1) ∧ decode cX8_levelOf 9 = .ok (.iload_n 1, 1) := by decide +kernel
theorem eX8_levelOf_10 : decode cX8_levelOf 10 = .ok (.invokevirtual 64, 3) ∧ decode cX8_levelOf 13 = .ok (.ifCond .eq 12, 3) ∧ decode cX8_levelOf 16 = .ok (.aload_n 0, 1) ∧ decode cX8_levelOf 17 = .ok (.getfield 18, 3) ∧ decode cX8_levelOf 20 = .ok (.iload_n 1, 1) ∧ decode cX8_levelOf 21 = .ok (.iaload, 1) ∧ decode cX8_levelOf 22 = .ok (.goto 4, 3) ∧ decode cX8_levelOf 25 = .ok (.iconst 0, 1) := by decide +kernel
theorem dX8_levelOf_26 : decode cX8_levelOf 26 = .ok (.ireturn, 1) := by decide +kernel
set_option maxHeartbeats 4000000 in
set_option maxRecDepth 100000 in
theorem k_x10_gather (l : Launch) (D : va_G) (a : Nat → Nat) (p1 : Int) (sz : Nat) (s : MS) (o : (Int × MS)) (h : m_x10_gather p1 s = some o) : yWi l yX10_gather cX10_gather 7 (some .int) { frames := 2, cells := 0, slots := 0, locals := 120 } D sz [.ref (a 21), .ref (a 53), .int (i2 p1)] (CS D a s) (CS D a o.2) (i2 o.1) := by
  refine Met.ofW (cc := cX10_gather) (maxL := 7) (ret := (some .int)) (by decide) rfl ?_
  intro p e s₀ m args below meth c s₁ B hml hv
  obtain ⟨rfl, ⟨hsz, hP, hK, hD0⟩, hN⟩ := hv
  have hx := B.exec
  have hb := B.bytes
  have hr := B.returns
  have hts := atoms_spec (ws := wz yX10_gather cX10_gather 7 (some .int)) B.pre
  have ht : ∀ w ∈ lw_gd, w.before _ s₀ = true := fun w h => hts w (List.mem_cons_of_mem _ h)
  have hown : s₀.vm.findClass RX10 = some m.cls := findClass_of_methodNamed B.named
  have hlocks := B.notSynchronized
  subst hsz
  have hD := hD0.self (sz := s₀.heap.size)
  generalize hAe : va_A (CS D a s) s₀.heap.size = A at hD ⊢
  have hA : ∀ q : Nat, s₀.heap.size ≤ q → A q := fun q h => by rw [← hAe]; exact Or.inr h
  have hS : va_S A s₀.heap s₀.heap [] := va_S.rf
  have hDD : ∀ t : MS, va_D A (CS D a t) := fun t => CW_D t hD
  have hl := lv_entry ([.ref (a 21), .ref (a 53), .int (i2 p1)]) (n := 7) (Nat.le_of_ble_eq_true rfl)
  rw [lg_entry_eq]
  generalize (lg_sl ([.ref (a 21), .ref (a 53), .int (i2 p1)]) ++ List.replicate (7 - (lg_sl ([.ref (a 21), .ref (a 53), .int (i2 p1)])).length) Slot.unset).toArray = ls at hl ⊢
  have hl : lv_has ls 7 [(0, .ref (a 21)), (1, .ref (a 53)), (2, .int (i2 p1))] := hl
  unfold m_x10_gather at h
  refine y_loop (pcJ := 12) (σ := Int × Int × MS) (fun n u H locs ls => va_P D vwCl (CS D a u.2.2) H ∧ va_S A s₀.heap H locs ∧ lv_has ls 7 [(0, .ref (a 21)), (1, .ref (a 53)), (3, .int (i2 u.1)), (4, .int (i2 u.2.1))] ∧ m_x10_gather_L12 n u.1 u.2.1 u.2.2 = some o) (fun u => []) (fun u H locs ls hI => by obtain ⟨_, _, _, h⟩ := hI; cases h) (fun n12 ih12 u H locs ls hI => ?_) (fun J12 => ?_)
  · obtain ⟨hP, hS, hl, h⟩ := hI
    obtain ⟨x1, x2, s3⟩ := u
    have hP : va_P D vwCl (CS D a s3) H := hP
    have hl : lv_has ls 7 [(0, .ref (a 21)), (1, .ref (a 53)), (3, .int (i2 x1)), (4, .int (i2 x2))] := hl
    have h : m_x10_gather_b12 (m_x10_gather_L12 n12) x1 x2 s3 = some o := h
    unfold m_x10_gather_b12 at h
    refine y_head (pcJ := 128) (σ := Int × Int × MS) (fun u H locs ls => va_P D vwCl (CS D a u.2.2) H ∧ va_S A s₀.heap H locs ∧ lv_has ls 7 [(0, .ref (a 21)), (1, .ref (a 53)), (3, .int (i2 u.1)), (4, .int (i2 u.2.1))] ∧ m_x10_gather_J128 (m_x10_gather_L12 n12) u.1 u.2.1 u.2.2 = some o) (fun u => []) (fun u H locs ls hI => ?_) (fun J128 => ?_)
    · obtain ⟨hP, hS, hl, h⟩ := hI
      obtain ⟨x4, x5, s6⟩ := u
      have hP : va_P D vwCl (CS D a s6) H := hP
      have hl : lv_has ls 7 [(0, .ref (a 21)), (1, .ref (a 53)), (3, .int (i2 x4)), (4, .int (i2 x5))] := hl
      have h : m_x10_gather_J128 (m_x10_gather_L12 n12) x4 x5 s6 = some o := h
      unfold m_x10_gather_J128 at h
      refine lv_iinc (v := i2 (x5 + 1)) (lv' := [(4, .int (i2 (x5 + 1))), (0, .ref (a 21)), (1, .ref (a 53)), (3, .int (i2 x4))]) hx hb eX10_gather_112.2.2.2.2.2.2.2 hl (k := 3) rfl (i2_add x5 1) (by decide) rfl (fun ls hl => ?_)
      refine lv_goto (tgt := 12) hx hb eX10_gather_131.1 (by decide) ?_
      exact ih12 (x4, x5 + 1, s6) _ _ _ ⟨hP, hS, lv_sub hl [1, 2, 3, 0] rfl, h⟩
    refine y_loop (pcJ := 57) (σ := Int × Int × Int × Int × MS) (fun n u H locs ls => va_P D vwCl (CS D a u.2.2.2.2) H ∧ va_S A s₀.heap H locs ∧ lv_has ls 7 [(0, .ref (a 21)), (1, .ref (a 53)), (3, .int (i2 u.1)), (4, .int (i2 u.2.1)), (5, .int (i2 u.2.2.1)), (6, .int (i2 u.2.2.2.1))] ∧ m_x10_gather_L57 (m_x10_gather_L12 n12) n u.1 u.2.1 u.2.2.1 u.2.2.2.1 u.2.2.2.2 = some o) (fun u => []) (fun u H locs ls hI => by obtain ⟨_, _, _, h⟩ := hI; cases h) (fun n57 ih57 u H locs ls hI => ?_) (fun J57 => ?_)
    · obtain ⟨hP, hS, hl, h⟩ := hI
      obtain ⟨x7, x8, x9, x10, s11⟩ := u
      have hP : va_P D vwCl (CS D a s11) H := hP
      have hl : lv_has ls 7 [(0, .ref (a 21)), (1, .ref (a 53)), (3, .int (i2 x7)), (4, .int (i2 x8)), (5, .int (i2 x9)), (6, .int (i2 x10))] := hl
      have h : m_x10_gather_b57 (m_x10_gather_L12 n12) (m_x10_gather_L57 (m_x10_gather_L12 n12) n57) x7 x8 x9 x10 s11 = some o := h
      unfold m_x10_gather_b57 at h
      refine lv_iload hx hb eX10_gather_54.2.2.1 (lv_at hl 5 rfl) ?_
      refine lv_iload hx hb eX10_gather_54.2.2.2.1 (lv_at hl 4 rfl) ?_
      obtain ⟨hr12, h⟩ := rg_e h
      obtain ⟨hr13, h⟩ := rg_e h
      refine lv_icmp_ge (tgt := 128) hx hb eX10_gather_54.2.2.2.2.1 (by decide) (fun c14 => ?_) (fun c14 => ?_)
      · have h := if_t ((i2_le (x := x9) (y := x10) hr13 hr12).mp c14) h
        exact J128 (x7, x8, s11) _ _ _ ⟨hP, hS, lv_sub hl [0, 1, 2, 3] rfl, h⟩
      · have h := if_f (mt (i2_le (x := x9) (y := x10) hr13 hr12).mpr c14) h
        refine lv_iload_n hx hb eX10_gather_54.2.2.2.2.2.1 rfl (lv_at hl 2 rfl) ?_
        refine lv_sipush (v := 288) hx hb eX10_gather_54.2.2.2.2.2.2.1 (by decide) ?_
        obtain ⟨hr15, h⟩ := rg_e h
        refine lv_icmp_ge (tgt := 128) hx hb eX10_gather_54.2.2.2.2.2.2.2 (by decide) (fun c16 => ?_) (fun c16 => ?_)
        · have h := if_t ((i2_le (x := 288) (y := x7) (by decide) hr15).mp c16) h
          exact J128 (x7, x8, s11) _ _ _ ⟨hP, hS, lv_sub hl [0, 1, 2, 3] rfl, h⟩
        · have h := if_f (mt (i2_le (x := 288) (y := x7) (by decide) hr15).mpr c16) h
          refine lv_aload_n hx hb eX10_gather_71.1 rfl (lv_at hl 0 rfl) ?_
          refine va_get (D := D) (ci := 10) (v := .ref (a 23)) (C := RX10) (T := TX10) (N := 4) hx hb ht inX10 hown hK hP 21 CW_21 rfl 2 (by decide) (ht (.fieldLink RX10 15 "CloneVolumes$Walk" "keys" "[I") fl_X10_15) (fun _ h9 => h9) rfl eX10_gather_71.2.1 ?_
          refine lv_iload_n hx hb eX10_gather_71.2.2.1 rfl (lv_at hl 2 rfl) ?_
          refine lv_aload_n hx hb eX10_gather_71.2.2.2.1 rfl (lv_at hl 1 rfl) ?_
          refine va_get (D := D) (ci := 8) (v := .ref (a 58)) (C := RX8) (T := TX8) (N := 11) hx hb ht inX8 hown hK hP 53 CW_53 rfl 7 (by decide) (ht (.fieldLink RX10 42 "CloneVolumes$State" "keys" "[I") fl_X10_42) (fun _ h9 => h9) rfl eX10_gather_71.2.2.2.2.1 ?_
          refine lv_aload_n hx hb eX10_gather_71.2.2.2.2.2.1 rfl (lv_at hl 1 rfl) ?_
          refine lv_aload_n hx hb eX10_gather_71.2.2.2.2.2.2.1 rfl (lv_at hl 0 rfl) ?_
          refine va_get (D := D) (ci := 10) (v := .ref (a 22)) (C := RX10) (T := TX10) (N := 4) hx hb ht inX10 hown hK hP 21 CW_21 rfl 0 (by decide) (ht (.fieldLink RX10 9 "CloneVolumes$Walk" "row" "[I") fl_X10_9) (fun _ h9 => h9) rfl eX10_gather_71.2.2.2.2.2.2.2 ?_
          refine lv_iload hx hb eX10_gather_85.1 (lv_at hl 3 rfl) ?_
          obtain ⟨y17, ey17, iy17, h⟩ := rdI_e h
          refine ya_iald (i := x8) hx hb hK hP 22 0 CW_22 rfl (by decide) ey17 iy17 eX10_gather_85.2.1 ?_
          refine lv_iload hx hb eX10_gather_85.2.2.1 (lv_at hl 5 rfl) ?_
          obtain ⟨r19, hc18, h⟩ := bn_e h
          refine ycV (r0 := i2 r19) (As := [.int (i2 y17), .int (i2 x10)]) (rest := [.ref (a 58), .int (i2 x7), .ref (a 23)]) (C := RX8) (n := 2) ⟨hx, hb, hml, hown, ht⟩ (k_x8_slot l D a y17 x10 _ _ hc18) (zgV ml_X10_34 im_X8_slot se_X8_slot in_X8 co_X8_slot) rfl rfl (by decide +kernel) ⟨Nat.le_of_ble_eq_true rfl, Nat.le_of_ble_eq_true rfl⟩ hN hK hP hS 53 CW_53 rfl rfl rfl hl.1 rfl (Nat.le_of_ble_eq_true rfl) eX10_gather_85.2.2.2.1 ⟨Nat.le_of_ble_eq_true rfl, Nat.le_of_ble_eq_true rfl⟩ (fun H locs hP hS => ?_)
          obtain ⟨y20, ey20, iy20, h⟩ := rdI_e h
          refine ya_iald (i := r19) hx hb hK hP 58 0 CW_58 rfl (by decide) ey20 iy20 eX10_gather_85.2.2.2.2.1 ?_
          obtain ⟨hi21, h⟩ := inb_e h
          refine ya_iast (i := x7) (x := y20) hx hb hK hP (hDD _) hS 23 0 CW_23 rfl (by decide) hi21 eX10_gather_85.2.2.2.2.2.1 (CW_w23 _) (fun H locs hP hS => ?_)
          obtain ⟨s22, hs22, h⟩ := st_e h
          rw [hs22] at hP
          refine lv_aload_n hx hb eX10_gather_85.2.2.2.2.2.2.1 rfl (lv_at hl 0 rfl) ?_
          refine va_get (D := D) (ci := 10) (v := .ref (a 24)) (C := RX10) (T := TX10) (N := 4) hx hb ht inX10 hown hK hP 21 CW_21 rfl 3 (by decide) (ht (.fieldLink RX10 18 "CloneVolumes$Walk" "values" "[I") fl_X10_18) (fun _ h9 => h9) rfl eX10_gather_85.2.2.2.2.2.2.2 ?_
          refine lv_iload_n hx hb eX10_gather_99.1 rfl (lv_at hl 2 rfl) ?_
          refine lv_aload_n hx hb eX10_gather_99.2.1 rfl (lv_at hl 1 rfl) ?_
          refine va_get (D := D) (ci := 8) (v := .ref (a 59)) (C := RX8) (T := TX8) (N := 11) hx hb ht inX8 hown hK hP 53 CW_53 rfl 8 (by decide) (ht (.fieldLink RX10 33 "CloneVolumes$State" "values" "[I") fl_X10_33) (fun _ h9 => h9) rfl eX10_gather_99.2.2.1 ?_
          refine lv_aload_n hx hb eX10_gather_99.2.2.2.1 rfl (lv_at hl 1 rfl) ?_
          refine lv_aload_n hx hb eX10_gather_99.2.2.2.2.1 rfl (lv_at hl 0 rfl) ?_
          refine va_get (D := D) (ci := 10) (v := .ref (a 22)) (C := RX10) (T := TX10) (N := 4) hx hb ht inX10 hown hK hP 21 CW_21 rfl 0 (by decide) (ht (.fieldLink RX10 9 "CloneVolumes$Walk" "row" "[I") fl_X10_9) (fun _ h9 => h9) rfl eX10_gather_99.2.2.2.2.2.1 ?_
          refine lv_iload hx hb eX10_gather_99.2.2.2.2.2.2.1 (lv_at hl 3 rfl) ?_
          obtain ⟨y23, ey23, iy23, h⟩ := rdI_e h
          refine ya_iald (i := x8) hx hb hK hP 22 0 CW_22 rfl (by decide) ey23 iy23 eX10_gather_99.2.2.2.2.2.2.2 ?_
          refine lv_iload hx hb eX10_gather_112.1 (lv_at hl 5 rfl) ?_
          obtain ⟨r25, hc24, h⟩ := bn_e h
          refine ycV (r0 := i2 r25) (As := [.int (i2 y23), .int (i2 x10)]) (rest := [.ref (a 59), .int (i2 x7), .ref (a 24)]) (C := RX8) (n := 2) ⟨hx, hb, hml, hown, ht⟩ (k_x8_slot l D a y23 x10 _ _ hc24) (zgV ml_X10_34 im_X8_slot se_X8_slot in_X8 co_X8_slot) rfl rfl (by decide +kernel) ⟨Nat.le_of_ble_eq_true rfl, Nat.le_of_ble_eq_true rfl⟩ hN hK hP hS 53 CW_53 rfl rfl rfl hl.1 rfl (Nat.le_of_ble_eq_true rfl) eX10_gather_112.2.1 ⟨Nat.le_of_ble_eq_true rfl, Nat.le_of_ble_eq_true rfl⟩ (fun H locs hP hS => ?_)
          obtain ⟨y26, ey26, iy26, h⟩ := rdI_e h
          refine ya_iald (i := r25) hx hb hK hP 59 0 CW_59 rfl (by decide) ey26 iy26 eX10_gather_112.2.2.1 ?_
          obtain ⟨hi27, h⟩ := inb_e h
          refine ya_iast (i := x7) (x := y26) hx hb hK hP (hDD _) hS 24 0 CW_24 rfl (by decide) hi27 eX10_gather_112.2.2.2.1 (CW_w24 _) (fun H locs hP hS => ?_)
          obtain ⟨s28, hs28, h⟩ := st_e h
          rw [hs28] at hP
          refine lv_iinc (v := i2 (x7 + 1)) (lv' := [(3, .int (i2 (x7 + 1))), (0, .ref (a 21)), (1, .ref (a 53)), (4, .int (i2 x8)), (5, .int (i2 x9)), (6, .int (i2 x10))]) hx hb eX10_gather_112.2.2.2.2.1 hl (k := 2) rfl (i2_add x7 1) (by decide) rfl (fun ls hl => ?_)
          refine lv_iinc (v := i2 (x10 + 1)) (lv' := [(6, .int (i2 (x10 + 1))), (3, .int (i2 (x7 + 1))), (0, .ref (a 21)), (1, .ref (a 53)), (4, .int (i2 x8)), (5, .int (i2 x9))]) hx hb eX10_gather_112.2.2.2.2.2.1 hl (k := 5) rfl (i2_add x10 1) (by decide) rfl (fun ls hl => ?_)
          refine lv_goto (tgt := 57) hx hb eX10_gather_112.2.2.2.2.2.2.1 (by decide) ?_
          exact ih57 (x7 + 1, x8, x9, x10 + 1, s28) _ _ _ ⟨hP, hS, lv_sub hl [2, 3, 1, 4, 5, 0] rfl, h⟩
    refine y_head (pcJ := 52) (σ := Int × Int × Int × MS) (fun u H locs ls => va_P D vwCl (CS D a u.2.2.2) H ∧ va_S A s₀.heap H locs ∧ lv_has ls 7 [(0, .ref (a 21)), (1, .ref (a 53)), (3, .int (i2 u.1)), (4, .int (i2 u.2.1))] ∧ m_x10_gather_J52 (m_x10_gather_L12 n12) u.1 u.2.1 u.2.2.1 u.2.2.2 = some o) (fun u => [.int (i2 u.2.2.1)]) (fun u H locs ls hI => ?_) (fun J52 => ?_)
    · obtain ⟨hP, hS, hl, h⟩ := hI
      obtain ⟨x29, x30, x31, s32⟩ := u
      have hP : va_P D vwCl (CS D a s32) H := hP
      have hl : lv_has ls 7 [(0, .ref (a 21)), (1, .ref (a 53)), (3, .int (i2 x29)), (4, .int (i2 x30))] := hl
      have h : m_x10_gather_J52 (m_x10_gather_L12 n12) x29 x30 x31 s32 = some o := h
      unfold m_x10_gather_J52 at h
      refine lv_istore (lv' := [(5, .int (i2 x31)), (0, .ref (a 21)), (1, .ref (a 53)), (3, .int (i2 x29)), (4, .int (i2 x30))]) hx hb eX10_gather_40.2.2.2.2.2.2.2 hl (by decide) rfl (fun ls hl => ?_)
      refine lv_iconst (v := 0) hx hb eX10_gather_54.1 (by decide) ?_
      refine lv_istore (lv' := [(6, .int 0), (5, .int (i2 x31)), (0, .ref (a 21)), (1, .ref (a 53)), (3, .int (i2 x29)), (4, .int (i2 x30))]) hx hb eX10_gather_54.2.1 hl (by decide) rfl (fun ls hl => ?_)
      exact J57 FU (x29, x30, x31, 0, s32) _ _ _ ⟨hP, hS, lv_sub hl [2, 3, 4, 5, 1, 0] rfl, h⟩
    refine lv_iload hx hb eX10_gather_9.2.2.1 (lv_at hl 3 rfl) ?_
    refine lv_aload_n hx hb eX10_gather_9.2.2.2.1 rfl (lv_at hl 0 rfl) ?_
    refine va_get (D := D) (ci := 10) (v := .int (i2 (gI s3 421))) (C := RX10) (T := TX10) (N := 4) hx hb ht inX10 hown hK hP 21 CW_21 rfl 1 (by decide) (ht (.fieldLink RX10 21 "CloneVolumes$Walk" "length" "I") fl_X10_21) (fun _ h9 => h9) rfl eX10_gather_9.2.2.2.2.1 ?_
    obtain ⟨hr33, h⟩ := rg_e h
    obtain ⟨hr34, h⟩ := rg_e h
    refine lv_icmp_ge (tgt := 134) hx hb eX10_gather_9.2.2.2.2.2.1 (by decide) (fun c35 => ?_) (fun c35 => ?_)
    · have h := if_t ((i2_le (x := (gI s3 421)) (y := x2) hr34 hr33).mp c35) h
      refine lv_iload_n hx hb eX10_gather_131.2.1 rfl (lv_at hl 2 rfl) ?_
      obtain rfl := Option.some.inj h
      exact W.iret (v := (i2 x1)) hx hb hr (fun t ht hW => ⟨⟨_, (), rfl, rfl, by rw [ht]; exact hP, va_K.moved hW.alike hK, hDD _⟩, hS.F ht⟩) hS.2.2 eX10_gather_131.2.2.1
    · have h := if_f (mt (i2_le (x := (gI s3 421)) (y := x2) hr34 hr33).mpr c35) h
      refine lv_aload_n hx hb eX10_gather_9.2.2.2.2.2.2.1 rfl (lv_at hl 1 rfl) ?_
      refine va_get (D := D) (ci := 8) (v := .ref (a 56)) (C := RX8) (T := TX8) (N := 11) hx hb ht inX8 hown hK hP 53 CW_53 rfl 5 (by decide) (ht (.fieldLink RX10 25 "CloneVolumes$State" "level" "[I") fl_X10_25) (fun _ h9 => h9) rfl eX10_gather_9.2.2.2.2.2.2.2 ?_
      refine lv_aload_n hx hb eX10_gather_25.1 rfl (lv_at hl 0 rfl) ?_
      refine va_get (D := D) (ci := 10) (v := .ref (a 22)) (C := RX10) (T := TX10) (N := 4) hx hb ht inX10 hown hK hP 21 CW_21 rfl 0 (by decide) (ht (.fieldLink RX10 9 "CloneVolumes$Walk" "row" "[I") fl_X10_9) (fun _ h9 => h9) rfl eX10_gather_25.2.1 ?_
      refine lv_iload hx hb eX10_gather_25.2.2.1 (lv_at hl 3 rfl) ?_
      obtain ⟨y36, ey36, iy36, h⟩ := rdI_e h
      refine ya_iald (i := x2) hx hb hK hP 22 0 CW_22 rfl (by decide) ey36 iy36 eX10_gather_25.2.2.2.1 ?_
      obtain ⟨y37, ey37, iy37, h⟩ := rdI_e h
      refine ya_iald (i := y36) hx hb hK hP 56 0 CW_56 rfl (by decide) ey37 iy37 eX10_gather_25.2.2.2.2.1 ?_
      obtain ⟨hr38, h⟩ := rg_e h
      refine lv_if_ne (tgt := 51) hx hb eX10_gather_25.2.2.2.2.2.1 (by decide) (fun c39 => ?_) (fun c39 => ?_)
      · have h := if_f (mt (i2_eq (x := y37) (y := 0) hr38 (by decide)).mpr c39) h
        refine lv_iconst (v := 0) hx hb eX10_gather_40.2.2.2.2.2.2.1 (by decide) ?_
        exact J52 (x1, x2, 0, s3) _ _ _ ⟨hP, hS, lv_sub hl [0, 1, 2, 3] rfl, h⟩
      · have h := if_t ((i2_eq (x := y37) (y := 0) hr38 (by decide)).mp c39) h
        refine lv_aload_n hx hb eX10_gather_25.2.2.2.2.2.2.1 rfl (lv_at hl 1 rfl) ?_
        refine va_get (D := D) (ci := 8) (v := .ref (a 57)) (C := RX8) (T := TX8) (N := 11) hx hb ht inX8 hown hK hP 53 CW_53 rfl 6 (by decide) (ht (.fieldLink RX10 30 "CloneVolumes$State" "size" "[I") fl_X10_30) (fun _ h9 => h9) rfl eX10_gather_25.2.2.2.2.2.2.2 ?_
        refine lv_aload_n hx hb eX10_gather_40.1 rfl (lv_at hl 0 rfl) ?_
        refine va_get (D := D) (ci := 10) (v := .ref (a 22)) (C := RX10) (T := TX10) (N := 4) hx hb ht inX10 hown hK hP 21 CW_21 rfl 0 (by decide) (ht (.fieldLink RX10 9 "CloneVolumes$Walk" "row" "[I") fl_X10_9) (fun _ h9 => h9) rfl eX10_gather_40.2.1 ?_
        refine lv_iload hx hb eX10_gather_40.2.2.1 (lv_at hl 3 rfl) ?_
        obtain ⟨y40, ey40, iy40, h⟩ := rdI_e h
        refine ya_iald (i := x2) hx hb hK hP 22 0 CW_22 rfl (by decide) ey40 iy40 eX10_gather_40.2.2.2.1 ?_
        obtain ⟨y41, ey41, iy41, h⟩ := rdI_e h
        refine ya_iald (i := y40) hx hb hK hP 57 0 CW_57 rfl (by decide) ey41 iy41 eX10_gather_40.2.2.2.2.1 ?_
        refine lv_goto (tgt := 52) hx hb eX10_gather_40.2.2.2.2.2.1 (by decide) ?_
        exact J52 (x1, x2, y41, s3) _ _ _ ⟨hP, hS, lv_sub hl [0, 1, 2, 3] rfl, h⟩
  refine lv_aload_n hx hb eJ13_bitCount_95d88_60.2.1 rfl (lv_at hl 0 rfl) ?_
  refine lv_aload_n hx hb eJ13_bitCount_95d88_60.2.2.1 rfl (lv_at hl 1 rfl) ?_
  refine lv_iload_n hx hb eJ13_bitCount_95d88_60.2.2.2.1 rfl (lv_at hl 2 rfl) ?_
  obtain ⟨⟨rl44, s43⟩, hc42, h⟩ := bn_e h
  refine ywVl (r0 := i8 rl44) (As := [.ref (a 53), .int (i2 p1)]) (rest := []) (C := RX10) (n := 2) (ws' := CS D a s43) ⟨hx, hb, hml, hown, ht⟩ (k_x10_tree l D a p1 _ _ _ hc42) (zgV ml_X10_38 im_X10_tree se_X10_tree in_X10 co_X10_tree) rfl rfl (by decide +kernel) ⟨Nat.le_of_ble_eq_true rfl, Nat.le_of_ble_eq_true rfl⟩ hN hK hP (hDD _) hS hA 21 CW_21 rfl rfl rfl hl.1 rfl (Nat.le_of_ble_eq_true rfl) eJ13_bitCount_95d88_60.2.2.2.2.1 ⟨Nat.le_of_ble_eq_true rfl, Nat.le_of_ble_eq_true rfl⟩ (fun H locs hP hS => ?_)
  refine lv_pop2_2 hx hb eJ13_bitCount_95d88_60.2.2.2.2.2.1 rfl ?_
  refine lv_iconst (v := 0) hx hb eJ13_bitCount_95d88_60.2.2.2.2.2.2.1 (by decide) ?_
  refine lv_istore_n (lv' := [(3, .int 0), (0, .ref (a 21)), (1, .ref (a 53)), (2, .int (i2 p1))]) hx hb eJ13_bitCount_95d88_60.2.2.2.2.2.2.2 rfl hl (by decide) rfl (fun ls hl => ?_)
  refine lv_iconst (v := 0) hx hb eX10_gather_9.1 (by decide) ?_
  refine lv_istore (lv' := [(4, .int 0), (3, .int 0), (0, .ref (a 21)), (1, .ref (a 53)), (2, .int (i2 p1))]) hx hb eX10_gather_9.2.1 hl (by decide) rfl (fun ls hl => ?_)
  exact J12 FU (0, 0, s43) _ _ _ ⟨hP, hS, lv_sub hl [2, 3, 1, 0] rfl, h⟩
set_option maxHeartbeats 4000000 in
set_option maxRecDepth 100000 in
theorem k_j13_bitCount_95d88 (l : Launch) (D : va_G) (a : Nat → Nat) (p0 : Int) (s : MS) (o : Int) (h : m_j13_bitCount_95d88 p0 s = some o) : yRi l yJ13_bitCount_95d88 cJ13_bitCount_95d88 2 (some .int) { frames := 0, cells := 0, slots := 0, locals := 0 } D [.long (i8 p0)] (CS D a s) (i2 o) := by
  refine Met.ofW (cc := cJ13_bitCount_95d88) (maxL := 2) (ret := (some .int)) (by decide) rfl ?_
  intro p e s₀ m args below meth c s₁ B hml hv
  obtain ⟨rfl, ⟨hP, hK⟩, hN⟩ := hv
  have hx := B.exec
  have hb := B.bytes
  have hr := B.returns
  have hts := atoms_spec (ws := wz yJ13_bitCount_95d88 cJ13_bitCount_95d88 2 (some .int)) B.pre
  have ht : ∀ w ∈ lw_gd, w.before _ s₀ = true := fun w h => hts w (List.mem_cons_of_mem _ h)
  have hown : s₀.vm.findClass RJ13 = some m.cls := findClass_of_methodNamed B.named
  have hlocks := B.notSynchronized
  have hS : va_S (fun _ => False) s₀.heap s₀.heap [] := va_S.rf
  have hl := lv_entry ([.long (i8 p0)]) (n := 2) (Nat.le_of_ble_eq_true rfl)
  rw [lg_entry_eq]
  generalize (lg_sl ([.long (i8 p0)]) ++ List.replicate (2 - (lg_sl ([.long (i8 p0)])).length) Slot.unset).toArray = ls at hl ⊢
  have hl : lv_has ls 2 [(0, .long (i8 p0))] := hl
  unfold m_j13_bitCount_95d88 at h
  refine lv_lload_n hx hb eJ13_bitCount_95d88_0.1 rfl (lv_at hl 0 rfl) ?_
  refine lv_lload_n hx hb eJ13_bitCount_95d88_0.2.1 rfl (lv_at hl 0 rfl) ?_
  refine lv_iconst (v := 1) hx hb eJ13_bitCount_95d88_0.2.2.1 (by decide) ?_
  refine lv_lushr (v := i8 (ushrLZ p0 1)) hx hb eJ13_bitCount_95d88_0.2.2.2.1 (i8_of (ushrL (i8 p0) (i2 1))).symm ?_
  refine lv_ldc2 (own := RJ13) (v := 6148914691236517205) hx hb hown (ht _ cl_J13_314) eJ13_bitCount_95d88_0.2.2.2.2.1 ?_
  refine lv_land hx hb eJ13_bitCount_95d88_0.2.2.2.2.2.1 ?_
  refine z_topl (y := i8 (andL (ushrLZ p0 1) 6148914691236517205)) (i8_of (i8 (ushrLZ p0 1) &&& i8 6148914691236517205)).symm ?_
  refine lv_lsub hx hb eJ13_bitCount_95d88_0.2.2.2.2.2.2.1 ?_
  refine z_topl (y := i8 (p0 - (andL (ushrLZ p0 1) 6148914691236517205))) (i8_sub p0 (andL (ushrLZ p0 1) 6148914691236517205)) ?_
  refine lv_lstore_n (lv' := [(0, .long (i8 (p0 - (andL (ushrLZ p0 1) 6148914691236517205))))]) hx hb eJ13_bitCount_95d88_0.2.2.2.2.2.2.2 rfl hl (by decide) rfl (fun ls hl => ?_)
  refine lv_lload_n hx hb eJ13_bitCount_95d88_10.1 rfl (lv_at hl 0 rfl) ?_
  refine lv_ldc2 (own := RJ13) (v := 3689348814741910323) hx hb hown (ht _ cl_J13_316) eJ13_bitCount_95d88_10.2.1 ?_
  refine lv_land hx hb eJ13_bitCount_95d88_10.2.2.1 ?_
  refine z_topl (y := i8 (andL (p0 - (andL (ushrLZ p0 1) 6148914691236517205)) 3689348814741910323)) (i8_of (i8 (p0 - (andL (ushrLZ p0 1) 6148914691236517205)) &&& i8 3689348814741910323)).symm ?_
  refine lv_lload_n hx hb eJ13_bitCount_95d88_10.2.2.2.1 rfl (lv_at hl 0 rfl) ?_
  refine lv_iconst (v := 2) hx hb eJ13_bitCount_95d88_10.2.2.2.2.1 (by decide) ?_
  refine lv_lushr (v := i8 (ushrLZ (p0 - (andL (ushrLZ p0 1) 6148914691236517205)) 2)) hx hb eJ13_bitCount_95d88_10.2.2.2.2.2.1 (i8_of (ushrL (i8 (p0 - (andL (ushrLZ p0 1) 6148914691236517205))) (i2 2))).symm ?_
  refine lv_ldc2 (own := RJ13) (v := 3689348814741910323) hx hb hown (ht _ cl_J13_316) eJ13_bitCount_95d88_10.2.2.2.2.2.2.1 ?_
  refine lv_land hx hb eJ13_bitCount_95d88_10.2.2.2.2.2.2.2 ?_
  refine z_topl (y := i8 (andL (ushrLZ (p0 - (andL (ushrLZ p0 1) 6148914691236517205)) 2) 3689348814741910323)) (i8_of (i8 (ushrLZ (p0 - (andL (ushrLZ p0 1) 6148914691236517205)) 2) &&& i8 3689348814741910323)).symm ?_
  refine lv_ladd hx hb eJ13_bitCount_95d88_22.1 ?_
  refine z_topl (y := i8 ((andL (p0 - (andL (ushrLZ p0 1) 6148914691236517205)) 3689348814741910323) + (andL (ushrLZ (p0 - (andL (ushrLZ p0 1) 6148914691236517205)) 2) 3689348814741910323))) (i8_add (andL (p0 - (andL (ushrLZ p0 1) 6148914691236517205)) 3689348814741910323) (andL (ushrLZ (p0 - (andL (ushrLZ p0 1) 6148914691236517205)) 2) 3689348814741910323)) ?_
  refine lv_lstore_n (lv' := [(0, .long (i8 ((andL (p0 - (andL (ushrLZ p0 1) 6148914691236517205)) 3689348814741910323) + (andL (ushrLZ (p0 - (andL (ushrLZ p0 1) 6148914691236517205)) 2) 3689348814741910323))))]) hx hb eJ13_bitCount_95d88_22.2.1 rfl hl (by decide) rfl (fun ls hl => ?_)
  refine lv_lload_n hx hb eJ13_bitCount_95d88_22.2.2.1 rfl (lv_at hl 0 rfl) ?_
  refine lv_lload_n hx hb eJ13_bitCount_95d88_22.2.2.2.1 rfl (lv_at hl 0 rfl) ?_
  refine lv_iconst (v := 4) hx hb eJ13_bitCount_95d88_22.2.2.2.2.1 (by decide) ?_
  refine lv_lushr (v := i8 (ushrLZ ((andL (p0 - (andL (ushrLZ p0 1) 6148914691236517205)) 3689348814741910323) + (andL (ushrLZ (p0 - (andL (ushrLZ p0 1) 6148914691236517205)) 2) 3689348814741910323)) 4)) hx hb eJ13_bitCount_95d88_22.2.2.2.2.2.1 (i8_of (ushrL (i8 ((andL (p0 - (andL (ushrLZ p0 1) 6148914691236517205)) 3689348814741910323) + (andL (ushrLZ (p0 - (andL (ushrLZ p0 1) 6148914691236517205)) 2) 3689348814741910323))) (i2 4))).symm ?_
  refine lv_ladd hx hb eJ13_bitCount_95d88_22.2.2.2.2.2.2.1 ?_
  refine z_topl (y := i8 (((andL (p0 - (andL (ushrLZ p0 1) 6148914691236517205)) 3689348814741910323) + (andL (ushrLZ (p0 - (andL (ushrLZ p0 1) 6148914691236517205)) 2) 3689348814741910323)) + (ushrLZ ((andL (p0 - (andL (ushrLZ p0 1) 6148914691236517205)) 3689348814741910323) + (andL (ushrLZ (p0 - (andL (ushrLZ p0 1) 6148914691236517205)) 2) 3689348814741910323)) 4))) (i8_add ((andL (p0 - (andL (ushrLZ p0 1) 6148914691236517205)) 3689348814741910323) + (andL (ushrLZ (p0 - (andL (ushrLZ p0 1) 6148914691236517205)) 2) 3689348814741910323)) (ushrLZ ((andL (p0 - (andL (ushrLZ p0 1) 6148914691236517205)) 3689348814741910323) + (andL (ushrLZ (p0 - (andL (ushrLZ p0 1) 6148914691236517205)) 2) 3689348814741910323)) 4)) ?_
  refine lv_ldc2 (own := RJ13) (v := 1085102592571150095) hx hb hown (ht _ cl_J13_318) eJ13_bitCount_95d88_22.2.2.2.2.2.2.2 ?_
  refine lv_land hx hb eJ13_bitCount_95d88_32.1 ?_
  refine z_topl (y := i8 (andL (((andL (p0 - (andL (ushrLZ p0 1) 6148914691236517205)) 3689348814741910323) + (andL (ushrLZ (p0 - (andL (ushrLZ p0 1) 6148914691236517205)) 2) 3689348814741910323)) + (ushrLZ ((andL (p0 - (andL (ushrLZ p0 1) 6148914691236517205)) 3689348814741910323) + (andL (ushrLZ (p0 - (andL (ushrLZ p0 1) 6148914691236517205)) 2) 3689348814741910323)) 4)) 1085102592571150095)) (i8_of (i8 (((andL (p0 - (andL (ushrLZ p0 1) 6148914691236517205)) 3689348814741910323) + (andL (ushrLZ (p0 - (andL (ushrLZ p0 1) 6148914691236517205)) 2) 3689348814741910323)) + (ushrLZ ((andL (p0 - (andL (ushrLZ p0 1) 6148914691236517205)) 3689348814741910323) + (andL (ushrLZ (p0 - (andL (ushrLZ p0 1) 6148914691236517205)) 2) 3689348814741910323)) 4)) &&& i8 1085102592571150095)).symm ?_
  refine lv_lstore_n (lv' := [(0, .long (i8 (andL (((andL (p0 - (andL (ushrLZ p0 1) 6148914691236517205)) 3689348814741910323) + (andL (ushrLZ (p0 - (andL (ushrLZ p0 1) 6148914691236517205)) 2) 3689348814741910323)) + (ushrLZ ((andL (p0 - (andL (ushrLZ p0 1) 6148914691236517205)) 3689348814741910323) + (andL (ushrLZ (p0 - (andL (ushrLZ p0 1) 6148914691236517205)) 2) 3689348814741910323)) 4)) 1085102592571150095)))]) hx hb eJ13_bitCount_95d88_32.2.1 rfl hl (by decide) rfl (fun ls hl => ?_)
  refine lv_lload_n hx hb eJ13_bitCount_95d88_32.2.2.1 rfl (lv_at hl 0 rfl) ?_
  refine lv_lload_n hx hb eJ13_bitCount_95d88_32.2.2.2.1 rfl (lv_at hl 0 rfl) ?_
  refine lv_bipush (v := 8) hx hb eJ13_bitCount_95d88_32.2.2.2.2.1 (by decide) ?_
  refine lv_lushr (v := i8 (ushrLZ (andL (((andL (p0 - (andL (ushrLZ p0 1) 6148914691236517205)) 3689348814741910323) + (andL (ushrLZ (p0 - (andL (ushrLZ p0 1) 6148914691236517205)) 2) 3689348814741910323)) + (ushrLZ ((andL (p0 - (andL (ushrLZ p0 1) 6148914691236517205)) 3689348814741910323) + (andL (ushrLZ (p0 - (andL (ushrLZ p0 1) 6148914691236517205)) 2) 3689348814741910323)) 4)) 1085102592571150095) 8)) hx hb eJ13_bitCount_95d88_32.2.2.2.2.2.1 (i8_of (ushrL (i8 (andL (((andL (p0 - (andL (ushrLZ p0 1) 6148914691236517205)) 3689348814741910323) + (andL (ushrLZ (p0 - (andL (ushrLZ p0 1) 6148914691236517205)) 2) 3689348814741910323)) + (ushrLZ ((andL (p0 - (andL (ushrLZ p0 1) 6148914691236517205)) 3689348814741910323) + (andL (ushrLZ (p0 - (andL (ushrLZ p0 1) 6148914691236517205)) 2) 3689348814741910323)) 4)) 1085102592571150095)) (i2 8))).symm ?_
  refine lv_ladd hx hb eJ13_bitCount_95d88_32.2.2.2.2.2.2.1 ?_
  refine z_topl (y := i8 ((andL (((andL (p0 - (andL (ushrLZ p0 1) 6148914691236517205)) 3689348814741910323) + (andL (ushrLZ (p0 - (andL (ushrLZ p0 1) 6148914691236517205)) 2) 3689348814741910323)) + (ushrLZ ((andL (p0 - (andL (ushrLZ p0 1) 6148914691236517205)) 3689348814741910323) + (andL (ushrLZ (p0 - (andL (ushrLZ p0 1) 6148914691236517205)) 2) 3689348814741910323)) 4)) 1085102592571150095) + (ushrLZ (andL (((andL (p0 - (andL (ushrLZ p0 1) 6148914691236517205)) 3689348814741910323) + (andL (ushrLZ (p0 - (andL (ushrLZ p0 1) 6148914691236517205)) 2) 3689348814741910323)) + (ushrLZ ((andL (p0 - (andL (ushrLZ p0 1) 6148914691236517205)) 3689348814741910323) + (andL (ushrLZ (p0 - (andL (ushrLZ p0 1) 6148914691236517205)) 2) 3689348814741910323)) 4)) 1085102592571150095) 8))) (i8_add (andL (((andL (p0 - (andL (ushrLZ p0 1) 6148914691236517205)) 3689348814741910323) + (andL (ushrLZ (p0 - (andL (ushrLZ p0 1) 6148914691236517205)) 2) 3689348814741910323)) + (ushrLZ ((andL (p0 - (andL (ushrLZ p0 1) 6148914691236517205)) 3689348814741910323) + (andL (ushrLZ (p0 - (andL (ushrLZ p0 1) 6148914691236517205)) 2) 3689348814741910323)) 4)) 1085102592571150095) (ushrLZ (andL (((andL (p0 - (andL (ushrLZ p0 1) 6148914691236517205)) 3689348814741910323) + (andL (ushrLZ (p0 - (andL (ushrLZ p0 1) 6148914691236517205)) 2) 3689348814741910323)) + (ushrLZ ((andL (p0 - (andL (ushrLZ p0 1) 6148914691236517205)) 3689348814741910323) + (andL (ushrLZ (p0 - (andL (ushrLZ p0 1) 6148914691236517205)) 2) 3689348814741910323)) 4)) 1085102592571150095) 8)) ?_
  refine lv_lstore_n (lv' := [(0, .long (i8 ((andL (((andL (p0 - (andL (ushrLZ p0 1) 6148914691236517205)) 3689348814741910323) + (andL (ushrLZ (p0 - (andL (ushrLZ p0 1) 6148914691236517205)) 2) 3689348814741910323)) + (ushrLZ ((andL (p0 - (andL (ushrLZ p0 1) 6148914691236517205)) 3689348814741910323) + (andL (ushrLZ (p0 - (andL (ushrLZ p0 1) 6148914691236517205)) 2) 3689348814741910323)) 4)) 1085102592571150095) + (ushrLZ (andL (((andL (p0 - (andL (ushrLZ p0 1) 6148914691236517205)) 3689348814741910323) + (andL (ushrLZ (p0 - (andL (ushrLZ p0 1) 6148914691236517205)) 2) 3689348814741910323)) + (ushrLZ ((andL (p0 - (andL (ushrLZ p0 1) 6148914691236517205)) 3689348814741910323) + (andL (ushrLZ (p0 - (andL (ushrLZ p0 1) 6148914691236517205)) 2) 3689348814741910323)) 4)) 1085102592571150095) 8))))]) hx hb eJ13_bitCount_95d88_32.2.2.2.2.2.2.2 rfl hl (by decide) rfl (fun ls hl => ?_)
  refine lv_lload_n hx hb eJ13_bitCount_95d88_41.1 rfl (lv_at hl 0 rfl) ?_
  refine lv_lload_n hx hb eJ13_bitCount_95d88_41.2.1 rfl (lv_at hl 0 rfl) ?_
  refine lv_bipush (v := 16) hx hb eJ13_bitCount_95d88_41.2.2.1 (by decide) ?_
  refine lv_lushr (v := i8 (ushrLZ ((andL (((andL (p0 - (andL (ushrLZ p0 1) 6148914691236517205)) 3689348814741910323) + (andL (ushrLZ (p0 - (andL (ushrLZ p0 1) 6148914691236517205)) 2) 3689348814741910323)) + (ushrLZ ((andL (p0 - (andL (ushrLZ p0 1) 6148914691236517205)) 3689348814741910323) + (andL (ushrLZ (p0 - (andL (ushrLZ p0 1) 6148914691236517205)) 2) 3689348814741910323)) 4)) 1085102592571150095) + (ushrLZ (andL (((andL (p0 - (andL (ushrLZ p0 1) 6148914691236517205)) 3689348814741910323) + (andL (ushrLZ (p0 - (andL (ushrLZ p0 1) 6148914691236517205)) 2) 3689348814741910323)) + (ushrLZ ((andL (p0 - (andL (ushrLZ p0 1) 6148914691236517205)) 3689348814741910323) + (andL (ushrLZ (p0 - (andL (ushrLZ p0 1) 6148914691236517205)) 2) 3689348814741910323)) 4)) 1085102592571150095) 8)) 16)) hx hb eJ13_bitCount_95d88_41.2.2.2.1 (i8_of (ushrL (i8 ((andL (((andL (p0 - (andL (ushrLZ p0 1) 6148914691236517205)) 3689348814741910323) + (andL (ushrLZ (p0 - (andL (ushrLZ p0 1) 6148914691236517205)) 2) 3689348814741910323)) + (ushrLZ ((andL (p0 - (andL (ushrLZ p0 1) 6148914691236517205)) 3689348814741910323) + (andL (ushrLZ (p0 - (andL (ushrLZ p0 1) 6148914691236517205)) 2) 3689348814741910323)) 4)) 1085102592571150095) + (ushrLZ (andL (((andL (p0 - (andL (ushrLZ p0 1) 6148914691236517205)) 3689348814741910323) + (andL (ushrLZ (p0 - (andL (ushrLZ p0 1) 6148914691236517205)) 2) 3689348814741910323)) + (ushrLZ ((andL (p0 - (andL (ushrLZ p0 1) 6148914691236517205)) 3689348814741910323) + (andL (ushrLZ (p0 - (andL (ushrLZ p0 1) 6148914691236517205)) 2) 3689348814741910323)) 4)) 1085102592571150095) 8))) (i2 16))).symm ?_
  refine lv_ladd hx hb eJ13_bitCount_95d88_41.2.2.2.2.1 ?_
  refine z_topl (y := i8 (((andL (((andL (p0 - (andL (ushrLZ p0 1) 6148914691236517205)) 3689348814741910323) + (andL (ushrLZ (p0 - (andL (ushrLZ p0 1) 6148914691236517205)) 2) 3689348814741910323)) + (ushrLZ ((andL (p0 - (andL (ushrLZ p0 1) 6148914691236517205)) 3689348814741910323) + (andL (ushrLZ (p0 - (andL (ushrLZ p0 1) 6148914691236517205)) 2) 3689348814741910323)) 4)) 1085102592571150095) + (ushrLZ (andL (((andL (p0 - (andL (ushrLZ p0 1) 6148914691236517205)) 3689348814741910323) + (andL (ushrLZ (p0 - (andL (ushrLZ p0 1) 6148914691236517205)) 2) 3689348814741910323)) + (ushrLZ ((andL (p0 - (andL (ushrLZ p0 1) 6148914691236517205)) 3689348814741910323) + (andL (ushrLZ (p0 - (andL (ushrLZ p0 1) 6148914691236517205)) 2) 3689348814741910323)) 4)) 1085102592571150095) 8)) + (ushrLZ ((andL (((andL (p0 - (andL (ushrLZ p0 1) 6148914691236517205)) 3689348814741910323) + (andL (ushrLZ (p0 - (andL (ushrLZ p0 1) 6148914691236517205)) 2) 3689348814741910323)) + (ushrLZ ((andL (p0 - (andL (ushrLZ p0 1) 6148914691236517205)) 3689348814741910323) + (andL (ushrLZ (p0 - (andL (ushrLZ p0 1) 6148914691236517205)) 2) 3689348814741910323)) 4)) 1085102592571150095) + (ushrLZ (andL (((andL (p0 - (andL (ushrLZ p0 1) 6148914691236517205)) 3689348814741910323) + (andL (ushrLZ (p0 - (andL (ushrLZ p0 1) 6148914691236517205)) 2) 3689348814741910323)) + (ushrLZ ((andL (p0 - (andL (ushrLZ p0 1) 6148914691236517205)) 3689348814741910323) + (andL (ushrLZ (p0 - (andL (ushrLZ p0 1) 6148914691236517205)) 2) 3689348814741910323)) 4)) 1085102592571150095) 8)) 16))) (i8_add ((andL (((andL (p0 - (andL (ushrLZ p0 1) 6148914691236517205)) 3689348814741910323) + (andL (ushrLZ (p0 - (andL (ushrLZ p0 1) 6148914691236517205)) 2) 3689348814741910323)) + (ushrLZ ((andL (p0 - (andL (ushrLZ p0 1) 6148914691236517205)) 3689348814741910323) + (andL (ushrLZ (p0 - (andL (ushrLZ p0 1) 6148914691236517205)) 2) 3689348814741910323)) 4)) 1085102592571150095) + (ushrLZ (andL (((andL (p0 - (andL (ushrLZ p0 1) 6148914691236517205)) 3689348814741910323) + (andL (ushrLZ (p0 - (andL (ushrLZ p0 1) 6148914691236517205)) 2) 3689348814741910323)) + (ushrLZ ((andL (p0 - (andL (ushrLZ p0 1) 6148914691236517205)) 3689348814741910323) + (andL (ushrLZ (p0 - (andL (ushrLZ p0 1) 6148914691236517205)) 2) 3689348814741910323)) 4)) 1085102592571150095) 8)) (ushrLZ ((andL (((andL (p0 - (andL (ushrLZ p0 1) 6148914691236517205)) 3689348814741910323) + (andL (ushrLZ (p0 - (andL (ushrLZ p0 1) 6148914691236517205)) 2) 3689348814741910323)) + (ushrLZ ((andL (p0 - (andL (ushrLZ p0 1) 6148914691236517205)) 3689348814741910323) + (andL (ushrLZ (p0 - (andL (ushrLZ p0 1) 6148914691236517205)) 2) 3689348814741910323)) 4)) 1085102592571150095) + (ushrLZ (andL (((andL (p0 - (andL (ushrLZ p0 1) 6148914691236517205)) 3689348814741910323) + (andL (ushrLZ (p0 - (andL (ushrLZ p0 1) 6148914691236517205)) 2) 3689348814741910323)) + (ushrLZ ((andL (p0 - (andL (ushrLZ p0 1) 6148914691236517205)) 3689348814741910323) + (andL (ushrLZ (p0 - (andL (ushrLZ p0 1) 6148914691236517205)) 2) 3689348814741910323)) 4)) 1085102592571150095) 8)) 16)) ?_
  refine lv_lstore_n (lv' := [(0, .long (i8 (((andL (((andL (p0 - (andL (ushrLZ p0 1) 6148914691236517205)) 3689348814741910323) + (andL (ushrLZ (p0 - (andL (ushrLZ p0 1) 6148914691236517205)) 2) 3689348814741910323)) + (ushrLZ ((andL (p0 - (andL (ushrLZ p0 1) 6148914691236517205)) 3689348814741910323) + (andL (ushrLZ (p0 - (andL (ushrLZ p0 1) 6148914691236517205)) 2) 3689348814741910323)) 4)) 1085102592571150095) + (ushrLZ (andL (((andL (p0 - (andL (ushrLZ p0 1) 6148914691236517205)) 3689348814741910323) + (andL (ushrLZ (p0 - (andL (ushrLZ p0 1) 6148914691236517205)) 2) 3689348814741910323)) + (ushrLZ ((andL (p0 - (andL (ushrLZ p0 1) 6148914691236517205)) 3689348814741910323) + (andL (ushrLZ (p0 - (andL (ushrLZ p0 1) 6148914691236517205)) 2) 3689348814741910323)) 4)) 1085102592571150095) 8)) + (ushrLZ ((andL (((andL (p0 - (andL (ushrLZ p0 1) 6148914691236517205)) 3689348814741910323) + (andL (ushrLZ (p0 - (andL (ushrLZ p0 1) 6148914691236517205)) 2) 3689348814741910323)) + (ushrLZ ((andL (p0 - (andL (ushrLZ p0 1) 6148914691236517205)) 3689348814741910323) + (andL (ushrLZ (p0 - (andL (ushrLZ p0 1) 6148914691236517205)) 2) 3689348814741910323)) 4)) 1085102592571150095) + (ushrLZ (andL (((andL (p0 - (andL (ushrLZ p0 1) 6148914691236517205)) 3689348814741910323) + (andL (ushrLZ (p0 - (andL (ushrLZ p0 1) 6148914691236517205)) 2) 3689348814741910323)) + (ushrLZ ((andL (p0 - (andL (ushrLZ p0 1) 6148914691236517205)) 3689348814741910323) + (andL (ushrLZ (p0 - (andL (ushrLZ p0 1) 6148914691236517205)) 2) 3689348814741910323)) 4)) 1085102592571150095) 8)) 16))))]) hx hb eJ13_bitCount_95d88_41.2.2.2.2.2.1 rfl hl (by decide) rfl (fun ls hl => ?_)
  refine lv_lload_n hx hb eJ13_bitCount_95d88_41.2.2.2.2.2.2.1 rfl (lv_at hl 0 rfl) ?_
  refine lv_lload_n hx hb eJ13_bitCount_95d88_41.2.2.2.2.2.2.2 rfl (lv_at hl 0 rfl) ?_
  refine lv_bipush (v := 32) hx hb eJ13_bitCount_95d88_50.1 (by decide) ?_
  refine lv_lushr (v := i8 (ushrLZ (((andL (((andL (p0 - (andL (ushrLZ p0 1) 6148914691236517205)) 3689348814741910323) + (andL (ushrLZ (p0 - (andL (ushrLZ p0 1) 6148914691236517205)) 2) 3689348814741910323)) + (ushrLZ ((andL (p0 - (andL (ushrLZ p0 1) 6148914691236517205)) 3689348814741910323) + (andL (ushrLZ (p0 - (andL (ushrLZ p0 1) 6148914691236517205)) 2) 3689348814741910323)) 4)) 1085102592571150095) + (ushrLZ (andL (((andL (p0 - (andL (ushrLZ p0 1) 6148914691236517205)) 3689348814741910323) + (andL (ushrLZ (p0 - (andL (ushrLZ p0 1) 6148914691236517205)) 2) 3689348814741910323)) + (ushrLZ ((andL (p0 - (andL (ushrLZ p0 1) 6148914691236517205)) 3689348814741910323) + (andL (ushrLZ (p0 - (andL (ushrLZ p0 1) 6148914691236517205)) 2) 3689348814741910323)) 4)) 1085102592571150095) 8)) + (ushrLZ ((andL (((andL (p0 - (andL (ushrLZ p0 1) 6148914691236517205)) 3689348814741910323) + (andL (ushrLZ (p0 - (andL (ushrLZ p0 1) 6148914691236517205)) 2) 3689348814741910323)) + (ushrLZ ((andL (p0 - (andL (ushrLZ p0 1) 6148914691236517205)) 3689348814741910323) + (andL (ushrLZ (p0 - (andL (ushrLZ p0 1) 6148914691236517205)) 2) 3689348814741910323)) 4)) 1085102592571150095) + (ushrLZ (andL (((andL (p0 - (andL (ushrLZ p0 1) 6148914691236517205)) 3689348814741910323) + (andL (ushrLZ (p0 - (andL (ushrLZ p0 1) 6148914691236517205)) 2) 3689348814741910323)) + (ushrLZ ((andL (p0 - (andL (ushrLZ p0 1) 6148914691236517205)) 3689348814741910323) + (andL (ushrLZ (p0 - (andL (ushrLZ p0 1) 6148914691236517205)) 2) 3689348814741910323)) 4)) 1085102592571150095) 8)) 16)) 32)) hx hb eJ13_bitCount_95d88_50.2.1 (i8_of (ushrL (i8 (((andL (((andL (p0 - (andL (ushrLZ p0 1) 6148914691236517205)) 3689348814741910323) + (andL (ushrLZ (p0 - (andL (ushrLZ p0 1) 6148914691236517205)) 2) 3689348814741910323)) + (ushrLZ ((andL (p0 - (andL (ushrLZ p0 1) 6148914691236517205)) 3689348814741910323) + (andL (ushrLZ (p0 - (andL (ushrLZ p0 1) 6148914691236517205)) 2) 3689348814741910323)) 4)) 1085102592571150095) + (ushrLZ (andL (((andL (p0 - (andL (ushrLZ p0 1) 6148914691236517205)) 3689348814741910323) + (andL (ushrLZ (p0 - (andL (ushrLZ p0 1) 6148914691236517205)) 2) 3689348814741910323)) + (ushrLZ ((andL (p0 - (andL (ushrLZ p0 1) 6148914691236517205)) 3689348814741910323) + (andL (ushrLZ (p0 - (andL (ushrLZ p0 1) 6148914691236517205)) 2) 3689348814741910323)) 4)) 1085102592571150095) 8)) + (ushrLZ ((andL (((andL (p0 - (andL (ushrLZ p0 1) 6148914691236517205)) 3689348814741910323) + (andL (ushrLZ (p0 - (andL (ushrLZ p0 1) 6148914691236517205)) 2) 3689348814741910323)) + (ushrLZ ((andL (p0 - (andL (ushrLZ p0 1) 6148914691236517205)) 3689348814741910323) + (andL (ushrLZ (p0 - (andL (ushrLZ p0 1) 6148914691236517205)) 2) 3689348814741910323)) 4)) 1085102592571150095) + (ushrLZ (andL (((andL (p0 - (andL (ushrLZ p0 1) 6148914691236517205)) 3689348814741910323) + (andL (ushrLZ (p0 - (andL (ushrLZ p0 1) 6148914691236517205)) 2) 3689348814741910323)) + (ushrLZ ((andL (p0 - (andL (ushrLZ p0 1) 6148914691236517205)) 3689348814741910323) + (andL (ushrLZ (p0 - (andL (ushrLZ p0 1) 6148914691236517205)) 2) 3689348814741910323)) 4)) 1085102592571150095) 8)) 16))) (i2 32))).symm ?_
  refine lv_ladd hx hb eJ13_bitCount_95d88_50.2.2.1 ?_
  refine z_topl (y := i8 ((((andL (((andL (p0 - (andL (ushrLZ p0 1) 6148914691236517205)) 3689348814741910323) + (andL (ushrLZ (p0 - (andL (ushrLZ p0 1) 6148914691236517205)) 2) 3689348814741910323)) + (ushrLZ ((andL (p0 - (andL (ushrLZ p0 1) 6148914691236517205)) 3689348814741910323) + (andL (ushrLZ (p0 - (andL (ushrLZ p0 1) 6148914691236517205)) 2) 3689348814741910323)) 4)) 1085102592571150095) + (ushrLZ (andL (((andL (p0 - (andL (ushrLZ p0 1) 6148914691236517205)) 3689348814741910323) + (andL (ushrLZ (p0 - (andL (ushrLZ p0 1) 6148914691236517205)) 2) 3689348814741910323)) + (ushrLZ ((andL (p0 - (andL (ushrLZ p0 1) 6148914691236517205)) 3689348814741910323) + (andL (ushrLZ (p0 - (andL (ushrLZ p0 1) 6148914691236517205)) 2) 3689348814741910323)) 4)) 1085102592571150095) 8)) + (ushrLZ ((andL (((andL (p0 - (andL (ushrLZ p0 1) 6148914691236517205)) 3689348814741910323) + (andL (ushrLZ (p0 - (andL (ushrLZ p0 1) 6148914691236517205)) 2) 3689348814741910323)) + (ushrLZ ((andL (p0 - (andL (ushrLZ p0 1) 6148914691236517205)) 3689348814741910323) + (andL (ushrLZ (p0 - (andL (ushrLZ p0 1) 6148914691236517205)) 2) 3689348814741910323)) 4)) 1085102592571150095) + (ushrLZ (andL (((andL (p0 - (andL (ushrLZ p0 1) 6148914691236517205)) 3689348814741910323) + (andL (ushrLZ (p0 - (andL (ushrLZ p0 1) 6148914691236517205)) 2) 3689348814741910323)) + (ushrLZ ((andL (p0 - (andL (ushrLZ p0 1) 6148914691236517205)) 3689348814741910323) + (andL (ushrLZ (p0 - (andL (ushrLZ p0 1) 6148914691236517205)) 2) 3689348814741910323)) 4)) 1085102592571150095) 8)) 16)) + (ushrLZ (((andL (((andL (p0 - (andL (ushrLZ p0 1) 6148914691236517205)) 3689348814741910323) + (andL (ushrLZ (p0 - (andL (ushrLZ p0 1) 6148914691236517205)) 2) 3689348814741910323)) + (ushrLZ ((andL (p0 - (andL (ushrLZ p0 1) 6148914691236517205)) 3689348814741910323) + (andL (ushrLZ (p0 - (andL (ushrLZ p0 1) 6148914691236517205)) 2) 3689348814741910323)) 4)) 1085102592571150095) + (ushrLZ (andL (((andL (p0 - (andL (ushrLZ p0 1) 6148914691236517205)) 3689348814741910323) + (andL (ushrLZ (p0 - (andL (ushrLZ p0 1) 6148914691236517205)) 2) 3689348814741910323)) + (ushrLZ ((andL (p0 - (andL (ushrLZ p0 1) 6148914691236517205)) 3689348814741910323) + (andL (ushrLZ (p0 - (andL (ushrLZ p0 1) 6148914691236517205)) 2) 3689348814741910323)) 4)) 1085102592571150095) 8)) + (ushrLZ ((andL (((andL (p0 - (andL (ushrLZ p0 1) 6148914691236517205)) 3689348814741910323) + (andL (ushrLZ (p0 - (andL (ushrLZ p0 1) 6148914691236517205)) 2) 3689348814741910323)) + (ushrLZ ((andL (p0 - (andL (ushrLZ p0 1) 6148914691236517205)) 3689348814741910323) + (andL (ushrLZ (p0 - (andL (ushrLZ p0 1) 6148914691236517205)) 2) 3689348814741910323)) 4)) 1085102592571150095) + (ushrLZ (andL (((andL (p0 - (andL (ushrLZ p0 1) 6148914691236517205)) 3689348814741910323) + (andL (ushrLZ (p0 - (andL (ushrLZ p0 1) 6148914691236517205)) 2) 3689348814741910323)) + (ushrLZ ((andL (p0 - (andL (ushrLZ p0 1) 6148914691236517205)) 3689348814741910323) + (andL (ushrLZ (p0 - (andL (ushrLZ p0 1) 6148914691236517205)) 2) 3689348814741910323)) 4)) 1085102592571150095) 8)) 16)) 32))) (i8_add (((andL (((andL (p0 - (andL (ushrLZ p0 1) 6148914691236517205)) 3689348814741910323) + (andL (ushrLZ (p0 - (andL (ushrLZ p0 1) 6148914691236517205)) 2) 3689348814741910323)) + (ushrLZ ((andL (p0 - (andL (ushrLZ p0 1) 6148914691236517205)) 3689348814741910323) + (andL (ushrLZ (p0 - (andL (ushrLZ p0 1) 6148914691236517205)) 2) 3689348814741910323)) 4)) 1085102592571150095) + (ushrLZ (andL (((andL (p0 - (andL (ushrLZ p0 1) 6148914691236517205)) 3689348814741910323) + (andL (ushrLZ (p0 - (andL (ushrLZ p0 1) 6148914691236517205)) 2) 3689348814741910323)) + (ushrLZ ((andL (p0 - (andL (ushrLZ p0 1) 6148914691236517205)) 3689348814741910323) + (andL (ushrLZ (p0 - (andL (ushrLZ p0 1) 6148914691236517205)) 2) 3689348814741910323)) 4)) 1085102592571150095) 8)) + (ushrLZ ((andL (((andL (p0 - (andL (ushrLZ p0 1) 6148914691236517205)) 3689348814741910323) + (andL (ushrLZ (p0 - (andL (ushrLZ p0 1) 6148914691236517205)) 2) 3689348814741910323)) + (ushrLZ ((andL (p0 - (andL (ushrLZ p0 1) 6148914691236517205)) 3689348814741910323) + (andL (ushrLZ (p0 - (andL (ushrLZ p0 1) 6148914691236517205)) 2) 3689348814741910323)) 4)) 1085102592571150095) + (ushrLZ (andL (((andL (p0 - (andL (ushrLZ p0 1) 6148914691236517205)) 3689348814741910323) + (andL (ushrLZ (p0 - (andL (ushrLZ p0 1) 6148914691236517205)) 2) 3689348814741910323)) + (ushrLZ ((andL (p0 - (andL (ushrLZ p0 1) 6148914691236517205)) 3689348814741910323) + (andL (ushrLZ (p0 - (andL (ushrLZ p0 1) 6148914691236517205)) 2) 3689348814741910323)) 4)) 1085102592571150095) 8)) 16)) (ushrLZ (((andL (((andL (p0 - (andL (ushrLZ p0 1) 6148914691236517205)) 3689348814741910323) + (andL (ushrLZ (p0 - (andL (ushrLZ p0 1) 6148914691236517205)) 2) 3689348814741910323)) + (ushrLZ ((andL (p0 - (andL (ushrLZ p0 1) 6148914691236517205)) 3689348814741910323) + (andL (ushrLZ (p0 - (andL (ushrLZ p0 1) 6148914691236517205)) 2) 3689348814741910323)) 4)) 1085102592571150095) + (ushrLZ (andL (((andL (p0 - (andL (ushrLZ p0 1) 6148914691236517205)) 3689348814741910323) + (andL (ushrLZ (p0 - (andL (ushrLZ p0 1) 6148914691236517205)) 2) 3689348814741910323)) + (ushrLZ ((andL (p0 - (andL (ushrLZ p0 1) 6148914691236517205)) 3689348814741910323) + (andL (ushrLZ (p0 - (andL (ushrLZ p0 1) 6148914691236517205)) 2) 3689348814741910323)) 4)) 1085102592571150095) 8)) + (ushrLZ ((andL (((andL (p0 - (andL (ushrLZ p0 1) 6148914691236517205)) 3689348814741910323) + (andL (ushrLZ (p0 - (andL (ushrLZ p0 1) 6148914691236517205)) 2) 3689348814741910323)) + (ushrLZ ((andL (p0 - (andL (ushrLZ p0 1) 6148914691236517205)) 3689348814741910323) + (andL (ushrLZ (p0 - (andL (ushrLZ p0 1) 6148914691236517205)) 2) 3689348814741910323)) 4)) 1085102592571150095) + (ushrLZ (andL (((andL (p0 - (andL (ushrLZ p0 1) 6148914691236517205)) 3689348814741910323) + (andL (ushrLZ (p0 - (andL (ushrLZ p0 1) 6148914691236517205)) 2) 3689348814741910323)) + (ushrLZ ((andL (p0 - (andL (ushrLZ p0 1) 6148914691236517205)) 3689348814741910323) + (andL (ushrLZ (p0 - (andL (ushrLZ p0 1) 6148914691236517205)) 2) 3689348814741910323)) 4)) 1085102592571150095) 8)) 16)) 32)) ?_
  refine lv_lstore_n (lv' := [(0, .long (i8 ((((andL (((andL (p0 - (andL (ushrLZ p0 1) 6148914691236517205)) 3689348814741910323) + (andL (ushrLZ (p0 - (andL (ushrLZ p0 1) 6148914691236517205)) 2) 3689348814741910323)) + (ushrLZ ((andL (p0 - (andL (ushrLZ p0 1) 6148914691236517205)) 3689348814741910323) + (andL (ushrLZ (p0 - (andL (ushrLZ p0 1) 6148914691236517205)) 2) 3689348814741910323)) 4)) 1085102592571150095) + (ushrLZ (andL (((andL (p0 - (andL (ushrLZ p0 1) 6148914691236517205)) 3689348814741910323) + (andL (ushrLZ (p0 - (andL (ushrLZ p0 1) 6148914691236517205)) 2) 3689348814741910323)) + (ushrLZ ((andL (p0 - (andL (ushrLZ p0 1) 6148914691236517205)) 3689348814741910323) + (andL (ushrLZ (p0 - (andL (ushrLZ p0 1) 6148914691236517205)) 2) 3689348814741910323)) 4)) 1085102592571150095) 8)) + (ushrLZ ((andL (((andL (p0 - (andL (ushrLZ p0 1) 6148914691236517205)) 3689348814741910323) + (andL (ushrLZ (p0 - (andL (ushrLZ p0 1) 6148914691236517205)) 2) 3689348814741910323)) + (ushrLZ ((andL (p0 - (andL (ushrLZ p0 1) 6148914691236517205)) 3689348814741910323) + (andL (ushrLZ (p0 - (andL (ushrLZ p0 1) 6148914691236517205)) 2) 3689348814741910323)) 4)) 1085102592571150095) + (ushrLZ (andL (((andL (p0 - (andL (ushrLZ p0 1) 6148914691236517205)) 3689348814741910323) + (andL (ushrLZ (p0 - (andL (ushrLZ p0 1) 6148914691236517205)) 2) 3689348814741910323)) + (ushrLZ ((andL (p0 - (andL (ushrLZ p0 1) 6148914691236517205)) 3689348814741910323) + (andL (ushrLZ (p0 - (andL (ushrLZ p0 1) 6148914691236517205)) 2) 3689348814741910323)) 4)) 1085102592571150095) 8)) 16)) + (ushrLZ (((andL (((andL (p0 - (andL (ushrLZ p0 1) 6148914691236517205)) 3689348814741910323) + (andL (ushrLZ (p0 - (andL (ushrLZ p0 1) 6148914691236517205)) 2) 3689348814741910323)) + (ushrLZ ((andL (p0 - (andL (ushrLZ p0 1) 6148914691236517205)) 3689348814741910323) + (andL (ushrLZ (p0 - (andL (ushrLZ p0 1) 6148914691236517205)) 2) 3689348814741910323)) 4)) 1085102592571150095) + (ushrLZ (andL (((andL (p0 - (andL (ushrLZ p0 1) 6148914691236517205)) 3689348814741910323) + (andL (ushrLZ (p0 - (andL (ushrLZ p0 1) 6148914691236517205)) 2) 3689348814741910323)) + (ushrLZ ((andL (p0 - (andL (ushrLZ p0 1) 6148914691236517205)) 3689348814741910323) + (andL (ushrLZ (p0 - (andL (ushrLZ p0 1) 6148914691236517205)) 2) 3689348814741910323)) 4)) 1085102592571150095) 8)) + (ushrLZ ((andL (((andL (p0 - (andL (ushrLZ p0 1) 6148914691236517205)) 3689348814741910323) + (andL (ushrLZ (p0 - (andL (ushrLZ p0 1) 6148914691236517205)) 2) 3689348814741910323)) + (ushrLZ ((andL (p0 - (andL (ushrLZ p0 1) 6148914691236517205)) 3689348814741910323) + (andL (ushrLZ (p0 - (andL (ushrLZ p0 1) 6148914691236517205)) 2) 3689348814741910323)) 4)) 1085102592571150095) + (ushrLZ (andL (((andL (p0 - (andL (ushrLZ p0 1) 6148914691236517205)) 3689348814741910323) + (andL (ushrLZ (p0 - (andL (ushrLZ p0 1) 6148914691236517205)) 2) 3689348814741910323)) + (ushrLZ ((andL (p0 - (andL (ushrLZ p0 1) 6148914691236517205)) 3689348814741910323) + (andL (ushrLZ (p0 - (andL (ushrLZ p0 1) 6148914691236517205)) 2) 3689348814741910323)) 4)) 1085102592571150095) 8)) 16)) 32))))]) hx hb eJ13_bitCount_95d88_50.2.2.2.1 rfl hl (by decide) rfl (fun ls hl => ?_)
  refine lv_lload_n hx hb eJ13_bitCount_95d88_50.2.2.2.2.1 rfl (lv_at hl 0 rfl) ?_
  refine lv_l2i (v := i2 ((((andL (((andL (p0 - (andL (ushrLZ p0 1) 6148914691236517205)) 3689348814741910323) + (andL (ushrLZ (p0 - (andL (ushrLZ p0 1) 6148914691236517205)) 2) 3689348814741910323)) + (ushrLZ ((andL (p0 - (andL (ushrLZ p0 1) 6148914691236517205)) 3689348814741910323) + (andL (ushrLZ (p0 - (andL (ushrLZ p0 1) 6148914691236517205)) 2) 3689348814741910323)) 4)) 1085102592571150095) + (ushrLZ (andL (((andL (p0 - (andL (ushrLZ p0 1) 6148914691236517205)) 3689348814741910323) + (andL (ushrLZ (p0 - (andL (ushrLZ p0 1) 6148914691236517205)) 2) 3689348814741910323)) + (ushrLZ ((andL (p0 - (andL (ushrLZ p0 1) 6148914691236517205)) 3689348814741910323) + (andL (ushrLZ (p0 - (andL (ushrLZ p0 1) 6148914691236517205)) 2) 3689348814741910323)) 4)) 1085102592571150095) 8)) + (ushrLZ ((andL (((andL (p0 - (andL (ushrLZ p0 1) 6148914691236517205)) 3689348814741910323) + (andL (ushrLZ (p0 - (andL (ushrLZ p0 1) 6148914691236517205)) 2) 3689348814741910323)) + (ushrLZ ((andL (p0 - (andL (ushrLZ p0 1) 6148914691236517205)) 3689348814741910323) + (andL (ushrLZ (p0 - (andL (ushrLZ p0 1) 6148914691236517205)) 2) 3689348814741910323)) 4)) 1085102592571150095) + (ushrLZ (andL (((andL (p0 - (andL (ushrLZ p0 1) 6148914691236517205)) 3689348814741910323) + (andL (ushrLZ (p0 - (andL (ushrLZ p0 1) 6148914691236517205)) 2) 3689348814741910323)) + (ushrLZ ((andL (p0 - (andL (ushrLZ p0 1) 6148914691236517205)) 3689348814741910323) + (andL (ushrLZ (p0 - (andL (ushrLZ p0 1) 6148914691236517205)) 2) 3689348814741910323)) 4)) 1085102592571150095) 8)) 16)) + (ushrLZ (((andL (((andL (p0 - (andL (ushrLZ p0 1) 6148914691236517205)) 3689348814741910323) + (andL (ushrLZ (p0 - (andL (ushrLZ p0 1) 6148914691236517205)) 2) 3689348814741910323)) + (ushrLZ ((andL (p0 - (andL (ushrLZ p0 1) 6148914691236517205)) 3689348814741910323) + (andL (ushrLZ (p0 - (andL (ushrLZ p0 1) 6148914691236517205)) 2) 3689348814741910323)) 4)) 1085102592571150095) + (ushrLZ (andL (((andL (p0 - (andL (ushrLZ p0 1) 6148914691236517205)) 3689348814741910323) + (andL (ushrLZ (p0 - (andL (ushrLZ p0 1) 6148914691236517205)) 2) 3689348814741910323)) + (ushrLZ ((andL (p0 - (andL (ushrLZ p0 1) 6148914691236517205)) 3689348814741910323) + (andL (ushrLZ (p0 - (andL (ushrLZ p0 1) 6148914691236517205)) 2) 3689348814741910323)) 4)) 1085102592571150095) 8)) + (ushrLZ ((andL (((andL (p0 - (andL (ushrLZ p0 1) 6148914691236517205)) 3689348814741910323) + (andL (ushrLZ (p0 - (andL (ushrLZ p0 1) 6148914691236517205)) 2) 3689348814741910323)) + (ushrLZ ((andL (p0 - (andL (ushrLZ p0 1) 6148914691236517205)) 3689348814741910323) + (andL (ushrLZ (p0 - (andL (ushrLZ p0 1) 6148914691236517205)) 2) 3689348814741910323)) 4)) 1085102592571150095) + (ushrLZ (andL (((andL (p0 - (andL (ushrLZ p0 1) 6148914691236517205)) 3689348814741910323) + (andL (ushrLZ (p0 - (andL (ushrLZ p0 1) 6148914691236517205)) 2) 3689348814741910323)) + (ushrLZ ((andL (p0 - (andL (ushrLZ p0 1) 6148914691236517205)) 3689348814741910323) + (andL (ushrLZ (p0 - (andL (ushrLZ p0 1) 6148914691236517205)) 2) 3689348814741910323)) 4)) 1085102592571150095) 8)) 16)) 32))) hx hb eJ13_bitCount_95d88_50.2.2.2.2.2.1 (i8_i ((((andL (((andL (p0 - (andL (ushrLZ p0 1) 6148914691236517205)) 3689348814741910323) + (andL (ushrLZ (p0 - (andL (ushrLZ p0 1) 6148914691236517205)) 2) 3689348814741910323)) + (ushrLZ ((andL (p0 - (andL (ushrLZ p0 1) 6148914691236517205)) 3689348814741910323) + (andL (ushrLZ (p0 - (andL (ushrLZ p0 1) 6148914691236517205)) 2) 3689348814741910323)) 4)) 1085102592571150095) + (ushrLZ (andL (((andL (p0 - (andL (ushrLZ p0 1) 6148914691236517205)) 3689348814741910323) + (andL (ushrLZ (p0 - (andL (ushrLZ p0 1) 6148914691236517205)) 2) 3689348814741910323)) + (ushrLZ ((andL (p0 - (andL (ushrLZ p0 1) 6148914691236517205)) 3689348814741910323) + (andL (ushrLZ (p0 - (andL (ushrLZ p0 1) 6148914691236517205)) 2) 3689348814741910323)) 4)) 1085102592571150095) 8)) + (ushrLZ ((andL (((andL (p0 - (andL (ushrLZ p0 1) 6148914691236517205)) 3689348814741910323) + (andL (ushrLZ (p0 - (andL (ushrLZ p0 1) 6148914691236517205)) 2) 3689348814741910323)) + (ushrLZ ((andL (p0 - (andL (ushrLZ p0 1) 6148914691236517205)) 3689348814741910323) + (andL (ushrLZ (p0 - (andL (ushrLZ p0 1) 6148914691236517205)) 2) 3689348814741910323)) 4)) 1085102592571150095) + (ushrLZ (andL (((andL (p0 - (andL (ushrLZ p0 1) 6148914691236517205)) 3689348814741910323) + (andL (ushrLZ (p0 - (andL (ushrLZ p0 1) 6148914691236517205)) 2) 3689348814741910323)) + (ushrLZ ((andL (p0 - (andL (ushrLZ p0 1) 6148914691236517205)) 3689348814741910323) + (andL (ushrLZ (p0 - (andL (ushrLZ p0 1) 6148914691236517205)) 2) 3689348814741910323)) 4)) 1085102592571150095) 8)) 16)) + (ushrLZ (((andL (((andL (p0 - (andL (ushrLZ p0 1) 6148914691236517205)) 3689348814741910323) + (andL (ushrLZ (p0 - (andL (ushrLZ p0 1) 6148914691236517205)) 2) 3689348814741910323)) + (ushrLZ ((andL (p0 - (andL (ushrLZ p0 1) 6148914691236517205)) 3689348814741910323) + (andL (ushrLZ (p0 - (andL (ushrLZ p0 1) 6148914691236517205)) 2) 3689348814741910323)) 4)) 1085102592571150095) + (ushrLZ (andL (((andL (p0 - (andL (ushrLZ p0 1) 6148914691236517205)) 3689348814741910323) + (andL (ushrLZ (p0 - (andL (ushrLZ p0 1) 6148914691236517205)) 2) 3689348814741910323)) + (ushrLZ ((andL (p0 - (andL (ushrLZ p0 1) 6148914691236517205)) 3689348814741910323) + (andL (ushrLZ (p0 - (andL (ushrLZ p0 1) 6148914691236517205)) 2) 3689348814741910323)) 4)) 1085102592571150095) 8)) + (ushrLZ ((andL (((andL (p0 - (andL (ushrLZ p0 1) 6148914691236517205)) 3689348814741910323) + (andL (ushrLZ (p0 - (andL (ushrLZ p0 1) 6148914691236517205)) 2) 3689348814741910323)) + (ushrLZ ((andL (p0 - (andL (ushrLZ p0 1) 6148914691236517205)) 3689348814741910323) + (andL (ushrLZ (p0 - (andL (ushrLZ p0 1) 6148914691236517205)) 2) 3689348814741910323)) 4)) 1085102592571150095) + (ushrLZ (andL (((andL (p0 - (andL (ushrLZ p0 1) 6148914691236517205)) 3689348814741910323) + (andL (ushrLZ (p0 - (andL (ushrLZ p0 1) 6148914691236517205)) 2) 3689348814741910323)) + (ushrLZ ((andL (p0 - (andL (ushrLZ p0 1) 6148914691236517205)) 3689348814741910323) + (andL (ushrLZ (p0 - (andL (ushrLZ p0 1) 6148914691236517205)) 2) 3689348814741910323)) 4)) 1085102592571150095) 8)) 16)) 32))) ?_
  refine lv_bipush (v := 127) hx hb eJ13_bitCount_95d88_50.2.2.2.2.2.2.1 (by decide) ?_
  refine lv_iand hx hb eJ13_bitCount_95d88_50.2.2.2.2.2.2.2 ?_
  refine z_topi (y := i2 (andZ ((((andL (((andL (p0 - (andL (ushrLZ p0 1) 6148914691236517205)) 3689348814741910323) + (andL (ushrLZ (p0 - (andL (ushrLZ p0 1) 6148914691236517205)) 2) 3689348814741910323)) + (ushrLZ ((andL (p0 - (andL (ushrLZ p0 1) 6148914691236517205)) 3689348814741910323) + (andL (ushrLZ (p0 - (andL (ushrLZ p0 1) 6148914691236517205)) 2) 3689348814741910323)) 4)) 1085102592571150095) + (ushrLZ (andL (((andL (p0 - (andL (ushrLZ p0 1) 6148914691236517205)) 3689348814741910323) + (andL (ushrLZ (p0 - (andL (ushrLZ p0 1) 6148914691236517205)) 2) 3689348814741910323)) + (ushrLZ ((andL (p0 - (andL (ushrLZ p0 1) 6148914691236517205)) 3689348814741910323) + (andL (ushrLZ (p0 - (andL (ushrLZ p0 1) 6148914691236517205)) 2) 3689348814741910323)) 4)) 1085102592571150095) 8)) + (ushrLZ ((andL (((andL (p0 - (andL (ushrLZ p0 1) 6148914691236517205)) 3689348814741910323) + (andL (ushrLZ (p0 - (andL (ushrLZ p0 1) 6148914691236517205)) 2) 3689348814741910323)) + (ushrLZ ((andL (p0 - (andL (ushrLZ p0 1) 6148914691236517205)) 3689348814741910323) + (andL (ushrLZ (p0 - (andL (ushrLZ p0 1) 6148914691236517205)) 2) 3689348814741910323)) 4)) 1085102592571150095) + (ushrLZ (andL (((andL (p0 - (andL (ushrLZ p0 1) 6148914691236517205)) 3689348814741910323) + (andL (ushrLZ (p0 - (andL (ushrLZ p0 1) 6148914691236517205)) 2) 3689348814741910323)) + (ushrLZ ((andL (p0 - (andL (ushrLZ p0 1) 6148914691236517205)) 3689348814741910323) + (andL (ushrLZ (p0 - (andL (ushrLZ p0 1) 6148914691236517205)) 2) 3689348814741910323)) 4)) 1085102592571150095) 8)) 16)) + (ushrLZ (((andL (((andL (p0 - (andL (ushrLZ p0 1) 6148914691236517205)) 3689348814741910323) + (andL (ushrLZ (p0 - (andL (ushrLZ p0 1) 6148914691236517205)) 2) 3689348814741910323)) + (ushrLZ ((andL (p0 - (andL (ushrLZ p0 1) 6148914691236517205)) 3689348814741910323) + (andL (ushrLZ (p0 - (andL (ushrLZ p0 1) 6148914691236517205)) 2) 3689348814741910323)) 4)) 1085102592571150095) + (ushrLZ (andL (((andL (p0 - (andL (ushrLZ p0 1) 6148914691236517205)) 3689348814741910323) + (andL (ushrLZ (p0 - (andL (ushrLZ p0 1) 6148914691236517205)) 2) 3689348814741910323)) + (ushrLZ ((andL (p0 - (andL (ushrLZ p0 1) 6148914691236517205)) 3689348814741910323) + (andL (ushrLZ (p0 - (andL (ushrLZ p0 1) 6148914691236517205)) 2) 3689348814741910323)) 4)) 1085102592571150095) 8)) + (ushrLZ ((andL (((andL (p0 - (andL (ushrLZ p0 1) 6148914691236517205)) 3689348814741910323) + (andL (ushrLZ (p0 - (andL (ushrLZ p0 1) 6148914691236517205)) 2) 3689348814741910323)) + (ushrLZ ((andL (p0 - (andL (ushrLZ p0 1) 6148914691236517205)) 3689348814741910323) + (andL (ushrLZ (p0 - (andL (ushrLZ p0 1) 6148914691236517205)) 2) 3689348814741910323)) 4)) 1085102592571150095) + (ushrLZ (andL (((andL (p0 - (andL (ushrLZ p0 1) 6148914691236517205)) 3689348814741910323) + (andL (ushrLZ (p0 - (andL (ushrLZ p0 1) 6148914691236517205)) 2) 3689348814741910323)) + (ushrLZ ((andL (p0 - (andL (ushrLZ p0 1) 6148914691236517205)) 3689348814741910323) + (andL (ushrLZ (p0 - (andL (ushrLZ p0 1) 6148914691236517205)) 2) 3689348814741910323)) 4)) 1085102592571150095) 8)) 16)) 32)) 127)) (i2_of (i2 ((((andL (((andL (p0 - (andL (ushrLZ p0 1) 6148914691236517205)) 3689348814741910323) + (andL (ushrLZ (p0 - (andL (ushrLZ p0 1) 6148914691236517205)) 2) 3689348814741910323)) + (ushrLZ ((andL (p0 - (andL (ushrLZ p0 1) 6148914691236517205)) 3689348814741910323) + (andL (ushrLZ (p0 - (andL (ushrLZ p0 1) 6148914691236517205)) 2) 3689348814741910323)) 4)) 1085102592571150095) + (ushrLZ (andL (((andL (p0 - (andL (ushrLZ p0 1) 6148914691236517205)) 3689348814741910323) + (andL (ushrLZ (p0 - (andL (ushrLZ p0 1) 6148914691236517205)) 2) 3689348814741910323)) + (ushrLZ ((andL (p0 - (andL (ushrLZ p0 1) 6148914691236517205)) 3689348814741910323) + (andL (ushrLZ (p0 - (andL (ushrLZ p0 1) 6148914691236517205)) 2) 3689348814741910323)) 4)) 1085102592571150095) 8)) + (ushrLZ ((andL (((andL (p0 - (andL (ushrLZ p0 1) 6148914691236517205)) 3689348814741910323) + (andL (ushrLZ (p0 - (andL (ushrLZ p0 1) 6148914691236517205)) 2) 3689348814741910323)) + (ushrLZ ((andL (p0 - (andL (ushrLZ p0 1) 6148914691236517205)) 3689348814741910323) + (andL (ushrLZ (p0 - (andL (ushrLZ p0 1) 6148914691236517205)) 2) 3689348814741910323)) 4)) 1085102592571150095) + (ushrLZ (andL (((andL (p0 - (andL (ushrLZ p0 1) 6148914691236517205)) 3689348814741910323) + (andL (ushrLZ (p0 - (andL (ushrLZ p0 1) 6148914691236517205)) 2) 3689348814741910323)) + (ushrLZ ((andL (p0 - (andL (ushrLZ p0 1) 6148914691236517205)) 3689348814741910323) + (andL (ushrLZ (p0 - (andL (ushrLZ p0 1) 6148914691236517205)) 2) 3689348814741910323)) 4)) 1085102592571150095) 8)) 16)) + (ushrLZ (((andL (((andL (p0 - (andL (ushrLZ p0 1) 6148914691236517205)) 3689348814741910323) + (andL (ushrLZ (p0 - (andL (ushrLZ p0 1) 6148914691236517205)) 2) 3689348814741910323)) + (ushrLZ ((andL (p0 - (andL (ushrLZ p0 1) 6148914691236517205)) 3689348814741910323) + (andL (ushrLZ (p0 - (andL (ushrLZ p0 1) 6148914691236517205)) 2) 3689348814741910323)) 4)) 1085102592571150095) + (ushrLZ (andL (((andL (p0 - (andL (ushrLZ p0 1) 6148914691236517205)) 3689348814741910323) + (andL (ushrLZ (p0 - (andL (ushrLZ p0 1) 6148914691236517205)) 2) 3689348814741910323)) + (ushrLZ ((andL (p0 - (andL (ushrLZ p0 1) 6148914691236517205)) 3689348814741910323) + (andL (ushrLZ (p0 - (andL (ushrLZ p0 1) 6148914691236517205)) 2) 3689348814741910323)) 4)) 1085102592571150095) 8)) + (ushrLZ ((andL (((andL (p0 - (andL (ushrLZ p0 1) 6148914691236517205)) 3689348814741910323) + (andL (ushrLZ (p0 - (andL (ushrLZ p0 1) 6148914691236517205)) 2) 3689348814741910323)) + (ushrLZ ((andL (p0 - (andL (ushrLZ p0 1) 6148914691236517205)) 3689348814741910323) + (andL (ushrLZ (p0 - (andL (ushrLZ p0 1) 6148914691236517205)) 2) 3689348814741910323)) 4)) 1085102592571150095) + (ushrLZ (andL (((andL (p0 - (andL (ushrLZ p0 1) 6148914691236517205)) 3689348814741910323) + (andL (ushrLZ (p0 - (andL (ushrLZ p0 1) 6148914691236517205)) 2) 3689348814741910323)) + (ushrLZ ((andL (p0 - (andL (ushrLZ p0 1) 6148914691236517205)) 3689348814741910323) + (andL (ushrLZ (p0 - (andL (ushrLZ p0 1) 6148914691236517205)) 2) 3689348814741910323)) 4)) 1085102592571150095) 8)) 16)) 32)) &&& i2 127)).symm ?_
  obtain rfl := Option.some.inj h
  exact W.iret (v := (i2 (andZ ((((andL (((andL (p0 - (andL (ushrLZ p0 1) 6148914691236517205)) 3689348814741910323) + (andL (ushrLZ (p0 - (andL (ushrLZ p0 1) 6148914691236517205)) 2) 3689348814741910323)) + (ushrLZ ((andL (p0 - (andL (ushrLZ p0 1) 6148914691236517205)) 3689348814741910323) + (andL (ushrLZ (p0 - (andL (ushrLZ p0 1) 6148914691236517205)) 2) 3689348814741910323)) 4)) 1085102592571150095) + (ushrLZ (andL (((andL (p0 - (andL (ushrLZ p0 1) 6148914691236517205)) 3689348814741910323) + (andL (ushrLZ (p0 - (andL (ushrLZ p0 1) 6148914691236517205)) 2) 3689348814741910323)) + (ushrLZ ((andL (p0 - (andL (ushrLZ p0 1) 6148914691236517205)) 3689348814741910323) + (andL (ushrLZ (p0 - (andL (ushrLZ p0 1) 6148914691236517205)) 2) 3689348814741910323)) 4)) 1085102592571150095) 8)) + (ushrLZ ((andL (((andL (p0 - (andL (ushrLZ p0 1) 6148914691236517205)) 3689348814741910323) + (andL (ushrLZ (p0 - (andL (ushrLZ p0 1) 6148914691236517205)) 2) 3689348814741910323)) + (ushrLZ ((andL (p0 - (andL (ushrLZ p0 1) 6148914691236517205)) 3689348814741910323) + (andL (ushrLZ (p0 - (andL (ushrLZ p0 1) 6148914691236517205)) 2) 3689348814741910323)) 4)) 1085102592571150095) + (ushrLZ (andL (((andL (p0 - (andL (ushrLZ p0 1) 6148914691236517205)) 3689348814741910323) + (andL (ushrLZ (p0 - (andL (ushrLZ p0 1) 6148914691236517205)) 2) 3689348814741910323)) + (ushrLZ ((andL (p0 - (andL (ushrLZ p0 1) 6148914691236517205)) 3689348814741910323) + (andL (ushrLZ (p0 - (andL (ushrLZ p0 1) 6148914691236517205)) 2) 3689348814741910323)) 4)) 1085102592571150095) 8)) 16)) + (ushrLZ (((andL (((andL (p0 - (andL (ushrLZ p0 1) 6148914691236517205)) 3689348814741910323) + (andL (ushrLZ (p0 - (andL (ushrLZ p0 1) 6148914691236517205)) 2) 3689348814741910323)) + (ushrLZ ((andL (p0 - (andL (ushrLZ p0 1) 6148914691236517205)) 3689348814741910323) + (andL (ushrLZ (p0 - (andL (ushrLZ p0 1) 6148914691236517205)) 2) 3689348814741910323)) 4)) 1085102592571150095) + (ushrLZ (andL (((andL (p0 - (andL (ushrLZ p0 1) 6148914691236517205)) 3689348814741910323) + (andL (ushrLZ (p0 - (andL (ushrLZ p0 1) 6148914691236517205)) 2) 3689348814741910323)) + (ushrLZ ((andL (p0 - (andL (ushrLZ p0 1) 6148914691236517205)) 3689348814741910323) + (andL (ushrLZ (p0 - (andL (ushrLZ p0 1) 6148914691236517205)) 2) 3689348814741910323)) 4)) 1085102592571150095) 8)) + (ushrLZ ((andL (((andL (p0 - (andL (ushrLZ p0 1) 6148914691236517205)) 3689348814741910323) + (andL (ushrLZ (p0 - (andL (ushrLZ p0 1) 6148914691236517205)) 2) 3689348814741910323)) + (ushrLZ ((andL (p0 - (andL (ushrLZ p0 1) 6148914691236517205)) 3689348814741910323) + (andL (ushrLZ (p0 - (andL (ushrLZ p0 1) 6148914691236517205)) 2) 3689348814741910323)) 4)) 1085102592571150095) + (ushrLZ (andL (((andL (p0 - (andL (ushrLZ p0 1) 6148914691236517205)) 3689348814741910323) + (andL (ushrLZ (p0 - (andL (ushrLZ p0 1) 6148914691236517205)) 2) 3689348814741910323)) + (ushrLZ ((andL (p0 - (andL (ushrLZ p0 1) 6148914691236517205)) 3689348814741910323) + (andL (ushrLZ (p0 - (andL (ushrLZ p0 1) 6148914691236517205)) 2) 3689348814741910323)) 4)) 1085102592571150095) 8)) 16)) 32)) 127))) hx hb hr (fun t ht hW => ⟨⟨_, (), rfl, rfl, trivial⟩, hS.F ht⟩) hS.2.2 eJ13_bitCount_95d88_60.1
set_option maxHeartbeats 4000000 in
set_option maxRecDepth 100000 in
theorem k_x1_release (l : Launch) (D : va_G) (a : Nat → Nat) (p0 : Int) (sz : Nat) (s : MS) (o : (Int × MS)) (h : m_x1_release p0 s = some o) : yWi l yX1_release cX1_release 8 (some .int) { frames := 1, cells := 0, slots := 0, locals := 60 } D sz [.ref (a 49), .int (i2 p0), .ref (a 52)] (CS D a s) (CS D a o.2) (i2 o.1) := by
  refine Met.ofW (cc := cX1_release) (maxL := 8) (ret := (some .int)) (by decide) rfl ?_
  intro p e s₀ m args below meth c s₁ B hml hv
  obtain ⟨rfl, ⟨hsz, hP, hK, hD0⟩, hN⟩ := hv
  have hx := B.exec
  have hb := B.bytes
  have hr := B.returns
  have hts := atoms_spec (ws := wz yX1_release cX1_release 8 (some .int)) B.pre
  have ht : ∀ w ∈ lw_gd, w.before _ s₀ = true := fun w h => hts w (List.mem_cons_of_mem _ h)
  have hown : s₀.vm.findClass RX1 = some m.cls := findClass_of_methodNamed B.named
  have hlocks := B.notSynchronized
  subst hsz
  have hD := hD0.self (sz := s₀.heap.size)
  generalize hAe : va_A (CS D a s) s₀.heap.size = A at hD ⊢
  have hA : ∀ q : Nat, s₀.heap.size ≤ q → A q := fun q h => by rw [← hAe]; exact Or.inr h
  have hS : va_S A s₀.heap s₀.heap [] := va_S.rf
  have hDD : ∀ t : MS, va_D A (CS D a t) := fun t => CW_D t hD
  have hl := lv_entry ([.ref (a 49), .int (i2 p0), .ref (a 52)]) (n := 8) (Nat.le_of_ble_eq_true rfl)
  rw [lg_entry_eq]
  generalize (lg_sl ([.ref (a 49), .int (i2 p0), .ref (a 52)]) ++ List.replicate (8 - (lg_sl ([.ref (a 49), .int (i2 p0), .ref (a 52)])).length) Slot.unset).toArray = ls at hl ⊢
  have hl : lv_has ls 8 [(0, .ref (a 49)), (1, .int (i2 p0)), (2, .ref (a 52))] := hl
  unfold m_x1_release at h
  refine y_head (pcJ := 160) (σ := Int × MS) (fun u H locs ls => va_P D vwCl (CS D a u.2) H ∧ va_S A s₀.heap H locs ∧ lv_has ls 8 [(3, .int (i2 u.1))] ∧ m_x1_release_J160 u.1 u.2 = some o) (fun u => []) (fun u H locs ls hI => ?_) (fun J160 => ?_)
  · obtain ⟨hP, hS, hl, h⟩ := hI
    obtain ⟨x1, s2⟩ := u
    have hP : va_P D vwCl (CS D a s2) H := hP
    have hl : lv_has ls 8 [(3, .int (i2 x1))] := hl
    have h : m_x1_release_J160 x1 s2 = some o := h
    unfold m_x1_release_J160 at h
    refine lv_iload_n hx hb eX1_release_151.2.2.2.1 rfl (lv_at hl 0 rfl) ?_
    obtain rfl := Option.some.inj h
    exact W.iret (v := (i2 x1)) hx hb hr (fun t ht hW => ⟨⟨_, (), rfl, rfl, by rw [ht]; exact hP, va_K.moved hW.alike hK, hDD _⟩, hS.F ht⟩) hS.2.2 eX1_release_151.2.2.2.2.1
  refine y_loop (pcJ := 28) (σ := Int × Int × MS) (fun n u H locs ls => va_P D vwCl (CS D a u.2.2) H ∧ va_S A s₀.heap H locs ∧ lv_has ls 8 [(0, .ref (a 49)), (2, .ref (a 52)), (3, .int (i2 u.1)), (4, .int (i2 u.2.1))] ∧ m_x1_release_L28 n u.1 u.2.1 u.2.2 = some o) (fun u => []) (fun u H locs ls hI => by obtain ⟨_, _, _, h⟩ := hI; cases h) (fun n28 ih28 u H locs ls hI => ?_) (fun J28 => ?_)
  · obtain ⟨hP, hS, hl, h⟩ := hI
    obtain ⟨x3, x4, s5⟩ := u
    have hP : va_P D vwCl (CS D a s5) H := hP
    have hl : lv_has ls 8 [(0, .ref (a 49)), (2, .ref (a 52)), (3, .int (i2 x3)), (4, .int (i2 x4))] := hl
    have h : m_x1_release_b28 (m_x1_release_L28 n28) x3 x4 s5 = some o := h
    unfold m_x1_release_b28 at h
    refine y_loop (pcJ := 83) (σ := Int × Int × Int × Int × MS) (fun n u H locs ls => va_P D vwCl (CS D a u.2.2.2.2) H ∧ va_S A s₀.heap H locs ∧ lv_has ls 8 [(0, .ref (a 49)), (2, .ref (a 52)), (3, .int (i2 u.1)), (4, .int (i2 u.2.1)), (5, .int (i2 u.2.2.1)), (6, .int (i2 u.2.2.2.1))] ∧ m_x1_release_L83 (m_x1_release_L28 n28) n u.1 u.2.1 u.2.2.1 u.2.2.2.1 u.2.2.2.2 = some o) (fun u => []) (fun u H locs ls hI => by obtain ⟨_, _, _, h⟩ := hI; cases h) (fun n83 ih83 u H locs ls hI => ?_) (fun J83 => ?_)
    · obtain ⟨hP, hS, hl, h⟩ := hI
      obtain ⟨x6, x7, x8, x9, s10⟩ := u
      have hP : va_P D vwCl (CS D a s10) H := hP
      have hl : lv_has ls 8 [(0, .ref (a 49)), (2, .ref (a 52)), (3, .int (i2 x6)), (4, .int (i2 x7)), (5, .int (i2 x8)), (6, .int (i2 x9))] := hl
      have h : m_x1_release_b83 (m_x1_release_L28 n28) (m_x1_release_L83 (m_x1_release_L28 n28) n83) x6 x7 x8 x9 s10 = some o := h
      unfold m_x1_release_b83 at h
      refine y_head (pcJ := 148) (σ := Int × Int × Int × Int × MS) (fun u H locs ls => va_P D vwCl (CS D a u.2.2.2.2) H ∧ va_S A s₀.heap H locs ∧ lv_has ls 8 [(0, .ref (a 49)), (2, .ref (a 52)), (3, .int (i2 u.1)), (4, .int (i2 u.2.1)), (5, .int (i2 u.2.2.1)), (6, .int (i2 u.2.2.2.1))] ∧ m_x1_release_J148 (m_x1_release_L28 n28) (m_x1_release_L83 (m_x1_release_L28 n28) n83) u.1 u.2.1 u.2.2.1 u.2.2.2.1 u.2.2.2.2 = some o) (fun u => []) (fun u H locs ls hI => ?_) (fun J148 => ?_)
      · obtain ⟨hP, hS, hl, h⟩ := hI
        obtain ⟨x11, x12, x13, x14, s15⟩ := u
        have hP : va_P D vwCl (CS D a s15) H := hP
        have hl : lv_has ls 8 [(0, .ref (a 49)), (2, .ref (a 52)), (3, .int (i2 x11)), (4, .int (i2 x12)), (5, .int (i2 x13)), (6, .int (i2 x14))] := hl
        have h : m_x1_release_J148 (m_x1_release_L28 n28) (m_x1_release_L83 (m_x1_release_L28 n28) n83) x11 x12 x13 x14 s15 = some o := h
        unfold m_x1_release_J148 at h
        refine lv_iinc (v := i2 (x14 + 1)) (lv' := [(6, .int (i2 (x14 + 1))), (0, .ref (a 49)), (2, .ref (a 52)), (3, .int (i2 x11)), (4, .int (i2 x12)), (5, .int (i2 x13))]) hx hb eX1_release_134.2.2.2.2.2.2.2 hl (k := 5) rfl (i2_add x14 1) (by decide) rfl (fun ls hl => ?_)
        refine lv_goto (tgt := 83) hx hb eX1_release_151.1 (by decide) ?_
        exact ih83 (x11, x12, x13, x14 + 1, s15) _ _ _ ⟨hP, hS, lv_sub hl [1, 2, 3, 4, 5, 0] rfl, h⟩
      refine lv_iload hx hb eX1_release_78.2.2.2.1 (lv_at hl 5 rfl) ?_
      refine lv_iload hx hb eX1_release_78.2.2.2.2.1 (lv_at hl 4 rfl) ?_
      obtain ⟨hr16, h⟩ := rg_e h
      obtain ⟨hr17, h⟩ := rg_e h
      refine lv_icmp_ge (tgt := 154) hx hb eX1_release_78.2.2.2.2.2.1 (by decide) (fun c18 => ?_) (fun c18 => ?_)
      · have h := if_t ((i2_le (x := x8) (y := x9) hr17 hr16).mp c18) h
        refine lv_iinc (v := i2 (x7 + 1)) (lv' := [(4, .int (i2 (x7 + 1))), (0, .ref (a 49)), (2, .ref (a 52)), (3, .int (i2 x6)), (5, .int (i2 x8)), (6, .int (i2 x9))]) hx hb eX1_release_151.2.1 hl (k := 3) rfl (i2_add x7 1) (by decide) rfl (fun ls hl => ?_)
        refine lv_goto (tgt := 28) hx hb eX1_release_151.2.2.1 (by decide) ?_
        exact ih28 (x6, x7 + 1, s10) _ _ _ ⟨hP, hS, lv_sub hl [1, 2, 3, 0] rfl, h⟩
      · have h := if_f (mt (i2_le (x := x8) (y := x9) hr17 hr16).mpr c18) h
        refine lv_aload_n hx hb eX1_release_78.2.2.2.2.2.2.1 rfl (lv_at hl 0 rfl) ?_
        refine va_get (D := D) (ci := 1) (v := .ref (a 53)) (C := RX1) (T := TX1) (N := 9) hx hb ht inX1 hown hK hP 49 CW_49 rfl 0 (by decide) (ht (.fieldLink RX1 12 "CloneVolumes$Forest" "now" "LCloneVolumes$State;") fl_X1_12) (fun _ h9 => h9) rfl eX1_release_78.2.2.2.2.2.2.2 ?_
        refine va_get (D := D) (ci := 8) (v := .ref (a 59)) (C := RX8) (T := TX8) (N := 11) hx hb ht inX8 hown hK hP 53 CW_53 rfl 8 (by decide) (ht (.fieldLink RX1 217 "CloneVolumes$State" "values" "[I") fl_X1_217) (fun _ h9 => h9) rfl eX1_release_94.1 ?_
        refine lv_aload_n hx hb eX1_release_94.2.1 rfl (lv_at hl 0 rfl) ?_
        refine va_get (D := D) (ci := 1) (v := .ref (a 53)) (C := RX1) (T := TX1) (N := 9) hx hb ht inX1 hown hK hP 49 CW_49 rfl 0 (by decide) (ht (.fieldLink RX1 12 "CloneVolumes$Forest" "now" "LCloneVolumes$State;") fl_X1_12) (fun _ h9 => h9) rfl eX1_release_94.2.2.1 ?_
        refine lv_aload_n hx hb eX1_release_94.2.2.2.1 rfl (lv_at hl 0 rfl) ?_
        refine va_get (D := D) (ci := 1) (v := .ref (a 50)) (C := RX1) (T := TX1) (N := 9) hx hb ht inX1 hown hK hP 49 CW_49 rfl 6 (by decide) (ht (.fieldLink RX1 37 "CloneVolumes$Forest" "chain" "[I") fl_X1_37) (fun _ h9 => h9) rfl eX1_release_94.2.2.2.2.1 ?_
        refine lv_iload hx hb eX1_release_94.2.2.2.2.2.1 (lv_at hl 3 rfl) ?_
        obtain ⟨y19, ey19, iy19, h⟩ := rdI_e h
        refine ya_iald (i := x7) hx hb hK hP 50 0 CW_50 rfl (by decide) ey19 iy19 eX1_release_94.2.2.2.2.2.2.1 ?_
        refine lv_iload hx hb eX1_release_94.2.2.2.2.2.2.2 (lv_at hl 5 rfl) ?_
        obtain ⟨r21, hc20, h⟩ := bn_e h
        refine ycV (r0 := i2 r21) (As := [.int (i2 y19), .int (i2 x9)]) (rest := [.ref (a 59)]) (C := RX8) (n := 2) ⟨hx, hb, hml, hown, ht⟩ (k_x8_slot l D a y19 x9 _ _ hc20) (zgV ml_X1_220 im_X8_slot se_X8_slot in_X8 co_X8_slot) rfl rfl (by decide +kernel) ⟨Nat.le_of_ble_eq_true rfl, Nat.le_of_ble_eq_true rfl⟩ hN hK hP hS 53 CW_53 rfl rfl rfl hl.1 rfl (Nat.le_of_ble_eq_true rfl) eX1_release_110.1 ⟨Nat.le_of_ble_eq_true rfl, Nat.le_of_ble_eq_true rfl⟩ (fun H locs hP hS => ?_)
        obtain ⟨y22, ey22, iy22, h⟩ := rdI_e h
        refine ya_iald (i := r21) hx hb hK hP 59 0 CW_59 rfl (by decide) ey22 iy22 eX1_release_110.2.1 ?_
        refine lv_istore (lv' := [(7, .int (i2 y22)), (0, .ref (a 49)), (2, .ref (a 52)), (3, .int (i2 x6)), (4, .int (i2 x7)), (5, .int (i2 x8)), (6, .int (i2 x9))]) hx hb eX1_release_110.2.2.1 hl (by decide) rfl (fun ls hl => ?_)
        refine lv_aload_n hx hb eX1_release_110.2.2.2.1 rfl (lv_at hl 2 rfl) ?_
        refine lv_iload hx hb eX1_release_110.2.2.2.2.1 (lv_at hl 0 rfl) ?_
        refine lv_dup2_11 hx hb eX1_release_110.2.2.2.2.2.1 rfl rfl ?_
        obtain ⟨y23, ey23, iy23, h⟩ := rdI_e h
        refine ya_iald (i := y22) hx hb hK hP 52 0 CW_52 rfl (by decide) ey23 iy23 eX1_release_110.2.2.2.2.2.2.1 ?_
        refine lv_iconst (v := 1) hx hb eX1_release_110.2.2.2.2.2.2.2 (by decide) ?_
        refine lv_isub hx hb eX1_release_122.1 ?_
        refine z_topi (y := i2 (y23 - 1)) (i2_sub y23 1) ?_
        obtain ⟨hi24, h⟩ := inb_e h
        refine ya_iast (i := y22) (x := (y23 - 1)) hx hb hK hP (hDD _) hS 52 0 CW_52 rfl (by decide) hi24 eX1_release_122.2.1 (CW_w52 _) (fun H locs hP hS => ?_)
        obtain ⟨s25, hs25, h⟩ := st_e h
        rw [hs25] at hP
        refine lv_aload_n hx hb eX1_release_122.2.2.1 rfl (lv_at hl 2 rfl) ?_
        refine lv_iload hx hb eX1_release_122.2.2.2.1 (lv_at hl 0 rfl) ?_
        obtain ⟨y26, ey26, iy26, h⟩ := rdI_e h
        refine ya_iald (i := y22) hx hb hK hP 52 0 CW_52 rfl (by decide) ey26 iy26 eX1_release_122.2.2.2.2.1 ?_
        obtain ⟨hr27, h⟩ := rg_e h
        refine lv_if_ne (tgt := 148) hx hb eX1_release_122.2.2.2.2.2.1 (by decide) (fun c28 => ?_) (fun c28 => ?_)
        · have h := if_f (mt (i2_eq (x := y26) (y := 0) hr27 (by decide)).mpr c28) h
          exact J148 (x6, x7, x8, x9, s25) _ _ _ ⟨hP, hS, lv_sub hl [1, 2, 3, 4, 5, 6] rfl, h⟩
        · have h := if_t ((i2_eq (x := y26) (y := 0) hr27 (by decide)).mp c28) h
          refine lv_iload_n hx hb eX1_release_122.2.2.2.2.2.2.1 rfl (lv_at hl 3 rfl) ?_
          refine lv_bipush (v := 48) hx hb eX1_release_122.2.2.2.2.2.2.2 (by decide) ?_
          obtain ⟨hr29, h⟩ := rg_e h
          refine lv_icmp_ge (tgt := 148) hx hb eX1_release_134.1 (by decide) (fun c30 => ?_) (fun c30 => ?_)
          · have h := if_t ((i2_le (x := 48) (y := x6) (by decide) hr29).mp c30) h
            exact J148 (x6, x7, x8, x9, s25) _ _ _ ⟨hP, hS, lv_sub hl [1, 2, 3, 4, 5, 6] rfl, h⟩
          · have h := if_f (mt (i2_le (x := 48) (y := x6) (by decide) hr29).mpr c30) h
            refine lv_aload_n hx hb eX1_release_134.2.1 rfl (lv_at hl 1 rfl) ?_
            refine va_get (D := D) (ci := 1) (v := .ref (a 50)) (C := RX1) (T := TX1) (N := 9) hx hb ht inX1 hown hK hP 49 CW_49 rfl 6 (by decide) (ht (.fieldLink RX1 37 "CloneVolumes$Forest" "chain" "[I") fl_X1_37) (fun _ h9 => h9) rfl eX1_release_134.2.2.1 ?_
            refine lv_iload_n hx hb eX1_release_134.2.2.2.1 rfl (lv_at hl 3 rfl) ?_
            refine lv_iload hx hb eX1_release_134.2.2.2.2.1 (lv_at hl 0 rfl) ?_
            obtain ⟨hi31, h⟩ := inb_e h
            refine ya_iast (i := x6) (x := y22) hx hb hK hP (hDD _) hS 50 0 CW_50 rfl (by decide) hi31 eX1_release_134.2.2.2.2.2.1 (CW_w50 _) (fun H locs hP hS => ?_)
            obtain ⟨s32, hs32, h⟩ := st_e h
            rw [hs32] at hP
            refine lv_iinc (v := i2 (x6 + 1)) (lv' := [(3, .int (i2 (x6 + 1))), (7, .int (i2 y22)), (0, .ref (a 49)), (2, .ref (a 52)), (4, .int (i2 x7)), (5, .int (i2 x8)), (6, .int (i2 x9))]) hx hb eX1_release_134.2.2.2.2.2.2.1 hl (k := 3) rfl (i2_add x6 1) (by decide) rfl (fun ls hl => ?_)
            exact J148 (x6 + 1, x7, x8, x9, s32) _ _ _ ⟨hP, hS, lv_sub hl [2, 3, 0, 4, 5, 6] rfl, h⟩
    refine y_head (pcJ := 78) (σ := Int × Int × Int × MS) (fun u H locs ls => va_P D vwCl (CS D a u.2.2.2) H ∧ va_S A s₀.heap H locs ∧ lv_has ls 8 [(0, .ref (a 49)), (2, .ref (a 52)), (3, .int (i2 u.1)), (4, .int (i2 u.2.1))] ∧ m_x1_release_J78 (m_x1_release_L28 n28) u.1 u.2.1 u.2.2.1 u.2.2.2 = some o) (fun u => [.int (i2 u.2.2.1)]) (fun u H locs ls hI => ?_) (fun J78 => ?_)
    · obtain ⟨hP, hS, hl, h⟩ := hI
      obtain ⟨x33, x34, x35, s36⟩ := u
      have hP : va_P D vwCl (CS D a s36) H := hP
      have hl : lv_has ls 8 [(0, .ref (a 49)), (2, .ref (a 52)), (3, .int (i2 x33)), (4, .int (i2 x34))] := hl
      have h : m_x1_release_J78 (m_x1_release_L28 n28) x33 x34 x35 s36 = some o := h
      unfold m_x1_release_J78 at h
      refine lv_istore (lv' := [(5, .int (i2 x35)), (0, .ref (a 49)), (2, .ref (a 52)), (3, .int (i2 x33)), (4, .int (i2 x34))]) hx hb eX1_release_78.1 hl (by decide) rfl (fun ls hl => ?_)
      refine lv_iconst (v := 0) hx hb eX1_release_78.2.1 (by decide) ?_
      refine lv_istore (lv' := [(6, .int 0), (5, .int (i2 x35)), (0, .ref (a 49)), (2, .ref (a 52)), (3, .int (i2 x33)), (4, .int (i2 x34))]) hx hb eX1_release_78.2.2.1 hl (by decide) rfl (fun ls hl => ?_)
      exact J83 FU (x33, x34, x35, 0, s36) _ _ _ ⟨hP, hS, lv_sub hl [2, 3, 4, 5, 1, 0] rfl, h⟩
    refine lv_iload hx hb eX1_release_16.2.2.2.2.2.2.2 (lv_at hl 3 rfl) ?_
    refine lv_iload_n hx hb eX1_release_30.1 rfl (lv_at hl 2 rfl) ?_
    obtain ⟨hr37, h⟩ := rg_e h
    obtain ⟨hr38, h⟩ := rg_e h
    refine lv_icmp_ge (tgt := 160) hx hb eX1_release_30.2.1 (by decide) (fun c39 => ?_) (fun c39 => ?_)
    · have h := if_t ((i2_le (x := x3) (y := x4) hr38 hr37).mp c39) h
      exact J160 (x3, s5) _ _ _ ⟨hP, hS, lv_sub hl [2] rfl, h⟩
    · have h := if_f (mt (i2_le (x := x3) (y := x4) hr38 hr37).mpr c39) h
      refine lv_iload hx hb eX1_release_30.2.2.1 (lv_at hl 3 rfl) ?_
      refine lv_bipush (v := 48) hx hb eX1_release_30.2.2.2.1 (by decide) ?_
      obtain ⟨hr40, h⟩ := rg_e h
      refine lv_icmp_ge (tgt := 160) hx hb eX1_release_30.2.2.2.2.1 (by decide) (fun c41 => ?_) (fun c41 => ?_)
      · have h := if_t ((i2_le (x := 48) (y := x4) (by decide) hr40).mp c41) h
        exact J160 (x3, s5) _ _ _ ⟨hP, hS, lv_sub hl [2] rfl, h⟩
      · have h := if_f (mt (i2_le (x := 48) (y := x4) (by decide) hr40).mpr c41) h
        refine lv_aload_n hx hb eX1_release_30.2.2.2.2.2.1 rfl (lv_at hl 0 rfl) ?_
        refine va_get (D := D) (ci := 1) (v := .ref (a 53)) (C := RX1) (T := TX1) (N := 9) hx hb ht inX1 hown hK hP 49 CW_49 rfl 0 (by decide) (ht (.fieldLink RX1 12 "CloneVolumes$Forest" "now" "LCloneVolumes$State;") fl_X1_12) (fun _ h9 => h9) rfl eX1_release_30.2.2.2.2.2.2.1 ?_
        refine va_get (D := D) (ci := 8) (v := .ref (a 56)) (C := RX8) (T := TX8) (N := 11) hx hb ht inX8 hown hK hP 53 CW_53 rfl 5 (by decide) (ht (.fieldLink RX1 150 "CloneVolumes$State" "level" "[I") fl_X1_150) (fun _ h9 => h9) rfl eX1_release_30.2.2.2.2.2.2.2 ?_
        refine lv_aload_n hx hb eX1_release_48.1 rfl (lv_at hl 0 rfl) ?_
        refine va_get (D := D) (ci := 1) (v := .ref (a 50)) (C := RX1) (T := TX1) (N := 9) hx hb ht inX1 hown hK hP 49 CW_49 rfl 6 (by decide) (ht (.fieldLink RX1 37 "CloneVolumes$Forest" "chain" "[I") fl_X1_37) (fun _ h9 => h9) rfl eX1_release_48.2.1 ?_
        refine lv_iload hx hb eX1_release_48.2.2.1 (lv_at hl 3 rfl) ?_
        obtain ⟨y42, ey42, iy42, h⟩ := rdI_e h
        refine ya_iald (i := x4) hx hb hK hP 50 0 CW_50 rfl (by decide) ey42 iy42 eX1_release_48.2.2.2.1 ?_
        obtain ⟨y43, ey43, iy43, h⟩ := rdI_e h
        refine ya_iald (i := y42) hx hb hK hP 56 0 CW_56 rfl (by decide) ey43 iy43 eX1_release_48.2.2.2.2.1 ?_
        obtain ⟨hr44, h⟩ := rg_e h
        refine lv_if_le (tgt := 77) hx hb eX1_release_48.2.2.2.2.2.1 (by decide) (fun c45 => ?_) (fun c45 => ?_)
        · have h := if_t ((i2_le (x := y43) (y := 0) hr44 (by decide)).mp c45) h
          refine lv_iconst (v := 0) hx hb eX1_release_63.2.2.2.2.2.2.2 (by decide) ?_
          exact J78 (x3, x4, 0, s5) _ _ _ ⟨hP, hS, lv_sub hl [0, 1, 2, 3] rfl, h⟩
        · have h := if_f (mt (i2_le (x := y43) (y := 0) hr44 (by decide)).mpr c45) h
          refine lv_aload_n hx hb eX1_release_48.2.2.2.2.2.2.1 rfl (lv_at hl 0 rfl) ?_
          refine va_get (D := D) (ci := 1) (v := .ref (a 53)) (C := RX1) (T := TX1) (N := 9) hx hb ht inX1 hown hK hP 49 CW_49 rfl 0 (by decide) (ht (.fieldLink RX1 12 "CloneVolumes$Forest" "now" "LCloneVolumes$State;") fl_X1_12) (fun _ h9 => h9) rfl eX1_release_48.2.2.2.2.2.2.2 ?_
          refine va_get (D := D) (ci := 8) (v := .ref (a 57)) (C := RX8) (T := TX8) (N := 11) hx hb ht inX8 hown hK hP 53 CW_53 rfl 6 (by decide) (ht (.fieldLink RX1 155 "CloneVolumes$State" "size" "[I") fl_X1_155) (fun _ h9 => h9) rfl eX1_release_63.1 ?_
          refine lv_aload_n hx hb eX1_release_63.2.1 rfl (lv_at hl 0 rfl) ?_
          refine va_get (D := D) (ci := 1) (v := .ref (a 50)) (C := RX1) (T := TX1) (N := 9) hx hb ht inX1 hown hK hP 49 CW_49 rfl 6 (by decide) (ht (.fieldLink RX1 37 "CloneVolumes$Forest" "chain" "[I") fl_X1_37) (fun _ h9 => h9) rfl eX1_release_63.2.2.1 ?_
          refine lv_iload hx hb eX1_release_63.2.2.2.1 (lv_at hl 3 rfl) ?_
          obtain ⟨y46, ey46, iy46, h⟩ := rdI_e h
          refine ya_iald (i := x4) hx hb hK hP 50 0 CW_50 rfl (by decide) ey46 iy46 eX1_release_63.2.2.2.2.1 ?_
          obtain ⟨y47, ey47, iy47, h⟩ := rdI_e h
          refine ya_iald (i := y46) hx hb hK hP 57 0 CW_57 rfl (by decide) ey47 iy47 eX1_release_63.2.2.2.2.2.1 ?_
          refine lv_goto (tgt := 78) hx hb eX1_release_63.2.2.2.2.2.2.1 (by decide) ?_
          exact J78 (x3, x4, y47, s5) _ _ _ ⟨hP, hS, lv_sub hl [0, 1, 2, 3] rfl, h⟩
  refine y_head (pcJ := 25) (σ := Int × MS) (fun u H locs ls => va_P D vwCl (CS D a u.2) H ∧ va_S A s₀.heap H locs ∧ lv_has ls 8 [(0, .ref (a 49)), (2, .ref (a 52)), (3, .int (i2 u.1))] ∧ m_x1_release_J25 u.1 u.2 = some o) (fun u => []) (fun u H locs ls hI => ?_) (fun J25 => ?_)
  · obtain ⟨hP, hS, hl, h⟩ := hI
    obtain ⟨x48, s49⟩ := u
    have hP : va_P D vwCl (CS D a s49) H := hP
    have hl : lv_has ls 8 [(0, .ref (a 49)), (2, .ref (a 52)), (3, .int (i2 x48))] := hl
    have h : m_x1_release_J25 x48 s49 = some o := h
    unfold m_x1_release_J25 at h
    refine lv_iconst (v := 0) hx hb eX1_release_16.2.2.2.2.2.1 (by decide) ?_
    refine lv_istore (lv' := [(4, .int 0), (0, .ref (a 49)), (2, .ref (a 52)), (3, .int (i2 x48))]) hx hb eX1_release_16.2.2.2.2.2.2.1 hl (by decide) rfl (fun ls hl => ?_)
    exact J28 FU (x48, 0, s49) _ _ _ ⟨hP, hS, lv_sub hl [1, 2, 3, 0] rfl, h⟩
  refine lv_iconst (v := 0) hx hb eX1_freedWith_31.2.2.1 (by decide) ?_
  refine lv_istore_n (lv' := [(3, .int 0), (0, .ref (a 49)), (1, .int (i2 p0)), (2, .ref (a 52))]) hx hb eX1_freedWith_31.2.2.2.1 rfl hl (by decide) rfl (fun ls hl => ?_)
  refine lv_aload_n hx hb eX1_freedWith_31.2.2.2.2.1 rfl (lv_at hl 3 rfl) ?_
  refine lv_iload_n hx hb eX1_freedWith_31.2.2.2.2.2.1 rfl (lv_at hl 2 rfl) ?_
  refine lv_dup2_11 hx hb eX1_freedWith_31.2.2.2.2.2.2.1 rfl rfl ?_
  obtain ⟨y50, ey50, iy50, h⟩ := rdI_e h
  refine ya_iald (i := p0) hx hb hK hP 52 0 CW_52 rfl (by decide) ey50 iy50 eX1_freedWith_31.2.2.2.2.2.2.2 ?_
  refine lv_iconst (v := 1) hx hb eX1_release_6.1 (by decide) ?_
  refine lv_isub hx hb eX1_release_6.2.1 ?_
  refine z_topi (y := i2 (y50 - 1)) (i2_sub y50 1) ?_
  obtain ⟨hi51, h⟩ := inb_e h
  refine ya_iast (i := p0) (x := (y50 - 1)) hx hb hK hP (hDD _) hS 52 0 CW_52 rfl (by decide) hi51 eX1_release_6.2.2.1 (CW_w52 _) (fun H locs hP hS => ?_)
  obtain ⟨s52, hs52, h⟩ := st_e h
  rw [hs52] at hP
  refine lv_aload_n hx hb eX1_release_6.2.2.2.1 rfl (lv_at hl 3 rfl) ?_
  refine lv_iload_n hx hb eX1_release_6.2.2.2.2.1 rfl (lv_at hl 2 rfl) ?_
  obtain ⟨y53, ey53, iy53, h⟩ := rdI_e h
  refine ya_iald (i := p0) hx hb hK hP 52 0 CW_52 rfl (by decide) ey53 iy53 eX1_release_6.2.2.2.2.2.1 ?_
  obtain ⟨hr54, h⟩ := rg_e h
  refine lv_if_ne (tgt := 25) hx hb eX1_release_6.2.2.2.2.2.2.1 (by decide) (fun c55 => ?_) (fun c55 => ?_)
  · have h := if_f (mt (i2_eq (x := y53) (y := 0) hr54 (by decide)).mpr c55) h
    exact J25 (0, s52) _ _ _ ⟨hP, hS, lv_sub hl [1, 3, 0] rfl, h⟩
  · have h := if_t ((i2_eq (x := y53) (y := 0) hr54 (by decide)).mp c55) h
    refine lv_aload_n hx hb eX1_release_6.2.2.2.2.2.2.2 rfl (lv_at hl 1 rfl) ?_
    refine va_get (D := D) (ci := 1) (v := .ref (a 50)) (C := RX1) (T := TX1) (N := 9) hx hb ht inX1 hown hK hP 49 CW_49 rfl 6 (by decide) (ht (.fieldLink RX1 37 "CloneVolumes$Forest" "chain" "[I") fl_X1_37) (fun _ h9 => h9) rfl eX1_release_16.1 ?_
    refine lv_iload_n hx hb eX1_release_16.2.1 rfl (lv_at hl 0 rfl) ?_
    refine lv_iload_n hx hb eX1_release_16.2.2.1 rfl (lv_at hl 2 rfl) ?_
    obtain ⟨hi56, h⟩ := inb_e h
    refine ya_iast (i := 0) (x := p0) hx hb hK hP (hDD _) hS 50 0 CW_50 rfl (by decide) hi56 eX1_release_16.2.2.2.1 (CW_w50 _) (fun H locs hP hS => ?_)
    obtain ⟨s57, hs57, h⟩ := st_e h
    rw [hs57] at hP
    refine lv_iinc (v := 1) (lv' := [(3, .int 1), (0, .ref (a 49)), (1, .int (i2 p0)), (2, .ref (a 52))]) hx hb eX1_release_16.2.2.2.2.1 hl (k := 0) rfl (by decide) (by decide) rfl (fun ls hl => ?_)
    exact J25 (1, s57) _ _ _ ⟨hP, hS, lv_sub hl [1, 3, 0] rfl, h⟩
set_option maxHeartbeats 4000000 in
set_option maxRecDepth 100000 in
theorem k_x1_freedWith (l : Launch) (D : va_G) (a : Nat → Nat) (p0 : Int) (sz : Nat) (s : MS) (o : (Int × MS)) (h : m_x1_freedWith p0 s = some o) : yWi l yX1_freedWith cX1_freedWith 2 (some .int) { frames := 2, cells := 0, slots := 0, locals := 120 } D sz [.ref (a 49), .int (i2 p0)] (CS D a s) (CS D a o.2) (i2 o.1) := by
  refine Met.ofW (cc := cX1_freedWith) (maxL := 2) (ret := (some .int)) (by decide) rfl ?_
  intro p e s₀ m args below meth c s₁ B hml hv
  obtain ⟨rfl, ⟨hsz, hP, hK, hD0⟩, hN⟩ := hv
  have hx := B.exec
  have hb := B.bytes
  have hr := B.returns
  have hts := atoms_spec (ws := wz yX1_freedWith cX1_freedWith 2 (some .int)) B.pre
  have ht : ∀ w ∈ lw_gd, w.before _ s₀ = true := fun w h => hts w (List.mem_cons_of_mem _ h)
  have hown : s₀.vm.findClass RX1 = some m.cls := findClass_of_methodNamed B.named
  have hlocks := B.notSynchronized
  subst hsz
  have hD := hD0.self (sz := s₀.heap.size)
  generalize hAe : va_A (CS D a s) s₀.heap.size = A at hD ⊢
  have hA : ∀ q : Nat, s₀.heap.size ≤ q → A q := fun q h => by rw [← hAe]; exact Or.inr h
  have hS : va_S A s₀.heap s₀.heap [] := va_S.rf
  have hDD : ∀ t : MS, va_D A (CS D a t) := fun t => CW_D t hD
  have hl := lv_entry ([.ref (a 49), .int (i2 p0)]) (n := 2) (Nat.le_of_ble_eq_true rfl)
  rw [lg_entry_eq]
  generalize (lg_sl ([.ref (a 49), .int (i2 p0)]) ++ List.replicate (2 - (lg_sl ([.ref (a 49), .int (i2 p0)])).length) Slot.unset).toArray = ls at hl ⊢
  have hl : lv_has ls 2 [(0, .ref (a 49)), (1, .int (i2 p0))] := hl
  unfold m_x1_freedWith at h
  refine lv_iload_n hx hb eX11_volume_109.2.2.2.2.2.2.1 rfl (lv_at hl 1 rfl) ?_
  refine lv_iconst (v := (-1)) hx hb eX11_volume_109.2.2.2.2.2.2.2 (by decide) ?_
  obtain ⟨hr1, h⟩ := rg_e h
  refine lv_icmp_ne (tgt := 7) hx hb eX1_freedWith_2.1 (by decide) (fun c2 => ?_) (fun c2 => ?_)
  · rw [show ((-1) : Int32) = i2 (-1) from by decide] at c2
    have h := if_f (mt (i2_eq (x := p0) (y := (-1)) hr1 (by decide)).mpr c2) h
    refine lv_aload_n hx hb eX1_freedWith_2.2.2.2.1 rfl (lv_at hl 0 rfl) ?_
    refine va_get (D := D) (ci := 1) (v := .ref (a 53)) (C := RX1) (T := TX1) (N := 9) hx hb ht inX1 hown hK hP 49 CW_49 rfl 0 (by decide) (ht (.fieldLink RX1 12 "CloneVolumes$Forest" "now" "LCloneVolumes$State;") fl_X1_12) (fun _ h9 => h9) rfl eX1_freedWith_2.2.2.2.2.1 ?_
    refine va_get (D := D) (ci := 8) (v := .ref (a 54)) (C := RX8) (T := TX8) (N := 11) hx hb ht inX8 hown hK hP 53 CW_53 rfl 3 (by decide) (ht (.fieldLink RX1 181 "CloneVolumes$State" "count" "[I") fl_X1_181) (fun _ h9 => h9) rfl eX1_freedWith_2.2.2.2.2.2.1 ?_
    refine lv_iconst (v := 0) hx hb eX1_freedWith_2.2.2.2.2.2.2.1 (by decide) ?_
    refine lv_aload_n hx hb eX1_freedWith_2.2.2.2.2.2.2.2 rfl (lv_at hl 0 rfl) ?_
    refine va_get (D := D) (ci := 1) (v := .ref (a 52)) (C := RX1) (T := TX1) (N := 9) hx hb ht inX1 hown hK hP 49 CW_49 rfl 8 (by decide) (ht (.fieldLink RX1 44 "CloneVolumes$Forest" "counts" "[I") fl_X1_44) (fun _ h9 => h9) rfl eX1_freedWith_16.1 ?_
    refine lv_iconst (v := 0) hx hb eX1_freedWith_16.2.1 (by decide) ?_
    refine lv_bipush (v := 48) hx hb eX1_freedWith_16.2.2.1 (by decide) ?_
    obtain ⟨hc3, h⟩ := cpg_e h
    refine ya_copyi (sp := 0) (dp := 0) (n := 48) hx hb (by rw [hml]; exact hl.1.symm) hown (ht _ ml_X1_230) (ht _ na_cpy) (ht _ st_cpy) (ht _ in_sys) hK hP (hDD _) hS 54 52 CW_54 CW_52 (by decide) (by decide) hc3 (Nat.le_of_ble_eq_true rfl) (Nat.le_of_ble_eq_true rfl) eX1_freedWith_16.2.2.2.1 (CW_w52 _) (fun H locs hP hS => ?_)
    obtain ⟨s4, hs4, h⟩ := st_e h
    rw [hs4] at hP
    refine lv_aload_n hx hb eX1_freedWith_16.2.2.2.2.1 rfl (lv_at hl 0 rfl) ?_
    refine lv_iload_n hx hb eX1_freedWith_16.2.2.2.2.2.1 rfl (lv_at hl 1 rfl) ?_
    refine lv_aload_n hx hb eX1_freedWith_16.2.2.2.2.2.2.1 rfl (lv_at hl 0 rfl) ?_
    refine va_get (D := D) (ci := 1) (v := .ref (a 52)) (C := RX1) (T := TX1) (N := 9) hx hb ht inX1 hown hK hP 49 CW_49 rfl 8 (by decide) (ht (.fieldLink RX1 44 "CloneVolumes$Forest" "counts" "[I") fl_X1_44) (fun _ h9 => h9) rfl eX1_freedWith_16.2.2.2.2.2.2.2 ?_
    obtain ⟨⟨r7, s6⟩, hc5, h⟩ := bn_e h
    refine ywV (r0 := i2 r7) (As := [.int (i2 p0), .ref (a 52)]) (rest := []) (C := RX1) (n := 2) (ws' := CS D a s6) ⟨hx, hb, hml, hown, ht⟩ (k_x1_release l D a p0 _ _ _ hc5) (zgV ml_X1_223 im_X1_release se_X1_release in_X1 co_X1_release) rfl rfl (by decide +kernel) ⟨Nat.le_of_ble_eq_true rfl, Nat.le_of_ble_eq_true rfl⟩ hN hK hP (hDD _) hS hA 49 CW_49 rfl rfl rfl hl.1 rfl (Nat.le_of_ble_eq_true rfl) eX1_freedWith_31.1 ⟨Nat.le_of_ble_eq_true rfl, Nat.le_of_ble_eq_true rfl⟩ (fun H locs hP hS => ?_)
    obtain rfl := Option.some.inj h
    exact W.iret (v := (i2 r7)) hx hb hr (fun t ht hW => ⟨⟨_, (), rfl, rfl, by rw [ht]; exact hP, va_K.moved hW.alike hK, hDD _⟩, hS.F ht⟩) hS.2.2 eX1_freedWith_31.2.1
  · rw [show ((-1) : Int32) = i2 (-1) from by decide] at c2
    have h := if_t ((i2_eq (x := p0) (y := (-1)) hr1 (by decide)).mp c2) h
    refine lv_iconst (v := 0) hx hb eX1_freedWith_2.2.1 (by decide) ?_
    obtain rfl := Option.some.inj h
    exact W.iret (v := 0) hx hb hr (fun t ht hW => ⟨⟨_, (), rfl, rfl, by rw [ht]; exact hP, va_K.moved hW.alike hK, hDD _⟩, hS.F ht⟩) hS.2.2 eX1_freedWith_2.2.2.1
set_option maxHeartbeats 4000000 in
set_option maxRecDepth 100000 in
theorem k_x11_volume (l : Launch) (D : va_G) (a : Nat → Nat) (p0 : Int) (p1 : Int) (sz : Nat) (s : MS) (o : (Int × MS)) (h : m_x11_volume p0 p1 s = some o) : yWi l yX11_volume cX11_volume 5 (some .int) { frames := 3, cells := 0, slots := 0, locals := 180 } D sz [.ref (a 0), .int (i2 p0), .int (i2 p1)] (CS D a s) (CS D a o.2) (i2 o.1) := by
  refine Met.ofW (cc := cX11_volume) (maxL := 5) (ret := (some .int)) (by decide) rfl ?_
  intro p e s₀ m args below meth c s₁ B hml hv
  obtain ⟨rfl, ⟨hsz, hP, hK, hD0⟩, hN⟩ := hv
  have hx := B.exec
  have hb := B.bytes
  have hr := B.returns
  have hts := atoms_spec (ws := wz yX11_volume cX11_volume 5 (some .int)) B.pre
  have ht : ∀ w ∈ lw_gd, w.before _ s₀ = true := fun w h => hts w (List.mem_cons_of_mem _ h)
  have hown : s₀.vm.findClass RX11 = some m.cls := findClass_of_methodNamed B.named
  have hlocks := B.notSynchronized
  subst hsz
  have hD := hD0.self (sz := s₀.heap.size)
  generalize hAe : va_A (CS D a s) s₀.heap.size = A at hD ⊢
  have hA : ∀ q : Nat, s₀.heap.size ≤ q → A q := fun q h => by rw [← hAe]; exact Or.inr h
  have hS : va_S A s₀.heap s₀.heap [] := va_S.rf
  have hDD : ∀ t : MS, va_D A (CS D a t) := fun t => CW_D t hD
  have hl := lv_entry ([.ref (a 0), .int (i2 p0), .int (i2 p1)]) (n := 5) (Nat.le_of_ble_eq_true rfl)
  rw [lg_entry_eq]
  generalize (lg_sl ([.ref (a 0), .int (i2 p0), .int (i2 p1)]) ++ List.replicate (5 - (lg_sl ([.ref (a 0), .int (i2 p0), .int (i2 p1)])).length) Slot.unset).toArray = ls at hl ⊢
  have hl : lv_has ls 5 [(0, .ref (a 0)), (1, .int (i2 p0)), (2, .int (i2 p1))] := hl
  unfold m_x11_volume at h
  refine y_head (pcJ := 93) (σ := Int × MS) (fun u H locs ls => va_P D vwCl (CS D a u.2) H ∧ va_S A s₀.heap H locs ∧ lv_has ls 5 [] ∧ m_x11_volume_J93 u.1 u.2 = some o) (fun u => [.int (i2 u.1)]) (fun u H locs ls hI => ?_) (fun J93 => ?_)
  · obtain ⟨hP, hS, hl, h⟩ := hI
    obtain ⟨x1, s2⟩ := u
    have hP : va_P D vwCl (CS D a s2) H := hP
    have hl : lv_has ls 5 [] := hl
    have h : m_x11_volume_J93 x1 s2 = some o := h
    unfold m_x11_volume_J93 at h
    obtain rfl := Option.some.inj h
    exact W.iret (v := (i2 x1)) hx hb hr (fun t ht hW => ⟨⟨_, (), rfl, rfl, by rw [ht]; exact hP, va_K.moved hW.alike hK, hDD _⟩, hS.F ht⟩) hS.2.2 eX11_volume_81.2.2.2.2.2.2.2
  refine lv_aload_n hx hb eX10_gather_131.2.2.2.1 rfl (lv_at hl 0 rfl) ?_
  refine va_get (D := D) (ci := 11) (v := .ref (a 49)) (C := RX11) (T := TX11) (N := 13) hx hb ht inX11 hown hK hP 0 CW_0 rfl 11 (by decide) (ht (.fieldLink RX11 79 "CloneVolumes" "forest" "LCloneVolumes$Forest;") fl_X11_79) (fun _ h9 => h9) rfl eX10_gather_131.2.2.2.2.1 ?_
  refine va_get (D := D) (ci := 1) (v := .ref (a 53)) (C := RX1) (T := TX1) (N := 9) hx hb ht inX1 hown hK hP 49 CW_49 rfl 0 (by decide) (ht (.fieldLink RX11 125 "CloneVolumes$Forest" "now" "LCloneVolumes$State;") fl_X11_125) (fun _ h9 => h9) rfl eX10_gather_131.2.2.2.2.2.1 ?_
  refine lv_astore_n (lv' := [(3, .ref (a 53)), (0, .ref (a 0)), (1, .int (i2 p0)), (2, .int (i2 p1))]) hx hb eX10_gather_131.2.2.2.2.2.2.1 rfl hl (by decide) rfl (fun ls hl => ?_)
  refine lv_aload_n hx hb eX10_gather_131.2.2.2.2.2.2.2 rfl (lv_at hl 0 rfl) ?_
  refine lv_iload_n hx hb eX11_volume_9.1 rfl (lv_at hl 2 rfl) ?_
  obtain ⟨r4, hc3, h⟩ := bn_e h
  refine ycV (r0 := i2 r4) (As := [.int (i2 p0)]) (rest := []) (C := RX8) (n := 1) ⟨hx, hb, hml, hown, ht⟩ (k_x8_isVolume l D a p0 _ _ hc3) (zgV ml_X11_161 im_X8_isVolume se_X8_isVolume in_X8 co_X8_isVolume) rfl rfl (by decide +kernel) ⟨Nat.le_of_ble_eq_true rfl, Nat.le_of_ble_eq_true rfl⟩ hN hK hP hS 53 CW_53 rfl rfl rfl hl.1 rfl (Nat.le_of_ble_eq_true rfl) eX11_volume_9.2.1 ⟨Nat.le_of_ble_eq_true rfl, Nat.le_of_ble_eq_true rfl⟩ (fun H locs hP hS => ?_)
  obtain ⟨hr5, h⟩ := rg_e h
  refine lv_if_ne (tgt := 18) hx hb eX11_volume_9.2.2.1 (by decide) (fun c6 => ?_) (fun c6 => ?_)
  · have h := if_f (mt (i2_eq (x := r4) (y := 0) hr5 (by decide)).mpr c6) h
    refine lv_aload_n hx hb eX11_volume_9.2.2.2.2.2.1 rfl (lv_at hl 0 rfl) ?_
    refine va_get (D := D) (ci := 8) (v := .ref (a 60)) (C := RX8) (T := TX8) (N := 11) hx hb ht inX8 hown hK hP 53 CW_53 rfl 9 (by decide) (ht (.fieldLink RX11 165 "CloneVolumes$State" "roots" "[I") fl_X11_165) (fun _ h9 => h9) rfl eX11_volume_9.2.2.2.2.2.2.1 ?_
    refine lv_iload_n hx hb eX11_volume_9.2.2.2.2.2.2.2 rfl (lv_at hl 2 rfl) ?_
    obtain ⟨y7, ey7, iy7, h⟩ := rdI_e h
    refine ya_iald (i := p0) hx hb hK hP 60 0 CW_60 rfl (by decide) ey7 iy7 eX11_volume_23.1 ?_
    refine lv_istore (lv' := [(4, .int (i2 y7)), (3, .ref (a 53)), (0, .ref (a 0)), (1, .int (i2 p0)), (2, .int (i2 p1))]) hx hb eX11_volume_23.2.1 hl (by decide) rfl (fun ls hl => ?_)
    refine lv_iload_n hx hb eX11_volume_23.2.2.1 rfl (lv_at hl 4 rfl) ?_
    obtain ⟨hr8, h⟩ := rg_e h
    by_cases c9 : p1 = 0
    · have h := if_t c9 h
      refine lv_tableIn (off := 33) (tgt := 60) hx hb eX11_volume_23.2.2.2.1 (by rw [c9]; decide) (by rw [c9]; decide) (by rw [c9]; decide) (by decide) ?_
      refine lv_iload hx hb eX11_volume_23.2.2.2.2.1 (lv_at hl 0 rfl) ?_
      obtain rfl := Option.some.inj h
      exact W.iret (v := (i2 y7)) hx hb hr (fun t ht hW => ⟨⟨_, (), rfl, rfl, by rw [ht]; exact hP, va_K.moved hW.alike hK, hDD _⟩, hS.F ht⟩) hS.2.2 eX11_volume_23.2.2.2.2.2.1
    · have h := if_f c9 h
      by_cases c10 : p1 = 1
      · have h := if_t c10 h
        refine lv_tableIn (off := 36) (tgt := 63) hx hb eX11_volume_23.2.2.2.1 (by rw [c10]; decide) (by rw [c10]; decide) (by rw [c10]; decide) (by decide) ?_
        refine lv_aload_n hx hb eX11_volume_23.2.2.2.2.2.2.1 rfl (lv_at hl 2 rfl) ?_
        refine va_get (D := D) (ci := 11) (v := .ref (a 21)) (C := RX11) (T := TX11) (N := 13) hx hb ht inX11 hown hK hP 0 CW_0 rfl 5 (by decide) (ht (.fieldLink RX11 49 "CloneVolumes" "walk" "LCloneVolumes$Walk;") fl_X11_49) (fun _ h9 => h9) rfl eX11_volume_23.2.2.2.2.2.2.2 ?_
        refine lv_aload_n hx hb eX11_volume_67.1 rfl (lv_at hl 1 rfl) ?_
        refine lv_iload hx hb eX11_volume_67.2.1 (lv_at hl 0 rfl) ?_
        obtain ⟨⟨r13, s12⟩, hc11, h⟩ := bn_e h
        refine ywV (r0 := i2 r13) (As := [.ref (a 53), .int (i2 y7)]) (rest := []) (C := RX10) (n := 2) (ws' := CS D a s12) ⟨hx, hb, hml, hown, ht⟩ (k_x10_gather l D a y7 _ _ _ hc11) (zgV ml_X11_168 im_X10_gather se_X10_gather in_X10 co_X10_gather) rfl rfl (by decide +kernel) ⟨Nat.le_of_ble_eq_true rfl, Nat.le_of_ble_eq_true rfl⟩ hN hK hP (hDD _) hS hA 21 CW_21 rfl rfl rfl hl.1 rfl (Nat.le_of_ble_eq_true rfl) eX11_volume_67.2.2.1 ⟨Nat.le_of_ble_eq_true rfl, Nat.le_of_ble_eq_true rfl⟩ (fun H locs hP hS => ?_)
        obtain rfl := Option.some.inj h
        exact W.iret (v := (i2 r13)) hx hb hr (fun t ht hW => ⟨⟨_, (), rfl, rfl, by rw [ht]; exact hP, va_K.moved hW.alike hK, hDD _⟩, hS.F ht⟩) hS.2.2 eX11_volume_67.2.2.2.1
      · have h := if_f c10 h
        by_cases c14 : p1 = 2
        · have h := if_t c14 h
          refine lv_tableIn (off := 47) (tgt := 74) hx hb eX11_volume_23.2.2.2.1 (by rw [c14]; decide) (by rw [c14]; decide) (by rw [c14]; decide) (by decide) ?_
          refine lv_iload hx hb eX11_volume_67.2.2.2.2.1 (lv_at hl 0 rfl) ?_
          refine lv_iconst (v := (-1)) hx hb eX11_volume_67.2.2.2.2.2.1 (by decide) ?_
          obtain ⟨hr15, h⟩ := rg_e h
          refine lv_icmp_ne (tgt := 84) hx hb eX11_volume_67.2.2.2.2.2.2.1 (by decide) (fun c16 => ?_) (fun c16 => ?_)
          · rw [show ((-1) : Int32) = i2 (-1) from by decide] at c16
            have h := if_f (mt (i2_eq (x := y7) (y := (-1)) hr15 (by decide)).mpr c16) h
            refine lv_aload_n hx hb eX11_volume_81.2.1 rfl (lv_at hl 1 rfl) ?_
            refine va_get (D := D) (ci := 8) (v := .ref (a 56)) (C := RX8) (T := TX8) (N := 11) hx hb ht inX8 hown hK hP 53 CW_53 rfl 5 (by decide) (ht (.fieldLink RX11 172 "CloneVolumes$State" "level" "[I") fl_X11_172) (fun _ h9 => h9) rfl eX11_volume_81.2.2.1 ?_
            refine lv_iload hx hb eX11_volume_81.2.2.2.1 (lv_at hl 0 rfl) ?_
            obtain ⟨y17, ey17, iy17, h⟩ := rdI_e h
            refine ya_iald (i := y7) hx hb hK hP 56 0 CW_56 rfl (by decide) ey17 iy17 eX11_volume_81.2.2.2.2.1 ?_
            refine lv_iconst (v := 1) hx hb eX11_volume_81.2.2.2.2.2.1 (by decide) ?_
            refine lv_iadd hx hb eX11_volume_81.2.2.2.2.2.2.1 ?_
            refine z_topi (y := i2 (y17 + 1)) (i2_add y17 1) ?_
            exact J93 (y17 + 1, s) _ _ _ ⟨hP, hS, lv_sub hl [] rfl, h⟩
          · rw [show ((-1) : Int32) = i2 (-1) from by decide] at c16
            have h := if_t ((i2_eq (x := y7) (y := (-1)) hr15 (by decide)).mp c16) h
            refine lv_iconst (v := 0) hx hb eX11_volume_67.2.2.2.2.2.2.2 (by decide) ?_
            refine lv_goto (tgt := 93) hx hb eX11_volume_81.1 (by decide) ?_
            exact J93 (0, s) _ _ _ ⟨hP, hS, lv_sub hl [] rfl, h⟩
        · have h := if_f c14 h
          by_cases c18 : p1 = 3
          · have h := if_t c18 h
            refine lv_tableIn (off := 67) (tgt := 94) hx hb eX11_volume_23.2.2.2.1 (by rw [c18]; decide) (by rw [c18]; decide) (by rw [c18]; decide) (by decide) ?_
            refine lv_aload_n hx hb eX11_volume_94.1 rfl (lv_at hl 2 rfl) ?_
            refine va_get (D := D) (ci := 11) (v := .ref (a 21)) (C := RX11) (T := TX11) (N := 13) hx hb ht inX11 hown hK hP 0 CW_0 rfl 5 (by decide) (ht (.fieldLink RX11 49 "CloneVolumes" "walk" "LCloneVolumes$Walk;") fl_X11_49) (fun _ h9 => h9) rfl eX11_volume_94.2.1 ?_
            refine lv_aload_n hx hb eX11_volume_94.2.2.1 rfl (lv_at hl 1 rfl) ?_
            refine lv_iload hx hb eX11_volume_94.2.2.2.1 (lv_at hl 0 rfl) ?_
            obtain ⟨⟨rl21, s20⟩, hc19, h⟩ := bn_e h
            refine ywVl (r0 := i8 rl21) (As := [.ref (a 53), .int (i2 y7)]) (rest := []) (C := RX10) (n := 2) (ws' := CS D a s20) ⟨hx, hb, hml, hown, ht⟩ (k_x10_tree l D a y7 _ _ _ hc19) (zgV ml_X11_175 im_X10_tree se_X10_tree in_X10 co_X10_tree) rfl rfl (by decide +kernel) ⟨Nat.le_of_ble_eq_true rfl, Nat.le_of_ble_eq_true rfl⟩ hN hK hP (hDD _) hS hA 21 CW_21 rfl rfl rfl hl.1 rfl (Nat.le_of_ble_eq_true rfl) eX11_volume_94.2.2.2.2.1 ⟨Nat.le_of_ble_eq_true rfl, Nat.le_of_ble_eq_true rfl⟩ (fun H locs hP hS => ?_)
            obtain ⟨r23, hc22, h⟩ := bn_e h
            refine ycS (r0 := i2 r23) (As := [.long (i8 rl21)]) (rest := []) (n := 1) ⟨hx, hb, hml, hown, ht⟩ (k_j13_bitCount_95d88 l D a rl21 _ _ hc22) (zgT ml_X11_179 st_J13_bitCount_95d88 in_J13 co_J13_bitCount_95d88) rfl rfl (by decide +kernel) ⟨Nat.le_of_ble_eq_true rfl, Nat.le_of_ble_eq_true rfl⟩ hN hK hP hS rfl hl.1 rfl (Nat.le_of_ble_eq_true rfl) eX11_volume_94.2.2.2.2.2.1 ⟨Nat.le_of_ble_eq_true rfl, Nat.le_of_ble_eq_true rfl⟩ (fun H locs hP hS => ?_)
            obtain rfl := Option.some.inj h
            exact W.iret (v := (i2 r23)) hx hb hr (fun t ht hW => ⟨⟨_, (), rfl, rfl, by rw [ht]; exact hP, va_K.moved hW.alike hK, hDD _⟩, hS.F ht⟩) hS.2.2 eX11_volume_94.2.2.2.2.2.2.1
          · have h := if_f c18 h
            by_cases c24 : p1 = 4
            · have h := if_t c24 h
              refine lv_tableIn (off := 81) (tgt := 108) hx hb eX11_volume_23.2.2.2.1 (by rw [c24]; decide) (by rw [c24]; decide) (by rw [c24]; decide) (by decide) ?_
              refine lv_aload_n hx hb eX11_volume_94.2.2.2.2.2.2.2 rfl (lv_at hl 2 rfl) ?_
              refine va_get (D := D) (ci := 11) (v := .ref (a 49)) (C := RX11) (T := TX11) (N := 13) hx hb ht inX11 hown hK hP 0 CW_0 rfl 11 (by decide) (ht (.fieldLink RX11 79 "CloneVolumes" "forest" "LCloneVolumes$Forest;") fl_X11_79) (fun _ h9 => h9) rfl eX11_volume_109.1 ?_
              refine lv_iload hx hb eX11_volume_109.2.1 (lv_at hl 0 rfl) ?_
              obtain ⟨⟨r27, s26⟩, hc25, h⟩ := bn_e h
              refine ywV (r0 := i2 r27) (As := [.int (i2 y7)]) (rest := []) (C := RX1) (n := 1) (ws' := CS D a s26) ⟨hx, hb, hml, hown, ht⟩ (k_x1_freedWith l D a y7 _ _ _ hc25) (zgV ml_X11_185 im_X1_freedWith se_X1_freedWith in_X1 co_X1_freedWith) rfl rfl (by decide +kernel) ⟨Nat.le_of_ble_eq_true rfl, Nat.le_of_ble_eq_true rfl⟩ hN hK hP (hDD _) hS hA 49 CW_49 rfl rfl rfl hl.1 rfl (Nat.le_of_ble_eq_true rfl) eX11_volume_109.2.2.1 ⟨Nat.le_of_ble_eq_true rfl, Nat.le_of_ble_eq_true rfl⟩ (fun H locs hP hS => ?_)
              obtain rfl := Option.some.inj h
              exact W.iret (v := (i2 r27)) hx hb hr (fun t ht hW => ⟨⟨_, (), rfl, rfl, by rw [ht]; exact hP, va_K.moved hW.alike hK, hDD _⟩, hS.F ht⟩) hS.2.2 eX11_volume_109.2.2.2.1
            · have h := if_f c24 h
              refine lv_tableOut (tgt := 118) hx hb eX11_volume_23.2.2.2.1 (by rw [i2_t hr8]; omega) (by decide) ?_
              refine lv_iconst (v := (-1)) hx hb eX11_volume_109.2.2.2.2.1 (by decide) ?_
              obtain rfl := Option.some.inj h
              exact W.iret (v := (-1)) hx hb hr (fun t ht hW => ⟨⟨_, (), rfl, rfl, by rw [ht]; exact hP, va_K.moved hW.alike hK, hDD _⟩, hS.F ht⟩) hS.2.2 eX11_volume_109.2.2.2.2.2.1
  · have h := if_t ((i2_eq (x := r4) (y := 0) hr5 (by decide)).mp c6) h
    refine lv_iconst (v := (-1)) hx hb eX11_volume_9.2.2.2.1 (by decide) ?_
    obtain rfl := Option.some.inj h
    exact W.iret (v := (-1)) hx hb hr (fun t ht hW => ⟨⟨_, (), rfl, rfl, by rw [ht]; exact hP, va_K.moved hW.alike hK, hDD _⟩, hS.F ht⟩) hS.2.2 eX11_volume_9.2.2.2.2.1
set_option maxHeartbeats 4000000 in
set_option maxRecDepth 100000 in
theorem k_x8_inUse (l : Launch) (D : va_G) (a : Nat → Nat) (p0 : Int) (s : MS) (o : Int) (h : m_x8_inUse p0 s = some o) : yRi l yX8_inUse cX8_inUse 2 (some .boolean) { frames := 1, cells := 0, slots := 0, locals := 60 } D [.ref (a 53), .int (i2 p0)] (CS D a s) (i2 o) := by
  refine Met.ofW (cc := cX8_inUse) (maxL := 2) (ret := (some .boolean)) (by decide) rfl ?_
  intro p e s₀ m args below meth c s₁ B hml hv
  obtain ⟨rfl, ⟨hP, hK⟩, hN⟩ := hv
  have hx := B.exec
  have hb := B.bytes
  have hr := B.returns
  have hts := atoms_spec (ws := wz yX8_inUse cX8_inUse 2 (some .boolean)) B.pre
  have ht : ∀ w ∈ lw_gd, w.before _ s₀ = true := fun w h => hts w (List.mem_cons_of_mem _ h)
  have hown : s₀.vm.findClass RX8 = some m.cls := findClass_of_methodNamed B.named
  have hlocks := B.notSynchronized
  have hS : va_S (fun _ => False) s₀.heap s₀.heap [] := va_S.rf
  have hl := lv_entry ([.ref (a 53), .int (i2 p0)]) (n := 2) (Nat.le_of_ble_eq_true rfl)
  rw [lg_entry_eq]
  generalize (lg_sl ([.ref (a 53), .int (i2 p0)]) ++ List.replicate (2 - (lg_sl ([.ref (a 53), .int (i2 p0)])).length) Slot.unset).toArray = ls at hl ⊢
  have hl : lv_has ls 2 [(0, .ref (a 53)), (1, .int (i2 p0))] := hl
  unfold m_x8_inUse at h
  refine y_head (pcJ := 22) (σ := Int) (fun u H locs ls => va_P D vwCl (CS D a s) H ∧ va_S (fun _ => False) s₀.heap H locs ∧ lv_has ls 2 [] ∧ m_x8_inUse_J22 s u = some o) (fun u => [.int (i2 u)]) (fun u H locs ls hI => ?_) (fun J22 => ?_)
  · obtain ⟨hP, hS, hl, h⟩ := hI
    obtain ⟨x1, rfl⟩ : ∃ z, z = u := ⟨u, rfl⟩
    have hP : va_P D vwCl (CS D a s) H := hP
    have hl : lv_has ls 2 [] := hl
    have h : m_x8_inUse_J22 s x1 = some o := h
    unfold m_x8_inUse_J22 at h
    obtain ⟨hb2, h⟩ := bo_e h
    obtain rfl := Option.some.inj h
    exact W.zret (v := (i2 x1)) hx hb hr (bo_n hb2) (fun t ht hW => ⟨⟨_, (), rfl, rfl, trivial⟩, hS.F ht⟩) hS.2.2 eX8_inUse_21.2.1
  refine y_head (pcJ := 21) (σ := Unit) (fun u H locs ls => va_P D vwCl (CS D a s) H ∧ va_S (fun _ => False) s₀.heap H locs ∧ lv_has ls 2 [] ∧ m_x8_inUse_J21 s u = some o) (fun u => []) (fun u H locs ls hI => ?_) (fun J21 => ?_)
  · obtain ⟨hP, hS, hl, h⟩ := hI
    skip
    have hP : va_P D vwCl (CS D a s) H := hP
    have hl : lv_has ls 2 [] := hl
    have h : m_x8_inUse_J21 s () = some o := h
    unfold m_x8_inUse_J21 at h
    refine lv_iconst (v := 0) hx hb eX8_inUse_21.1 (by decide) ?_
    exact J22 0 _ _ _ ⟨hP, hS, lv_sub hl [] rfl, h⟩
  refine lv_aload_n hx hb eX1_release_151.2.2.2.2.2.1 rfl (lv_at hl 0 rfl) ?_
  refine lv_iload_n hx hb eX1_release_151.2.2.2.2.2.2.1 rfl (lv_at hl 1 rfl) ?_
  obtain ⟨r4, hc3, h⟩ := bn_e h
  refine ycV (r0 := i2 r4) (As := [.int (i2 p0)]) (rest := []) (C := RX8) (n := 1) ⟨hx, hb, hml, hown, ht⟩ (k_x8_isBlock l D a p0 _ _ hc3) (zgV ml_X8_57 im_X8_isBlock se_X8_isBlock in_X8 co_X8_isBlock) rfl rfl (by decide +kernel) ⟨Nat.le_of_ble_eq_true rfl, Nat.le_of_ble_eq_true rfl⟩ hN hK hP hS 53 CW_53 rfl rfl rfl hl.1 rfl (Nat.le_of_ble_eq_true rfl) eX1_release_151.2.2.2.2.2.2.2 ⟨Nat.le_of_ble_eq_true rfl, Nat.le_of_ble_eq_true rfl⟩ (fun H locs hP hS => ?_)
  obtain ⟨hr5, h⟩ := rg_e h
  refine lv_if_eq (tgt := 21) hx hb eX8_inUse_5.1 (by decide) (fun c6 => ?_) (fun c6 => ?_)
  · have h := if_t ((i2_eq (x := r4) (y := 0) hr5 (by decide)).mp c6) h
    exact J21 () _ _ _ ⟨hP, hS, lv_sub hl [] rfl, h⟩
  · have h := if_f (mt (i2_eq (x := r4) (y := 0) hr5 (by decide)).mpr c6) h
    refine lv_aload_n hx hb eX8_inUse_5.2.1 rfl (lv_at hl 0 rfl) ?_
    refine va_get (D := D) (ci := 8) (v := .ref (a 54)) (C := RX8) (T := TX8) (N := 11) hx hb ht inX8 hown hK hP 53 CW_53 rfl 3 (by decide) (ht (.fieldLink RX8 9 "CloneVolumes$State" "count" "[I") fl_X8_9) (fun _ h9 => h9) rfl eX8_inUse_5.2.2.1 ?_
    refine lv_iload_n hx hb eX8_inUse_5.2.2.2.1 rfl (lv_at hl 1 rfl) ?_
    obtain ⟨y7, ey7, iy7, h⟩ := rdI_e h
    refine ya_iald (i := p0) hx hb hK hP 54 0 CW_54 rfl (by decide) ey7 iy7 eX8_inUse_5.2.2.2.2.1 ?_
    obtain ⟨hr8, h⟩ := rg_e h
    refine lv_if_le (tgt := 21) hx hb eX8_inUse_5.2.2.2.2.2.1 (by decide) (fun c9 => ?_) (fun c9 => ?_)
    · have h := if_t ((i2_le (x := y7) (y := 0) hr8 (by decide)).mp c9) h
      exact J21 () _ _ _ ⟨hP, hS, lv_sub hl [] rfl, h⟩
    · have h := if_f (mt (i2_le (x := y7) (y := 0) hr8 (by decide)).mpr c9) h
      refine lv_iconst (v := 1) hx hb eX8_inUse_5.2.2.2.2.2.2.1 (by decide) ?_
      refine lv_goto (tgt := 22) hx hb eX8_inUse_5.2.2.2.2.2.2.2 (by decide) ?_
      exact J22 1 _ _ _ ⟨hP, hS, lv_sub hl [] rfl, h⟩
set_option maxHeartbeats 4000000 in
set_option maxRecDepth 100000 in
theorem k_x8_levelOf (l : Launch) (D : va_G) (a : Nat → Nat) (p0 : Int) (s : MS) (o : Int) (h : m_x8_levelOf p0 s = some o) : yRi l yX8_levelOf cX8_levelOf 2 (some .int) { frames := 2, cells := 0, slots := 0, locals := 120 } D [.ref (a 53), .int (i2 p0)] (CS D a s) (i2 o) := by
  refine Met.ofW (cc := cX8_levelOf) (maxL := 2) (ret := (some .int)) (by decide) rfl ?_
  intro p e s₀ m args below meth c s₁ B hml hv
  obtain ⟨rfl, ⟨hP, hK⟩, hN⟩ := hv
  have hx := B.exec
  have hb := B.bytes
  have hr := B.returns
  have hts := atoms_spec (ws := wz yX8_levelOf cX8_levelOf 2 (some .int)) B.pre
  have ht : ∀ w ∈ lw_gd, w.before _ s₀ = true := fun w h => hts w (List.mem_cons_of_mem _ h)
  have hown : s₀.vm.findClass RX8 = some m.cls := findClass_of_methodNamed B.named
  have hlocks := B.notSynchronized
  have hS : va_S (fun _ => False) s₀.heap s₀.heap [] := va_S.rf
  have hl := lv_entry ([.ref (a 53), .int (i2 p0)]) (n := 2) (Nat.le_of_ble_eq_true rfl)
  rw [lg_entry_eq]
  generalize (lg_sl ([.ref (a 53), .int (i2 p0)]) ++ List.replicate (2 - (lg_sl ([.ref (a 53), .int (i2 p0)])).length) Slot.unset).toArray = ls at hl ⊢
  have hl : lv_has ls 2 [(0, .ref (a 53)), (1, .int (i2 p0))] := hl
  unfold m_x8_levelOf at h
  refine y_head (pcJ := 26) (σ := Int) (fun u H locs ls => va_P D vwCl (CS D a s) H ∧ va_S (fun _ => False) s₀.heap H locs ∧ lv_has ls 2 [] ∧ m_x8_levelOf_J26 s u = some o) (fun u => [.int (i2 u)]) (fun u H locs ls hI => ?_) (fun J26 => ?_)
  · obtain ⟨hP, hS, hl, h⟩ := hI
    obtain ⟨x1, rfl⟩ : ∃ z, z = u := ⟨u, rfl⟩
    have hP : va_P D vwCl (CS D a s) H := hP
    have hl : lv_has ls 2 [] := hl
    have h : m_x8_levelOf_J26 s x1 = some o := h
    unfold m_x8_levelOf_J26 at h
    obtain rfl := Option.some.inj h
    exact W.iret (v := (i2 x1)) hx hb hr (fun t ht hW => ⟨⟨_, (), rfl, rfl, trivial⟩, hS.F ht⟩) hS.2.2 dX8_levelOf_26
  refine y_head (pcJ := 16) (σ := Int) (fun u H locs ls => va_P D vwCl (CS D a s) H ∧ va_S (fun _ => False) s₀.heap H locs ∧ lv_has ls 2 [(0, .ref (a 53)), (1, .int (i2 u))] ∧ m_x8_levelOf_J16 s u = some o) (fun u => []) (fun u H locs ls hI => ?_) (fun J16 => ?_)
  · obtain ⟨hP, hS, hl, h⟩ := hI
    obtain ⟨x2, rfl⟩ : ∃ z, z = u := ⟨u, rfl⟩
    have hP : va_P D vwCl (CS D a s) H := hP
    have hl : lv_has ls 2 [(0, .ref (a 53)), (1, .int (i2 x2))] := hl
    have h : m_x8_levelOf_J16 s x2 = some o := h
    unfold m_x8_levelOf_J16 at h
    refine lv_aload_n hx hb eX8_levelOf_10.2.2.1 rfl (lv_at hl 0 rfl) ?_
    refine va_get (D := D) (ci := 8) (v := .ref (a 56)) (C := RX8) (T := TX8) (N := 11) hx hb ht inX8 hown hK hP 53 CW_53 rfl 5 (by decide) (ht (.fieldLink RX8 18 "CloneVolumes$State" "level" "[I") fl_X8_18) (fun _ h9 => h9) rfl eX8_levelOf_10.2.2.2.1 ?_
    refine lv_iload_n hx hb eX8_levelOf_10.2.2.2.2.1 rfl (lv_at hl 1 rfl) ?_
    obtain ⟨y3, ey3, iy3, h⟩ := rdI_e h
    refine ya_iald (i := x2) hx hb hK hP 56 0 CW_56 rfl (by decide) ey3 iy3 eX8_levelOf_10.2.2.2.2.2.1 ?_
    refine lv_goto (tgt := 26) hx hb eX8_levelOf_10.2.2.2.2.2.2.1 (by decide) ?_
    exact J26 y3 _ _ _ ⟨hP, hS, lv_sub hl [] rfl, h⟩
  refine lv_aload_n hx hb eX8_inUse_21.2.2.1 rfl (lv_at hl 0 rfl) ?_
  refine lv_iload_n hx hb eX8_inUse_21.2.2.2.1 rfl (lv_at hl 1 rfl) ?_
  obtain ⟨r5, hc4, h⟩ := bn_e h
  refine ycV (r0 := i2 r5) (As := [.int (i2 p0)]) (rest := []) (C := RX8) (n := 1) ⟨hx, hb, hml, hown, ht⟩ (k_x8_inUse l D a p0 _ _ hc4) (zgV ml_X8_61 im_X8_inUse se_X8_inUse in_X8 co_X8_inUse) rfl rfl (by decide +kernel) ⟨Nat.le_of_ble_eq_true rfl, Nat.le_of_ble_eq_true rfl⟩ hN hK hP hS 53 CW_53 rfl rfl rfl hl.1 rfl (Nat.le_of_ble_eq_true rfl) eX8_inUse_21.2.2.2.2.1 ⟨Nat.le_of_ble_eq_true rfl, Nat.le_of_ble_eq_true rfl⟩ (fun H locs hP hS => ?_)
  obtain ⟨hr6, h⟩ := rg_e h
  refine lv_if_ne (tgt := 16) hx hb eX8_inUse_21.2.2.2.2.2.1 (by decide) (fun c7 => ?_) (fun c7 => ?_)
  · have h := if_f (mt (i2_eq (x := r5) (y := 0) hr6 (by decide)).mpr c7) h
    exact J16 p0 _ _ _ ⟨hP, hS, lv_sub hl [0, 1] rfl, h⟩
  · have h := if_t ((i2_eq (x := r5) (y := 0) hr6 (by decide)).mp c7) h
    refine lv_aload_n hx hb eX8_inUse_21.2.2.2.2.2.2.1 rfl (lv_at hl 0 rfl) ?_
    refine lv_iload_n hx hb eX8_inUse_21.2.2.2.2.2.2.2 rfl (lv_at hl 1 rfl) ?_
    obtain ⟨r9, hc8, h⟩ := bn_e h
    refine ycV (r0 := i2 r9) (As := [.int (i2 p0)]) (rest := []) (C := RX8) (n := 1) ⟨hx, hb, hml, hown, ht⟩ (k_x8_isHeld l D a p0 _ _ hc8) (zgV ml_X8_64 im_X8_isHeld se_X8_isHeld in_X8 co_X8_isHeld) rfl rfl (by decide +kernel) ⟨Nat.le_of_ble_eq_true rfl, Nat.le_of_ble_eq_true rfl⟩ hN hK hP hS 53 CW_53 rfl rfl rfl hl.1 rfl (Nat.le_of_ble_eq_true rfl) eX8_levelOf_10.1 ⟨Nat.le_of_ble_eq_true rfl, Nat.le_of_ble_eq_true rfl⟩ (fun H locs hP hS => ?_)
    obtain ⟨hr10, h⟩ := rg_e h
    refine lv_if_eq (tgt := 25) hx hb eX8_levelOf_10.2.1 (by decide) (fun c11 => ?_) (fun c11 => ?_)
    · have h := if_t ((i2_eq (x := r9) (y := 0) hr10 (by decide)).mp c11) h
      refine lv_iconst (v := 0) hx hb eX8_levelOf_10.2.2.2.2.2.2.2 (by decide) ?_
      exact J26 0 _ _ _ ⟨hP, hS, lv_sub hl [] rfl, h⟩
    · have h := if_f (mt (i2_eq (x := r9) (y := 0) hr10 (by decide)).mpr c11) h
      exact J16 p0 _ _ _ ⟨hP, hS, lv_sub hl [0, 1] rfl, h⟩
